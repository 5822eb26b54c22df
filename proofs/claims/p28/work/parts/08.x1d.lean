theorem xl_rng (k : Nat) : -2147483648 ≤ xleast k ∧ xleast k < 2147483648 := by
  unfold xleast
  (repeat' split) <;> omega
theorem xm_rng (k : Nat) : -2147483648 ≤ xmost k ∧ xmost k < 2147483648 := by
  unfold xmost
  (repeat' split) <;> omega
theorem ok_ph_lp (B : Int) (hB : B ≤ 900000) : ∀ (k i : Nat) (f : Nat → Int), i ≤ 3 → i + k = 4 → rng f → mvB f (B + i) → rng (s_X1_passHour_lp19 k i f) ∧ mvB (s_X1_passHour_lp19 k i f) (B + 3) ∧ s_X1_passHour_lp19 k i f 0 = f 0 := by
  intro k
  induction k with
  | zero => intro i f h0 h; exact absurd h (by omega)
  | succ k ih =>
    intro i f h0 h hf hm
    rw [s_X1_passHour_lp19]
    split
    · exact ⟨hf, mvB_mono hm (by omega), rfl⟩
    · have h1 := ok_X1_runHour f i (B + i) (by omega) hf hm (by omega)
      have h2 := ih (i + 1) (s_X1_runHour f i) (by omega) (by omega) h1.1 (mvB_mono h1.2 (by omega))
      have h3 : s_X1_runHour f i 0 = f 0 := by
        unfold s_X1_runHour
        (repeat' split) <;> (try dsimp only [upz]) <;> ((repeat' split) <;> omega)
      exact ⟨h2.1, h2.2.1, h2.2.2.trans h3⟩
theorem ok_X1_passHour (f : Nat → Int) (B : Int) (hf : rng f) (hm : mvB f B) (hB : B ≤ 900000) (hh : 0 ≤ f 0 ∧ f 0 ≤ 99999) : rng (s_X1_passHour f) ∧ mvB (s_X1_passHour f) (B + 3) ∧ s_X1_passHour f 0 = f 0 + 1 := by
  unfold s_X1_passHour
  split
  · exact ⟨rng_upz hf (by omega), mvB_mono (mvB_upz hm (by decide)) (by omega), upz_s⟩
  · have h := ok_ph_lp B hB (3 + 1 - 0) 0 (upz f 0 (f 0 + 1)) (by decide) (by decide) (rng_upz hf (by omega)) (mvB_mono (mvB_upz hm (by decide)) (by omega))
    exact ⟨h.1, h.2.1, h.2.2.trans upz_s⟩
theorem ok_X1_isDay {x : Int} (h : ¬ s_X1_isDay x = 0) : 0 ≤ x ∧ x < 7 := by
  unfold s_X1_isDay at h
  (repeat' split at h) <;> omega
theorem ok_X1_isSetting {x : Int} (h : ¬ s_X1_isSetting x = 0) : 0 ≤ x ∧ x < 3 := by
  unfold s_X1_isSetting at h
  (repeat' split at h) <;> omega
theorem ok_X1_isMovement {x : Int} (h : ¬ s_X1_isMovement x = 0) : 0 ≤ x ∧ x < 3 := by
  unfold s_X1_isMovement at h
  (repeat' split at h) <;> omega
def s_X1_opening (f : Nat → Int) (g : Nat → Int) (n : Nat) (x0 : Int) (x1 : Int) : Int × Int × (Nat → Int) × (Nat → Int) × Nat := if (s_X1_isDay x0) = 0 then (1, 0, f, g, n) else (if x1 = (-1) then (0, (s_X1_change f g n (14 + (x0.toNat)) x1).1, (s_X1_change f g n (14 + (x0.toNat)) x1).2.1, (s_X1_change f g n (14 + (x0.toNat)) x1).2.2.1, (s_X1_change f g n (14 + (x0.toNat)) x1).2.2.2) else (if x1 < 0 then (2, 0, f, g, n) else (if x1 < 24 then (0, (s_X1_change f g n (14 + (x0.toNat)) x1).1, (s_X1_change f g n (14 + (x0.toNat)) x1).2.1, (s_X1_change f g n (14 + (x0.toNat)) x1).2.2.1, (s_X1_change f g n (14 + (x0.toNat)) x1).2.2.2) else (2, 0, f, g, n))))
abbrev rm_X1_opening : Room := { frames := 6, cells := 1, slots := 6, locals := 103 }
set_option maxHeartbeats 4000000 in
set_option maxRecDepth 100000 in
theorem m_X1_opening (l : Launch) (D : va_G) (cI : ClassId) (a : Nat → Nat) (f : Nat → Int) (g : Nat → Int) (n : Nat) (b : Nat → Int) (len : Nat) (kd : Nat → Int) (sg : Nat → Int) (nb : Nat → Int) (pt : Nat) (hlt : l.stackTraces = false) (x0 : Int) (x1 : Int) (hn : n ≤ 6) (hx0 : -2147483648 ≤ x0 ∧ x0 < 2147483648) (hx1 : -2147483648 ≤ x1 ∧ x1 < 2147483648) : MetT l yX1_opening wsX1_opening rm_X1_opening D cI [.ref (a 0), .int (jI x0), .int (jI x1)] (w1 cI a f g n b len kd sg nb pt) (w1 cI a ((s_X1_opening f g n x0 x1).2.2.1) ((s_X1_opening f g n x0 x1).2.2.2.1) ((s_X1_opening f g n x0 x1).2.2.2.2) b len kd sg nb pt) ((s_X1_opening f g n x0 x1).1) ((s_X1_opening f g n x0 x1).2.1) := by
  refine xe_T (cc := cX1_opening) (maxL := 3) (ret := (some .int)) (by decide) rfl (Nat.le_of_ble_eq_true rfl) ?_
  intro p e s m below meth c hx hb hr hml hts hown hlocks hex hP hK A hA hD hS hE ls hl
  have hl : lv_has ls 3 [(0, .ref (a 0)), (1, .int (jI x0)), (2, .int (jI x1))] := hl
  have hown : s.vm.findClass RX1 = some m.cls := hown
  have hSx : CallFix p m c cX1_opening 3 s ([.ref (a 0), .int (jI x0), .int (jI x1)] : List Value).toArray wsX1_opening RX1 := ⟨hx, hb, hml, hown, hts⟩
  have qc40 := hts (.classLink RX1 40 xI) (by decide +kernel)
  have qc47 := hts (.classLink RX1 47 xA) (by decide +kernel)
  have qiA := hts (.initialized xA) (by decide +kernel)
  have qiI := hts (.initialized xI) (by decide +kernel)
  obtain ⟨z, hz⟩ : ∃ z, z = (s_X1_opening f g n x0 x1) := ⟨_, rfl⟩
  rw [← hz]
  unfold s_X1_opening at hz
  refine lv_iload_n hx hb dX1_opening_0 rfl (lv_at hl 1 rfl) ?_
  refine xc_P (As := [.int (jI x0)]) (rest := []) hSx (m_X1_isDay l x0 (by omega)) (va_cwS 1 hts gX1_opening_X1_isDay rfl rfl rfl (by decide +kernel) ⟨Nat.le_of_ble_eq_true rfl, Nat.le_of_ble_eq_true rfl⟩) rfl hl.1 rfl (Nat.le_of_ble_eq_true rfl) dX1_opening_1 ⟨Nat.zero_le _, Nat.zero_le _⟩ ?_
  refine x_if_ne (tgt := 17) hx hb dX1_opening_4 (by decide) (b01 (b_X1_isDay x0)) (fun c4 => ?_) (fun c4 => ?_)
  · rw [if_neg c4] at hz
    have hok := ok_X1_isDay c4
    obtain ⟨j, rfl⟩ : ∃ j : Nat, x0 = (j : Int) := ⟨x0.toNat, by omega⟩
    have hj : j < 7 := by omega
    try simp only [Int.toNat_natCast] at hz
    refine lv_iload_n hx hb dX1_opening_17 rfl (lv_at hl 2 rfl) ?_
    refine lv_iconst (v := jI (-1)) hx hb dX1_opening_18 rfl ?_
    refine x_icmp_eq (tgt := 42) hx hb dX1_opening_19 (by decide) ⟨(by omega), (by decide)⟩ (fun c19 => ?_) (fun c19 => ?_)
    · rw [if_pos c19] at hz
      refine lv_aload_n hx hb dX1_opening_42 rfl (lv_at hl 0 rfl) ?_
      refine lv_bipush (v := jI 14) hx hb dX1_opening_43 (by decide) ?_
      refine lv_iload_n hx hb dX1_opening_45 rfl (lv_at hl 1 rfl) ?_
      refine x_iadd hx hb dX1_opening_46 ?_
      refine lv_iload_n hx hb dX1_opening_47 rfl (lv_at hl 2 rfl) ?_
      refine xc_I (As := [.int (jI (14 + (j : Int))), .int (jI x1)]) (rest := []) hSx (m_X1_change l D cI a f g n b len kd sg nb pt (14 + j) x1 (by omega) (by omega)) (cwV 2 hts gX1_opening_X1_change rfl rfl rfl (by decide +kernel) ⟨Nat.le_of_ble_eq_true rfl, Nat.le_of_ble_eq_true rfl⟩) hP hD hS hA hK 0 rfl rfl rfl rfl hl.1 rfl (Nat.le_of_ble_eq_true rfl) dX1_opening_48 ⟨Nat.zero_le _, Nat.zero_le _⟩ (fun H locs hP hD hS => ?_)
      subst hz
      exact xt_i hx hb hr hlocks hK hP hD hS (Nat.zero_le _) (Nat.zero_le _) rfl rfl rfl dX1_opening_51
    · rw [if_neg c19] at hz
      refine lv_iload_n hx hb dX1_opening_22 rfl (lv_at hl 2 rfl) ?_
      refine x_if_lt (tgt := 32) hx hb dX1_opening_23 (by decide) (by omega) (fun c23 => ?_) (fun c23 => ?_)
      · rw [if_pos c23] at hz
        subst hz
        exact xt_throw (text := "the time is out of range") (is := 49) hx hb hlt hown (by decide) qc47 qiA (by decide) (fun z h9 => hts z (List.mem_cons_of_mem _ (List.mem_append_right _ h9))) xng_A xgd_A hE hA (hl.1.trans hml.symm) dX1_opening_32 dX1_opening_35 dX1_opening_36 dX1_opening_38 dX1_opening_41 hex (Nat.le_of_ble_eq_true rfl) (Nat.le_of_ble_eq_true rfl) (Nat.le_of_ble_eq_true rfl) (Nat.le_of_ble_eq_true rfl) hlocks hK hP hD hS rfl rfl (show (2 : Int) ≠ 0 by decide) rfl rfl
      · rw [if_neg c23] at hz
        refine lv_iload_n hx hb dX1_opening_26 rfl (lv_at hl 2 rfl) ?_
        refine lv_bipush (v := jI 24) hx hb dX1_opening_27 (by decide) ?_
        refine x_icmp_lt (tgt := 42) hx hb dX1_opening_29 (by decide) ⟨(by omega), (by decide)⟩ (fun c29 => ?_) (fun c29 => ?_)
        · rw [if_pos c29] at hz
          refine lv_aload_n hx hb dX1_opening_42 rfl (lv_at hl 0 rfl) ?_
          refine lv_bipush (v := jI 14) hx hb dX1_opening_43 (by decide) ?_
          refine lv_iload_n hx hb dX1_opening_45 rfl (lv_at hl 1 rfl) ?_
          refine x_iadd hx hb dX1_opening_46 ?_
          refine lv_iload_n hx hb dX1_opening_47 rfl (lv_at hl 2 rfl) ?_
          refine xc_I (As := [.int (jI (14 + (j : Int))), .int (jI x1)]) (rest := []) hSx (m_X1_change l D cI a f g n b len kd sg nb pt (14 + j) x1 (by omega) (by omega)) (cwV 2 hts gX1_opening_X1_change rfl rfl rfl (by decide +kernel) ⟨Nat.le_of_ble_eq_true rfl, Nat.le_of_ble_eq_true rfl⟩) hP hD hS hA hK 0 rfl rfl rfl rfl hl.1 rfl (Nat.le_of_ble_eq_true rfl) dX1_opening_48 ⟨Nat.zero_le _, Nat.zero_le _⟩ (fun H locs hP hD hS => ?_)
          subst hz
          exact xt_i hx hb hr hlocks hK hP hD hS (Nat.zero_le _) (Nat.zero_le _) rfl rfl rfl dX1_opening_51
        · rw [if_neg c29] at hz
          subst hz
          exact xt_throw (text := "the time is out of range") (is := 49) hx hb hlt hown (by decide) qc47 qiA (by decide) (fun z h9 => hts z (List.mem_cons_of_mem _ (List.mem_append_right _ h9))) xng_A xgd_A hE hA (hl.1.trans hml.symm) dX1_opening_32 dX1_opening_35 dX1_opening_36 dX1_opening_38 dX1_opening_41 hex (Nat.le_of_ble_eq_true rfl) (Nat.le_of_ble_eq_true rfl) (Nat.le_of_ble_eq_true rfl) (Nat.le_of_ble_eq_true rfl) hlocks hK hP hD hS rfl rfl (show (2 : Int) ≠ 0 by decide) rfl rfl
  · rw [if_pos c4] at hz
    subst hz
    exact xt_throw (text := "no such day") (is := 42) hx hb hlt hown (by decide) qc40 qiI (by decide) (fun z h9 => hts z (List.mem_cons_of_mem _ (List.mem_append_left _ (List.mem_append_right _ h9)))) xng_I xgd_I hE hA (hl.1.trans hml.symm) dX1_opening_7 dX1_opening_10 dX1_opening_11 dX1_opening_13 dX1_opening_16 hex (Nat.le_of_ble_eq_true rfl) (Nat.le_of_ble_eq_true rfl) (Nat.le_of_ble_eq_true rfl) (Nat.le_of_ble_eq_true rfl) hlocks hK hP hD hS rfl rfl (show (1 : Int) ≠ 0 by decide) rfl rfl
def s_X1_set (f : Nat → Int) (g : Nat → Int) (n : Nat) (x0 : Int) (x1 : Int) : Int × Int × (Nat → Int) × (Nat → Int) × Nat := if (s_X1_isSetting x0) = 0 then (1, 0, f, g, n) else (if x1 < (xleast (x0.toNat)) then (2, 0, f, g, n) else (if x1 ≤ (xmost (x0.toNat)) then (0, (s_X1_change f g n (11 + (x0.toNat)) x1).1, (s_X1_change f g n (11 + (x0.toNat)) x1).2.1, (s_X1_change f g n (11 + (x0.toNat)) x1).2.2.1, (s_X1_change f g n (11 + (x0.toNat)) x1).2.2.2) else (2, 0, f, g, n)))
abbrev rm_X1_set : Room := { frames := 6, cells := 1, slots := 6, locals := 103 }
set_option maxHeartbeats 4000000 in
set_option maxRecDepth 100000 in
theorem m_X1_set (l : Launch) (D : va_G) (cI : ClassId) (a : Nat → Nat) (f : Nat → Int) (g : Nat → Int) (n : Nat) (b : Nat → Int) (len : Nat) (kd : Nat → Int) (sg : Nat → Int) (nb : Nat → Int) (pt : Nat) (hlt : l.stackTraces = false) (x0 : Int) (x1 : Int) (hn : n ≤ 6) (hx0 : -2147483648 ≤ x0 ∧ x0 < 2147483648) (hx1 : -2147483648 ≤ x1 ∧ x1 < 2147483648) : MetT l yX1_set wsX1_set rm_X1_set D cI [.ref (a 0), .int (jI x0), .int (jI x1)] (w1 cI a f g n b len kd sg nb pt) (w1 cI a ((s_X1_set f g n x0 x1).2.2.1) ((s_X1_set f g n x0 x1).2.2.2.1) ((s_X1_set f g n x0 x1).2.2.2.2) b len kd sg nb pt) ((s_X1_set f g n x0 x1).1) ((s_X1_set f g n x0 x1).2.1) := by
  refine xe_T (cc := cX1_set) (maxL := 3) (ret := (some .int)) (by decide) rfl (Nat.le_of_ble_eq_true rfl) ?_
  intro p e s m below meth c hx hb hr hml hts hown hlocks hex hP hK A hA hD hS hE ls hl
  have hl : lv_has ls 3 [(0, .ref (a 0)), (1, .int (jI x0)), (2, .int (jI x1))] := hl
  have hown : s.vm.findClass RX1 = some m.cls := hown
  have hSx : CallFix p m c cX1_set 3 s ([.ref (a 0), .int (jI x0), .int (jI x1)] : List Value).toArray wsX1_set RX1 := ⟨hx, hb, hml, hown, hts⟩
  have qc40 := hts (.classLink RX1 40 xI) (by decide +kernel)
  have qc47 := hts (.classLink RX1 47 xA) (by decide +kernel)
  have qf61 := hts (.fieldLink RX1 61 "VaultMovements" "SETTING_LEAST" "[I") (by decide +kernel)
  have qf64 := hts (.fieldLink RX1 64 "VaultMovements" "SETTING_MOST" "[I") (by decide +kernel)
  have qiA := hts (.initialized xA) (by decide +kernel)
  have qiI := hts (.initialized xI) (by decide +kernel)
  obtain ⟨tl0, hZ0, hT0⟩ := hE.2.2.2.2.2.1
  obtain ⟨tl1, hZ1, hT1⟩ := hE.2.2.2.2.2.2
  obtain ⟨z, hz⟩ : ∃ z, z = (s_X1_set f g n x0 x1) := ⟨_, rfl⟩
  rw [← hz]
  unfold s_X1_set at hz
  refine lv_iload_n hx hb dX1_set_0 rfl (lv_at hl 1 rfl) ?_
  refine xc_P (As := [.int (jI x0)]) (rest := []) hSx (m_X1_isSetting l x0 (by omega)) (va_cwS 1 hts gX1_set_X1_isSetting rfl rfl rfl (by decide +kernel) ⟨Nat.le_of_ble_eq_true rfl, Nat.le_of_ble_eq_true rfl⟩) rfl hl.1 rfl (Nat.le_of_ble_eq_true rfl) dX1_set_1 ⟨Nat.zero_le _, Nat.zero_le _⟩ ?_
  refine x_if_ne (tgt := 17) hx hb dX1_set_4 (by decide) (b01 (b_X1_isSetting x0)) (fun c4 => ?_) (fun c4 => ?_)
  · rw [if_neg c4] at hz
    have hok := ok_X1_isSetting c4
    obtain ⟨j, rfl⟩ : ∃ j : Nat, x0 = (j : Int) := ⟨x0.toNat, by omega⟩
    have hj : j < 3 := by omega
    try simp only [Int.toNat_natCast] at hz
    refine lv_iload_n hx hb dX1_set_17 rfl (lv_at hl 2 rfl) ?_
    refine va_gets (v := .ref tl0) hx hb hZ0 hS hown qf61 (fun _ h9 => h9) dX1_set_18 ?_
    refine lv_iload_n hx hb dX1_set_21 rfl (lv_at hl 1 rfl) ?_
    refine va_ti (v := .int (jI (xleast j))) hx hb hT0 hS (by rw [jI_nat]; exact vp_in_nI (by omega) (by decide)) (by rw [jI_nat, nI_clamp (by omega)]) dX1_set_22 ?_
    refine x_icmp_lt (tgt := 35) hx hb dX1_set_23 (by decide) ⟨(by omega), (xl_rng _)⟩ (fun c23 => ?_) (fun c23 => ?_)
    · rw [if_pos c23] at hz
      subst hz
      exact xt_throw (text := "the value is out of range") (is := 67) hx hb hlt hown (by decide) qc47 qiA (by decide) (fun z h9 => hts z (List.mem_cons_of_mem _ (List.mem_append_right _ h9))) xng_A xgd_A hE hA (hl.1.trans hml.symm) dX1_set_35 dX1_set_38 dX1_set_39 dX1_set_41 dX1_set_44 hex (Nat.le_of_ble_eq_true rfl) (Nat.le_of_ble_eq_true rfl) (Nat.le_of_ble_eq_true rfl) (Nat.le_of_ble_eq_true rfl) hlocks hK hP hD hS rfl rfl (show (2 : Int) ≠ 0 by decide) rfl rfl
    · rw [if_neg c23] at hz
      refine lv_iload_n hx hb dX1_set_26 rfl (lv_at hl 2 rfl) ?_
      refine va_gets (v := .ref tl1) hx hb hZ1 hS hown qf64 (fun _ h9 => h9) dX1_set_27 ?_
      refine lv_iload_n hx hb dX1_set_30 rfl (lv_at hl 1 rfl) ?_
      refine va_ti (v := .int (jI (xmost j))) hx hb hT1 hS (by rw [jI_nat]; exact vp_in_nI (by omega) (by decide)) (by rw [jI_nat, nI_clamp (by omega)]) dX1_set_31 ?_
      refine x_icmp_le (tgt := 45) hx hb dX1_set_32 (by decide) ⟨(by omega), (xm_rng _)⟩ (fun c32 => ?_) (fun c32 => ?_)
      · rw [if_pos c32] at hz
        refine lv_aload_n hx hb dX1_set_45 rfl (lv_at hl 0 rfl) ?_
        refine lv_bipush (v := jI 11) hx hb dX1_set_46 (by decide) ?_
        refine lv_iload_n hx hb dX1_set_48 rfl (lv_at hl 1 rfl) ?_
        refine x_iadd hx hb dX1_set_49 ?_
        refine lv_iload_n hx hb dX1_set_50 rfl (lv_at hl 2 rfl) ?_
        refine xc_I (As := [.int (jI (11 + (j : Int))), .int (jI x1)]) (rest := []) hSx (m_X1_change l D cI a f g n b len kd sg nb pt (11 + j) x1 (by omega) (by omega)) (cwV 2 hts gX1_set_X1_change rfl rfl rfl (by decide +kernel) ⟨Nat.le_of_ble_eq_true rfl, Nat.le_of_ble_eq_true rfl⟩) hP hD hS hA hK 0 rfl rfl rfl rfl hl.1 rfl (Nat.le_of_ble_eq_true rfl) dX1_set_51 ⟨Nat.zero_le _, Nat.zero_le _⟩ (fun H locs hP hD hS => ?_)
        subst hz
        exact xt_i hx hb hr hlocks hK hP hD hS (Nat.zero_le _) (Nat.zero_le _) rfl rfl rfl dX1_set_54
      · rw [if_neg c32] at hz
        subst hz
        exact xt_throw (text := "the value is out of range") (is := 67) hx hb hlt hown (by decide) qc47 qiA (by decide) (fun z h9 => hts z (List.mem_cons_of_mem _ (List.mem_append_right _ h9))) xng_A xgd_A hE hA (hl.1.trans hml.symm) dX1_set_35 dX1_set_38 dX1_set_39 dX1_set_41 dX1_set_44 hex (Nat.le_of_ble_eq_true rfl) (Nat.le_of_ble_eq_true rfl) (Nat.le_of_ble_eq_true rfl) (Nat.le_of_ble_eq_true rfl) hlocks hK hP hD hS rfl rfl (show (2 : Int) ≠ 0 by decide) rfl rfl
  · rw [if_pos c4] at hz
    subst hz
    exact xt_throw (text := "no such setting") (is := 59) hx hb hlt hown (by decide) qc40 qiI (by decide) (fun z h9 => hts z (List.mem_cons_of_mem _ (List.mem_append_left _ (List.mem_append_right _ h9)))) xng_I xgd_I hE hA (hl.1.trans hml.symm) dX1_set_7 dX1_set_10 dX1_set_11 dX1_set_13 dX1_set_16 hex (Nat.le_of_ble_eq_true rfl) (Nat.le_of_ble_eq_true rfl) (Nat.le_of_ble_eq_true rfl) (Nat.le_of_ble_eq_true rfl) hlocks hK hP hD hS rfl rfl (show (1 : Int) ≠ 0 by decide) rfl rfl
def s_X1_wind (f : Nat → Int) (g : Nat → Int) (n : Nat) (x0 : Int) (x1 : Int) : Int × Int × (Nat → Int) × (Nat → Int) × Nat := if (s_X1_isMovement x0) = 0 then (1, 0, f, g, n) else (if (s_X1_areWindingHours x1) = 0 then (2, 0, f, g, n) else (if (s_X1_isLocked f) = 0 then (if (s_X1_goes f (x0.toNat)) = 0 then (3, 0, f, g, n) else (0, (s_X1_change f g n ((21 + ((x0.toNat) * 4)) + 0) x1).1, (s_X1_change f g n ((21 + ((x0.toNat) * 4)) + 0) x1).2.1, (s_X1_change f g n ((21 + ((x0.toNat) * 4)) + 0) x1).2.2.1, (s_X1_change f g n ((21 + ((x0.toNat) * 4)) + 0) x1).2.2.2)) else (3, 0, f, g, n)))
abbrev rm_X1_wind : Room := { frames := 6, cells := 1, slots := 6, locals := 103 }
set_option maxHeartbeats 4000000 in
set_option maxRecDepth 100000 in
theorem m_X1_wind (l : Launch) (D : va_G) (cI : ClassId) (a : Nat → Nat) (f : Nat → Int) (g : Nat → Int) (n : Nat) (b : Nat → Int) (len : Nat) (kd : Nat → Int) (sg : Nat → Int) (nb : Nat → Int) (pt : Nat) (hlt : l.stackTraces = false) (x0 : Int) (x1 : Int) (hn : n ≤ 6) (hrf : rng f) (hx0 : -2147483648 ≤ x0 ∧ x0 < 2147483648) (hx1 : -2147483648 ≤ x1 ∧ x1 < 2147483648) : MetT l yX1_wind wsX1_wind rm_X1_wind D cI [.ref (a 0), .int (jI x0), .int (jI x1)] (w1 cI a f g n b len kd sg nb pt) (w1 cI a ((s_X1_wind f g n x0 x1).2.2.1) ((s_X1_wind f g n x0 x1).2.2.2.1) ((s_X1_wind f g n x0 x1).2.2.2.2) b len kd sg nb pt) ((s_X1_wind f g n x0 x1).1) ((s_X1_wind f g n x0 x1).2.1) := by
  refine xe_T (cc := cX1_wind) (maxL := 3) (ret := (some .int)) (by decide) rfl (Nat.le_of_ble_eq_true rfl) ?_
  intro p e s m below meth c hx hb hr hml hts hown hlocks hex hP hK A hA hD hS hE ls hl
  have hl : lv_has ls 3 [(0, .ref (a 0)), (1, .int (jI x0)), (2, .int (jI x1))] := hl
  have hown : s.vm.findClass RX1 = some m.cls := hown
  have hSx : CallFix p m c cX1_wind 3 s ([.ref (a 0), .int (jI x0), .int (jI x1)] : List Value).toArray wsX1_wind RX1 := ⟨hx, hb, hml, hown, hts⟩
  have qc40 := hts (.classLink RX1 40 xI) (by decide +kernel)
  have qc47 := hts (.classLink RX1 47 xA) (by decide +kernel)
  have qc86 := hts (.classLink RX1 86 xS) (by decide +kernel)
  have qiA := hts (.initialized xA) (by decide +kernel)
  have qiI := hts (.initialized xI) (by decide +kernel)
  have qiS := hts (.initialized xS) (by decide +kernel)
  obtain ⟨z, hz⟩ : ∃ z, z = (s_X1_wind f g n x0 x1) := ⟨_, rfl⟩
  rw [← hz]
  unfold s_X1_wind at hz
  refine lv_iload_n hx hb dX1_wind_0 rfl (lv_at hl 1 rfl) ?_
  refine xc_P (As := [.int (jI x0)]) (rest := []) hSx (m_X1_isMovement l x0 (by omega)) (va_cwS 1 hts gX1_wind_X1_isMovement rfl rfl rfl (by decide +kernel) ⟨Nat.le_of_ble_eq_true rfl, Nat.le_of_ble_eq_true rfl⟩) rfl hl.1 rfl (Nat.le_of_ble_eq_true rfl) dX1_wind_1 ⟨Nat.zero_le _, Nat.zero_le _⟩ ?_
  refine x_if_ne (tgt := 17) hx hb dX1_wind_4 (by decide) (b01 (b_X1_isMovement x0)) (fun c4 => ?_) (fun c4 => ?_)
  · rw [if_neg c4] at hz
    have hok := ok_X1_isMovement c4
    obtain ⟨j, rfl⟩ : ∃ j : Nat, x0 = (j : Int) := ⟨x0.toNat, by omega⟩
    have hj : j < 3 := by omega
    try simp only [Int.toNat_natCast] at hz
    refine lv_iload_n hx hb dX1_wind_17 rfl (lv_at hl 2 rfl) ?_
    refine xc_P (As := [.int (jI x1)]) (rest := []) hSx (m_X1_areWindingHours l x1 (by omega)) (va_cwS 1 hts gX1_wind_X1_areWindingHours rfl rfl rfl (by decide +kernel) ⟨Nat.le_of_ble_eq_true rfl, Nat.le_of_ble_eq_true rfl⟩) rfl hl.1 rfl (Nat.le_of_ble_eq_true rfl) dX1_wind_18 ⟨Nat.zero_le _, Nat.zero_le _⟩ ?_
    refine x_if_ne (tgt := 34) hx hb dX1_wind_21 (by decide) (b01 (b_X1_areWindingHours x1)) (fun c21 => ?_) (fun c21 => ?_)
    · rw [if_neg c21] at hz
      refine lv_aload_n hx hb dX1_wind_34 rfl (lv_at hl 0 rfl) ?_
      refine xc_R (As := []) (rest := []) hSx (m_X1_isLocked l D cI a f g n b len kd sg nb pt  (by omega)) (cwV 0 hts gX1_wind_X1_isLocked rfl rfl rfl (by decide +kernel) ⟨Nat.le_of_ble_eq_true rfl, Nat.le_of_ble_eq_true rfl⟩) hP hK 0 rfl rfl rfl rfl hl.1 rfl (Nat.le_of_ble_eq_true rfl) dX1_wind_35 ⟨Nat.zero_le _, Nat.zero_le _⟩ ?_
      refine x_if_ne (tgt := 49) hx hb dX1_wind_38 (by decide) (b01 (b_X1_isLocked f)) (fun c38 => ?_) (fun c38 => ?_)
      · rw [if_neg c38] at hz
        subst hz
        exact xt_throw (text := "the door is locked, or the movement is stopped") (is := 88) hx hb hlt hown (by decide) qc86 qiS (by decide) (fun z h9 => hts z (List.mem_cons_of_mem _ (List.mem_append_right _ h9))) xng_S xgd_S hE hA (hl.1.trans hml.symm) dX1_wind_49 dX1_wind_52 dX1_wind_53 dX1_wind_55 dX1_wind_58 hex (Nat.le_of_ble_eq_true rfl) (Nat.le_of_ble_eq_true rfl) (Nat.le_of_ble_eq_true rfl) (Nat.le_of_ble_eq_true rfl) hlocks hK hP hD hS rfl rfl (show (3 : Int) ≠ 0 by decide) rfl rfl
      · rw [if_pos c38] at hz
        refine lv_aload_n hx hb dX1_wind_41 rfl (lv_at hl 0 rfl) ?_
        refine lv_iload_n hx hb dX1_wind_42 rfl (lv_at hl 1 rfl) ?_
        refine xc_R (As := [.int (jI (j : Int))]) (rest := []) hSx (m_X1_goes l D cI a f g n b len kd sg nb pt j (by omega) (by omega)) (cwV 1 hts gX1_wind_X1_goes rfl rfl rfl (by decide +kernel) ⟨Nat.le_of_ble_eq_true rfl, Nat.le_of_ble_eq_true rfl⟩) hP hK 0 rfl rfl rfl rfl hl.1 rfl (Nat.le_of_ble_eq_true rfl) dX1_wind_43 ⟨Nat.zero_le _, Nat.zero_le _⟩ ?_
        refine x_if_ne (tgt := 59) hx hb dX1_wind_46 (by decide) (b01 (b_X1_goes f j)) (fun c46 => ?_) (fun c46 => ?_)
        · rw [if_neg c46] at hz
          refine lv_aload_n hx hb dX1_wind_59 rfl (lv_at hl 0 rfl) ?_
          refine lv_iload_n hx hb dX1_wind_60 rfl (lv_at hl 1 rfl) ?_
          refine lv_iconst (v := jI 0) hx hb dX1_wind_61 rfl ?_
          refine xc_P (As := [.int (jI (j : Int)), .int (jI 0)]) (rest := [.ref (a 0)]) hSx (m_X1_place l (j : Int) 0 ) (va_cwS 2 hts gX1_wind_X1_place rfl rfl rfl (by decide +kernel) ⟨Nat.le_of_ble_eq_true rfl, Nat.le_of_ble_eq_true rfl⟩) rfl hl.1 rfl (Nat.le_of_ble_eq_true rfl) dX1_wind_62 ⟨Nat.zero_le _, Nat.zero_le _⟩ ?_
          refine lv_iload_n hx hb dX1_wind_65 rfl (lv_at hl 2 rfl) ?_
          refine xc_I (As := [.int (jI ((21 + ((j : Int) * 4)) + 0)), .int (jI x1)]) (rest := []) hSx (m_X1_change l D cI a f g n b len kd sg nb pt ((21 + (j * 4)) + 0) x1 (by omega) (by omega)) (cwV 2 hts gX1_wind_X1_change rfl rfl rfl (by decide +kernel) ⟨Nat.le_of_ble_eq_true rfl, Nat.le_of_ble_eq_true rfl⟩) hP hD hS hA hK 0 rfl rfl rfl rfl hl.1 rfl (Nat.le_of_ble_eq_true rfl) dX1_wind_66 ⟨Nat.zero_le _, Nat.zero_le _⟩ (fun H locs hP hD hS => ?_)
          subst hz
          exact xt_i hx hb hr hlocks hK hP hD hS (Nat.zero_le _) (Nat.zero_le _) rfl rfl rfl dX1_wind_69
        · rw [if_pos c46] at hz
          subst hz
          exact xt_throw (text := "the door is locked, or the movement is stopped") (is := 88) hx hb hlt hown (by decide) qc86 qiS (by decide) (fun z h9 => hts z (List.mem_cons_of_mem _ (List.mem_append_right _ h9))) xng_S xgd_S hE hA (hl.1.trans hml.symm) dX1_wind_49 dX1_wind_52 dX1_wind_53 dX1_wind_55 dX1_wind_58 hex (Nat.le_of_ble_eq_true rfl) (Nat.le_of_ble_eq_true rfl) (Nat.le_of_ble_eq_true rfl) (Nat.le_of_ble_eq_true rfl) hlocks hK hP hD hS rfl rfl (show (3 : Int) ≠ 0 by decide) rfl rfl
    · rw [if_pos c21] at hz
      subst hz
      exact xt_throw (text := "the hours are out of range") (is := 77) hx hb hlt hown (by decide) qc47 qiA (by decide) (fun z h9 => hts z (List.mem_cons_of_mem _ (List.mem_append_left _ (List.mem_append_right _ h9)))) xng_A xgd_A hE hA (hl.1.trans hml.symm) dX1_wind_24 dX1_wind_27 dX1_wind_28 dX1_wind_30 dX1_wind_33 hex (Nat.le_of_ble_eq_true rfl) (Nat.le_of_ble_eq_true rfl) (Nat.le_of_ble_eq_true rfl) (Nat.le_of_ble_eq_true rfl) hlocks hK hP hD hS rfl rfl (show (2 : Int) ≠ 0 by decide) rfl rfl
  · rw [if_pos c4] at hz
    subst hz
    exact xt_throw (text := "no such movement") (is := 72) hx hb hlt hown (by decide) qc40 qiI (by decide) (fun z h9 => hts z (List.mem_cons_of_mem _ (List.mem_append_left _ (List.mem_append_left _ (List.mem_append_right _ h9))))) xng_I xgd_I hE hA (hl.1.trans hml.symm) dX1_wind_7 dX1_wind_10 dX1_wind_11 dX1_wind_13 dX1_wind_16 hex (Nat.le_of_ble_eq_true rfl) (Nat.le_of_ble_eq_true rfl) (Nat.le_of_ble_eq_true rfl) (Nat.le_of_ble_eq_true rfl) hlocks hK hP hD hS rfl rfl (show (1 : Int) ≠ 0 by decide) rfl rfl
def s_X1_fault (f : Nat → Int) (g : Nat → Int) (n : Nat) (x0 : Int) (x1 : Int) : Int × Int × (Nat → Int) × (Nat → Int) × Nat := if (s_X1_isMovement x0) = 0 then (1, 0, f, g, n) else (if x1 = 0 then (0, (s_X1_change f g n ((21 + ((x0.toNat) * 4)) + 1) 0).1, (s_X1_change f g n ((21 + ((x0.toNat) * 4)) + 1) 0).2.1, (s_X1_change f g n ((21 + ((x0.toNat) * 4)) + 1) 0).2.2.1, (s_X1_change f g n ((21 + ((x0.toNat) * 4)) + 1) 0).2.2.2) else (0, (s_X1_change f g n ((21 + ((x0.toNat) * 4)) + 1) 1).1, (s_X1_change f g n ((21 + ((x0.toNat) * 4)) + 1) 1).2.1, (s_X1_change f g n ((21 + ((x0.toNat) * 4)) + 1) 1).2.2.1, (s_X1_change f g n ((21 + ((x0.toNat) * 4)) + 1) 1).2.2.2))
abbrev rm_X1_fault : Room := { frames := 6, cells := 1, slots := 6, locals := 103 }
set_option maxHeartbeats 4000000 in
set_option maxRecDepth 100000 in
theorem m_X1_fault (l : Launch) (D : va_G) (cI : ClassId) (a : Nat → Nat) (f : Nat → Int) (g : Nat → Int) (n : Nat) (b : Nat → Int) (len : Nat) (kd : Nat → Int) (sg : Nat → Int) (nb : Nat → Int) (pt : Nat) (hlt : l.stackTraces = false) (x0 : Int) (x1 : Int) (hn : n ≤ 6) (hx0 : -2147483648 ≤ x0 ∧ x0 < 2147483648) (hx1 : x1 = 0 ∨ x1 = 1) : MetT l yX1_fault wsX1_fault rm_X1_fault D cI [.ref (a 0), .int (jI x0), .int (jI x1)] (w1 cI a f g n b len kd sg nb pt) (w1 cI a ((s_X1_fault f g n x0 x1).2.2.1) ((s_X1_fault f g n x0 x1).2.2.2.1) ((s_X1_fault f g n x0 x1).2.2.2.2) b len kd sg nb pt) ((s_X1_fault f g n x0 x1).1) ((s_X1_fault f g n x0 x1).2.1) := by
  refine xe_T (cc := cX1_fault) (maxL := 3) (ret := (some .int)) (by decide) rfl (Nat.le_of_ble_eq_true rfl) ?_
  intro p e s m below meth c hx hb hr hml hts hown hlocks hex hP hK A hA hD hS hE ls hl
  have hl : lv_has ls 3 [(0, .ref (a 0)), (1, .int (jI x0)), (2, .int (jI x1))] := hl
  have hown : s.vm.findClass RX1 = some m.cls := hown
  have hSx : CallFix p m c cX1_fault 3 s ([.ref (a 0), .int (jI x0), .int (jI x1)] : List Value).toArray wsX1_fault RX1 := ⟨hx, hb, hml, hown, hts⟩
  have qc40 := hts (.classLink RX1 40 xI) (by decide +kernel)
  have qiI := hts (.initialized xI) (by decide +kernel)
  obtain ⟨z, hz⟩ : ∃ z, z = (s_X1_fault f g n x0 x1) := ⟨_, rfl⟩
  rw [← hz]
  unfold s_X1_fault at hz
  refine lv_iload_n hx hb dX1_fault_0 rfl (lv_at hl 1 rfl) ?_
  refine xc_P (As := [.int (jI x0)]) (rest := []) hSx (m_X1_isMovement l x0 (by omega)) (va_cwS 1 hts gX1_fault_X1_isMovement rfl rfl rfl (by decide +kernel) ⟨Nat.le_of_ble_eq_true rfl, Nat.le_of_ble_eq_true rfl⟩) rfl hl.1 rfl (Nat.le_of_ble_eq_true rfl) dX1_fault_1 ⟨Nat.zero_le _, Nat.zero_le _⟩ ?_
  refine x_if_ne (tgt := 17) hx hb dX1_fault_4 (by decide) (b01 (b_X1_isMovement x0)) (fun c4 => ?_) (fun c4 => ?_)
  · rw [if_neg c4] at hz
    have hok := ok_X1_isMovement c4
    obtain ⟨j, rfl⟩ : ∃ j : Nat, x0 = (j : Int) := ⟨x0.toNat, by omega⟩
    have hj : j < 3 := by omega
    try simp only [Int.toNat_natCast] at hz
    refine lv_aload_n hx hb dX1_fault_17 rfl (lv_at hl 0 rfl) ?_
    refine lv_iload_n hx hb dX1_fault_18 rfl (lv_at hl 1 rfl) ?_
    refine lv_iconst (v := jI 1) hx hb dX1_fault_19 rfl ?_
    refine xc_P (As := [.int (jI (j : Int)), .int (jI 1)]) (rest := [.ref (a 0)]) hSx (m_X1_place l (j : Int) 1 ) (va_cwS 2 hts gX1_fault_X1_place rfl rfl rfl (by decide +kernel) ⟨Nat.le_of_ble_eq_true rfl, Nat.le_of_ble_eq_true rfl⟩) rfl hl.1 rfl (Nat.le_of_ble_eq_true rfl) dX1_fault_20 ⟨Nat.zero_le _, Nat.zero_le _⟩ ?_
    refine lv_iload_n hx hb dX1_fault_23 rfl (lv_at hl 2 rfl) ?_
    refine x_if_eq (tgt := 31) hx hb dX1_fault_24 (by decide) (by omega) (fun c24 => ?_) (fun c24 => ?_)
    · rw [if_pos c24] at hz
      refine lv_iconst (v := jI 0) hx hb dX1_fault_31 rfl ?_
      refine xc_I (As := [.int (jI ((21 + ((j : Int) * 4)) + 1)), .int (jI 0)]) (rest := []) hSx (m_X1_change l D cI a f g n b len kd sg nb pt ((21 + (j * 4)) + 1) 0 (by omega) (by omega)) (cwV 2 hts gX1_fault_X1_change rfl rfl rfl (by decide +kernel) ⟨Nat.le_of_ble_eq_true rfl, Nat.le_of_ble_eq_true rfl⟩) hP hD hS hA hK 0 rfl rfl rfl rfl hl.1 rfl (Nat.le_of_ble_eq_true rfl) dX1_fault_32 ⟨Nat.zero_le _, Nat.zero_le _⟩ (fun H locs hP hD hS => ?_)
      subst hz
      exact xt_i hx hb hr hlocks hK hP hD hS (Nat.zero_le _) (Nat.zero_le _) rfl rfl rfl dX1_fault_35
    · rw [if_neg c24] at hz
      refine lv_iconst (v := jI 1) hx hb dX1_fault_27 rfl ?_
      refine lv_goto (tgt := 32) hx hb dX1_fault_28 (by decide) ?_
      refine xc_I (As := [.int (jI ((21 + ((j : Int) * 4)) + 1)), .int (jI 1)]) (rest := []) hSx (m_X1_change l D cI a f g n b len kd sg nb pt ((21 + (j * 4)) + 1) 1 (by omega) (by omega)) (cwV 2 hts gX1_fault_X1_change rfl rfl rfl (by decide +kernel) ⟨Nat.le_of_ble_eq_true rfl, Nat.le_of_ble_eq_true rfl⟩) hP hD hS hA hK 0 rfl rfl rfl rfl hl.1 rfl (Nat.le_of_ble_eq_true rfl) dX1_fault_32 ⟨Nat.zero_le _, Nat.zero_le _⟩ (fun H locs hP hD hS => ?_)
      subst hz
      exact xt_i hx hb hr hlocks hK hP hD hS (Nat.zero_le _) (Nat.zero_le _) rfl rfl rfl dX1_fault_35
  · rw [if_pos c4] at hz
    subst hz
    exact xt_throw (text := "no such movement") (is := 72) hx hb hlt hown (by decide) qc40 qiI (by decide) (fun z h9 => hts z (List.mem_cons_of_mem _ (List.mem_append_right _ h9))) xng_I xgd_I hE hA (hl.1.trans hml.symm) dX1_fault_7 dX1_fault_10 dX1_fault_11 dX1_fault_13 dX1_fault_16 hex (Nat.le_of_ble_eq_true rfl) (Nat.le_of_ble_eq_true rfl) (Nat.le_of_ble_eq_true rfl) (Nat.le_of_ble_eq_true rfl) hlocks hK hP hD hS rfl rfl (show (1 : Int) ≠ 0 by decide) rfl rfl
def s_X1_loss (f : Nat → Int) (g : Nat → Int) (n : Nat) (x0 : Int) (x1 : Int) : Int × Int × (Nat → Int) × (Nat → Int) × Nat := if (s_X1_isMovement x0) = 0 then (1, 0, f, g, n) else (if x1 < 0 then (2, 0, f, g, n) else (if x1 ≤ 20 then (0, (s_X1_change f g n ((21 + ((x0.toNat) * 4)) + 2) x1).1, (s_X1_change f g n ((21 + ((x0.toNat) * 4)) + 2) x1).2.1, (s_X1_change f g n ((21 + ((x0.toNat) * 4)) + 2) x1).2.2.1, (s_X1_change f g n ((21 + ((x0.toNat) * 4)) + 2) x1).2.2.2) else (2, 0, f, g, n)))
abbrev rm_X1_loss : Room := { frames := 6, cells := 1, slots := 6, locals := 103 }
set_option maxHeartbeats 4000000 in
set_option maxRecDepth 100000 in
theorem m_X1_loss (l : Launch) (D : va_G) (cI : ClassId) (a : Nat → Nat) (f : Nat → Int) (g : Nat → Int) (n : Nat) (b : Nat → Int) (len : Nat) (kd : Nat → Int) (sg : Nat → Int) (nb : Nat → Int) (pt : Nat) (hlt : l.stackTraces = false) (x0 : Int) (x1 : Int) (hn : n ≤ 6) (hx0 : -2147483648 ≤ x0 ∧ x0 < 2147483648) (hx1 : -2147483648 ≤ x1 ∧ x1 < 2147483648) : MetT l yX1_loss wsX1_loss rm_X1_loss D cI [.ref (a 0), .int (jI x0), .int (jI x1)] (w1 cI a f g n b len kd sg nb pt) (w1 cI a ((s_X1_loss f g n x0 x1).2.2.1) ((s_X1_loss f g n x0 x1).2.2.2.1) ((s_X1_loss f g n x0 x1).2.2.2.2) b len kd sg nb pt) ((s_X1_loss f g n x0 x1).1) ((s_X1_loss f g n x0 x1).2.1) := by
  refine xe_T (cc := cX1_loss) (maxL := 3) (ret := (some .int)) (by decide) rfl (Nat.le_of_ble_eq_true rfl) ?_
  intro p e s m below meth c hx hb hr hml hts hown hlocks hex hP hK A hA hD hS hE ls hl
  have hl : lv_has ls 3 [(0, .ref (a 0)), (1, .int (jI x0)), (2, .int (jI x1))] := hl
  have hown : s.vm.findClass RX1 = some m.cls := hown
  have hSx : CallFix p m c cX1_loss 3 s ([.ref (a 0), .int (jI x0), .int (jI x1)] : List Value).toArray wsX1_loss RX1 := ⟨hx, hb, hml, hown, hts⟩
  have qc40 := hts (.classLink RX1 40 xI) (by decide +kernel)
  have qc47 := hts (.classLink RX1 47 xA) (by decide +kernel)
  have qiA := hts (.initialized xA) (by decide +kernel)
  have qiI := hts (.initialized xI) (by decide +kernel)
  obtain ⟨z, hz⟩ : ∃ z, z = (s_X1_loss f g n x0 x1) := ⟨_, rfl⟩
  rw [← hz]
  unfold s_X1_loss at hz
  refine lv_iload_n hx hb dX1_loss_0 rfl (lv_at hl 1 rfl) ?_
  refine xc_P (As := [.int (jI x0)]) (rest := []) hSx (m_X1_isMovement l x0 (by omega)) (va_cwS 1 hts gX1_loss_X1_isMovement rfl rfl rfl (by decide +kernel) ⟨Nat.le_of_ble_eq_true rfl, Nat.le_of_ble_eq_true rfl⟩) rfl hl.1 rfl (Nat.le_of_ble_eq_true rfl) dX1_loss_1 ⟨Nat.zero_le _, Nat.zero_le _⟩ ?_
  refine x_if_ne (tgt := 17) hx hb dX1_loss_4 (by decide) (b01 (b_X1_isMovement x0)) (fun c4 => ?_) (fun c4 => ?_)
  · rw [if_neg c4] at hz
    have hok := ok_X1_isMovement c4
    obtain ⟨j, rfl⟩ : ∃ j : Nat, x0 = (j : Int) := ⟨x0.toNat, by omega⟩
    have hj : j < 3 := by omega
    try simp only [Int.toNat_natCast] at hz
    refine lv_iload_n hx hb dX1_loss_17 rfl (lv_at hl 2 rfl) ?_
    refine x_if_lt (tgt := 27) hx hb dX1_loss_18 (by decide) (by omega) (fun c18 => ?_) (fun c18 => ?_)
    · rw [if_pos c18] at hz
      subst hz
      exact xt_throw (text := "the loss is out of range") (is := 94) hx hb hlt hown (by decide) qc47 qiA (by decide) (fun z h9 => hts z (List.mem_cons_of_mem _ (List.mem_append_right _ h9))) xng_A xgd_A hE hA (hl.1.trans hml.symm) dX1_loss_27 dX1_loss_30 dX1_loss_31 dX1_loss_33 dX1_loss_36 hex (Nat.le_of_ble_eq_true rfl) (Nat.le_of_ble_eq_true rfl) (Nat.le_of_ble_eq_true rfl) (Nat.le_of_ble_eq_true rfl) hlocks hK hP hD hS rfl rfl (show (2 : Int) ≠ 0 by decide) rfl rfl
    · rw [if_neg c18] at hz
      refine lv_iload_n hx hb dX1_loss_21 rfl (lv_at hl 2 rfl) ?_
      refine lv_bipush (v := jI 20) hx hb dX1_loss_22 (by decide) ?_
      refine x_icmp_le (tgt := 37) hx hb dX1_loss_24 (by decide) ⟨(by omega), (by decide)⟩ (fun c24 => ?_) (fun c24 => ?_)
      · rw [if_pos c24] at hz
        refine lv_aload_n hx hb dX1_loss_37 rfl (lv_at hl 0 rfl) ?_
        refine lv_iload_n hx hb dX1_loss_38 rfl (lv_at hl 1 rfl) ?_
        refine lv_iconst (v := jI 2) hx hb dX1_loss_39 rfl ?_
        refine xc_P (As := [.int (jI (j : Int)), .int (jI 2)]) (rest := [.ref (a 0)]) hSx (m_X1_place l (j : Int) 2 ) (va_cwS 2 hts gX1_loss_X1_place rfl rfl rfl (by decide +kernel) ⟨Nat.le_of_ble_eq_true rfl, Nat.le_of_ble_eq_true rfl⟩) rfl hl.1 rfl (Nat.le_of_ble_eq_true rfl) dX1_loss_40 ⟨Nat.zero_le _, Nat.zero_le _⟩ ?_
        refine lv_iload_n hx hb dX1_loss_43 rfl (lv_at hl 2 rfl) ?_
        refine xc_I (As := [.int (jI ((21 + ((j : Int) * 4)) + 2)), .int (jI x1)]) (rest := []) hSx (m_X1_change l D cI a f g n b len kd sg nb pt ((21 + (j * 4)) + 2) x1 (by omega) (by omega)) (cwV 2 hts gX1_loss_X1_change rfl rfl rfl (by decide +kernel) ⟨Nat.le_of_ble_eq_true rfl, Nat.le_of_ble_eq_true rfl⟩) hP hD hS hA hK 0 rfl rfl rfl rfl hl.1 rfl (Nat.le_of_ble_eq_true rfl) dX1_loss_44 ⟨Nat.zero_le _, Nat.zero_le _⟩ (fun H locs hP hD hS => ?_)
        subst hz
        exact xt_i hx hb hr hlocks hK hP hD hS (Nat.zero_le _) (Nat.zero_le _) rfl rfl rfl dX1_loss_47
      · rw [if_neg c24] at hz
        subst hz
        exact xt_throw (text := "the loss is out of range") (is := 94) hx hb hlt hown (by decide) qc47 qiA (by decide) (fun z h9 => hts z (List.mem_cons_of_mem _ (List.mem_append_right _ h9))) xng_A xgd_A hE hA (hl.1.trans hml.symm) dX1_loss_27 dX1_loss_30 dX1_loss_31 dX1_loss_33 dX1_loss_36 hex (Nat.le_of_ble_eq_true rfl) (Nat.le_of_ble_eq_true rfl) (Nat.le_of_ble_eq_true rfl) (Nat.le_of_ble_eq_true rfl) hlocks hK hP hD hS rfl rfl (show (2 : Int) ≠ 0 by decide) rfl rfl
  · rw [if_pos c4] at hz
    subst hz
    exact xt_throw (text := "no such movement") (is := 72) hx hb hlt hown (by decide) qc40 qiI (by decide) (fun z h9 => hts z (List.mem_cons_of_mem _ (List.mem_append_left _ (List.mem_append_right _ h9)))) xng_I xgd_I hE hA (hl.1.trans hml.symm) dX1_loss_7 dX1_loss_10 dX1_loss_11 dX1_loss_13 dX1_loss_16 hex (Nat.le_of_ble_eq_true rfl) (Nat.le_of_ble_eq_true rfl) (Nat.le_of_ble_eq_true rfl) (Nat.le_of_ble_eq_true rfl) hlocks hK hP hD hS rfl rfl (show (1 : Int) ≠ 0 by decide) rfl rfl
def s_X1_service (f : Nat → Int) (g : Nat → Int) (n : Nat) (x0 : Int) : Int × Int × (Nat → Int) × (Nat → Int) × Nat := if (s_X1_isMovement x0) = 0 then (1, 0, f, g, n) else (if (s_X1_isLocked f) = 0 then (0, (s_X1_change f g n ((21 + ((x0.toNat) * 4)) + 3) 0).1, (upz (upz ((s_X1_change f g n ((21 + ((x0.toNat) * 4)) + 3) 0).2.1) ((21 + ((x0.toNat) * 4)) + 1) 1) ((21 + ((x0.toNat) * 4)) + 2) 0), (s_X1_change f g n ((21 + ((x0.toNat) * 4)) + 3) 0).2.2.1, (s_X1_change f g n ((21 + ((x0.toNat) * 4)) + 3) 0).2.2.2) else (3, 0, f, g, n))
abbrev rm_X1_service : Room := { frames := 6, cells := 1, slots := 6, locals := 103 }
set_option maxHeartbeats 4000000 in
set_option maxRecDepth 100000 in
theorem m_X1_service (l : Launch) (D : va_G) (cI : ClassId) (a : Nat → Nat) (f : Nat → Int) (g : Nat → Int) (n : Nat) (b : Nat → Int) (len : Nat) (kd : Nat → Int) (sg : Nat → Int) (nb : Nat → Int) (pt : Nat) (hlt : l.stackTraces = false) (x0 : Int) (hn : n ≤ 6) (hrf : rng f) (hx0 : -2147483648 ≤ x0 ∧ x0 < 2147483648) : MetT l yX1_service wsX1_service rm_X1_service D cI [.ref (a 0), .int (jI x0)] (w1 cI a f g n b len kd sg nb pt) (w1 cI a ((s_X1_service f g n x0).2.2.1) ((s_X1_service f g n x0).2.2.2.1) ((s_X1_service f g n x0).2.2.2.2) b len kd sg nb pt) ((s_X1_service f g n x0).1) ((s_X1_service f g n x0).2.1) := by
  refine xe_T (cc := cX1_service) (maxL := 3) (ret := (some .int)) (by decide) rfl (Nat.le_of_ble_eq_true rfl) ?_
  intro p e s m below meth c hx hb hr hml hts hown hlocks hex hP hK A hA hD hS hE ls hl
  have hl : lv_has ls 3 [(0, .ref (a 0)), (1, .int (jI x0))] := hl
  have hown : s.vm.findClass RX1 = some m.cls := hown
  have hSx : CallFix p m c cX1_service 3 s ([.ref (a 0), .int (jI x0)] : List Value).toArray wsX1_service RX1 := ⟨hx, hb, hml, hown, hts⟩
  have inRX1 : ∀ w ∈ u_ws RX1 TX1 6, w ∈ wsX1_service := by decide +kernel
  have qc40 := hts (.classLink RX1 40 xI) (by decide +kernel)
  have qc86 := hts (.classLink RX1 86 xS) (by decide +kernel)
  have qf9 := hts (.fieldLink RX1 9 "VaultMovements" "now" "[I") (by decide +kernel)
  have qiI := hts (.initialized xI) (by decide +kernel)
  have qiS := hts (.initialized xS) (by decide +kernel)
  obtain ⟨z, hz⟩ : ∃ z, z = (s_X1_service f g n x0) := ⟨_, rfl⟩
  rw [← hz]
  unfold s_X1_service at hz
  refine lv_iload_n hx hb dX1_service_0 rfl (lv_at hl 1 rfl) ?_
  refine xc_P (As := [.int (jI x0)]) (rest := []) hSx (m_X1_isMovement l x0 (by omega)) (va_cwS 1 hts gX1_service_X1_isMovement rfl rfl rfl (by decide +kernel) ⟨Nat.le_of_ble_eq_true rfl, Nat.le_of_ble_eq_true rfl⟩) rfl hl.1 rfl (Nat.le_of_ble_eq_true rfl) dX1_service_1 ⟨Nat.zero_le _, Nat.zero_le _⟩ ?_
  refine x_if_ne (tgt := 17) hx hb dX1_service_4 (by decide) (b01 (b_X1_isMovement x0)) (fun c4 => ?_) (fun c4 => ?_)
  · rw [if_neg c4] at hz
    have hok := ok_X1_isMovement c4
    obtain ⟨j, rfl⟩ : ∃ j : Nat, x0 = (j : Int) := ⟨x0.toNat, by omega⟩
    have hj : j < 3 := by omega
    try simp only [Int.toNat_natCast] at hz
    refine lv_aload_n hx hb dX1_service_17 rfl (lv_at hl 0 rfl) ?_
    refine xc_R (As := []) (rest := []) hSx (m_X1_isLocked l D cI a f g n b len kd sg nb pt  (by omega)) (cwV 0 hts gX1_service_X1_isLocked rfl rfl rfl (by decide +kernel) ⟨Nat.le_of_ble_eq_true rfl, Nat.le_of_ble_eq_true rfl⟩) hP hK 0 rfl rfl rfl rfl hl.1 rfl (Nat.le_of_ble_eq_true rfl) dX1_service_18 ⟨Nat.zero_le _, Nat.zero_le _⟩ ?_
    refine x_if_eq (tgt := 34) hx hb dX1_service_21 (by decide) (b01 (b_X1_isLocked f)) (fun c21 => ?_) (fun c21 => ?_)
    · rw [if_pos c21] at hz
      refine lv_aload_n hx hb dX1_service_34 rfl (lv_at hl 0 rfl) ?_
      refine lv_iload_n hx hb dX1_service_35 rfl (lv_at hl 1 rfl) ?_
      refine lv_iconst (v := jI 3) hx hb dX1_service_36 rfl ?_
      refine xc_P (As := [.int (jI (j : Int)), .int (jI 3)]) (rest := [.ref (a 0)]) hSx (m_X1_place l (j : Int) 3 ) (va_cwS 2 hts gX1_service_X1_place rfl rfl rfl (by decide +kernel) ⟨Nat.le_of_ble_eq_true rfl, Nat.le_of_ble_eq_true rfl⟩) rfl hl.1 rfl (Nat.le_of_ble_eq_true rfl) dX1_service_37 ⟨Nat.zero_le _, Nat.zero_le _⟩ ?_
      refine lv_iconst (v := jI 0) hx hb dX1_service_40 rfl ?_
      refine xc_I (As := [.int (jI ((21 + ((j : Int) * 4)) + 3)), .int (jI 0)]) (rest := []) hSx (m_X1_change l D cI a f g n b len kd sg nb pt ((21 + (j * 4)) + 3) 0 (by omega) (by omega)) (cwV 2 hts gX1_service_X1_change rfl rfl rfl (by decide +kernel) ⟨Nat.le_of_ble_eq_true rfl, Nat.le_of_ble_eq_true rfl⟩) hP hD hS hA hK 0 rfl rfl rfl rfl hl.1 rfl (Nat.le_of_ble_eq_true rfl) dX1_service_41 ⟨Nat.zero_le _, Nat.zero_le _⟩ (fun H locs hP hD hS => ?_)
      refine lv_istore_n (lv' := [(2, .int (jI ((s_X1_change f g n ((21 + (j * 4)) + 3) 0).1))), (0, .ref (a 0)), (1, .int (jI (j : Int)))]) hx hb dX1_service_44 rfl hl (by decide) rfl (fun ls hl => ?_)
      refine lv_aload_n hx hb dX1_service_45 rfl (lv_at hl 1 rfl) ?_
      refine va_get (D := D) (ci := 1) (v := .ref (a 1)) (C := RX1) (T := TX1) (N := 6) hx hb hts inRX1 hown hK hP 0 rfl rfl 0 (by decide) qf9 (fun _ h9 => h9) rfl dX1_service_46 ?_
      refine lv_iload_n hx hb dX1_service_49 rfl (lv_at hl 2 rfl) ?_
      refine lv_iconst (v := jI 1) hx hb dX1_service_50 rfl ?_
      refine xc_P (As := [.int (jI (j : Int)), .int (jI 1)]) (rest := [.ref (a 1)]) hSx (m_X1_place l (j : Int) 1 ) (va_cwS 2 hts gX1_service_X1_place rfl rfl rfl (by decide +kernel) ⟨Nat.le_of_ble_eq_true rfl, Nat.le_of_ble_eq_true rfl⟩) rfl hl.1 rfl (Nat.le_of_ble_eq_true rfl) dX1_service_51 ⟨Nat.zero_le _, Nat.zero_le _⟩ ?_
      refine lv_iconst (v := jI 1) hx hb dX1_service_54 rfl ?_
      refine x_iast (w1 := (w1 cI a (upz ((s_X1_change f g n ((21 + (j * 4)) + 3) 0).2.1) ((21 + (j * 4)) + 1) 1) ((s_X1_change f g n ((21 + (j * 4)) + 3) 0).2.2.1) ((s_X1_change f g n ((21 + (j * 4)) + 3) 0).2.2.2) b len kd sg nb pt)) hx hb hK hP hD hS 1 0 rfl rfl ((21 + (j * 4)) + 1) (by omega) (by omega) (by decide) dX1_service_55 rfl (fun H locs hP hD hS => ?_)
      refine lv_aload_n hx hb dX1_service_56 rfl (lv_at hl 1 rfl) ?_
      refine va_get (D := D) (ci := 1) (v := .ref (a 1)) (C := RX1) (T := TX1) (N := 6) hx hb hts inRX1 hown hK hP 0 rfl rfl 0 (by decide) qf9 (fun _ h9 => h9) rfl dX1_service_57 ?_
      refine lv_iload_n hx hb dX1_service_60 rfl (lv_at hl 2 rfl) ?_
      refine lv_iconst (v := jI 2) hx hb dX1_service_61 rfl ?_
      refine xc_P (As := [.int (jI (j : Int)), .int (jI 2)]) (rest := [.ref (a 1)]) hSx (m_X1_place l (j : Int) 2 ) (va_cwS 2 hts gX1_service_X1_place rfl rfl rfl (by decide +kernel) ⟨Nat.le_of_ble_eq_true rfl, Nat.le_of_ble_eq_true rfl⟩) rfl hl.1 rfl (Nat.le_of_ble_eq_true rfl) dX1_service_62 ⟨Nat.zero_le _, Nat.zero_le _⟩ ?_
      refine lv_iconst (v := jI 0) hx hb dX1_service_65 rfl ?_
      refine x_iast (w1 := (w1 cI a (upz (upz ((s_X1_change f g n ((21 + (j * 4)) + 3) 0).2.1) ((21 + (j * 4)) + 1) 1) ((21 + (j * 4)) + 2) 0) ((s_X1_change f g n ((21 + (j * 4)) + 3) 0).2.2.1) ((s_X1_change f g n ((21 + (j * 4)) + 3) 0).2.2.2) b len kd sg nb pt)) hx hb hK hP hD hS 1 0 rfl rfl ((21 + (j * 4)) + 2) (by omega) (by omega) (by decide) dX1_service_66 rfl (fun H locs hP hD hS => ?_)
      refine lv_iload_n hx hb dX1_service_67 rfl (lv_at hl 0 rfl) ?_
      subst hz
      exact xt_i hx hb hr hlocks hK hP hD hS (Nat.zero_le _) (Nat.zero_le _) rfl rfl rfl dX1_service_68
    · rw [if_neg c21] at hz
      subst hz
      exact xt_throw (text := "the door is locked") (is := 96) hx hb hlt hown (by decide) qc86 qiS (by decide) (fun z h9 => hts z (List.mem_cons_of_mem _ (List.mem_append_right _ h9))) xng_S xgd_S hE hA (hl.1.trans hml.symm) dX1_service_24 dX1_service_27 dX1_service_28 dX1_service_30 dX1_service_33 hex (Nat.le_of_ble_eq_true rfl) (Nat.le_of_ble_eq_true rfl) (Nat.le_of_ble_eq_true rfl) (Nat.le_of_ble_eq_true rfl) hlocks hK hP hD hS rfl rfl (show (3 : Int) ≠ 0 by decide) rfl rfl
  · rw [if_pos c4] at hz
    subst hz
    exact xt_throw (text := "no such movement") (is := 72) hx hb hlt hown (by decide) qc40 qiI (by decide) (fun z h9 => hts z (List.mem_cons_of_mem _ (List.mem_append_left _ (List.mem_append_right _ h9)))) xng_I xgd_I hE hA (hl.1.trans hml.symm) dX1_service_7 dX1_service_10 dX1_service_11 dX1_service_13 dX1_service_16 hex (Nat.le_of_ble_eq_true rfl) (Nat.le_of_ble_eq_true rfl) (Nat.le_of_ble_eq_true rfl) (Nat.le_of_ble_eq_true rfl) hlocks hK hP hD hS rfl rfl (show (1 : Int) ≠ 0 by decide) rfl rfl
def s_X1_lock (f : Nat → Int) (g : Nat → Int) (n : Nat) : Int × Int × (Nat → Int) × (Nat → Int) × Nat := if (s_X1_isLocked f) = 0 then (if (s_X1_someMovementRuns f) = 0 then (3, 0, f, g, n) else (if (s_X1_hoursToOpening f) = (-1) then (0, (s_X1_hoursToOpening f), (upz (upz f 1 1) 2 (-1)), (s_X1_save f g n).1, (s_X1_save f g n).2) else (0, (s_X1_hoursToOpening f), (upz (upz f 1 1) 2 ((f 0) + (s_X1_hoursToOpening f))), (s_X1_save f g n).1, (s_X1_save f g n).2))) else (3, 0, f, g, n)
abbrev rm_X1_lock : Room := { frames := 6, cells := 1, slots := 6, locals := 100 }
set_option maxHeartbeats 4000000 in
set_option maxRecDepth 100000 in
theorem m_X1_lock (l : Launch) (D : va_G) (cI : ClassId) (a : Nat → Nat) (f : Nat → Int) (g : Nat → Int) (n : Nat) (b : Nat → Int) (len : Nat) (kd : Nat → Int) (sg : Nat → Int) (nb : Nat → Int) (pt : Nat) (hlt : l.stackTraces = false) (hn : n ≤ 6) (hrf : rng f) (hm : mvs f) (hh : 0 ≤ f 0 ∧ f 0 ≤ 99999) (hd : ∀ k : Nat, 14 ≤ k → k < 21 → -1 ≤ f k ∧ f k ≤ 23) : MetT l yX1_lock wsX1_lock rm_X1_lock D cI [.ref (a 0)] (w1 cI a f g n b len kd sg nb pt) (w1 cI a ((s_X1_lock f g n).2.2.1) ((s_X1_lock f g n).2.2.2.1) ((s_X1_lock f g n).2.2.2.2) b len kd sg nb pt) ((s_X1_lock f g n).1) ((s_X1_lock f g n).2.1) := by
  refine xe_T (cc := cX1_lock) (maxL := 2) (ret := (some .int)) (by decide) rfl (Nat.le_of_ble_eq_true rfl) ?_
  intro p e s m below meth c hx hb hr hml hts hown hlocks hex hP hK A hA hD hS hE ls hl
  have hl : lv_has ls 2 [(0, .ref (a 0))] := hl
  have hown : s.vm.findClass RX1 = some m.cls := hown
  have hSx : CallFix p m c cX1_lock 2 s ([.ref (a 0)] : List Value).toArray wsX1_lock RX1 := ⟨hx, hb, hml, hown, hts⟩
  have inRX1 : ∀ w ∈ u_ws RX1 TX1 6, w ∈ wsX1_lock := by decide +kernel
  have qc86 := hts (.classLink RX1 86 xS) (by decide +kernel)
  have qf9 := hts (.fieldLink RX1 9 "VaultMovements" "now" "[I") (by decide +kernel)
  have qiS := hts (.initialized xS) (by decide +kernel)
  obtain ⟨z, hz⟩ : ∃ z, z = (s_X1_lock f g n) := ⟨_, rfl⟩
  rw [← hz]
  unfold s_X1_lock at hz
  refine lv_aload_n hx hb dX1_lock_0 rfl (lv_at hl 0 rfl) ?_
  refine xc_R (As := []) (rest := []) hSx (m_X1_isLocked l D cI a f g n b len kd sg nb pt  (by omega)) (cwV 0 hts gX1_lock_X1_isLocked rfl rfl rfl (by decide +kernel) ⟨Nat.le_of_ble_eq_true rfl, Nat.le_of_ble_eq_true rfl⟩) hP hK 0 rfl rfl rfl rfl hl.1 rfl (Nat.le_of_ble_eq_true rfl) dX1_lock_1 ⟨Nat.zero_le _, Nat.zero_le _⟩ ?_
  refine x_if_ne (tgt := 14) hx hb dX1_lock_4 (by decide) (b01 (b_X1_isLocked f)) (fun c4 => ?_) (fun c4 => ?_)
  · rw [if_neg c4] at hz
    subst hz
    exact xt_throw (text := "the door is locked, or no movement would run") (is := 101) hx hb hlt hown (by decide) qc86 qiS (by decide) (fun z h9 => hts z (List.mem_cons_of_mem _ (List.mem_append_right _ h9))) xng_S xgd_S hE hA (hl.1.trans hml.symm) dX1_lock_14 dX1_lock_17 dX1_lock_18 dX1_lock_20 dX1_lock_23 hex (Nat.le_of_ble_eq_true rfl) (Nat.le_of_ble_eq_true rfl) (Nat.le_of_ble_eq_true rfl) (Nat.le_of_ble_eq_true rfl) hlocks hK hP hD hS rfl rfl (show (3 : Int) ≠ 0 by decide) rfl rfl
  · rw [if_pos c4] at hz
    refine lv_aload_n hx hb dX1_lock_7 rfl (lv_at hl 0 rfl) ?_
    refine xc_R (As := []) (rest := []) hSx (m_X1_someMovementRuns l D cI a f g n b len kd sg nb pt  (by omega) (by omega)) (cwV 0 hts gX1_lock_X1_someMovementRuns rfl rfl rfl (by decide +kernel) ⟨Nat.le_of_ble_eq_true rfl, Nat.le_of_ble_eq_true rfl⟩) hP hK 0 rfl rfl rfl rfl hl.1 rfl (Nat.le_of_ble_eq_true rfl) dX1_lock_8 ⟨Nat.zero_le _, Nat.zero_le _⟩ ?_
    refine x_if_ne (tgt := 24) hx hb dX1_lock_11 (by decide) (b01 (b_X1_someMovementRuns f)) (fun c11 => ?_) (fun c11 => ?_)
    · rw [if_neg c11] at hz
      refine lv_aload_n hx hb dX1_lock_24 rfl (lv_at hl 0 rfl) ?_
      refine xc_V (As := []) (rest := []) hSx (m_X1_save l D cI a f g n b len kd sg nb pt  (by omega)) (cwV 0 hts gX1_lock_X1_save rfl rfl rfl (by decide +kernel) ⟨Nat.le_of_ble_eq_true rfl, Nat.le_of_ble_eq_true rfl⟩) hP hD hS hA hK 0 rfl rfl rfl rfl hl.1 rfl (Nat.le_of_ble_eq_true rfl) dX1_lock_25 ⟨Nat.zero_le _, Nat.zero_le _⟩ (fun H locs hP hD hS => ?_)
      refine lv_aload_n hx hb dX1_lock_28 rfl (lv_at hl 0 rfl) ?_
      refine xc_R (As := []) (rest := []) hSx (m_X1_hoursToOpening l D cI a f ((s_X1_save f g n).1) ((s_X1_save f g n).2) b len kd sg nb pt  (by omega) (by omega) (by omega)) (cwV 0 hts gX1_lock_X1_hoursToOpening rfl rfl rfl (by decide +kernel) ⟨Nat.le_of_ble_eq_true rfl, Nat.le_of_ble_eq_true rfl⟩) hP hK 0 rfl rfl rfl rfl hl.1 rfl (Nat.le_of_ble_eq_true rfl) dX1_lock_29 ⟨Nat.zero_le _, Nat.zero_le _⟩ ?_
      have hrd := r_X1_hoursToOpening f hh hd
      refine lv_istore_n (lv' := [(1, .int (jI (s_X1_hoursToOpening f))), (0, .ref (a 0))]) hx hb dX1_lock_32 rfl hl (by decide) rfl (fun ls hl => ?_)
      refine lv_aload_n hx hb dX1_lock_33 rfl (lv_at hl 1 rfl) ?_
      refine va_get (D := D) (ci := 1) (v := .ref (a 1)) (C := RX1) (T := TX1) (N := 6) hx hb hts inRX1 hown hK hP 0 rfl rfl 0 (by decide) qf9 (fun _ h9 => h9) rfl dX1_lock_34 ?_
      refine lv_iconst (v := jI 1) hx hb dX1_lock_37 rfl ?_
      refine lv_iconst (v := jI 1) hx hb dX1_lock_38 rfl ?_
      refine x_iast (w1 := (w1 cI a (upz f 1 1) ((s_X1_save f g n).1) ((s_X1_save f g n).2) b len kd sg nb pt)) hx hb hK hP hD hS 1 0 rfl rfl 1 rfl (by decide) (by decide) dX1_lock_39 rfl (fun H locs hP hD hS => ?_)
      refine lv_aload_n hx hb dX1_lock_40 rfl (lv_at hl 1 rfl) ?_
      refine va_get (D := D) (ci := 1) (v := .ref (a 1)) (C := RX1) (T := TX1) (N := 6) hx hb hts inRX1 hown hK hP 0 rfl rfl 0 (by decide) qf9 (fun _ h9 => h9) rfl dX1_lock_41 ?_
      refine lv_iconst (v := jI 2) hx hb dX1_lock_44 rfl ?_
      refine lv_iload_n hx hb dX1_lock_45 rfl (lv_at hl 0 rfl) ?_
      refine lv_iconst (v := jI (-1)) hx hb dX1_lock_46 rfl ?_
      refine x_icmp_ne (tgt := 54) hx hb dX1_lock_47 (by decide) ⟨(by omega), (by decide)⟩ (fun c47 => ?_) (fun c47 => ?_)
      · rw [if_neg c47] at hz
        refine lv_aload_n hx hb dX1_lock_54 rfl (lv_at hl 1 rfl) ?_
        refine va_get (D := D) (ci := 1) (v := .ref (a 1)) (C := RX1) (T := TX1) (N := 6) hx hb hts inRX1 hown hK hP 0 rfl rfl 0 (by decide) qf9 (fun _ h9 => h9) rfl dX1_lock_55 ?_
        refine lv_iconst (v := jI 0) hx hb dX1_lock_58 rfl ?_
        refine x_iald hx hb hK hP 1 0 rfl rfl 0 rfl (by decide) (by decide) dX1_lock_59 ?_
        rw [show (upz f 1 1) 0 = f 0 from upz_n (by omega)]
        refine lv_iload_n hx hb dX1_lock_60 rfl (lv_at hl 0 rfl) ?_
        refine x_iadd hx hb dX1_lock_61 ?_
        refine x_iast (w1 := (w1 cI a (upz (upz f 1 1) 2 ((f 0) + (s_X1_hoursToOpening f))) ((s_X1_save f g n).1) ((s_X1_save f g n).2) b len kd sg nb pt)) hx hb hK hP hD hS 1 0 rfl rfl 2 rfl (by decide) (by decide) dX1_lock_62 rfl (fun H locs hP hD hS => ?_)
        refine lv_iload_n hx hb dX1_lock_63 rfl (lv_at hl 0 rfl) ?_
        subst hz
        exact xt_i hx hb hr hlocks hK hP hD hS (Nat.zero_le _) (Nat.zero_le _) rfl rfl rfl dX1_lock_64
      · rw [if_pos c47] at hz
        refine lv_iconst (v := jI (-1)) hx hb dX1_lock_50 rfl ?_
        refine lv_goto (tgt := 62) hx hb dX1_lock_51 (by decide) ?_
        refine x_iast (w1 := (w1 cI a (upz (upz f 1 1) 2 (-1)) ((s_X1_save f g n).1) ((s_X1_save f g n).2) b len kd sg nb pt)) hx hb hK hP hD hS 1 0 rfl rfl 2 rfl (by decide) (by decide) dX1_lock_62 rfl (fun H locs hP hD hS => ?_)
        refine lv_iload_n hx hb dX1_lock_63 rfl (lv_at hl 0 rfl) ?_
        subst hz
        exact xt_i hx hb hr hlocks hK hP hD hS (Nat.zero_le _) (Nat.zero_le _) rfl rfl rfl dX1_lock_64
    · rw [if_pos c11] at hz
      subst hz
      exact xt_throw (text := "the door is locked, or no movement would run") (is := 101) hx hb hlt hown (by decide) qc86 qiS (by decide) (fun z h9 => hts z (List.mem_cons_of_mem _ (List.mem_append_right _ h9))) xng_S xgd_S hE hA (hl.1.trans hml.symm) dX1_lock_14 dX1_lock_17 dX1_lock_18 dX1_lock_20 dX1_lock_23 hex (Nat.le_of_ble_eq_true rfl) (Nat.le_of_ble_eq_true rfl) (Nat.le_of_ble_eq_true rfl) (Nat.le_of_ble_eq_true rfl) hlocks hK hP hD hS rfl rfl (show (3 : Int) ≠ 0 by decide) rfl rfl
def s_X1_open (f : Nat → Int) (g : Nat → Int) (n : Nat) : Int × Int × (Nat → Int) × (Nat → Int) × Nat := if (s_X1_isLocked f) = 0 then (3, 0, f, g, n) else (if (s_X1_hoursToOpen f (-1)) = 0 then (0, 1, (s_X1_leaveOpen (s_X1_countOpening f (s_X1_latenessAfter f 0))), (s_X1_save f g n).1, (s_X1_save f g n).2) else (0, 0, (s_X1_countEarlyTry f), (s_X1_save f g n).1, (s_X1_save f g n).2))
abbrev rm_X1_open : Room := { frames := 6, cells := 1, slots := 6, locals := 100 }
set_option maxHeartbeats 4000000 in
set_option maxRecDepth 100000 in
theorem m_X1_open (l : Launch) (D : va_G) (cI : ClassId) (a : Nat → Nat) (f : Nat → Int) (g : Nat → Int) (n : Nat) (b : Nat → Int) (len : Nat) (kd : Nat → Int) (sg : Nat → Int) (nb : Nat → Int) (pt : Nat) (hlt : l.stackTraces = false) (hn : n ≤ 6) (hrf : rng f) (hm : mvs f) (hh : 0 ≤ f 0 ∧ f 0 ≤ 99999) (hw : 0 ≤ f 4 ∧ f 4 ≤ 100100) (h2 : -1 ≤ f 2 ∧ f 2 ≤ 100300) (h3 : 0 ≤ f 3 ∧ f 3 ≤ 8) (h11 : 1 ≤ f 11 ∧ f 11 ≤ 9) : MetT l yX1_open wsX1_open rm_X1_open D cI [.ref (a 0)] (w1 cI a f g n b len kd sg nb pt) (w1 cI a ((s_X1_open f g n).2.2.1) ((s_X1_open f g n).2.2.2.1) ((s_X1_open f g n).2.2.2.2) b len kd sg nb pt) ((s_X1_open f g n).1) ((s_X1_open f g n).2.1) := by
  refine xe_T (cc := cX1_open) (maxL := 1) (ret := (some .int)) (by decide) rfl (Nat.le_of_ble_eq_true rfl) ?_
  intro p e s m below meth c hx hb hr hml hts hown hlocks hex hP hK A hA hD hS hE ls hl
  have hl : lv_has ls 1 [(0, .ref (a 0))] := hl
  have hown : s.vm.findClass RX1 = some m.cls := hown
  have hSx : CallFix p m c cX1_open 1 s ([.ref (a 0)] : List Value).toArray wsX1_open RX1 := ⟨hx, hb, hml, hown, hts⟩
  have qc86 := hts (.classLink RX1 86 xS) (by decide +kernel)
  have qiS := hts (.initialized xS) (by decide +kernel)
  obtain ⟨z, hz⟩ : ∃ z, z = (s_X1_open f g n) := ⟨_, rfl⟩
  rw [← hz]
  unfold s_X1_open at hz
  refine lv_aload_n hx hb dX1_open_0 rfl (lv_at hl 0 rfl) ?_
  refine xc_R (As := []) (rest := []) hSx (m_X1_isLocked l D cI a f g n b len kd sg nb pt  (by omega)) (cwV 0 hts gX1_open_X1_isLocked rfl rfl rfl (by decide +kernel) ⟨Nat.le_of_ble_eq_true rfl, Nat.le_of_ble_eq_true rfl⟩) hP hK 0 rfl rfl rfl rfl hl.1 rfl (Nat.le_of_ble_eq_true rfl) dX1_open_1 ⟨Nat.zero_le _, Nat.zero_le _⟩ ?_
  refine x_if_ne (tgt := 17) hx hb dX1_open_4 (by decide) (b01 (b_X1_isLocked f)) (fun c4 => ?_) (fun c4 => ?_)
  · rw [if_neg c4] at hz
    refine lv_aload_n hx hb dX1_open_17 rfl (lv_at hl 0 rfl) ?_
    refine xc_V (As := []) (rest := []) hSx (m_X1_save l D cI a f g n b len kd sg nb pt  (by omega)) (cwV 0 hts gX1_open_X1_save rfl rfl rfl (by decide +kernel) ⟨Nat.le_of_ble_eq_true rfl, Nat.le_of_ble_eq_true rfl⟩) hP hD hS hA hK 0 rfl rfl rfl rfl hl.1 rfl (Nat.le_of_ble_eq_true rfl) dX1_open_18 ⟨Nat.zero_le _, Nat.zero_le _⟩ (fun H locs hP hD hS => ?_)
    refine lv_aload_n hx hb dX1_open_21 rfl (lv_at hl 0 rfl) ?_
    refine lv_iconst (v := jI (-1)) hx hb dX1_open_22 rfl ?_
    refine xc_R (As := [.int (jI (-1))]) (rest := []) hSx (m_X1_hoursToOpen l D cI a f ((s_X1_save f g n).1) ((s_X1_save f g n).2) b len kd sg nb pt (-1) (by omega) (by omega) (by omega) (by omega) (by decide)) (cwV 1 hts gX1_open_X1_hoursToOpen rfl rfl rfl (by decide +kernel) ⟨Nat.le_of_ble_eq_true rfl, Nat.le_of_ble_eq_true rfl⟩) hP hK 0 rfl rfl rfl rfl hl.1 rfl (Nat.le_of_ble_eq_true rfl) dX1_open_23 ⟨Nat.zero_le _, Nat.zero_le _⟩ ?_
    have hrd := r_X1_hoursToOpen f (-1) hm hh hw
    refine x_if_eq (tgt := 35) hx hb dX1_open_26 (by decide) (by omega) (fun c26 => ?_) (fun c26 => ?_)
    · rw [if_pos c26] at hz
      refine lv_aload_n hx hb dX1_open_35 rfl (lv_at hl 0 rfl) ?_
      refine lv_aload_n hx hb dX1_open_36 rfl (lv_at hl 0 rfl) ?_
      refine lv_iconst (v := jI 0) hx hb dX1_open_37 rfl ?_
      refine xc_R (As := [.int (jI 0)]) (rest := [.ref (a 0)]) hSx (m_X1_latenessAfter l D cI a f ((s_X1_save f g n).1) ((s_X1_save f g n).2) b len kd sg nb pt 0 (by omega)) (cwV 1 hts gX1_open_X1_latenessAfter rfl rfl rfl (by decide +kernel) ⟨Nat.le_of_ble_eq_true rfl, Nat.le_of_ble_eq_true rfl⟩) hP hK 0 rfl rfl rfl rfl hl.1 rfl (Nat.le_of_ble_eq_true rfl) dX1_open_38 ⟨Nat.zero_le _, Nat.zero_le _⟩ ?_
      have hla : -2147483648 ≤ s_X1_latenessAfter f 0 ∧ s_X1_latenessAfter f 0 < 2147483648 := by unfold s_X1_latenessAfter; split <;> omega
      refine xc_V (As := [.int (jI (s_X1_latenessAfter f 0))]) (rest := []) hSx (m_X1_countOpening l D cI a f ((s_X1_save f g n).1) ((s_X1_save f g n).2) b len kd sg nb pt (s_X1_latenessAfter f 0) hla) (cwV 1 hts gX1_open_X1_countOpening rfl rfl rfl (by decide +kernel) ⟨Nat.le_of_ble_eq_true rfl, Nat.le_of_ble_eq_true rfl⟩) hP hD hS hA hK 0 rfl rfl rfl rfl hl.1 rfl (Nat.le_of_ble_eq_true rfl) dX1_open_41 ⟨Nat.zero_le _, Nat.zero_le _⟩ (fun H locs hP hD hS => ?_)
      refine lv_aload_n hx hb dX1_open_44 rfl (lv_at hl 0 rfl) ?_
      refine xc_V (As := []) (rest := []) hSx (m_X1_leaveOpen l D cI a (s_X1_countOpening f (s_X1_latenessAfter f 0)) ((s_X1_save f g n).1) ((s_X1_save f g n).2) b len kd sg nb pt  ) (cwV 0 hts gX1_open_X1_leaveOpen rfl rfl rfl (by decide +kernel) ⟨Nat.le_of_ble_eq_true rfl, Nat.le_of_ble_eq_true rfl⟩) hP hD hS hA hK 0 rfl rfl rfl rfl hl.1 rfl (Nat.le_of_ble_eq_true rfl) dX1_open_45 ⟨Nat.zero_le _, Nat.zero_le _⟩ (fun H locs hP hD hS => ?_)
      refine lv_iconst (v := jI 1) hx hb dX1_open_48 rfl ?_
      subst hz
      exact xt_i hx hb hr hlocks hK hP hD hS (Nat.zero_le _) (Nat.zero_le _) rfl rfl rfl dX1_open_49
    · rw [if_neg c26] at hz
      refine lv_aload_n hx hb dX1_open_29 rfl (lv_at hl 0 rfl) ?_
      refine xc_V (As := []) (rest := []) hSx (m_X1_countEarlyTry l D cI a f ((s_X1_save f g n).1) ((s_X1_save f g n).2) b len kd sg nb pt  (by omega) (by omega) (by omega) (by omega)) (cwV 0 hts gX1_open_X1_countEarlyTry rfl rfl rfl (by decide +kernel) ⟨Nat.le_of_ble_eq_true rfl, Nat.le_of_ble_eq_true rfl⟩) hP hD hS hA hK 0 rfl rfl rfl rfl hl.1 rfl (Nat.le_of_ble_eq_true rfl) dX1_open_30 ⟨Nat.zero_le _, Nat.zero_le _⟩ (fun H locs hP hD hS => ?_)
      refine lv_iconst (v := jI 0) hx hb dX1_open_33 rfl ?_
      subst hz
      exact xt_i hx hb hr hlocks hK hP hD hS (Nat.zero_le _) (Nat.zero_le _) rfl rfl rfl dX1_open_34
  · rw [if_pos c4] at hz
    subst hz
    exact xt_throw (text := "the door is open") (is := 110) hx hb hlt hown (by decide) qc86 qiS (by decide) (fun z h9 => hts z (List.mem_cons_of_mem _ (List.mem_append_right _ h9))) xng_S xgd_S hE hA (hl.1.trans hml.symm) dX1_open_7 dX1_open_10 dX1_open_11 dX1_open_13 dX1_open_16 hex (Nat.le_of_ble_eq_true rfl) (Nat.le_of_ble_eq_true rfl) (Nat.le_of_ble_eq_true rfl) (Nat.le_of_ble_eq_true rfl) hlocks hK hP hD hS rfl rfl (show (3 : Int) ≠ 0 by decide) rfl rfl
def s_X1_drill_lp23 (f : Nat → Int) (g : Nat → Int) (n : Nat) : Nat → Nat → (Nat → Int) → Int × Int × (Nat → Int) × (Nat → Int) × Nat
  | 0, _, _ => default
  | k + 1, i, f9 => if 3 ≤ (i : Int) then (0, (((s_X1_leaveOpen f9) 10) + 1), (upz (s_X1_leaveOpen f9) 10 (((s_X1_leaveOpen f9) 10) + 1)), (s_X1_save f g n).1, (s_X1_save f g n).2) else (s_X1_drill_lp23 f g n k (i + 1) (upz (upz f9 ((21 + (i * 4)) + 0) 0) ((21 + (i * 4)) + 1) 0))
def s_X1_drill (f : Nat → Int) (g : Nat → Int) (n : Nat) : Int × Int × (Nat → Int) × (Nat → Int) × Nat := if (s_X1_isLocked f) = 0 then (3, 0, f, g, n) else (s_X1_drill_lp23 f g n (3 + 1 - 0) 0 f)
abbrev rm_X1_drill : Room := { frames := 6, cells := 1, slots := 6, locals := 100 }
set_option maxHeartbeats 4000000 in
set_option maxRecDepth 100000 in
theorem m_X1_drill (l : Launch) (D : va_G) (cI : ClassId) (a : Nat → Nat) (f : Nat → Int) (g : Nat → Int) (n : Nat) (b : Nat → Int) (len : Nat) (kd : Nat → Int) (sg : Nat → Int) (nb : Nat → Int) (pt : Nat) (hlt : l.stackTraces = false) (hn : n ≤ 6) (hrf : rng f) : MetT l yX1_drill wsX1_drill rm_X1_drill D cI [.ref (a 0)] (w1 cI a f g n b len kd sg nb pt) (w1 cI a ((s_X1_drill f g n).2.2.1) ((s_X1_drill f g n).2.2.2.1) ((s_X1_drill f g n).2.2.2.2) b len kd sg nb pt) ((s_X1_drill f g n).1) ((s_X1_drill f g n).2.1) := by
  refine xe_T (cc := cX1_drill) (maxL := 2) (ret := (some .int)) (by decide) rfl (Nat.le_of_ble_eq_true rfl) ?_
  intro p e s m below meth c hx hb hr hml hts hown hlocks hex hP hK A hA hD hS hE ls hl
  have hl : lv_has ls 2 [(0, .ref (a 0))] := hl
  have hown : s.vm.findClass RX1 = some m.cls := hown
  have hSx : CallFix p m c cX1_drill 2 s ([.ref (a 0)] : List Value).toArray wsX1_drill RX1 := ⟨hx, hb, hml, hown, hts⟩
  have inRX1 : ∀ w ∈ u_ws RX1 TX1 6, w ∈ wsX1_drill := by decide +kernel
  have qc86 := hts (.classLink RX1 86 xS) (by decide +kernel)
  have qf9 := hts (.fieldLink RX1 9 "VaultMovements" "now" "[I") (by decide +kernel)
  have qiS := hts (.initialized xS) (by decide +kernel)
  obtain ⟨z, hz⟩ : ∃ z, z = (s_X1_drill f g n) := ⟨_, rfl⟩
  rw [← hz]
  unfold s_X1_drill at hz
  refine lv_aload_n hx hb dX1_drill_0 rfl (lv_at hl 0 rfl) ?_
  refine xc_R (As := []) (rest := []) hSx (m_X1_isLocked l D cI a f g n b len kd sg nb pt  (by omega)) (cwV 0 hts gX1_drill_X1_isLocked rfl rfl rfl (by decide +kernel) ⟨Nat.le_of_ble_eq_true rfl, Nat.le_of_ble_eq_true rfl⟩) hP hK 0 rfl rfl rfl rfl hl.1 rfl (Nat.le_of_ble_eq_true rfl) dX1_drill_1 ⟨Nat.zero_le _, Nat.zero_le _⟩ ?_
  refine x_if_ne (tgt := 17) hx hb dX1_drill_4 (by decide) (b01 (b_X1_isLocked f)) (fun c4 => ?_) (fun c4 => ?_)
  · rw [if_neg c4] at hz
    refine lv_aload_n hx hb dX1_drill_17 rfl (lv_at hl 0 rfl) ?_
    refine xc_V (As := []) (rest := []) hSx (m_X1_save l D cI a f g n b len kd sg nb pt  (by omega)) (cwV 0 hts gX1_drill_X1_save rfl rfl rfl (by decide +kernel) ⟨Nat.le_of_ble_eq_true rfl, Nat.le_of_ble_eq_true rfl⟩) hP hD hS hA hK 0 rfl rfl rfl rfl hl.1 rfl (Nat.le_of_ble_eq_true rfl) dX1_drill_18 ⟨Nat.zero_le _, Nat.zero_le _⟩ (fun H locs hP hD hS => ?_)
    refine lv_iconst (v := jI 0) hx hb dX1_drill_21 rfl ?_
    refine lv_istore_n (lv' := [(1, .int (jI 0)), (0, .ref (a 0))]) hx hb dX1_drill_22 rfl hl (by decide) rfl (fun ls hl => ?_)
    have LP23 : ∀ (k i : Nat) (f9 : Nat → Int) (H : Heap) (locs : List Loc) (ls : Array Slot), i ≤ 3 → i + k = 3 + 1 → z = (s_X1_drill_lp23 f g n) k i f9 → va_P D vwCl (w1 cI a f9 ((s_X1_save f g n).1) ((s_X1_save f g n).2) b len kd sg nb pt) H → va_D A (w1 cI a f9 ((s_X1_save f g n).1) ((s_X1_save f g n).2) b len kd sg nb pt) → va_S A s.heap H locs → lv_has ls 2 [(0, .ref (a 0)), (1, .int (jI (i : Int)))] → W p l e rm_X1_drill s m ([.ref (a 0)] : List Value).toArray below meth c H locs 0 0 (vx_MQ below (va_Qi (fun x (_ : Unit) => z.1 = 0 ∧ x = jI z.2.1) (xq_B D cI A (w1 cI a z.2.2.1 z.2.2.2.1 z.2.2.2.2 b len kd sg nb pt)) A) (vx_X (fun (_ : Unit) => z.1 ≠ 0) (fun E _ t => E = xex z.1 ∧ xq_B D cI A (w1 cI a z.2.2.1 z.2.2.2.1 z.2.2.2.2 b len kd sg nb pt) () t) A) ([.ref (a 0)] : List Value).toArray s 1 6 A) (F0 m 23 ls []) := by
      intro k
      induction k with
      | zero => intro i f9 _ _ ls h1 h2; exact absurd h2 (by omega)
      | succ k ih =>
        intro i f9 H locs ls h1 h2 hz hP hD hS hl
        rw [s_X1_drill_lp23] at hz
        refine lv_iload_n hx hb dX1_drill_23 rfl (lv_at hl 1 rfl) ?_
        refine lv_iconst (v := jI 3) hx hb dX1_drill_24 rfl ?_
        refine x_icmp_ge (tgt := 56) hx hb dX1_drill_25 (by decide) ⟨(by omega), (by decide)⟩ (fun c25 => ?_) (fun c25 => ?_)
        · rw [if_pos c25] at hz
          refine lv_aload_n hx hb dX1_drill_56 rfl (lv_at hl 0 rfl) ?_
          refine xc_V (As := []) (rest := []) hSx (m_X1_leaveOpen l D cI a f9 ((s_X1_save f g n).1) ((s_X1_save f g n).2) b len kd sg nb pt  ) (cwV 0 hts gX1_drill_X1_leaveOpen rfl rfl rfl (by decide +kernel) ⟨Nat.le_of_ble_eq_true rfl, Nat.le_of_ble_eq_true rfl⟩) hP hD hS hA hK 0 rfl rfl rfl rfl hl.1 rfl (Nat.le_of_ble_eq_true rfl) dX1_drill_57 ⟨Nat.zero_le _, Nat.zero_le _⟩ (fun H locs hP hD hS => ?_)
          refine lv_aload_n hx hb dX1_drill_60 rfl (lv_at hl 0 rfl) ?_
          refine va_get (D := D) (ci := 1) (v := .ref (a 1)) (C := RX1) (T := TX1) (N := 6) hx hb hts inRX1 hown hK hP 0 rfl rfl 0 (by decide) qf9 (fun _ h9 => h9) rfl dX1_drill_61 ?_
          refine lv_bipush (v := jI 10) hx hb dX1_drill_64 (by decide) ?_
          refine lv_dup2_11 hx hb dX1_drill_66 rfl rfl ?_
          refine x_iald hx hb hK hP 1 0 rfl rfl 10 rfl (by decide) (by decide) dX1_drill_67 ?_
          refine lv_iconst (v := jI 1) hx hb dX1_drill_68 rfl ?_
          refine x_iadd hx hb dX1_drill_69 ?_
          refine x_iast (w1 := (w1 cI a (upz (s_X1_leaveOpen f9) 10 (((s_X1_leaveOpen f9) 10) + 1)) ((s_X1_save f g n).1) ((s_X1_save f g n).2) b len kd sg nb pt)) hx hb hK hP hD hS 1 0 rfl rfl 10 rfl (by decide) (by decide) dX1_drill_70 rfl (fun H locs hP hD hS => ?_)
          refine lv_aload_n hx hb dX1_drill_71 rfl (lv_at hl 0 rfl) ?_
          refine va_get (D := D) (ci := 1) (v := .ref (a 1)) (C := RX1) (T := TX1) (N := 6) hx hb hts inRX1 hown hK hP 0 rfl rfl 0 (by decide) qf9 (fun _ h9 => h9) rfl dX1_drill_72 ?_
          refine lv_bipush (v := jI 10) hx hb dX1_drill_75 (by decide) ?_
          refine x_iald hx hb hK hP 1 0 rfl rfl 10 rfl (by decide) (by decide) dX1_drill_77 ?_
          rw [show (upz (s_X1_leaveOpen f9) 10 (((s_X1_leaveOpen f9) 10) + 1)) 10 = (((s_X1_leaveOpen f9) 10) + 1) from upz_s]
          subst hz
          exact xt_i hx hb hr hlocks hK hP hD hS (Nat.zero_le _) (Nat.zero_le _) rfl rfl rfl dX1_drill_78
        · rw [if_neg c25] at hz
          refine lv_aload_n hx hb dX1_drill_28 rfl (lv_at hl 0 rfl) ?_
          refine va_get (D := D) (ci := 1) (v := .ref (a 1)) (C := RX1) (T := TX1) (N := 6) hx hb hts inRX1 hown hK hP 0 rfl rfl 0 (by decide) qf9 (fun _ h9 => h9) rfl dX1_drill_29 ?_
          refine lv_iload_n hx hb dX1_drill_32 rfl (lv_at hl 1 rfl) ?_
          refine lv_iconst (v := jI 0) hx hb dX1_drill_33 rfl ?_
          refine xc_P (As := [.int (jI (i : Int)), .int (jI 0)]) (rest := [.ref (a 1)]) hSx (m_X1_place l (i : Int) 0 ) (va_cwS 2 hts gX1_drill_X1_place rfl rfl rfl (by decide +kernel) ⟨Nat.le_of_ble_eq_true rfl, Nat.le_of_ble_eq_true rfl⟩) rfl hl.1 rfl (Nat.le_of_ble_eq_true rfl) dX1_drill_34 ⟨Nat.zero_le _, Nat.zero_le _⟩ ?_
          refine lv_iconst (v := jI 0) hx hb dX1_drill_37 rfl ?_
          refine x_iast (w1 := (w1 cI a (upz f9 ((21 + (i * 4)) + 0) 0) ((s_X1_save f g n).1) ((s_X1_save f g n).2) b len kd sg nb pt)) hx hb hK hP hD hS 1 0 rfl rfl ((21 + (i * 4)) + 0) (by omega) (by omega) (by decide) dX1_drill_38 rfl (fun H locs hP hD hS => ?_)
          refine lv_aload_n hx hb dX1_drill_39 rfl (lv_at hl 0 rfl) ?_
          refine va_get (D := D) (ci := 1) (v := .ref (a 1)) (C := RX1) (T := TX1) (N := 6) hx hb hts inRX1 hown hK hP 0 rfl rfl 0 (by decide) qf9 (fun _ h9 => h9) rfl dX1_drill_40 ?_
          refine lv_iload_n hx hb dX1_drill_43 rfl (lv_at hl 1 rfl) ?_
          refine lv_iconst (v := jI 1) hx hb dX1_drill_44 rfl ?_
          refine xc_P (As := [.int (jI (i : Int)), .int (jI 1)]) (rest := [.ref (a 1)]) hSx (m_X1_place l (i : Int) 1 ) (va_cwS 2 hts gX1_drill_X1_place rfl rfl rfl (by decide +kernel) ⟨Nat.le_of_ble_eq_true rfl, Nat.le_of_ble_eq_true rfl⟩) rfl hl.1 rfl (Nat.le_of_ble_eq_true rfl) dX1_drill_45 ⟨Nat.zero_le _, Nat.zero_le _⟩ ?_
          refine lv_iconst (v := jI 0) hx hb dX1_drill_48 rfl ?_
          refine x_iast (w1 := (w1 cI a (upz (upz f9 ((21 + (i * 4)) + 0) 0) ((21 + (i * 4)) + 1) 0) ((s_X1_save f g n).1) ((s_X1_save f g n).2) b len kd sg nb pt)) hx hb hK hP hD hS 1 0 rfl rfl ((21 + (i * 4)) + 1) (by omega) (by omega) (by decide) dX1_drill_49 rfl (fun H locs hP hD hS => ?_)
          refine lv_iinc (v := jI ((i + 1 : Nat) : Int)) (lv' := [(1, .int (jI ((i + 1 : Nat) : Int))), (0, .ref (a 0))]) hx hb dX1_drill_50 hl (k := 1) rfl (jI_inc _ 1) (by decide) rfl (fun ls hl => ?_)
          refine lv_goto (tgt := 23) hx hb dX1_drill_53 (by decide) ?_
          exact ih (i + 1) (upz (upz f9 ((21 + (i * 4)) + 0) 0) ((21 + (i * 4)) + 1) 0) _ _ ls (by omega) (by omega) hz hP hD hS (lv_sub hl [1, 0] rfl)
    exact LP23 (3 + 1 - 0) 0 f _ _ ls (by omega) (by omega) hz hP hD hS (lv_sub hl [1, 0] rfl)
  · rw [if_pos c4] at hz
    subst hz
    exact xt_throw (text := "the door is open") (is := 110) hx hb hlt hown (by decide) qc86 qiS (by decide) (fun z h9 => hts z (List.mem_cons_of_mem _ (List.mem_append_right _ h9))) xng_S xgd_S hE hA (hl.1.trans hml.symm) dX1_drill_7 dX1_drill_10 dX1_drill_11 dX1_drill_13 dX1_drill_16 hex (Nat.le_of_ble_eq_true rfl) (Nat.le_of_ble_eq_true rfl) (Nat.le_of_ble_eq_true rfl) (Nat.le_of_ble_eq_true rfl) hlocks hK hP hD hS rfl rfl (show (3 : Int) ≠ 0 by decide) rfl rfl
def s_X1_pass_lp51 (f : Nat → Int) (g : Nat → Int) (n : Nat) (x0 : Int) : Nat → Nat → (Nat → Int) → Int × Int × (Nat → Int) × (Nat → Int) × Nat
  | 0, _, _ => default
  | k + 1, i, f9 => if x0 ≤ (i : Int) then (0, (s_X1_movementsRunDown f9), f9, (s_X1_save f g n).1, (s_X1_save f g n).2) else (s_X1_pass_lp51 f g n x0 k (i + 1) (s_X1_passHour f9))
def s_X1_pass (f : Nat → Int) (g : Nat → Int) (n : Nat) (x0 : Int) : Int × Int × (Nat → Int) × (Nat → Int) × Nat := if x0 < 1 then (2, 0, f, g, n) else (if x0 ≤ 200 then (if ((f 0) + x0) ≤ 99999 then (s_X1_pass_lp51 f g n x0 (x0.toNat + 1 - 0) 0 f) else (3, 0, f, g, n)) else (2, 0, f, g, n))
abbrev rm_X1_pass : Room := { frames := 6, cells := 1, slots := 6, locals := 100 }
set_option maxHeartbeats 4000000 in
set_option maxRecDepth 100000 in
theorem m_X1_pass (l : Launch) (D : va_G) (cI : ClassId) (a : Nat → Nat) (f : Nat → Int) (g : Nat → Int) (n : Nat) (b : Nat → Int) (len : Nat) (kd : Nat → Int) (sg : Nat → Int) (nb : Nat → Int) (pt : Nat) (hlt : l.stackTraces = false) (x0 : Int) (hn : n ≤ 6) (hrf : rng f) (hh : 0 ≤ f 0 ∧ f 0 ≤ 99999) (hm : mvB f 100000) (hx0 : -2147483648 ≤ x0 ∧ x0 < 2147483648) : MetT l yX1_pass wsX1_pass rm_X1_pass D cI [.ref (a 0), .int (jI x0)] (w1 cI a f g n b len kd sg nb pt) (w1 cI a ((s_X1_pass f g n x0).2.2.1) ((s_X1_pass f g n x0).2.2.2.1) ((s_X1_pass f g n x0).2.2.2.2) b len kd sg nb pt) ((s_X1_pass f g n x0).1) ((s_X1_pass f g n x0).2.1) := by
  refine xe_T (cc := cX1_pass) (maxL := 3) (ret := (some .int)) (by decide) rfl (Nat.le_of_ble_eq_true rfl) ?_
  intro p e s m below meth c hx hb hr hml hts hown hlocks hex hP hK A hA hD hS hE ls hl
  have hl : lv_has ls 3 [(0, .ref (a 0)), (1, .int (jI x0))] := hl
  have hown : s.vm.findClass RX1 = some m.cls := hown
  have hSx : CallFix p m c cX1_pass 3 s ([.ref (a 0), .int (jI x0)] : List Value).toArray wsX1_pass RX1 := ⟨hx, hb, hml, hown, hts⟩
  have inRX1 : ∀ w ∈ u_ws RX1 TX1 6, w ∈ wsX1_pass := by decide +kernel
  have qc47 := hts (.classLink RX1 47 xA) (by decide +kernel)
  have qc86 := hts (.classLink RX1 86 xS) (by decide +kernel)
  have qf9 := hts (.fieldLink RX1 9 "VaultMovements" "now" "[I") (by decide +kernel)
  have qiA := hts (.initialized xA) (by decide +kernel)
  have qiS := hts (.initialized xS) (by decide +kernel)
  have qk129 := hts (.constant RX1 129 (99999)) (by decide +kernel)
  obtain ⟨z, hz⟩ : ∃ z, z = (s_X1_pass f g n x0) := ⟨_, rfl⟩
  rw [← hz]
  unfold s_X1_pass at hz
  refine lv_iload_n hx hb dX1_pass_0 rfl (lv_at hl 1 rfl) ?_
  refine lv_iconst (v := jI 1) hx hb dX1_pass_1 rfl ?_
  refine x_icmp_lt (tgt := 12) hx hb dX1_pass_2 (by decide) ⟨(by omega), (by decide)⟩ (fun c2 => ?_) (fun c2 => ?_)
  · rw [if_pos c2] at hz
    subst hz
    exact xt_throw (text := "the hours are out of range") (is := 77) hx hb hlt hown (by decide) qc47 qiA (by decide) (fun z h9 => hts z (List.mem_cons_of_mem _ (List.mem_append_left _ (List.mem_append_right _ h9)))) xng_A xgd_A hE hA (hl.1.trans hml.symm) dX1_pass_12 dX1_pass_15 dX1_pass_16 dX1_pass_18 dX1_pass_21 hex (Nat.le_of_ble_eq_true rfl) (Nat.le_of_ble_eq_true rfl) (Nat.le_of_ble_eq_true rfl) (Nat.le_of_ble_eq_true rfl) hlocks hK hP hD hS rfl rfl (show (2 : Int) ≠ 0 by decide) rfl rfl
  · rw [if_neg c2] at hz
    refine lv_iload_n hx hb dX1_pass_5 rfl (lv_at hl 1 rfl) ?_
    refine lv_sipush (v := jI 200) hx hb dX1_pass_6 (by decide) ?_
    refine x_icmp_le (tgt := 22) hx hb dX1_pass_9 (by decide) ⟨(by omega), (by decide)⟩ (fun c9 => ?_) (fun c9 => ?_)
    · rw [if_pos c9] at hz
      refine lv_aload_n hx hb dX1_pass_22 rfl (lv_at hl 0 rfl) ?_
      refine va_get (D := D) (ci := 1) (v := .ref (a 1)) (C := RX1) (T := TX1) (N := 6) hx hb hts inRX1 hown hK hP 0 rfl rfl 0 (by decide) qf9 (fun _ h9 => h9) rfl dX1_pass_23 ?_
      refine lv_iconst (v := jI 0) hx hb dX1_pass_26 rfl ?_
      refine x_iald hx hb hK hP 1 0 rfl rfl 0 rfl (by decide) (by decide) dX1_pass_27 ?_
      refine lv_iload_n hx hb dX1_pass_28 rfl (lv_at hl 1 rfl) ?_
      refine x_iadd hx hb dX1_pass_29 ?_
      refine lv_ldc (v := jI 99999) hx hb hown qk129 dX1_pass_30 ?_
      refine x_icmp_le (tgt := 45) hx hb dX1_pass_32 (by decide) ⟨(by omega), (by decide)⟩ (fun c32 => ?_) (fun c32 => ?_)
      · rw [if_pos c32] at hz
        refine lv_aload_n hx hb dX1_pass_45 rfl (lv_at hl 0 rfl) ?_
        refine xc_V (As := []) (rest := []) hSx (m_X1_save l D cI a f g n b len kd sg nb pt  (by omega)) (cwV 0 hts gX1_pass_X1_save rfl rfl rfl (by decide +kernel) ⟨Nat.le_of_ble_eq_true rfl, Nat.le_of_ble_eq_true rfl⟩) hP hD hS hA hK 0 rfl rfl rfl rfl hl.1 rfl (Nat.le_of_ble_eq_true rfl) dX1_pass_46 ⟨Nat.zero_le _, Nat.zero_le _⟩ (fun H locs hP hD hS => ?_)
        refine lv_iconst (v := jI 0) hx hb dX1_pass_49 rfl ?_
        refine lv_istore_n (lv' := [(2, .int (jI 0)), (0, .ref (a 0)), (1, .int (jI x0))]) hx hb dX1_pass_50 rfl hl (by decide) rfl (fun ls hl => ?_)
        have LP51 : ∀ (k i : Nat) (f9 : Nat → Int) (H : Heap) (locs : List Loc) (ls : Array Slot), i ≤ x0.toNat → i + k = x0.toNat + 1 → z = (s_X1_pass_lp51 f g n x0) k i f9 → (rng f9 ∧ mvB f9 (100000 + 3 * i) ∧ 0 ≤ f9 0 ∧ f9 0 + (x0 - i) ≤ 99999) → va_P D vwCl (w1 cI a f9 ((s_X1_save f g n).1) ((s_X1_save f g n).2) b len kd sg nb pt) H → va_D A (w1 cI a f9 ((s_X1_save f g n).1) ((s_X1_save f g n).2) b len kd sg nb pt) → va_S A s.heap H locs → lv_has ls 3 [(0, .ref (a 0)), (1, .int (jI x0)), (2, .int (jI (i : Int)))] → W p l e rm_X1_pass s m ([.ref (a 0), .int (jI x0)] : List Value).toArray below meth c H locs 0 0 (vx_MQ below (va_Qi (fun x (_ : Unit) => z.1 = 0 ∧ x = jI z.2.1) (xq_B D cI A (w1 cI a z.2.2.1 z.2.2.2.1 z.2.2.2.2 b len kd sg nb pt)) A) (vx_X (fun (_ : Unit) => z.1 ≠ 0) (fun E _ t => E = xex z.1 ∧ xq_B D cI A (w1 cI a z.2.2.1 z.2.2.2.1 z.2.2.2.2 b len kd sg nb pt) () t) A) ([.ref (a 0), .int (jI x0)] : List Value).toArray s 1 6 A) (F0 m 51 ls []) := by
          intro k
          induction k with
          | zero => intro i f9 _ _ ls h1 h2; exact absurd h2 (by omega)
          | succ k ih =>
            intro i f9 H locs ls h1 h2 hz hi2 hP hD hS hl
            rw [s_X1_pass_lp51] at hz
            refine lv_iload_n hx hb dX1_pass_51 rfl (lv_at hl 2 rfl) ?_
            refine lv_iload_n hx hb dX1_pass_52 rfl (lv_at hl 1 rfl) ?_
            refine x_icmp_ge (tgt := 66) hx hb dX1_pass_53 (by decide) ⟨(by omega), (by omega)⟩ (fun c53 => ?_) (fun c53 => ?_)
            · rw [if_pos c53] at hz
              refine lv_aload_n hx hb dX1_pass_66 rfl (lv_at hl 0 rfl) ?_
              refine xc_R (As := []) (rest := []) hSx (m_X1_movementsRunDown l D cI a f9 ((s_X1_save f g n).1) ((s_X1_save f g n).2) b len kd sg nb pt  hi2.1) (cwV 0 hts gX1_pass_X1_movementsRunDown rfl rfl rfl (by decide +kernel) ⟨Nat.le_of_ble_eq_true rfl, Nat.le_of_ble_eq_true rfl⟩) hP hK 0 rfl rfl rfl rfl hl.1 rfl (Nat.le_of_ble_eq_true rfl) dX1_pass_67 ⟨Nat.zero_le _, Nat.zero_le _⟩ ?_
              subst hz
              exact xt_i hx hb hr hlocks hK hP hD hS (Nat.zero_le _) (Nat.zero_le _) rfl rfl rfl dX1_pass_70
            · rw [if_neg c53] at hz
              refine lv_aload_n hx hb dX1_pass_56 rfl (lv_at hl 0 rfl) ?_
              refine xc_V (As := []) (rest := []) hSx (m_X1_passHour l D cI a f9 ((s_X1_save f g n).1) ((s_X1_save f g n).2) b len kd sg nb pt  hi2.1 (by omega) (mvB_mono hi2.2.1 (by omega))) (cwV 0 hts gX1_pass_X1_passHour rfl rfl rfl (by decide +kernel) ⟨Nat.le_of_ble_eq_true rfl, Nat.le_of_ble_eq_true rfl⟩) hP hD hS hA hK 0 rfl rfl rfl rfl hl.1 rfl (Nat.le_of_ble_eq_true rfl) dX1_pass_57 ⟨Nat.zero_le _, Nat.zero_le _⟩ (fun H locs hP hD hS => ?_)
              have hok0 := ok_X1_passHour f9 (100000 + 3 * i) hi2.1 hi2.2.1 (by omega) (by omega)
              have hok : rng (s_X1_passHour f9) ∧ mvB (s_X1_passHour f9) (100000 + 3 * ((i + 1 : Nat) : Int)) ∧ 0 ≤ s_X1_passHour f9 0 ∧ s_X1_passHour f9 0 + (x0 - ((i + 1 : Nat) : Int)) ≤ 99999 := ⟨hok0.1, mvB_mono hok0.2.1 (by omega), by omega, by omega⟩
              refine lv_iinc (v := jI ((i + 1 : Nat) : Int)) (lv' := [(2, .int (jI ((i + 1 : Nat) : Int))), (0, .ref (a 0)), (1, .int (jI x0))]) hx hb dX1_pass_60 hl (k := 2) rfl (jI_inc _ 1) (by decide) rfl (fun ls hl => ?_)
              refine lv_goto (tgt := 51) hx hb dX1_pass_63 (by decide) ?_
              exact ih (i + 1) (s_X1_passHour f9) _ _ ls (by omega) (by omega) hz hok hP hD hS (lv_sub hl [1, 2, 0] rfl)
        exact LP51 (x0.toNat + 1 - 0) 0 f _ _ ls (by omega) (by omega) hz ⟨hrf, mvB_mono hm (by omega), by omega, by omega⟩ hP hD hS (lv_sub hl [1, 2, 0] rfl)
      · rw [if_neg c32] at hz
        subst hz
        exact xt_throw (text := "the hour would be too late") (is := 130) hx hb hlt hown (by decide) qc86 qiS (by decide) (fun z h9 => hts z (List.mem_cons_of_mem _ (List.mem_append_right _ h9))) xng_S xgd_S hE hA (hl.1.trans hml.symm) dX1_pass_35 dX1_pass_38 dX1_pass_39 dX1_pass_41 dX1_pass_44 hex (Nat.le_of_ble_eq_true rfl) (Nat.le_of_ble_eq_true rfl) (Nat.le_of_ble_eq_true rfl) (Nat.le_of_ble_eq_true rfl) hlocks hK hP hD hS rfl rfl (show (3 : Int) ≠ 0 by decide) rfl rfl
    · rw [if_neg c9] at hz
      subst hz
      exact xt_throw (text := "the hours are out of range") (is := 77) hx hb hlt hown (by decide) qc47 qiA (by decide) (fun z h9 => hts z (List.mem_cons_of_mem _ (List.mem_append_left _ (List.mem_append_right _ h9)))) xng_A xgd_A hE hA (hl.1.trans hml.symm) dX1_pass_12 dX1_pass_15 dX1_pass_16 dX1_pass_18 dX1_pass_21 hex (Nat.le_of_ble_eq_true rfl) (Nat.le_of_ble_eq_true rfl) (Nat.le_of_ble_eq_true rfl) (Nat.le_of_ble_eq_true rfl) hlocks hK hP hD hS rfl rfl (show (2 : Int) ≠ 0 by decide) rfl rfl
def s_X1_append (b : Nat → Int) (len : Nat) (x0 : Int) : Int × Int × (Nat → Int) × Nat := if x0 < 33 then (2, 0, b, len) else (if x0 ≤ 126 then (if (len : Int) < 60 then (0, (((len + 1) : Nat) : Int), (upz b len x0), (len + 1)) else (3, 0, b, len)) else (2, 0, b, len))
abbrev rm_X1_append : Room := { frames := 6, cells := 1, slots := 6, locals := 100 }
abbrev rm_X1_windAll : Room := { frames := 6, cells := 1, slots := 6, locals := 100 }
def s_X1_undo (f : Nat → Int) (g : Nat → Int) (n : Nat) : Int × Int × (Nat → Int) × (Nat → Int) × Nat := if 0 < (n : Int) then (0, (((n - 1) : Nat) : Int), (va_cpy g f ((n - 1) * 33) 0 33), g, (n - 1)) else (3, 0, f, g, n)
abbrev rm_X1_undo : Room := { frames := 6, cells := 1, slots := 6, locals := 100 }
set_option maxHeartbeats 4000000 in
set_option maxRecDepth 100000 in
theorem m_X1_undo (l : Launch) (D : va_G) (cI : ClassId) (a : Nat → Nat) (f : Nat → Int) (g : Nat → Int) (n : Nat) (b : Nat → Int) (len : Nat) (kd : Nat → Int) (sg : Nat → Int) (nb : Nat → Int) (pt : Nat) (hlt : l.stackTraces = false) (hn : n ≤ 6) : MetT l yX1_undo wsX1_undo rm_X1_undo D cI [.ref (a 0)] (w1 cI a f g n b len kd sg nb pt) (w1 cI a ((s_X1_undo f g n).2.2.1) ((s_X1_undo f g n).2.2.2.1) ((s_X1_undo f g n).2.2.2.2) b len kd sg nb pt) ((s_X1_undo f g n).1) ((s_X1_undo f g n).2.1) := by
  refine xe_T (cc := cX1_undo) (maxL := 1) (ret := (some .int)) (by decide) rfl (Nat.le_of_ble_eq_true rfl) ?_
  intro p e s m below meth c hx hb hr hml hts hown hlocks hex hP hK A hA hD hS hE ls hl
  have hl : lv_has ls 1 [(0, .ref (a 0))] := hl
  have hown : s.vm.findClass RX1 = some m.cls := hown
  have hSx : CallFix p m c cX1_undo 1 s ([.ref (a 0)] : List Value).toArray wsX1_undo RX1 := ⟨hx, hb, hml, hown, hts⟩
  have inRX1 : ∀ w ∈ u_ws RX1 TX1 6, w ∈ wsX1_undo := by decide +kernel
  have qc86 := hts (.classLink RX1 86 xS) (by decide +kernel)
  have qf13 := hts (.fieldLink RX1 13 "VaultMovements" "saved" "[I") (by decide +kernel)
  have qf16 := hts (.fieldLink RX1 16 "VaultMovements" "savedStates" "I") (by decide +kernel)
  have qf9 := hts (.fieldLink RX1 9 "VaultMovements" "now" "[I") (by decide +kernel)
  have qiS := hts (.initialized xS) (by decide +kernel)
  have qm163 := hts (.methodLink RX1 163 arraycopyName) (by decide +kernel)
  have qmI := hts (.initialized "java/lang/System") (by decide +kernel)
  have qmN := hts (.native arraycopyName) (by decide +kernel)
  have qmS := hts (.static arraycopyName) (by decide +kernel)
  obtain ⟨z, hz⟩ : ∃ z, z = (s_X1_undo f g n) := ⟨_, rfl⟩
  rw [← hz]
  unfold s_X1_undo at hz
  refine lv_aload_n hx hb dX1_undo_0 rfl (lv_at hl 0 rfl) ?_
  refine va_get (D := D) (ci := 1) (v := .int (jI (n : Int))) (C := RX1) (T := TX1) (N := 6) hx hb hts inRX1 hown hK hP 0 rfl rfl 2 (by decide) qf16 (fun _ h9 => h9) rfl dX1_undo_1 ?_
  refine x_if_gt (tgt := 17) hx hb dX1_undo_4 (by decide) (by omega) (fun c4 => ?_) (fun c4 => ?_)
  · rw [if_pos c4] at hz
    refine lv_aload_n hx hb dX1_undo_17 rfl (lv_at hl 0 rfl) ?_
    refine lv_dup hx hb dX1_undo_18 rfl ?_
    refine va_get (D := D) (ci := 1) (v := .int (jI (n : Int))) (C := RX1) (T := TX1) (N := 6) hx hb hts inRX1 hown hK hP 0 rfl rfl 2 (by decide) qf16 (fun _ h9 => h9) rfl dX1_undo_19 ?_
    refine lv_iconst (v := jI 1) hx hb dX1_undo_22 rfl ?_
    refine x_isub hx hb dX1_undo_23 ?_
    refine lv_topi (fun y9 ey9 => ?_)
    obtain rfl : y9 = jI ((n - 1 : Nat) : Int) := ey9.trans (congrArg jI (by omega))
    refine va_put (D := D) (ci := 1) (v := .int (jI ((n - 1 : Nat) : Int))) (ty := .int) (C := RX1) (T := TX1) (N := 6) hx hb hts inRX1 tyX1 tyX1_ok nmX1 hown hK hP hD hS 0 rfl rfl 2 (by decide) qf16 (fun _ h9 => h9) rfl (by decide +kernel) rfl rfl (Nat.le_of_ble_eq_true rfl) dX1_undo_24 (fun H locs hP hD hS => ?_)
    have hP : va_P D vwCl (w1 cI a f g (n - 1) b len kd sg nb pt) H := hP
    have hD : va_D A (w1 cI a f g (n - 1) b len kd sg nb pt) := hD
    refine lv_aload_n hx hb dX1_undo_27 rfl (lv_at hl 0 rfl) ?_
    refine va_get (D := D) (ci := 1) (v := .ref (a 2)) (C := RX1) (T := TX1) (N := 6) hx hb hts inRX1 hown hK hP 0 rfl rfl 1 (by decide) qf13 (fun _ h9 => h9) rfl dX1_undo_28 ?_
    refine lv_aload_n hx hb dX1_undo_31 rfl (lv_at hl 0 rfl) ?_
    refine va_get (D := D) (ci := 1) (v := .int (jI (((n - 1) : Nat) : Int))) (C := RX1) (T := TX1) (N := 6) hx hb hts inRX1 hown hK hP 0 rfl rfl 2 (by decide) qf16 (fun _ h9 => h9) rfl dX1_undo_32 ?_
    refine lv_bipush (v := jI 33) hx hb dX1_undo_35 (by decide) ?_
    refine x_imul hx hb dX1_undo_37 ?_
    refine lv_aload_n hx hb dX1_undo_38 rfl (lv_at hl 0 rfl) ?_
    refine va_get (D := D) (ci := 1) (v := .ref (a 1)) (C := RX1) (T := TX1) (N := 6) hx hb hts inRX1 hown hK hP 0 rfl rfl 0 (by decide) qf9 (fun _ h9 => h9) rfl dX1_undo_39 ?_
    refine lv_iconst (v := jI 0) hx hb dX1_undo_42 rfl ?_
    refine lv_bipush (v := jI 33) hx hb dX1_undo_43 (by decide) ?_
    refine x_copy (w1 := (w1 cI a (va_cpy g f ((n - 1) * 33) 0 33) g (n - 1) b len kd sg nb pt)) hx hb (hml.trans hl.1.symm) hown qm163 qmN qmS qmI hK hP hD hS 2 1 0 rfl rfl rfl ((n - 1) * 33) 0 33 (by omega) (by omega) (by omega) (by omega) (by omega) (Nat.le_of_ble_eq_true rfl) (Nat.le_of_ble_eq_true rfl) dX1_undo_45 rfl (fun H locs hP hD hS => ?_)
    refine lv_aload_n hx hb dX1_undo_48 rfl (lv_at hl 0 rfl) ?_
    refine va_get (D := D) (ci := 1) (v := .int (jI (((n - 1) : Nat) : Int))) (C := RX1) (T := TX1) (N := 6) hx hb hts inRX1 hown hK hP 0 rfl rfl 2 (by decide) qf16 (fun _ h9 => h9) rfl dX1_undo_49 ?_
    subst hz
    exact xt_i hx hb hr hlocks hK hP hD hS (Nat.zero_le _) (Nat.zero_le _) rfl rfl rfl dX1_undo_52
  · rw [if_neg c4] at hz
    subst hz
    exact xt_throw (text := "no state is saved") (is := 161) hx hb hlt hown (by decide) qc86 qiS (by decide) (fun z h9 => hts z (List.mem_cons_of_mem _ (List.mem_append_right _ h9))) xng_S xgd_S hE hA (hl.1.trans hml.symm) dX1_undo_7 dX1_undo_10 dX1_undo_11 dX1_undo_13 dX1_undo_16 hex (Nat.le_of_ble_eq_true rfl) (Nat.le_of_ble_eq_true rfl) (Nat.le_of_ble_eq_true rfl) (Nat.le_of_ble_eq_true rfl) hlocks hK hP hD hS rfl rfl (show (3 : Int) ≠ 0 by decide) rfl rfl
def s_X1_movement (f : Nat → Int) (x0 : Int) (x1 : Int) : Int × Int := if (s_X1_isMovement x0) = 0 then (1, 0) else (if x1 < 0 then (2, 0) else (if x1 ≤ 5 then (0, (s_X1_property f (x0.toNat) (x1.toNat))) else (2, 0)))
abbrev rm_X1_movement : Room := { frames := 6, cells := 1, slots := 6, locals := 100 }
set_option maxHeartbeats 4000000 in
set_option maxRecDepth 100000 in
theorem m_X1_movement (l : Launch) (D : va_G) (cI : ClassId) (a : Nat → Nat) (f : Nat → Int) (g : Nat → Int) (n : Nat) (b : Nat → Int) (len : Nat) (kd : Nat → Int) (sg : Nat → Int) (nb : Nat → Int) (pt : Nat) (hlt : l.stackTraces = false) (x0 : Int) (x1 : Int) (hrf : rng f) (hm : mvs f) (hx0 : -2147483648 ≤ x0 ∧ x0 < 2147483648) (hx1 : -2147483648 ≤ x1 ∧ x1 < 2147483648) : MetT l yX1_movement wsX1_movement rm_X1_movement D cI [.ref (a 0), .int (jI x0), .int (jI x1)] (w1 cI a f g n b len kd sg nb pt) (w1 cI a f g n b len kd sg nb pt) ((s_X1_movement f x0 x1).1) ((s_X1_movement f x0 x1).2) := by
  refine xe_T (cc := cX1_movement) (maxL := 3) (ret := (some .int)) (by decide) rfl (Nat.le_of_ble_eq_true rfl) ?_
  intro p e s m below meth c hx hb hr hml hts hown hlocks hex hP hK A hA hD hS hE ls hl
  have hl : lv_has ls 3 [(0, .ref (a 0)), (1, .int (jI x0)), (2, .int (jI x1))] := hl
  have hown : s.vm.findClass RX1 = some m.cls := hown
  have hSx : CallFix p m c cX1_movement 3 s ([.ref (a 0), .int (jI x0), .int (jI x1)] : List Value).toArray wsX1_movement RX1 := ⟨hx, hb, hml, hown, hts⟩
  have qc40 := hts (.classLink RX1 40 xI) (by decide +kernel)
  have qc47 := hts (.classLink RX1 47 xA) (by decide +kernel)
  have qiA := hts (.initialized xA) (by decide +kernel)
  have qiI := hts (.initialized xI) (by decide +kernel)
  obtain ⟨z, hz⟩ : ∃ z, z = (s_X1_movement f x0 x1) := ⟨_, rfl⟩
  rw [← hz]
  unfold s_X1_movement at hz
  refine lv_iload_n hx hb dX1_movement_0 rfl (lv_at hl 1 rfl) ?_
  refine xc_P (As := [.int (jI x0)]) (rest := []) hSx (m_X1_isMovement l x0 (by omega)) (va_cwS 1 hts gX1_movement_X1_isMovement rfl rfl rfl (by decide +kernel) ⟨Nat.le_of_ble_eq_true rfl, Nat.le_of_ble_eq_true rfl⟩) rfl hl.1 rfl (Nat.le_of_ble_eq_true rfl) dX1_movement_1 ⟨Nat.zero_le _, Nat.zero_le _⟩ ?_
  refine x_if_ne (tgt := 17) hx hb dX1_movement_4 (by decide) (b01 (b_X1_isMovement x0)) (fun c4 => ?_) (fun c4 => ?_)
  · rw [if_neg c4] at hz
    have hok := ok_X1_isMovement c4
    obtain ⟨j, rfl⟩ : ∃ j : Nat, x0 = (j : Int) := ⟨x0.toNat, by omega⟩
    have hj : j < 3 := by omega
    try simp only [Int.toNat_natCast] at hz
    refine lv_iload_n hx hb dX1_movement_17 rfl (lv_at hl 2 rfl) ?_
    refine x_if_lt (tgt := 26) hx hb dX1_movement_18 (by decide) (by omega) (fun c18 => ?_) (fun c18 => ?_)
    · rw [if_pos c18] at hz
      subst hz
      exact xt_throw (text := "no such property") (is := 169) hx hb hlt hown (by decide) qc47 qiA (by decide) (fun z h9 => hts z (List.mem_cons_of_mem _ (List.mem_append_right _ h9))) xng_A xgd_A hE hA (hl.1.trans hml.symm) dX1_movement_26 dX1_movement_29 dX1_movement_30 dX1_movement_32 dX1_movement_35 hex (Nat.le_of_ble_eq_true rfl) (Nat.le_of_ble_eq_true rfl) (Nat.le_of_ble_eq_true rfl) (Nat.le_of_ble_eq_true rfl) hlocks hK hP hD hS rfl rfl (show (2 : Int) ≠ 0 by decide) rfl rfl
    · rw [if_neg c18] at hz
      refine lv_iload_n hx hb dX1_movement_21 rfl (lv_at hl 2 rfl) ?_
      refine lv_iconst (v := jI 5) hx hb dX1_movement_22 rfl ?_
      refine x_icmp_le (tgt := 36) hx hb dX1_movement_23 (by decide) ⟨(by omega), (by decide)⟩ (fun c23 => ?_) (fun c23 => ?_)
      · rw [if_pos c23] at hz
        have hok := True.intro
        obtain ⟨j1, rfl⟩ : ∃ j1 : Nat, x1 = (j1 : Int) := ⟨x1.toNat, by omega⟩
        have hj1 : j1 < 6 := by omega
        try simp only [Int.toNat_natCast] at hz
        refine lv_aload_n hx hb dX1_movement_36 rfl (lv_at hl 0 rfl) ?_
        refine lv_iload_n hx hb dX1_movement_37 rfl (lv_at hl 1 rfl) ?_
        refine lv_iload_n hx hb dX1_movement_38 rfl (lv_at hl 2 rfl) ?_
        refine xc_R (As := [.int (jI (j : Int)), .int (jI (j1 : Int))]) (rest := []) hSx (m_X1_property l D cI a f g n b len kd sg nb pt j j1 (by omega) (by omega) (by omega) (by omega)) (cwV 2 hts gX1_movement_X1_property rfl rfl rfl (by decide +kernel) ⟨Nat.le_of_ble_eq_true rfl, Nat.le_of_ble_eq_true rfl⟩) hP hK 0 rfl rfl rfl rfl hl.1 rfl (Nat.le_of_ble_eq_true rfl) dX1_movement_39 ⟨Nat.zero_le _, Nat.zero_le _⟩ ?_
        subst hz
        exact xt_i hx hb hr hlocks hK hP hD hS (Nat.zero_le _) (Nat.zero_le _) rfl rfl rfl dX1_movement_42
      · rw [if_neg c23] at hz
        subst hz
        exact xt_throw (text := "no such property") (is := 169) hx hb hlt hown (by decide) qc47 qiA (by decide) (fun z h9 => hts z (List.mem_cons_of_mem _ (List.mem_append_right _ h9))) xng_A xgd_A hE hA (hl.1.trans hml.symm) dX1_movement_26 dX1_movement_29 dX1_movement_30 dX1_movement_32 dX1_movement_35 hex (Nat.le_of_ble_eq_true rfl) (Nat.le_of_ble_eq_true rfl) (Nat.le_of_ble_eq_true rfl) (Nat.le_of_ble_eq_true rfl) hlocks hK hP hD hS rfl rfl (show (2 : Int) ≠ 0 by decide) rfl rfl
  · rw [if_pos c4] at hz
    subst hz
    exact xt_throw (text := "no such movement") (is := 72) hx hb hlt hown (by decide) qc40 qiI (by decide) (fun z h9 => hts z (List.mem_cons_of_mem _ (List.mem_append_left _ (List.mem_append_right _ h9)))) xng_I xgd_I hE hA (hl.1.trans hml.symm) dX1_movement_7 dX1_movement_10 dX1_movement_11 dX1_movement_13 dX1_movement_16 hex (Nat.le_of_ble_eq_true rfl) (Nat.le_of_ble_eq_true rfl) (Nat.le_of_ble_eq_true rfl) (Nat.le_of_ble_eq_true rfl) hlocks hK hP hD hS rfl rfl (show (1 : Int) ≠ 0 by decide) rfl rfl
def s_X1_day (f : Nat → Int) (x0 : Int) : Int × Int := if (s_X1_isDay x0) = 0 then (1, 0) else (0, (f (14 + (x0.toNat))))
abbrev rm_X1_day : Room := { frames := 6, cells := 1, slots := 6, locals := 100 }
set_option maxHeartbeats 4000000 in
set_option maxRecDepth 100000 in
theorem m_X1_day (l : Launch) (D : va_G) (cI : ClassId) (a : Nat → Nat) (f : Nat → Int) (g : Nat → Int) (n : Nat) (b : Nat → Int) (len : Nat) (kd : Nat → Int) (sg : Nat → Int) (nb : Nat → Int) (pt : Nat) (hlt : l.stackTraces = false) (x0 : Int) (hx0 : -2147483648 ≤ x0 ∧ x0 < 2147483648) : MetT l yX1_day wsX1_day rm_X1_day D cI [.ref (a 0), .int (jI x0)] (w1 cI a f g n b len kd sg nb pt) (w1 cI a f g n b len kd sg nb pt) ((s_X1_day f x0).1) ((s_X1_day f x0).2) := by
  refine xe_T (cc := cX1_day) (maxL := 2) (ret := (some .int)) (by decide) rfl (Nat.le_of_ble_eq_true rfl) ?_
  intro p e s m below meth c hx hb hr hml hts hown hlocks hex hP hK A hA hD hS hE ls hl
  have hl : lv_has ls 2 [(0, .ref (a 0)), (1, .int (jI x0))] := hl
  have hown : s.vm.findClass RX1 = some m.cls := hown
  have hSx : CallFix p m c cX1_day 2 s ([.ref (a 0), .int (jI x0)] : List Value).toArray wsX1_day RX1 := ⟨hx, hb, hml, hown, hts⟩
  have inRX1 : ∀ w ∈ u_ws RX1 TX1 6, w ∈ wsX1_day := by decide +kernel
  have qc40 := hts (.classLink RX1 40 xI) (by decide +kernel)
  have qf9 := hts (.fieldLink RX1 9 "VaultMovements" "now" "[I") (by decide +kernel)
  have qiI := hts (.initialized xI) (by decide +kernel)
  obtain ⟨z, hz⟩ : ∃ z, z = (s_X1_day f x0) := ⟨_, rfl⟩
  rw [← hz]
  unfold s_X1_day at hz
  refine lv_iload_n hx hb dX1_day_0 rfl (lv_at hl 1 rfl) ?_
  refine xc_P (As := [.int (jI x0)]) (rest := []) hSx (m_X1_isDay l x0 (by omega)) (va_cwS 1 hts gX1_day_X1_isDay rfl rfl rfl (by decide +kernel) ⟨Nat.le_of_ble_eq_true rfl, Nat.le_of_ble_eq_true rfl⟩) rfl hl.1 rfl (Nat.le_of_ble_eq_true rfl) dX1_day_1 ⟨Nat.zero_le _, Nat.zero_le _⟩ ?_
  refine x_if_ne (tgt := 17) hx hb dX1_day_4 (by decide) (b01 (b_X1_isDay x0)) (fun c4 => ?_) (fun c4 => ?_)
  · rw [if_neg c4] at hz
    have hok := ok_X1_isDay c4
    obtain ⟨j, rfl⟩ : ∃ j : Nat, x0 = (j : Int) := ⟨x0.toNat, by omega⟩
    have hj : j < 7 := by omega
    try simp only [Int.toNat_natCast] at hz
    refine lv_aload_n hx hb dX1_day_17 rfl (lv_at hl 0 rfl) ?_
    refine va_get (D := D) (ci := 1) (v := .ref (a 1)) (C := RX1) (T := TX1) (N := 6) hx hb hts inRX1 hown hK hP 0 rfl rfl 0 (by decide) qf9 (fun _ h9 => h9) rfl dX1_day_18 ?_
    refine lv_bipush (v := jI 14) hx hb dX1_day_21 (by decide) ?_
    refine lv_iload_n hx hb dX1_day_23 rfl (lv_at hl 1 rfl) ?_
    refine x_iadd hx hb dX1_day_24 ?_
    refine x_iald hx hb hK hP 1 0 rfl rfl (14 + j) (by omega) (by omega) (by decide) dX1_day_25 ?_
    subst hz
    exact xt_i hx hb hr hlocks hK hP hD hS (Nat.zero_le _) (Nat.zero_le _) rfl rfl rfl dX1_day_26
  · rw [if_pos c4] at hz
    subst hz
    exact xt_throw (text := "no such day") (is := 42) hx hb hlt hown (by decide) qc40 qiI (by decide) (fun z h9 => hts z (List.mem_cons_of_mem _ (List.mem_append_right _ h9))) xng_I xgd_I hE hA (hl.1.trans hml.symm) dX1_day_7 dX1_day_10 dX1_day_11 dX1_day_13 dX1_day_16 hex (Nat.le_of_ble_eq_true rfl) (Nat.le_of_ble_eq_true rfl) (Nat.le_of_ble_eq_true rfl) (Nat.le_of_ble_eq_true rfl) hlocks hK hP hD hS rfl rfl (show (1 : Int) ≠ 0 by decide) rfl rfl
def s_X1_count (f : Nat → Int) (n : Nat) (x0 : Int) : Int × Int := if x0 < 0 then (2, 0) else (if x0 ≤ 14 then (0, (s_X1_number f n (x0.toNat))) else (2, 0))
abbrev rm_X1_count : Room := { frames := 6, cells := 1, slots := 6, locals := 100 }
set_option maxHeartbeats 4000000 in
set_option maxRecDepth 100000 in
theorem m_X1_count (l : Launch) (D : va_G) (cI : ClassId) (a : Nat → Nat) (f : Nat → Int) (g : Nat → Int) (n : Nat) (b : Nat → Int) (len : Nat) (kd : Nat → Int) (sg : Nat → Int) (nb : Nat → Int) (pt : Nat) (hlt : l.stackTraces = false) (x0 : Int) (hrf : rng f) (hh : 0 ≤ f 0 ∧ f 0 ≤ 99999) (hd : ∀ k : Nat, 14 ≤ k → k < 21 → -1 ≤ f k ∧ f k ≤ 23) (hw : 0 ≤ f 4 ∧ f 4 ≤ 100100) (hx0 : -2147483648 ≤ x0 ∧ x0 < 2147483648) : MetT l yX1_count wsX1_count rm_X1_count D cI [.ref (a 0), .int (jI x0)] (w1 cI a f g n b len kd sg nb pt) (w1 cI a f g n b len kd sg nb pt) ((s_X1_count f n x0).1) ((s_X1_count f n x0).2) := by
  refine xe_T (cc := cX1_count) (maxL := 2) (ret := (some .int)) (by decide) rfl (Nat.le_of_ble_eq_true rfl) ?_
  intro p e s m below meth c hx hb hr hml hts hown hlocks hex hP hK A hA hD hS hE ls hl
  have hl : lv_has ls 2 [(0, .ref (a 0)), (1, .int (jI x0))] := hl
  have hown : s.vm.findClass RX1 = some m.cls := hown
  have hSx : CallFix p m c cX1_count 2 s ([.ref (a 0), .int (jI x0)] : List Value).toArray wsX1_count RX1 := ⟨hx, hb, hml, hown, hts⟩
  have qc47 := hts (.classLink RX1 47 xA) (by decide +kernel)
  have qiA := hts (.initialized xA) (by decide +kernel)
  obtain ⟨z, hz⟩ : ∃ z, z = (s_X1_count f n x0) := ⟨_, rfl⟩
  rw [← hz]
  unfold s_X1_count at hz
  refine lv_iload_n hx hb dX1_count_0 rfl (lv_at hl 1 rfl) ?_
  refine x_if_lt (tgt := 10) hx hb dX1_count_1 (by decide) (by omega) (fun c1 => ?_) (fun c1 => ?_)
  · rw [if_pos c1] at hz
    subst hz
    exact xt_throw (text := "no such number") (is := 174) hx hb hlt hown (by decide) qc47 qiA (by decide) (fun z h9 => hts z (List.mem_cons_of_mem _ (List.mem_append_right _ h9))) xng_A xgd_A hE hA (hl.1.trans hml.symm) dX1_count_10 dX1_count_13 dX1_count_14 dX1_count_16 dX1_count_19 hex (Nat.le_of_ble_eq_true rfl) (Nat.le_of_ble_eq_true rfl) (Nat.le_of_ble_eq_true rfl) (Nat.le_of_ble_eq_true rfl) hlocks hK hP hD hS rfl rfl (show (2 : Int) ≠ 0 by decide) rfl rfl
  · rw [if_neg c1] at hz
    refine lv_iload_n hx hb dX1_count_4 rfl (lv_at hl 1 rfl) ?_
    refine lv_bipush (v := jI 14) hx hb dX1_count_5 (by decide) ?_
    refine x_icmp_le (tgt := 20) hx hb dX1_count_7 (by decide) ⟨(by omega), (by decide)⟩ (fun c7 => ?_) (fun c7 => ?_)
    · rw [if_pos c7] at hz
      have hok := True.intro
      obtain ⟨j, rfl⟩ : ∃ j : Nat, x0 = (j : Int) := ⟨x0.toNat, by omega⟩
      have hj : j < 15 := by omega
      try simp only [Int.toNat_natCast] at hz
      refine lv_aload_n hx hb dX1_count_20 rfl (lv_at hl 0 rfl) ?_
      refine lv_iload_n hx hb dX1_count_21 rfl (lv_at hl 1 rfl) ?_
      refine xc_R (As := [.int (jI (j : Int))]) (rest := []) hSx (m_X1_number l D cI a f g n b len kd sg nb pt j (by omega) (by omega) (by omega) (by omega) (by omega)) (cwV 1 hts gX1_count_X1_number rfl rfl rfl (by decide +kernel) ⟨Nat.le_of_ble_eq_true rfl, Nat.le_of_ble_eq_true rfl⟩) hP hK 0 rfl rfl rfl rfl hl.1 rfl (Nat.le_of_ble_eq_true rfl) dX1_count_22 ⟨Nat.zero_le _, Nat.zero_le _⟩ ?_
      subst hz
      exact xt_i hx hb hr hlocks hK hP hD hS (Nat.zero_le _) (Nat.zero_le _) rfl rfl rfl dX1_count_25
    · rw [if_neg c7] at hz
      subst hz
      exact xt_throw (text := "no such number") (is := 174) hx hb hlt hown (by decide) qc47 qiA (by decide) (fun z h9 => hts z (List.mem_cons_of_mem _ (List.mem_append_right _ h9))) xng_A xgd_A hE hA (hl.1.trans hml.symm) dX1_count_10 dX1_count_13 dX1_count_14 dX1_count_16 dX1_count_19 hex (Nat.le_of_ble_eq_true rfl) (Nat.le_of_ble_eq_true rfl) (Nat.le_of_ble_eq_true rfl) (Nat.le_of_ble_eq_true rfl) hlocks hK hP hD hS rfl rfl (show (2 : Int) ≠ 0 by decide) rfl rfl
def s_X1_setting (f : Nat → Int) (x0 : Int) : Int × Int := if (s_X1_isSetting x0) = 0 then (1, 0) else (0, (f (11 + (x0.toNat))))
abbrev rm_X1_setting : Room := { frames := 6, cells := 1, slots := 6, locals := 100 }
set_option maxHeartbeats 4000000 in
set_option maxRecDepth 100000 in
theorem m_X1_setting (l : Launch) (D : va_G) (cI : ClassId) (a : Nat → Nat) (f : Nat → Int) (g : Nat → Int) (n : Nat) (b : Nat → Int) (len : Nat) (kd : Nat → Int) (sg : Nat → Int) (nb : Nat → Int) (pt : Nat) (hlt : l.stackTraces = false) (x0 : Int) (hx0 : -2147483648 ≤ x0 ∧ x0 < 2147483648) : MetT l yX1_setting wsX1_setting rm_X1_setting D cI [.ref (a 0), .int (jI x0)] (w1 cI a f g n b len kd sg nb pt) (w1 cI a f g n b len kd sg nb pt) ((s_X1_setting f x0).1) ((s_X1_setting f x0).2) := by
  refine xe_T (cc := cX1_setting) (maxL := 2) (ret := (some .int)) (by decide) rfl (Nat.le_of_ble_eq_true rfl) ?_
  intro p e s m below meth c hx hb hr hml hts hown hlocks hex hP hK A hA hD hS hE ls hl
  have hl : lv_has ls 2 [(0, .ref (a 0)), (1, .int (jI x0))] := hl
  have hown : s.vm.findClass RX1 = some m.cls := hown
  have hSx : CallFix p m c cX1_setting 2 s ([.ref (a 0), .int (jI x0)] : List Value).toArray wsX1_setting RX1 := ⟨hx, hb, hml, hown, hts⟩
  have inRX1 : ∀ w ∈ u_ws RX1 TX1 6, w ∈ wsX1_setting := by decide +kernel
  have qc40 := hts (.classLink RX1 40 xI) (by decide +kernel)
  have qf9 := hts (.fieldLink RX1 9 "VaultMovements" "now" "[I") (by decide +kernel)
  have qiI := hts (.initialized xI) (by decide +kernel)
  obtain ⟨z, hz⟩ : ∃ z, z = (s_X1_setting f x0) := ⟨_, rfl⟩
  rw [← hz]
  unfold s_X1_setting at hz
  refine lv_iload_n hx hb dX1_setting_0 rfl (lv_at hl 1 rfl) ?_
  refine xc_P (As := [.int (jI x0)]) (rest := []) hSx (m_X1_isSetting l x0 (by omega)) (va_cwS 1 hts gX1_setting_X1_isSetting rfl rfl rfl (by decide +kernel) ⟨Nat.le_of_ble_eq_true rfl, Nat.le_of_ble_eq_true rfl⟩) rfl hl.1 rfl (Nat.le_of_ble_eq_true rfl) dX1_setting_1 ⟨Nat.zero_le _, Nat.zero_le _⟩ ?_
  refine x_if_ne (tgt := 17) hx hb dX1_setting_4 (by decide) (b01 (b_X1_isSetting x0)) (fun c4 => ?_) (fun c4 => ?_)
  · rw [if_neg c4] at hz
    have hok := ok_X1_isSetting c4
    obtain ⟨j, rfl⟩ : ∃ j : Nat, x0 = (j : Int) := ⟨x0.toNat, by omega⟩
    have hj : j < 3 := by omega
    try simp only [Int.toNat_natCast] at hz
    refine lv_aload_n hx hb dX1_setting_17 rfl (lv_at hl 0 rfl) ?_
    refine va_get (D := D) (ci := 1) (v := .ref (a 1)) (C := RX1) (T := TX1) (N := 6) hx hb hts inRX1 hown hK hP 0 rfl rfl 0 (by decide) qf9 (fun _ h9 => h9) rfl dX1_setting_18 ?_
    refine lv_bipush (v := jI 11) hx hb dX1_setting_21 (by decide) ?_
    refine lv_iload_n hx hb dX1_setting_23 rfl (lv_at hl 1 rfl) ?_
    refine x_iadd hx hb dX1_setting_24 ?_
    refine x_iald hx hb hK hP 1 0 rfl rfl (11 + j) (by omega) (by omega) (by decide) dX1_setting_25 ?_
    subst hz
    exact xt_i hx hb hr hlocks hK hP hD hS (Nat.zero_le _) (Nat.zero_le _) rfl rfl rfl dX1_setting_26
  · rw [if_pos c4] at hz
    subst hz
    exact xt_throw (text := "no such setting") (is := 59) hx hb hlt hown (by decide) qc40 qiI (by decide) (fun z h9 => hts z (List.mem_cons_of_mem _ (List.mem_append_right _ h9))) xng_I xgd_I hE hA (hl.1.trans hml.symm) dX1_setting_7 dX1_setting_10 dX1_setting_11 dX1_setting_13 dX1_setting_16 hex (Nat.le_of_ble_eq_true rfl) (Nat.le_of_ble_eq_true rfl) (Nat.le_of_ble_eq_true rfl) (Nat.le_of_ble_eq_true rfl) hlocks hK hP hD hS rfl rfl (show (1 : Int) ≠ 0 by decide) rfl rfl
def s_X1_rightWinding (f : Nat → Int) (x0 : Int) : Int × Int := if (s_X1_isMovement x0) = 0 then (1, 0) else (0, (s_X1_hoursToWind f (x0.toNat)))
abbrev rm_X1_rightWinding : Room := { frames := 6, cells := 1, slots := 6, locals := 100 }
set_option maxHeartbeats 4000000 in
set_option maxRecDepth 100000 in
theorem m_X1_rightWinding (l : Launch) (D : va_G) (cI : ClassId) (a : Nat → Nat) (f : Nat → Int) (g : Nat → Int) (n : Nat) (b : Nat → Int) (len : Nat) (kd : Nat → Int) (sg : Nat → Int) (nb : Nat → Int) (pt : Nat) (hlt : l.stackTraces = false) (x0 : Int) (hrf : rng f) (hh : 0 ≤ f 0 ∧ f 0 ≤ 99999) (hd : ∀ k : Nat, 14 ≤ k → k < 21 → -1 ≤ f k ∧ f k ≤ 23) (hm : mvs f) (hx0 : -2147483648 ≤ x0 ∧ x0 < 2147483648) : MetT l yX1_rightWinding wsX1_rightWinding rm_X1_rightWinding D cI [.ref (a 0), .int (jI x0)] (w1 cI a f g n b len kd sg nb pt) (w1 cI a f g n b len kd sg nb pt) ((s_X1_rightWinding f x0).1) ((s_X1_rightWinding f x0).2) := by
  refine xe_T (cc := cX1_rightWinding) (maxL := 2) (ret := (some .int)) (by decide) rfl (Nat.le_of_ble_eq_true rfl) ?_
  intro p e s m below meth c hx hb hr hml hts hown hlocks hex hP hK A hA hD hS hE ls hl
  have hl : lv_has ls 2 [(0, .ref (a 0)), (1, .int (jI x0))] := hl
  have hown : s.vm.findClass RX1 = some m.cls := hown
  have hSx : CallFix p m c cX1_rightWinding 2 s ([.ref (a 0), .int (jI x0)] : List Value).toArray wsX1_rightWinding RX1 := ⟨hx, hb, hml, hown, hts⟩
  have qc40 := hts (.classLink RX1 40 xI) (by decide +kernel)
  have qiI := hts (.initialized xI) (by decide +kernel)
  obtain ⟨z, hz⟩ : ∃ z, z = (s_X1_rightWinding f x0) := ⟨_, rfl⟩
  rw [← hz]
  unfold s_X1_rightWinding at hz
  refine lv_iload_n hx hb dX1_rightWinding_0 rfl (lv_at hl 1 rfl) ?_
  refine xc_P (As := [.int (jI x0)]) (rest := []) hSx (m_X1_isMovement l x0 (by omega)) (va_cwS 1 hts gX1_rightWinding_X1_isMovement rfl rfl rfl (by decide +kernel) ⟨Nat.le_of_ble_eq_true rfl, Nat.le_of_ble_eq_true rfl⟩) rfl hl.1 rfl (Nat.le_of_ble_eq_true rfl) dX1_rightWinding_1 ⟨Nat.zero_le _, Nat.zero_le _⟩ ?_
  refine x_if_ne (tgt := 17) hx hb dX1_rightWinding_4 (by decide) (b01 (b_X1_isMovement x0)) (fun c4 => ?_) (fun c4 => ?_)
  · rw [if_neg c4] at hz
    have hok := ok_X1_isMovement c4
    obtain ⟨j, rfl⟩ : ∃ j : Nat, x0 = (j : Int) := ⟨x0.toNat, by omega⟩
    have hj : j < 3 := by omega
    try simp only [Int.toNat_natCast] at hz
    refine lv_aload_n hx hb dX1_rightWinding_17 rfl (lv_at hl 0 rfl) ?_
    refine lv_iload_n hx hb dX1_rightWinding_18 rfl (lv_at hl 1 rfl) ?_
    refine xc_R (As := [.int (jI (j : Int))]) (rest := []) hSx (m_X1_hoursToWind l D cI a f g n b len kd sg nb pt j (by omega) (by omega) (by omega) (by omega) (by omega)) (cwV 1 hts gX1_rightWinding_X1_hoursToWind rfl rfl rfl (by decide +kernel) ⟨Nat.le_of_ble_eq_true rfl, Nat.le_of_ble_eq_true rfl⟩) hP hK 0 rfl rfl rfl rfl hl.1 rfl (Nat.le_of_ble_eq_true rfl) dX1_rightWinding_19 ⟨Nat.zero_le _, Nat.zero_le _⟩ ?_
    subst hz
    exact xt_i hx hb hr hlocks hK hP hD hS (Nat.zero_le _) (Nat.zero_le _) rfl rfl rfl dX1_rightWinding_22
  · rw [if_pos c4] at hz
    subst hz
    exact xt_throw (text := "no such movement") (is := 72) hx hb hlt hown (by decide) qc40 qiI (by decide) (fun z h9 => hts z (List.mem_cons_of_mem _ (List.mem_append_right _ h9))) xng_I xgd_I hE hA (hl.1.trans hml.symm) dX1_rightWinding_7 dX1_rightWinding_10 dX1_rightWinding_11 dX1_rightWinding_13 dX1_rightWinding_16 hex (Nat.le_of_ble_eq_true rfl) (Nat.le_of_ble_eq_true rfl) (Nat.le_of_ble_eq_true rfl) (Nat.le_of_ble_eq_true rfl) hlocks hK hP hD hS rfl rfl (show (1 : Int) ≠ 0 by decide) rfl rfl
