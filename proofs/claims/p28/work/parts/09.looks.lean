/-! the looks, where nothing is thrown -/
theorem is_day {j : Nat} (h : j < 7) : ¬ s_X1_isDay (j : Int) = 0 := by unfold s_X1_isDay; (repeat' split) <;> omega
theorem is_set {j : Nat} (h : j < 3) : ¬ s_X1_isSetting (j : Int) = 0 := by unfold s_X1_isSetting; (repeat' split) <;> omega
theorem is_mov {j : Nat} (h : j < 3) : ¬ s_X1_isMovement (j : Int) = 0 := by unfold s_X1_isMovement; (repeat' split) <;> omega
abbrev rm_X1_count_R : Room := { frames := 3, cells := 0, slots := 0, locals := 81 }
set_option maxHeartbeats 4000000 in
set_option maxRecDepth 100000 in
theorem m_X1_count_R (l : Launch) (D : va_G) (cI : ClassId) (a : Nat → Nat) (f : Nat → Int) (g : Nat → Int) (n : Nat) (b : Nat → Int) (len : Nat) (kd : Nat → Int) (sg : Nat → Int) (nb : Nat → Int) (pt : Nat) (x0 : Nat) (hx0 : x0 ≤ 14) (hrf : rng f) (hh : 0 ≤ f 0 ∧ f 0 ≤ 99999) (hd : ∀ k : Nat, 14 ≤ k → k < 21 → -1 ≤ f k ∧ f k ≤ 23) (hw : 0 ≤ f 4 ∧ f 4 ≤ 100100) : MetR l yX1_count wsX1_count rm_X1_count_R D cI [.ref (a 0), .int (jI (x0 : Int))] (w1 cI a f g n b len kd sg nb pt) (s_X1_number f n x0) := by
  refine xe_R (cc := cX1_count) (maxL := 2) (ret := (some .int)) (by decide) rfl (Nat.le_of_ble_eq_true rfl) ?_
  intro p e s m below meth c hx hb hr hml hts hown hlocks hP hK ls hl
  have hl : lv_has ls 2 [(0, .ref (a 0)), (1, .int (jI (x0 : Int)))] := hl
  have hown : s.vm.findClass RX1 = some m.cls := hown
  have hSx : CallFix p m c cX1_count 2 s ([.ref (a 0), .int (jI (x0 : Int))] : List Value).toArray wsX1_count RX1 := ⟨hx, hb, hml, hown, hts⟩
  obtain ⟨z, hz⟩ : ∃ z, z = (s_X1_number f n x0) := ⟨_, rfl⟩
  rw [← hz]
  refine lv_iload_n hx hb dX1_count_0 rfl (lv_at hl 1 rfl) ?_
  refine x_if_lt (tgt := 10) hx hb dX1_count_1 (by decide) (by omega) (fun c1 => (by omega)) (fun c1 => ?_)
  refine lv_iload_n hx hb dX1_count_4 rfl (lv_at hl 1 rfl) ?_
  refine lv_bipush (v := jI 14) hx hb dX1_count_5 (by decide) ?_
  refine x_icmp_le (tgt := 20) hx hb dX1_count_7 (by decide) ⟨(by omega), (by decide)⟩ (fun c7 => ?_) (fun c7 => (by omega))
  refine lv_aload_n hx hb dX1_count_20 rfl (lv_at hl 0 rfl) ?_
  refine lv_iload_n hx hb dX1_count_21 rfl (lv_at hl 1 rfl) ?_
  refine xc_R (As := [.int (jI (x0 : Int))]) (rest := []) hSx (m_X1_number l D cI a f g n b len kd sg nb pt x0 (by omega) (by omega) (by omega) (by omega) (by omega)) (cwV 1 hts gX1_count_X1_number rfl rfl rfl (by decide +kernel) ⟨Nat.le_of_ble_eq_true rfl, Nat.le_of_ble_eq_true rfl⟩) hP hK 0 rfl rfl rfl rfl hl.1 rfl (Nat.le_of_ble_eq_true rfl) dX1_count_22 ⟨Nat.zero_le _, Nat.zero_le _⟩ ?_
  subst hz
  exact xr_i hx hb hr hlocks rfl dX1_count_25
abbrev rm_X1_day_R : Room := { frames := 1, cells := 0, slots := 0, locals := 20 }
set_option maxHeartbeats 4000000 in
set_option maxRecDepth 100000 in
theorem m_X1_day_R (l : Launch) (D : va_G) (cI : ClassId) (a : Nat → Nat) (f : Nat → Int) (g : Nat → Int) (n : Nat) (b : Nat → Int) (len : Nat) (kd : Nat → Int) (sg : Nat → Int) (nb : Nat → Int) (pt : Nat) (j : Nat) (hj : j < 7) (hrf : rng f) : MetR l yX1_day wsX1_day rm_X1_day_R D cI [.ref (a 0), .int (jI (j : Int))] (w1 cI a f g n b len kd sg nb pt) (f (14 + j)) := by
  refine xe_R (cc := cX1_day) (maxL := 2) (ret := (some .int)) (by decide) rfl (Nat.le_of_ble_eq_true rfl) ?_
  intro p e s m below meth c hx hb hr hml hts hown hlocks hP hK ls hl
  have hl : lv_has ls 2 [(0, .ref (a 0)), (1, .int (jI (j : Int)))] := hl
  have hown : s.vm.findClass RX1 = some m.cls := hown
  have hSx : CallFix p m c cX1_day 2 s ([.ref (a 0), .int (jI (j : Int))] : List Value).toArray wsX1_day RX1 := ⟨hx, hb, hml, hown, hts⟩
  have inRX1 : ∀ w ∈ u_ws RX1 TX1 6, w ∈ wsX1_day := by decide +kernel
  have qf9 := hts (.fieldLink RX1 9 "VaultMovements" "now" "[I") (by decide +kernel)
  obtain ⟨z, hz⟩ : ∃ z, z = (f (14 + j)) := ⟨_, rfl⟩
  rw [← hz]
  refine lv_iload_n hx hb dX1_day_0 rfl (lv_at hl 1 rfl) ?_
  refine xc_P (As := [.int (jI (j : Int))]) (rest := []) hSx (m_X1_isDay l (j : Int) (by omega)) (va_cwS 1 hts gX1_day_X1_isDay rfl rfl rfl (by decide +kernel) ⟨Nat.le_of_ble_eq_true rfl, Nat.le_of_ble_eq_true rfl⟩) rfl hl.1 rfl (Nat.le_of_ble_eq_true rfl) dX1_day_1 ⟨Nat.zero_le _, Nat.zero_le _⟩ ?_
  refine x_if_ne (tgt := 17) hx hb dX1_day_4 (by decide) (b01 (b_X1_isDay (j : Int))) (fun c4 => ?_) (fun c4 => (absurd c4 (is_day hj)))
  refine lv_aload_n hx hb dX1_day_17 rfl (lv_at hl 0 rfl) ?_
  refine va_get (D := D) (ci := 1) (v := .ref (a 1)) (C := RX1) (T := TX1) (N := 6) hx hb hts inRX1 hown hK hP 0 rfl rfl 0 (by decide) qf9 (fun _ h9 => h9) rfl dX1_day_18 ?_
  refine lv_bipush (v := jI 14) hx hb dX1_day_21 (by decide) ?_
  refine lv_iload_n hx hb dX1_day_23 rfl (lv_at hl 1 rfl) ?_
  refine x_iadd hx hb dX1_day_24 ?_
  refine x_iald hx hb hK hP 1 0 rfl rfl (14 + j) (by omega) (by omega) (by decide) dX1_day_25 ?_
  subst hz
  exact xr_i hx hb hr hlocks rfl dX1_day_26
abbrev rm_X1_setting_R : Room := { frames := 1, cells := 0, slots := 0, locals := 20 }
set_option maxHeartbeats 4000000 in
set_option maxRecDepth 100000 in
theorem m_X1_setting_R (l : Launch) (D : va_G) (cI : ClassId) (a : Nat → Nat) (f : Nat → Int) (g : Nat → Int) (n : Nat) (b : Nat → Int) (len : Nat) (kd : Nat → Int) (sg : Nat → Int) (nb : Nat → Int) (pt : Nat) (j : Nat) (hj : j < 3) (hrf : rng f) : MetR l yX1_setting wsX1_setting rm_X1_setting_R D cI [.ref (a 0), .int (jI (j : Int))] (w1 cI a f g n b len kd sg nb pt) (f (11 + j)) := by
  refine xe_R (cc := cX1_setting) (maxL := 2) (ret := (some .int)) (by decide) rfl (Nat.le_of_ble_eq_true rfl) ?_
  intro p e s m below meth c hx hb hr hml hts hown hlocks hP hK ls hl
  have hl : lv_has ls 2 [(0, .ref (a 0)), (1, .int (jI (j : Int)))] := hl
  have hown : s.vm.findClass RX1 = some m.cls := hown
  have hSx : CallFix p m c cX1_setting 2 s ([.ref (a 0), .int (jI (j : Int))] : List Value).toArray wsX1_setting RX1 := ⟨hx, hb, hml, hown, hts⟩
  have inRX1 : ∀ w ∈ u_ws RX1 TX1 6, w ∈ wsX1_setting := by decide +kernel
  have qf9 := hts (.fieldLink RX1 9 "VaultMovements" "now" "[I") (by decide +kernel)
  obtain ⟨z, hz⟩ : ∃ z, z = (f (11 + j)) := ⟨_, rfl⟩
  rw [← hz]
  refine lv_iload_n hx hb dX1_setting_0 rfl (lv_at hl 1 rfl) ?_
  refine xc_P (As := [.int (jI (j : Int))]) (rest := []) hSx (m_X1_isSetting l (j : Int) (by omega)) (va_cwS 1 hts gX1_setting_X1_isSetting rfl rfl rfl (by decide +kernel) ⟨Nat.le_of_ble_eq_true rfl, Nat.le_of_ble_eq_true rfl⟩) rfl hl.1 rfl (Nat.le_of_ble_eq_true rfl) dX1_setting_1 ⟨Nat.zero_le _, Nat.zero_le _⟩ ?_
  refine x_if_ne (tgt := 17) hx hb dX1_setting_4 (by decide) (b01 (b_X1_isSetting (j : Int))) (fun c4 => ?_) (fun c4 => (absurd c4 (is_set hj)))
  refine lv_aload_n hx hb dX1_setting_17 rfl (lv_at hl 0 rfl) ?_
  refine va_get (D := D) (ci := 1) (v := .ref (a 1)) (C := RX1) (T := TX1) (N := 6) hx hb hts inRX1 hown hK hP 0 rfl rfl 0 (by decide) qf9 (fun _ h9 => h9) rfl dX1_setting_18 ?_
  refine lv_bipush (v := jI 11) hx hb dX1_setting_21 (by decide) ?_
  refine lv_iload_n hx hb dX1_setting_23 rfl (lv_at hl 1 rfl) ?_
  refine x_iadd hx hb dX1_setting_24 ?_
  refine x_iald hx hb hK hP 1 0 rfl rfl (11 + j) (by omega) (by omega) (by decide) dX1_setting_25 ?_
  subst hz
  exact xr_i hx hb hr hlocks rfl dX1_setting_26
abbrev rm_X1_movement_R : Room := { frames := 3, cells := 0, slots := 0, locals := 68 }
set_option maxHeartbeats 4000000 in
set_option maxRecDepth 100000 in
theorem m_X1_movement_R (l : Launch) (D : va_G) (cI : ClassId) (a : Nat → Nat) (f : Nat → Int) (g : Nat → Int) (n : Nat) (b : Nat → Int) (len : Nat) (kd : Nat → Int) (sg : Nat → Int) (nb : Nat → Int) (pt : Nat) (j : Nat) (x1 : Nat) (hj : j < 3) (hx1 : x1 ≤ 5) (hrf : rng f) (hm : mvs f) : MetR l yX1_movement wsX1_movement rm_X1_movement_R D cI [.ref (a 0), .int (jI (j : Int)), .int (jI (x1 : Int))] (w1 cI a f g n b len kd sg nb pt) (s_X1_property f j x1) := by
  refine xe_R (cc := cX1_movement) (maxL := 3) (ret := (some .int)) (by decide) rfl (Nat.le_of_ble_eq_true rfl) ?_
  intro p e s m below meth c hx hb hr hml hts hown hlocks hP hK ls hl
  have hl : lv_has ls 3 [(0, .ref (a 0)), (1, .int (jI (j : Int))), (2, .int (jI (x1 : Int)))] := hl
  have hown : s.vm.findClass RX1 = some m.cls := hown
  have hSx : CallFix p m c cX1_movement 3 s ([.ref (a 0), .int (jI (j : Int)), .int (jI (x1 : Int))] : List Value).toArray wsX1_movement RX1 := ⟨hx, hb, hml, hown, hts⟩
  obtain ⟨z, hz⟩ : ∃ z, z = (s_X1_property f j x1) := ⟨_, rfl⟩
  rw [← hz]
  refine lv_iload_n hx hb dX1_movement_0 rfl (lv_at hl 1 rfl) ?_
  refine xc_P (As := [.int (jI (j : Int))]) (rest := []) hSx (m_X1_isMovement l (j : Int) (by omega)) (va_cwS 1 hts gX1_movement_X1_isMovement rfl rfl rfl (by decide +kernel) ⟨Nat.le_of_ble_eq_true rfl, Nat.le_of_ble_eq_true rfl⟩) rfl hl.1 rfl (Nat.le_of_ble_eq_true rfl) dX1_movement_1 ⟨Nat.zero_le _, Nat.zero_le _⟩ ?_
  refine x_if_ne (tgt := 17) hx hb dX1_movement_4 (by decide) (b01 (b_X1_isMovement (j : Int))) (fun c4 => ?_) (fun c4 => (absurd c4 (is_mov hj)))
  refine lv_iload_n hx hb dX1_movement_17 rfl (lv_at hl 2 rfl) ?_
  refine x_if_lt (tgt := 26) hx hb dX1_movement_18 (by decide) (by omega) (fun c18 => (by omega)) (fun c18 => ?_)
  refine lv_iload_n hx hb dX1_movement_21 rfl (lv_at hl 2 rfl) ?_
  refine lv_iconst (v := jI 5) hx hb dX1_movement_22 rfl ?_
  refine x_icmp_le (tgt := 36) hx hb dX1_movement_23 (by decide) ⟨(by omega), (by decide)⟩ (fun c23 => ?_) (fun c23 => (by omega))
  refine lv_aload_n hx hb dX1_movement_36 rfl (lv_at hl 0 rfl) ?_
  refine lv_iload_n hx hb dX1_movement_37 rfl (lv_at hl 1 rfl) ?_
  refine lv_iload_n hx hb dX1_movement_38 rfl (lv_at hl 2 rfl) ?_
  refine xc_R (As := [.int (jI (j : Int)), .int (jI (x1 : Int))]) (rest := []) hSx (m_X1_property l D cI a f g n b len kd sg nb pt j x1 (by omega) (by omega) (by omega) (by omega)) (cwV 2 hts gX1_movement_X1_property rfl rfl rfl (by decide +kernel) ⟨Nat.le_of_ble_eq_true rfl, Nat.le_of_ble_eq_true rfl⟩) hP hK 0 rfl rfl rfl rfl hl.1 rfl (Nat.le_of_ble_eq_true rfl) dX1_movement_39 ⟨Nat.zero_le _, Nat.zero_le _⟩ ?_
  subst hz
  exact xr_i hx hb hr hlocks rfl dX1_movement_42
abbrev rm_X1_rightWinding_R : Room := { frames := 3, cells := 0, slots := 0, locals := 68 }
set_option maxHeartbeats 4000000 in
set_option maxRecDepth 100000 in
theorem m_X1_rightWinding_R (l : Launch) (D : va_G) (cI : ClassId) (a : Nat → Nat) (f : Nat → Int) (g : Nat → Int) (n : Nat) (b : Nat → Int) (len : Nat) (kd : Nat → Int) (sg : Nat → Int) (nb : Nat → Int) (pt : Nat) (j : Nat) (hj : j < 3) (hrf : rng f) (hh : 0 ≤ f 0 ∧ f 0 ≤ 99999) (hd : ∀ k : Nat, 14 ≤ k → k < 21 → -1 ≤ f k ∧ f k ≤ 23) (hm : mvs f) : MetR l yX1_rightWinding wsX1_rightWinding rm_X1_rightWinding_R D cI [.ref (a 0), .int (jI (j : Int))] (w1 cI a f g n b len kd sg nb pt) (s_X1_hoursToWind f j) := by
  refine xe_R (cc := cX1_rightWinding) (maxL := 2) (ret := (some .int)) (by decide) rfl (Nat.le_of_ble_eq_true rfl) ?_
  intro p e s m below meth c hx hb hr hml hts hown hlocks hP hK ls hl
  have hl : lv_has ls 2 [(0, .ref (a 0)), (1, .int (jI (j : Int)))] := hl
  have hown : s.vm.findClass RX1 = some m.cls := hown
  have hSx : CallFix p m c cX1_rightWinding 2 s ([.ref (a 0), .int (jI (j : Int))] : List Value).toArray wsX1_rightWinding RX1 := ⟨hx, hb, hml, hown, hts⟩
  obtain ⟨z, hz⟩ : ∃ z, z = (s_X1_hoursToWind f j) := ⟨_, rfl⟩
  rw [← hz]
  refine lv_iload_n hx hb dX1_rightWinding_0 rfl (lv_at hl 1 rfl) ?_
  refine xc_P (As := [.int (jI (j : Int))]) (rest := []) hSx (m_X1_isMovement l (j : Int) (by omega)) (va_cwS 1 hts gX1_rightWinding_X1_isMovement rfl rfl rfl (by decide +kernel) ⟨Nat.le_of_ble_eq_true rfl, Nat.le_of_ble_eq_true rfl⟩) rfl hl.1 rfl (Nat.le_of_ble_eq_true rfl) dX1_rightWinding_1 ⟨Nat.zero_le _, Nat.zero_le _⟩ ?_
  refine x_if_ne (tgt := 17) hx hb dX1_rightWinding_4 (by decide) (b01 (b_X1_isMovement (j : Int))) (fun c4 => ?_) (fun c4 => (absurd c4 (is_mov hj)))
  refine lv_aload_n hx hb dX1_rightWinding_17 rfl (lv_at hl 0 rfl) ?_
  refine lv_iload_n hx hb dX1_rightWinding_18 rfl (lv_at hl 1 rfl) ?_
  refine xc_R (As := [.int (jI (j : Int))]) (rest := []) hSx (m_X1_hoursToWind l D cI a f g n b len kd sg nb pt j (by omega) (by omega) (by omega) (by omega) (by omega)) (cwV 1 hts gX1_rightWinding_X1_hoursToWind rfl rfl rfl (by decide +kernel) ⟨Nat.le_of_ble_eq_true rfl, Nat.le_of_ble_eq_true rfl⟩) hP hK 0 rfl rfl rfl rfl hl.1 rfl (Nat.le_of_ble_eq_true rfl) dX1_rightWinding_19 ⟨Nat.zero_le _, Nat.zero_le _⟩ ?_
  subst hz
  exact xr_i hx hb hr hlocks rfl dX1_rightWinding_22
