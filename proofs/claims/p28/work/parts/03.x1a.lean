/-- what a movement's places hold -/
def mvB (f : Nat → Int) (B : Int) : Prop := ∀ j : Nat, j < 3 → (0 ≤ f (21 + j * 4 + 0) ∧ f (21 + j * 4 + 0) ≤ 200) ∧ (f (21 + j * 4 + 1) = 0 ∨ f (21 + j * 4 + 1) = 1) ∧ (0 ≤ f (21 + j * 4 + 2) ∧ f (21 + j * 4 + 2) ≤ 20) ∧ 0 ≤ f (21 + j * 4 + 3) ∧ f (21 + j * 4 + 3) ≤ B
def mvs (f : Nat → Int) : Prop := mvB f 1000000
theorem mvB_mono {f : Nat → Int} {B C : Int} (h : mvB f B) (hB : B ≤ C) : mvB f C := fun j hj => by
  have := h j hj
  omega
theorem mvB_upz {f : Nat → Int} {B : Int} {k : Nat} {v : Int} (h : mvB f B) (hk : k < 21) : mvB (upz f k v) B := fun j hj => by
  have := h j hj
  rw [upz_n (by omega), upz_n (by omega), upz_n (by omega), upz_n (by omega)]
  exact this
theorem rem_rng {x y : Int} (hy : 0 < y) (hy2 : y < 2147483648) : -2147483648 ≤ x % y ∧ x % y < 2147483648 := by
  have q0 := Int.emod_nonneg x (show y ≠ 0 by omega)
  have q1 := Int.emod_lt_of_pos x hy
  omega
def s_X1_isDay (x0 : Int) : Int := if x0 < 0 then 0 else (if 7 ≤ x0 then 0 else 1)
theorem b_X1_isDay (x0 : Int) : (s_X1_isDay x0) = 0 ∨ (s_X1_isDay x0) = 1 := by unfold s_X1_isDay; (repeat' split) <;> first | exact Or.inl rfl | exact Or.inr rfl
abbrev rm_X1_isDay : Room := { frames := 0, cells := 0, slots := 0, locals := 0 }
set_option maxHeartbeats 4000000 in
set_option maxRecDepth 100000 in
theorem m_X1_isDay (l : Launch) (x0 : Int) (hx0 : -2147483648 ≤ x0 ∧ x0 < 2147483648) : MetP l yX1_isDay wsX1_isDay rm_X1_isDay [.int (jI x0)] (s_X1_isDay x0) := by
  refine xe_P (cc := cX1_isDay) (maxL := 1) (ret := (some .boolean)) (by decide) rfl (Nat.le_of_ble_eq_true rfl) ?_
  intro p e s m below meth c hx hb hr hml hts hown hlocks ls hl
  have hl : lv_has ls 1 [(0, .int (jI x0))] := hl
  have hown : s.vm.findClass RX1 = some m.cls := hown
  have hSx : CallFix p m c cX1_isDay 1 s ([.int (jI x0)] : List Value).toArray wsX1_isDay RX1 := ⟨hx, hb, hml, hown, hts⟩
  obtain ⟨z, hz⟩ : ∃ z, z = (s_X1_isDay x0) := ⟨_, rfl⟩
  rw [← hz]
  unfold s_X1_isDay at hz
  refine lv_iload_n hx hb dX1_isDay_0 rfl (lv_at hl 0 rfl) ?_
  refine x_if_lt (tgt := 14) hx hb dX1_isDay_1 (by decide) (by omega) (fun c1 => ?_) (fun c1 => ?_)
  · rw [if_pos c1] at hz
    refine lv_iconst (v := jI 0) hx hb dX1_isDay_14 rfl ?_
    subst hz
    exact xr_z hx hb hr hlocks (Or.inl rfl) rfl dX1_isDay_15
  · rw [if_neg c1] at hz
    refine lv_iload_n hx hb dX1_isDay_4 rfl (lv_at hl 0 rfl) ?_
    refine lv_bipush (v := jI 7) hx hb dX1_isDay_5 (by decide) ?_
    refine x_icmp_ge (tgt := 14) hx hb dX1_isDay_7 (by decide) ⟨(by omega), (by decide)⟩ (fun c7 => ?_) (fun c7 => ?_)
    · rw [if_pos c7] at hz
      refine lv_iconst (v := jI 0) hx hb dX1_isDay_14 rfl ?_
      subst hz
      exact xr_z hx hb hr hlocks (Or.inl rfl) rfl dX1_isDay_15
    · rw [if_neg c7] at hz
      refine lv_iconst (v := jI 1) hx hb dX1_isDay_10 rfl ?_
      refine lv_goto (tgt := 15) hx hb dX1_isDay_11 (by decide) ?_
      subst hz
      exact xr_z hx hb hr hlocks (Or.inr rfl) rfl dX1_isDay_15
def s_X1_isSetting (x0 : Int) : Int := if x0 < 0 then 0 else (if 3 ≤ x0 then 0 else 1)
theorem b_X1_isSetting (x0 : Int) : (s_X1_isSetting x0) = 0 ∨ (s_X1_isSetting x0) = 1 := by unfold s_X1_isSetting; (repeat' split) <;> first | exact Or.inl rfl | exact Or.inr rfl
abbrev rm_X1_isSetting : Room := { frames := 0, cells := 0, slots := 0, locals := 0 }
set_option maxHeartbeats 4000000 in
set_option maxRecDepth 100000 in
theorem m_X1_isSetting (l : Launch) (x0 : Int) (hx0 : -2147483648 ≤ x0 ∧ x0 < 2147483648) : MetP l yX1_isSetting wsX1_isSetting rm_X1_isSetting [.int (jI x0)] (s_X1_isSetting x0) := by
  refine xe_P (cc := cX1_isSetting) (maxL := 1) (ret := (some .boolean)) (by decide) rfl (Nat.le_of_ble_eq_true rfl) ?_
  intro p e s m below meth c hx hb hr hml hts hown hlocks ls hl
  have hl : lv_has ls 1 [(0, .int (jI x0))] := hl
  have hown : s.vm.findClass RX1 = some m.cls := hown
  have hSx : CallFix p m c cX1_isSetting 1 s ([.int (jI x0)] : List Value).toArray wsX1_isSetting RX1 := ⟨hx, hb, hml, hown, hts⟩
  obtain ⟨z, hz⟩ : ∃ z, z = (s_X1_isSetting x0) := ⟨_, rfl⟩
  rw [← hz]
  unfold s_X1_isSetting at hz
  refine lv_iload_n hx hb dX1_isSetting_0 rfl (lv_at hl 0 rfl) ?_
  refine x_if_lt (tgt := 13) hx hb dX1_isSetting_1 (by decide) (by omega) (fun c1 => ?_) (fun c1 => ?_)
  · rw [if_pos c1] at hz
    refine lv_iconst (v := jI 0) hx hb dX1_isSetting_13 rfl ?_
    subst hz
    exact xr_z hx hb hr hlocks (Or.inl rfl) rfl dX1_isSetting_14
  · rw [if_neg c1] at hz
    refine lv_iload_n hx hb dX1_isSetting_4 rfl (lv_at hl 0 rfl) ?_
    refine lv_iconst (v := jI 3) hx hb dX1_isSetting_5 rfl ?_
    refine x_icmp_ge (tgt := 13) hx hb dX1_isSetting_6 (by decide) ⟨(by omega), (by decide)⟩ (fun c6 => ?_) (fun c6 => ?_)
    · rw [if_pos c6] at hz
      refine lv_iconst (v := jI 0) hx hb dX1_isSetting_13 rfl ?_
      subst hz
      exact xr_z hx hb hr hlocks (Or.inl rfl) rfl dX1_isSetting_14
    · rw [if_neg c6] at hz
      refine lv_iconst (v := jI 1) hx hb dX1_isSetting_9 rfl ?_
      refine lv_goto (tgt := 14) hx hb dX1_isSetting_10 (by decide) ?_
      subst hz
      exact xr_z hx hb hr hlocks (Or.inr rfl) rfl dX1_isSetting_14
def s_X1_isMovement (x0 : Int) : Int := if x0 < 0 then 0 else (if 3 ≤ x0 then 0 else 1)
theorem b_X1_isMovement (x0 : Int) : (s_X1_isMovement x0) = 0 ∨ (s_X1_isMovement x0) = 1 := by unfold s_X1_isMovement; (repeat' split) <;> first | exact Or.inl rfl | exact Or.inr rfl
abbrev rm_X1_isMovement : Room := { frames := 0, cells := 0, slots := 0, locals := 0 }
set_option maxHeartbeats 4000000 in
set_option maxRecDepth 100000 in
theorem m_X1_isMovement (l : Launch) (x0 : Int) (hx0 : -2147483648 ≤ x0 ∧ x0 < 2147483648) : MetP l yX1_isMovement wsX1_isMovement rm_X1_isMovement [.int (jI x0)] (s_X1_isMovement x0) := by
  refine xe_P (cc := cX1_isMovement) (maxL := 1) (ret := (some .boolean)) (by decide) rfl (Nat.le_of_ble_eq_true rfl) ?_
  intro p e s m below meth c hx hb hr hml hts hown hlocks ls hl
  have hl : lv_has ls 1 [(0, .int (jI x0))] := hl
  have hown : s.vm.findClass RX1 = some m.cls := hown
  have hSx : CallFix p m c cX1_isMovement 1 s ([.int (jI x0)] : List Value).toArray wsX1_isMovement RX1 := ⟨hx, hb, hml, hown, hts⟩
  obtain ⟨z, hz⟩ : ∃ z, z = (s_X1_isMovement x0) := ⟨_, rfl⟩
  rw [← hz]
  unfold s_X1_isMovement at hz
  refine lv_iload_n hx hb dX1_isMovement_0 rfl (lv_at hl 0 rfl) ?_
  refine x_if_lt (tgt := 13) hx hb dX1_isMovement_1 (by decide) (by omega) (fun c1 => ?_) (fun c1 => ?_)
  · rw [if_pos c1] at hz
    refine lv_iconst (v := jI 0) hx hb dX1_isMovement_13 rfl ?_
    subst hz
    exact xr_z hx hb hr hlocks (Or.inl rfl) rfl dX1_isMovement_14
  · rw [if_neg c1] at hz
    refine lv_iload_n hx hb dX1_isMovement_4 rfl (lv_at hl 0 rfl) ?_
    refine lv_iconst (v := jI 3) hx hb dX1_isMovement_5 rfl ?_
    refine x_icmp_ge (tgt := 13) hx hb dX1_isMovement_6 (by decide) ⟨(by omega), (by decide)⟩ (fun c6 => ?_) (fun c6 => ?_)
    · rw [if_pos c6] at hz
      refine lv_iconst (v := jI 0) hx hb dX1_isMovement_13 rfl ?_
      subst hz
      exact xr_z hx hb hr hlocks (Or.inl rfl) rfl dX1_isMovement_14
    · rw [if_neg c6] at hz
      refine lv_iconst (v := jI 1) hx hb dX1_isMovement_9 rfl ?_
      refine lv_goto (tgt := 14) hx hb dX1_isMovement_10 (by decide) ?_
      subst hz
      exact xr_z hx hb hr hlocks (Or.inr rfl) rfl dX1_isMovement_14
def s_X1_areWindingHours (x0 : Int) : Int := if x0 < 1 then 0 else (if 200 < x0 then 0 else 1)
theorem b_X1_areWindingHours (x0 : Int) : (s_X1_areWindingHours x0) = 0 ∨ (s_X1_areWindingHours x0) = 1 := by unfold s_X1_areWindingHours; (repeat' split) <;> first | exact Or.inl rfl | exact Or.inr rfl
abbrev rm_X1_areWindingHours : Room := { frames := 0, cells := 0, slots := 0, locals := 0 }
set_option maxHeartbeats 4000000 in
set_option maxRecDepth 100000 in
theorem m_X1_areWindingHours (l : Launch) (x0 : Int) (hx0 : -2147483648 ≤ x0 ∧ x0 < 2147483648) : MetP l yX1_areWindingHours wsX1_areWindingHours rm_X1_areWindingHours [.int (jI x0)] (s_X1_areWindingHours x0) := by
  refine xe_P (cc := cX1_areWindingHours) (maxL := 1) (ret := (some .boolean)) (by decide) rfl (Nat.le_of_ble_eq_true rfl) ?_
  intro p e s m below meth c hx hb hr hml hts hown hlocks ls hl
  have hl : lv_has ls 1 [(0, .int (jI x0))] := hl
  have hown : s.vm.findClass RX1 = some m.cls := hown
  have hSx : CallFix p m c cX1_areWindingHours 1 s ([.int (jI x0)] : List Value).toArray wsX1_areWindingHours RX1 := ⟨hx, hb, hml, hown, hts⟩
  obtain ⟨z, hz⟩ : ∃ z, z = (s_X1_areWindingHours x0) := ⟨_, rfl⟩
  rw [← hz]
  unfold s_X1_areWindingHours at hz
  refine lv_iload_n hx hb dX1_areWindingHours_0 rfl (lv_at hl 0 rfl) ?_
  refine lv_iconst (v := jI 1) hx hb dX1_areWindingHours_1 rfl ?_
  refine x_icmp_lt (tgt := 16) hx hb dX1_areWindingHours_2 (by decide) ⟨(by omega), (by decide)⟩ (fun c2 => ?_) (fun c2 => ?_)
  · rw [if_pos c2] at hz
    refine lv_iconst (v := jI 0) hx hb dX1_areWindingHours_16 rfl ?_
    subst hz
    exact xr_z hx hb hr hlocks (Or.inl rfl) rfl dX1_areWindingHours_17
  · rw [if_neg c2] at hz
    refine lv_iload_n hx hb dX1_areWindingHours_5 rfl (lv_at hl 0 rfl) ?_
    refine lv_sipush (v := jI 200) hx hb dX1_areWindingHours_6 (by decide) ?_
    refine x_icmp_gt (tgt := 16) hx hb dX1_areWindingHours_9 (by decide) ⟨(by omega), (by decide)⟩ (fun c9 => ?_) (fun c9 => ?_)
    · rw [if_pos c9] at hz
      refine lv_iconst (v := jI 0) hx hb dX1_areWindingHours_16 rfl ?_
      subst hz
      exact xr_z hx hb hr hlocks (Or.inl rfl) rfl dX1_areWindingHours_17
    · rw [if_neg c9] at hz
      refine lv_iconst (v := jI 1) hx hb dX1_areWindingHours_12 rfl ?_
      refine lv_goto (tgt := 17) hx hb dX1_areWindingHours_13 (by decide) ?_
      subst hz
      exact xr_z hx hb hr hlocks (Or.inr rfl) rfl dX1_areWindingHours_17
def s_X1_isLostHour (x0 : Int) (x1 : Int) : Int := if x1 ≤ 0 then 0 else (if (x0 % x1) = 0 then 1 else 0)
theorem b_X1_isLostHour (x0 : Int) (x1 : Int) : (s_X1_isLostHour x0 x1) = 0 ∨ (s_X1_isLostHour x0 x1) = 1 := by unfold s_X1_isLostHour; (repeat' split) <;> first | exact Or.inl rfl | exact Or.inr rfl
abbrev rm_X1_isLostHour : Room := { frames := 0, cells := 0, slots := 0, locals := 0 }
set_option maxHeartbeats 4000000 in
set_option maxRecDepth 100000 in
theorem m_X1_isLostHour (l : Launch) (x0 : Int) (x1 : Int) (hx0 : 0 ≤ x0 ∧ x0 < 2147483648) (hx1 : -2147483648 ≤ x1 ∧ x1 < 2147483648) : MetP l yX1_isLostHour wsX1_isLostHour rm_X1_isLostHour [.int (jI x0), .int (jI x1)] (s_X1_isLostHour x0 x1) := by
  refine xe_P (cc := cX1_isLostHour) (maxL := 2) (ret := (some .boolean)) (by decide) rfl (Nat.le_of_ble_eq_true rfl) ?_
  intro p e s m below meth c hx hb hr hml hts hown hlocks ls hl
  have hl : lv_has ls 2 [(0, .int (jI x0)), (1, .int (jI x1))] := hl
  have hown : s.vm.findClass RX1 = some m.cls := hown
  have hSx : CallFix p m c cX1_isLostHour 2 s ([.int (jI x0), .int (jI x1)] : List Value).toArray wsX1_isLostHour RX1 := ⟨hx, hb, hml, hown, hts⟩
  obtain ⟨z, hz⟩ : ∃ z, z = (s_X1_isLostHour x0 x1) := ⟨_, rfl⟩
  rw [← hz]
  unfold s_X1_isLostHour at hz
  refine lv_iload_n hx hb dX1_isLostHour_0 rfl (lv_at hl 1 rfl) ?_
  refine x_if_le (tgt := 14) hx hb dX1_isLostHour_1 (by decide) (by omega) (fun c1 => ?_) (fun c1 => ?_)
  · rw [if_pos c1] at hz
    refine lv_iconst (v := jI 0) hx hb dX1_isLostHour_14 rfl ?_
    subst hz
    exact xr_z hx hb hr hlocks (Or.inl rfl) rfl dX1_isLostHour_15
  · rw [if_neg c1] at hz
    refine lv_iload_n hx hb dX1_isLostHour_4 rfl (lv_at hl 0 rfl) ?_
    refine lv_iload_n hx hb dX1_isLostHour_5 rfl (lv_at hl 1 rfl) ?_
    refine x_irem hx hb dX1_isLostHour_6 (by omega) ?_
    refine x_if_ne (tgt := 14) hx hb dX1_isLostHour_7 (by decide) (rem_rng (by omega) (by omega)) (fun c7 => ?_) (fun c7 => ?_)
    · rw [if_neg c7] at hz
      refine lv_iconst (v := jI 0) hx hb dX1_isLostHour_14 rfl ?_
      subst hz
      exact xr_z hx hb hr hlocks (Or.inl rfl) rfl dX1_isLostHour_15
    · rw [if_pos c7] at hz
      refine lv_iconst (v := jI 1) hx hb dX1_isLostHour_10 rfl ?_
      refine lv_goto (tgt := 15) hx hb dX1_isLostHour_11 (by decide) ?_
      subst hz
      exact xr_z hx hb hr hlocks (Or.inr rfl) rfl dX1_isLostHour_15
abbrev rm_X1_place : Room := { frames := 0, cells := 0, slots := 0, locals := 0 }
set_option maxHeartbeats 4000000 in
set_option maxRecDepth 100000 in
theorem m_X1_place (l : Launch) (m9 : Int) (k9 : Int) : MetP l yX1_place wsX1_place rm_X1_place [.int (jI m9), .int (jI k9)] ((21 + (m9 * 4)) + k9) := by
  refine xe_P (cc := cX1_place) (maxL := 2) (ret := (some .int)) (by decide) rfl (Nat.le_of_ble_eq_true rfl) ?_
  intro p e s m below meth c hx hb hr hml hts hown hlocks ls hl
  have hl : lv_has ls 2 [(0, .int (jI m9)), (1, .int (jI k9))] := hl
  have hown : s.vm.findClass RX1 = some m.cls := hown
  have hSx : CallFix p m c cX1_place 2 s ([.int (jI m9), .int (jI k9)] : List Value).toArray wsX1_place RX1 := ⟨hx, hb, hml, hown, hts⟩
  obtain ⟨z, hz⟩ : ∃ z, z = ((21 + (m9 * 4)) + k9) := ⟨_, rfl⟩
  rw [← hz]
  refine lv_bipush (v := jI 21) hx hb dX1_place_0 (by decide) ?_
  refine lv_iload_n hx hb dX1_place_2 rfl (lv_at hl 0 rfl) ?_
  refine lv_iconst (v := jI 4) hx hb dX1_place_3 rfl ?_
  refine x_imul hx hb dX1_place_4 ?_
  refine x_iadd hx hb dX1_place_5 ?_
  refine lv_iload_n hx hb dX1_place_6 rfl (lv_at hl 1 rfl) ?_
  refine x_iadd hx hb dX1_place_7 ?_
  subst hz
  exact xr_i hx hb hr hlocks rfl dX1_place_8
def s_X1_isLocked (f : Nat → Int) : Int := if (f 1) = 0 then 0 else 1
theorem b_X1_isLocked (f : Nat → Int) : (s_X1_isLocked f) = 0 ∨ (s_X1_isLocked f) = 1 := by unfold s_X1_isLocked; (repeat' split) <;> first | exact Or.inl rfl | exact Or.inr rfl
abbrev rm_X1_isLocked : Room := { frames := 0, cells := 0, slots := 0, locals := 0 }
set_option maxHeartbeats 4000000 in
set_option maxRecDepth 100000 in
theorem m_X1_isLocked (l : Launch) (D : va_G) (cI : ClassId) (a : Nat → Nat) (f : Nat → Int) (g : Nat → Int) (n : Nat) (b : Nat → Int) (len : Nat) (kd : Nat → Int) (sg : Nat → Int) (nb : Nat → Int) (pt : Nat) (hrf : rng f) : MetR l yX1_isLocked wsX1_isLocked rm_X1_isLocked D cI [.ref (a 0)] (w1 cI a f g n b len kd sg nb pt) (s_X1_isLocked f) := by
  refine xe_R (cc := cX1_isLocked) (maxL := 1) (ret := (some .boolean)) (by decide) rfl (Nat.le_of_ble_eq_true rfl) ?_
  intro p e s m below meth c hx hb hr hml hts hown hlocks hP hK ls hl
  have hl : lv_has ls 1 [(0, .ref (a 0))] := hl
  have hown : s.vm.findClass RX1 = some m.cls := hown
  have hSx : CallFix p m c cX1_isLocked 1 s ([.ref (a 0)] : List Value).toArray wsX1_isLocked RX1 := ⟨hx, hb, hml, hown, hts⟩
  have inRX1 : ∀ w ∈ u_ws RX1 TX1 6, w ∈ wsX1_isLocked := by decide +kernel
  have qf9 := hts (.fieldLink RX1 9 "VaultMovements" "now" "[I") (by decide +kernel)
  obtain ⟨z, hz⟩ : ∃ z, z = (s_X1_isLocked f) := ⟨_, rfl⟩
  rw [← hz]
  unfold s_X1_isLocked at hz
  refine lv_aload_n hx hb dX1_isLocked_0 rfl (lv_at hl 0 rfl) ?_
  refine va_get (D := D) (ci := 1) (v := .ref (a 1)) (C := RX1) (T := TX1) (N := 6) hx hb hts inRX1 hown hK hP 0 rfl rfl 0 (by decide) qf9 (fun _ h9 => h9) rfl dX1_isLocked_1 ?_
  refine lv_iconst (v := jI 1) hx hb dX1_isLocked_4 rfl ?_
  refine x_iald hx hb hK hP 1 0 rfl rfl 1 rfl (by decide) (by decide) dX1_isLocked_5 ?_
  refine x_if_eq (tgt := 13) hx hb dX1_isLocked_6 (by decide) (hrf _) (fun c6 => ?_) (fun c6 => ?_)
  · rw [if_pos c6] at hz
    refine lv_iconst (v := jI 0) hx hb dX1_isLocked_13 rfl ?_
    subst hz
    exact xr_z hx hb hr hlocks (Or.inl rfl) rfl dX1_isLocked_14
  · rw [if_neg c6] at hz
    refine lv_iconst (v := jI 1) hx hb dX1_isLocked_9 rfl ?_
    refine lv_goto (tgt := 14) hx hb dX1_isLocked_10 (by decide) ?_
    subst hz
    exact xr_z hx hb hr hlocks (Or.inr rfl) rfl dX1_isLocked_14
abbrev rm_X1_today : Room := { frames := 0, cells := 0, slots := 0, locals := 0 }
set_option maxHeartbeats 4000000 in
set_option maxRecDepth 100000 in
theorem m_X1_today (l : Launch) (D : va_G) (cI : ClassId) (a : Nat → Nat) (f : Nat → Int) (g : Nat → Int) (n : Nat) (b : Nat → Int) (len : Nat) (kd : Nat → Int) (sg : Nat → Int) (nb : Nat → Int) (pt : Nat) (hh : 0 ≤ f 0 ∧ f 0 ≤ 99999) : MetR l yX1_today wsX1_today rm_X1_today D cI [.ref (a 0)] (w1 cI a f g n b len kd sg nb pt) (((f 0) / 24) % 7) := by
  refine xe_R (cc := cX1_today) (maxL := 1) (ret := (some .int)) (by decide) rfl (Nat.le_of_ble_eq_true rfl) ?_
  intro p e s m below meth c hx hb hr hml hts hown hlocks hP hK ls hl
  have hl : lv_has ls 1 [(0, .ref (a 0))] := hl
  have hown : s.vm.findClass RX1 = some m.cls := hown
  have hSx : CallFix p m c cX1_today 1 s ([.ref (a 0)] : List Value).toArray wsX1_today RX1 := ⟨hx, hb, hml, hown, hts⟩
  have inRX1 : ∀ w ∈ u_ws RX1 TX1 6, w ∈ wsX1_today := by decide +kernel
  have qf9 := hts (.fieldLink RX1 9 "VaultMovements" "now" "[I") (by decide +kernel)
  obtain ⟨z, hz⟩ : ∃ z, z = (((f 0) / 24) % 7) := ⟨_, rfl⟩
  rw [← hz]
  refine lv_aload_n hx hb dX1_today_0 rfl (lv_at hl 0 rfl) ?_
  refine va_get (D := D) (ci := 1) (v := .ref (a 1)) (C := RX1) (T := TX1) (N := 6) hx hb hts inRX1 hown hK hP 0 rfl rfl 0 (by decide) qf9 (fun _ h9 => h9) rfl dX1_today_1 ?_
  refine lv_iconst (v := jI 0) hx hb dX1_today_4 rfl ?_
  refine x_iald hx hb hK hP 1 0 rfl rfl 0 rfl (by decide) (by decide) dX1_today_5 ?_
  refine lv_bipush (v := jI 24) hx hb dX1_today_6 (by decide) ?_
  refine x_idiv hx hb dX1_today_8 (by omega) ?_
  refine lv_bipush (v := jI 7) hx hb dX1_today_9 (by decide) ?_
  refine x_irem hx hb dX1_today_11 (by omega) ?_
  subst hz
  exact xr_i hx hb hr hlocks rfl dX1_today_12
abbrev rm_X1_timeOfDay : Room := { frames := 0, cells := 0, slots := 0, locals := 0 }
set_option maxHeartbeats 4000000 in
set_option maxRecDepth 100000 in
theorem m_X1_timeOfDay (l : Launch) (D : va_G) (cI : ClassId) (a : Nat → Nat) (f : Nat → Int) (g : Nat → Int) (n : Nat) (b : Nat → Int) (len : Nat) (kd : Nat → Int) (sg : Nat → Int) (nb : Nat → Int) (pt : Nat) (hh : 0 ≤ f 0 ∧ f 0 ≤ 99999) : MetR l yX1_timeOfDay wsX1_timeOfDay rm_X1_timeOfDay D cI [.ref (a 0)] (w1 cI a f g n b len kd sg nb pt) ((f 0) % 24) := by
  refine xe_R (cc := cX1_timeOfDay) (maxL := 1) (ret := (some .int)) (by decide) rfl (Nat.le_of_ble_eq_true rfl) ?_
  intro p e s m below meth c hx hb hr hml hts hown hlocks hP hK ls hl
  have hl : lv_has ls 1 [(0, .ref (a 0))] := hl
  have hown : s.vm.findClass RX1 = some m.cls := hown
  have hSx : CallFix p m c cX1_timeOfDay 1 s ([.ref (a 0)] : List Value).toArray wsX1_timeOfDay RX1 := ⟨hx, hb, hml, hown, hts⟩
  have inRX1 : ∀ w ∈ u_ws RX1 TX1 6, w ∈ wsX1_timeOfDay := by decide +kernel
  have qf9 := hts (.fieldLink RX1 9 "VaultMovements" "now" "[I") (by decide +kernel)
  obtain ⟨z, hz⟩ : ∃ z, z = ((f 0) % 24) := ⟨_, rfl⟩
  rw [← hz]
  refine lv_aload_n hx hb dX1_timeOfDay_0 rfl (lv_at hl 0 rfl) ?_
  refine va_get (D := D) (ci := 1) (v := .ref (a 1)) (C := RX1) (T := TX1) (N := 6) hx hb hts inRX1 hown hK hP 0 rfl rfl 0 (by decide) qf9 (fun _ h9 => h9) rfl dX1_timeOfDay_1 ?_
  refine lv_iconst (v := jI 0) hx hb dX1_timeOfDay_4 rfl ?_
  refine x_iald hx hb hK hP 1 0 rfl rfl 0 rfl (by decide) (by decide) dX1_timeOfDay_5 ?_
  refine lv_bipush (v := jI 24) hx hb dX1_timeOfDay_6 (by decide) ?_
  refine x_irem hx hb dX1_timeOfDay_8 (by omega) ?_
  subst hz
  exact xr_i hx hb hr hlocks rfl dX1_timeOfDay_9
def s_X1_goes (f : Nat → Int) (j : Nat) : Int := if (f ((21 + (j * 4)) + 1)) = 0 then 0 else 1
theorem b_X1_goes (f : Nat → Int) (j : Nat) : (s_X1_goes f j) = 0 ∨ (s_X1_goes f j) = 1 := by unfold s_X1_goes; (repeat' split) <;> first | exact Or.inl rfl | exact Or.inr rfl
abbrev rm_X1_goes : Room := { frames := 1, cells := 0, slots := 0, locals := 21 }
set_option maxHeartbeats 4000000 in
set_option maxRecDepth 100000 in
theorem m_X1_goes (l : Launch) (D : va_G) (cI : ClassId) (a : Nat → Nat) (f : Nat → Int) (g : Nat → Int) (n : Nat) (b : Nat → Int) (len : Nat) (kd : Nat → Int) (sg : Nat → Int) (nb : Nat → Int) (pt : Nat) (j : Nat) (hj : j < 3) (hrf : rng f) : MetR l yX1_goes wsX1_goes rm_X1_goes D cI [.ref (a 0), .int (jI (j : Int))] (w1 cI a f g n b len kd sg nb pt) (s_X1_goes f j) := by
  refine xe_R (cc := cX1_goes) (maxL := 2) (ret := (some .boolean)) (by decide) rfl (Nat.le_of_ble_eq_true rfl) ?_
  intro p e s m below meth c hx hb hr hml hts hown hlocks hP hK ls hl
  have hl : lv_has ls 2 [(0, .ref (a 0)), (1, .int (jI (j : Int)))] := hl
  have hown : s.vm.findClass RX1 = some m.cls := hown
  have hSx : CallFix p m c cX1_goes 2 s ([.ref (a 0), .int (jI (j : Int))] : List Value).toArray wsX1_goes RX1 := ⟨hx, hb, hml, hown, hts⟩
  have inRX1 : ∀ w ∈ u_ws RX1 TX1 6, w ∈ wsX1_goes := by decide +kernel
  have qf9 := hts (.fieldLink RX1 9 "VaultMovements" "now" "[I") (by decide +kernel)
  obtain ⟨z, hz⟩ : ∃ z, z = (s_X1_goes f j) := ⟨_, rfl⟩
  rw [← hz]
  unfold s_X1_goes at hz
  refine lv_aload_n hx hb dX1_goes_0 rfl (lv_at hl 0 rfl) ?_
  refine va_get (D := D) (ci := 1) (v := .ref (a 1)) (C := RX1) (T := TX1) (N := 6) hx hb hts inRX1 hown hK hP 0 rfl rfl 0 (by decide) qf9 (fun _ h9 => h9) rfl dX1_goes_1 ?_
  refine lv_iload_n hx hb dX1_goes_4 rfl (lv_at hl 1 rfl) ?_
  refine lv_iconst (v := jI 1) hx hb dX1_goes_5 rfl ?_
  refine xc_P (As := [.int (jI (j : Int)), .int (jI 1)]) (rest := [.ref (a 1)]) hSx (m_X1_place l (j : Int) 1 ) (va_cwS 2 hts gX1_goes_X1_place rfl rfl rfl (by decide +kernel) ⟨Nat.le_of_ble_eq_true rfl, Nat.le_of_ble_eq_true rfl⟩) rfl hl.1 rfl (Nat.le_of_ble_eq_true rfl) dX1_goes_6 ⟨Nat.zero_le _, Nat.zero_le _⟩ ?_
  refine x_iald hx hb hK hP 1 0 rfl rfl ((21 + (j * 4)) + 1) (by omega) (by omega) (by decide) dX1_goes_9 ?_
  refine x_if_eq (tgt := 17) hx hb dX1_goes_10 (by decide) (hrf _) (fun c10 => ?_) (fun c10 => ?_)
  · rw [if_pos c10] at hz
    refine lv_iconst (v := jI 0) hx hb dX1_goes_17 rfl ?_
    subst hz
    exact xr_z hx hb hr hlocks (Or.inl rfl) rfl dX1_goes_18
  · rw [if_neg c10] at hz
    refine lv_iconst (v := jI 1) hx hb dX1_goes_13 rfl ?_
    refine lv_goto (tgt := 18) hx hb dX1_goes_14 (by decide) ?_
    subst hz
    exact xr_z hx hb hr hlocks (Or.inr rfl) rfl dX1_goes_18
def s_X1_hoursToOpening_lp2 (f : Nat → Int) : Nat → Nat → Int
  | 0, _ => default
  | k + 1, i => if 7 < (i : Int) then (-1) else (if (f (((14 + (((((f 0) / 24) % 7) + (i : Int)) % 7))).toNat)) = (-1) then (s_X1_hoursToOpening_lp2 f k (i + 1)) else (if ((((i : Int) * 24) + (f (((14 + (((((f 0) / 24) % 7) + (i : Int)) % 7))).toNat))) - ((f 0) % 24)) ≤ 0 then (s_X1_hoursToOpening_lp2 f k (i + 1)) else ((((i : Int) * 24) + (f (((14 + (((((f 0) / 24) % 7) + (i : Int)) % 7))).toNat))) - ((f 0) % 24))))
def s_X1_hoursToOpening (f : Nat → Int) : Int := s_X1_hoursToOpening_lp2 f (8 + 1 - 0) 0
abbrev rm_X1_hoursToOpening : Room := { frames := 1, cells := 0, slots := 0, locals := 20 }
set_option maxHeartbeats 4000000 in
set_option maxRecDepth 100000 in
theorem m_X1_hoursToOpening (l : Launch) (D : va_G) (cI : ClassId) (a : Nat → Nat) (f : Nat → Int) (g : Nat → Int) (n : Nat) (b : Nat → Int) (len : Nat) (kd : Nat → Int) (sg : Nat → Int) (nb : Nat → Int) (pt : Nat) (hrf : rng f) (hh : 0 ≤ f 0 ∧ f 0 ≤ 99999) (hd : ∀ k : Nat, 14 ≤ k → k < 21 → -1 ≤ f k ∧ f k ≤ 23) : MetR l yX1_hoursToOpening wsX1_hoursToOpening rm_X1_hoursToOpening D cI [.ref (a 0)] (w1 cI a f g n b len kd sg nb pt) (s_X1_hoursToOpening f) := by
  refine xe_R (cc := cX1_hoursToOpening) (maxL := 4) (ret := (some .int)) (by decide) rfl (Nat.le_of_ble_eq_true rfl) ?_
  intro p e s m below meth c hx hb hr hml hts hown hlocks hP hK ls hl
  have hl : lv_has ls 4 [(0, .ref (a 0))] := hl
  have hown : s.vm.findClass RX1 = some m.cls := hown
  have hSx : CallFix p m c cX1_hoursToOpening 4 s ([.ref (a 0)] : List Value).toArray wsX1_hoursToOpening RX1 := ⟨hx, hb, hml, hown, hts⟩
  have inRX1 : ∀ w ∈ u_ws RX1 TX1 6, w ∈ wsX1_hoursToOpening := by decide +kernel
  have qf9 := hts (.fieldLink RX1 9 "VaultMovements" "now" "[I") (by decide +kernel)
  obtain ⟨z, hz⟩ : ∃ z, z = (s_X1_hoursToOpening f) := ⟨_, rfl⟩
  rw [← hz]
  unfold s_X1_hoursToOpening at hz
  refine lv_iconst (v := jI 0) hx hb dX1_hoursToOpening_0 rfl ?_
  refine lv_istore_n (lv' := [(1, .int (jI 0)), (0, .ref (a 0))]) hx hb dX1_hoursToOpening_1 rfl hl (by decide) rfl (fun ls hl => ?_)
  have LP2 : ∀ (k i : Nat) (ls : Array Slot), i ≤ 8 → i + k = 8 + 1 → z = (s_X1_hoursToOpening_lp2 f) k i → lv_has ls 4 [(0, .ref (a 0)), (1, .int (jI (i : Int)))] → W p l e rm_X1_hoursToOpening s m ([.ref (a 0)] : List Value).toArray below meth c s.heap [] 0 0 (MQ below (vp_Si (fun x => x = jI z)) ([.ref (a 0)] : List Value).toArray s 0 0 (fun _ => False)) (F0 m 2 ls []) := by
    intro k
    induction k with
    | zero => intro i  ls h1 h2; exact absurd h2 (by omega)
    | succ k ih =>
      intro i   ls h1 h2 hz hl
      rw [s_X1_hoursToOpening_lp2] at hz
      refine lv_iload_n hx hb dX1_hoursToOpening_2 rfl (lv_at hl 1 rfl) ?_
      refine lv_bipush (v := jI 7) hx hb dX1_hoursToOpening_3 (by decide) ?_
      refine x_icmp_gt (tgt := 55) hx hb dX1_hoursToOpening_5 (by decide) ⟨(by omega), (by decide)⟩ (fun c5 => ?_) (fun c5 => ?_)
      · rw [if_pos c5] at hz
        refine lv_iconst (v := jI (-1)) hx hb dX1_hoursToOpening_55 rfl ?_
        subst hz
        exact xr_i hx hb hr hlocks rfl dX1_hoursToOpening_56
      · rw [if_neg c5] at hz
        refine lv_aload_n hx hb dX1_hoursToOpening_8 rfl (lv_at hl 0 rfl) ?_
        refine va_get (D := D) (ci := 1) (v := .ref (a 1)) (C := RX1) (T := TX1) (N := 6) hx hb hts inRX1 hown hK hP 0 rfl rfl 0 (by decide) qf9 (fun _ h9 => h9) rfl dX1_hoursToOpening_9 ?_
        refine lv_bipush (v := jI 14) hx hb dX1_hoursToOpening_12 (by decide) ?_
        refine lv_aload_n hx hb dX1_hoursToOpening_14 rfl (lv_at hl 0 rfl) ?_
        refine xc_R (As := []) (rest := [.int (jI 14), .ref (a 1)]) hSx (m_X1_today l D cI a f g n b len kd sg nb pt  (by omega)) (cwV 0 hts gX1_hoursToOpening_X1_today rfl rfl rfl (by decide +kernel) ⟨Nat.le_of_ble_eq_true rfl, Nat.le_of_ble_eq_true rfl⟩) hP hK 0 rfl rfl rfl rfl hl.1 rfl (Nat.le_of_ble_eq_true rfl) dX1_hoursToOpening_15 ⟨Nat.zero_le _, Nat.zero_le _⟩ ?_
        refine lv_iload_n hx hb dX1_hoursToOpening_18 rfl (lv_at hl 1 rfl) ?_
        refine x_iadd hx hb dX1_hoursToOpening_19 ?_
        refine lv_bipush (v := jI 7) hx hb dX1_hoursToOpening_20 (by decide) ?_
        refine x_irem hx hb dX1_hoursToOpening_22 (by omega) ?_
        refine x_iadd hx hb dX1_hoursToOpening_23 ?_
        refine x_iald hx hb hK hP 1 0 rfl rfl (((14 + (((((f 0) / 24) % 7) + (i : Int)) % 7))).toNat) (by omega) (by omega) (by decide) dX1_hoursToOpening_24 ?_
        have hd1 := hd (((14 + (((((f 0) / 24) % 7) + (i : Int)) % 7))).toNat) (by omega) (by omega)
        refine lv_istore_n (lv' := [(2, .int (jI (f (((14 + (((((f 0) / 24) % 7) + (i : Int)) % 7))).toNat)))), (0, .ref (a 0)), (1, .int (jI (i : Int)))]) hx hb dX1_hoursToOpening_25 rfl hl (by decide) rfl (fun ls hl => ?_)
        refine lv_iload_n hx hb dX1_hoursToOpening_26 rfl (lv_at hl 2 rfl) ?_
        refine lv_bipush (v := jI 24) hx hb dX1_hoursToOpening_27 (by decide) ?_
        refine x_imul hx hb dX1_hoursToOpening_29 ?_
        refine lv_iload_n hx hb dX1_hoursToOpening_30 rfl (lv_at hl 0 rfl) ?_
        refine x_iadd hx hb dX1_hoursToOpening_31 ?_
        refine lv_aload_n hx hb dX1_hoursToOpening_32 rfl (lv_at hl 1 rfl) ?_
        refine xc_R (As := []) (rest := [.int (jI (((i : Int) * 24) + (f (((14 + (((((f 0) / 24) % 7) + (i : Int)) % 7))).toNat))))]) hSx (m_X1_timeOfDay l D cI a f g n b len kd sg nb pt  (by omega)) (cwV 0 hts gX1_hoursToOpening_X1_timeOfDay rfl rfl rfl (by decide +kernel) ⟨Nat.le_of_ble_eq_true rfl, Nat.le_of_ble_eq_true rfl⟩) hP hK 0 rfl rfl rfl rfl hl.1 rfl (Nat.le_of_ble_eq_true rfl) dX1_hoursToOpening_33 ⟨Nat.zero_le _, Nat.zero_le _⟩ ?_
        refine x_isub hx hb dX1_hoursToOpening_36 ?_
        refine lv_istore_n (lv' := [(3, .int (jI ((((i : Int) * 24) + (f (((14 + (((((f 0) / 24) % 7) + (i : Int)) % 7))).toNat))) - ((f 0) % 24)))), (2, .int (jI (f (((14 + (((((f 0) / 24) % 7) + (i : Int)) % 7))).toNat)))), (0, .ref (a 0)), (1, .int (jI (i : Int)))]) hx hb dX1_hoursToOpening_37 rfl hl (by decide) rfl (fun ls hl => ?_)
        refine lv_iload_n hx hb dX1_hoursToOpening_38 rfl (lv_at hl 1 rfl) ?_
        refine lv_iconst (v := jI (-1)) hx hb dX1_hoursToOpening_39 rfl ?_
        refine x_icmp_eq (tgt := 49) hx hb dX1_hoursToOpening_40 (by decide) ⟨(hrf _), (by decide)⟩ (fun c40 => ?_) (fun c40 => ?_)
        · rw [if_pos c40] at hz
          refine lv_iinc (v := jI ((i + 1 : Nat) : Int)) (lv' := [(1, .int (jI ((i + 1 : Nat) : Int))), (3, .int (jI ((((i : Int) * 24) + (f (((14 + (((((f 0) / 24) % 7) + (i : Int)) % 7))).toNat))) - ((f 0) % 24)))), (2, .int (jI (f (((14 + (((((f 0) / 24) % 7) + (i : Int)) % 7))).toNat)))), (0, .ref (a 0))]) hx hb dX1_hoursToOpening_49 hl (k := 3) rfl (jI_inc _ 1) (by decide) rfl (fun ls hl => ?_)
          refine lv_goto (tgt := 2) hx hb dX1_hoursToOpening_52 (by decide) ?_
          exact ih (i + 1)  ls (by omega) (by omega) hz (lv_sub hl [3, 0] rfl)
        · rw [if_neg c40] at hz
          refine lv_iload_n hx hb dX1_hoursToOpening_43 rfl (lv_at hl 0 rfl) ?_
          refine x_if_le (tgt := 49) hx hb dX1_hoursToOpening_44 (by decide) (by omega) (fun c44 => ?_) (fun c44 => ?_)
          · rw [if_pos c44] at hz
            refine lv_iinc (v := jI ((i + 1 : Nat) : Int)) (lv' := [(1, .int (jI ((i + 1 : Nat) : Int))), (3, .int (jI ((((i : Int) * 24) + (f (((14 + (((((f 0) / 24) % 7) + (i : Int)) % 7))).toNat))) - ((f 0) % 24)))), (2, .int (jI (f (((14 + (((((f 0) / 24) % 7) + (i : Int)) % 7))).toNat)))), (0, .ref (a 0))]) hx hb dX1_hoursToOpening_49 hl (k := 3) rfl (jI_inc _ 1) (by decide) rfl (fun ls hl => ?_)
            refine lv_goto (tgt := 2) hx hb dX1_hoursToOpening_52 (by decide) ?_
            exact ih (i + 1)  ls (by omega) (by omega) hz (lv_sub hl [3, 0] rfl)
          · rw [if_neg c44] at hz
            refine lv_iload_n hx hb dX1_hoursToOpening_47 rfl (lv_at hl 0 rfl) ?_
            subst hz
            exact xr_i hx hb hr hlocks rfl dX1_hoursToOpening_48
  exact LP2 (8 + 1 - 0) 0  ls (by omega) (by omega) hz (lv_sub hl [1, 0] rfl)
def s_X1_someMovementRuns_lp2 (f : Nat → Int) : Nat → Nat → Int
  | 0, _ => default
  | k + 1, i => if 3 ≤ (i : Int) then 0 else (if (s_X1_goes f i) = 0 then (s_X1_someMovementRuns_lp2 f k (i + 1)) else (if (f ((21 + (i * 4)) + 0)) ≤ 0 then (s_X1_someMovementRuns_lp2 f k (i + 1)) else 1))
theorem b_X1_someMovementRuns_lp2 (f : Nat → Int) : ∀ (k i : Nat), (s_X1_someMovementRuns_lp2 f k i) = 0 ∨ (s_X1_someMovementRuns_lp2 f k i) = 1 := by
  intro k
  induction k with
  | zero => intro i; exact Or.inl rfl
  | succ k ih =>
    intro i
    rw [s_X1_someMovementRuns_lp2]
    (repeat' split) <;> first | exact Or.inl rfl | exact Or.inr rfl | exact ih _ | exact b_X1_goes _ _
def s_X1_someMovementRuns (f : Nat → Int) : Int := s_X1_someMovementRuns_lp2 f (3 + 1 - 0) 0
theorem b_X1_someMovementRuns (f : Nat → Int) : (s_X1_someMovementRuns f) = 0 ∨ (s_X1_someMovementRuns f) = 1 := by unfold s_X1_someMovementRuns; (repeat' split) <;> first | exact Or.inl rfl | exact Or.inr rfl | exact b_X1_goes _ _ | exact b_X1_someMovementRuns_lp2 _ _ _
abbrev rm_X1_someMovementRuns : Room := { frames := 2, cells := 0, slots := 0, locals := 42 }
set_option maxHeartbeats 4000000 in
set_option maxRecDepth 100000 in
theorem m_X1_someMovementRuns (l : Launch) (D : va_G) (cI : ClassId) (a : Nat → Nat) (f : Nat → Int) (g : Nat → Int) (n : Nat) (b : Nat → Int) (len : Nat) (kd : Nat → Int) (sg : Nat → Int) (nb : Nat → Int) (pt : Nat) (hrf : rng f) (hm : mvs f) : MetR l yX1_someMovementRuns wsX1_someMovementRuns rm_X1_someMovementRuns D cI [.ref (a 0)] (w1 cI a f g n b len kd sg nb pt) (s_X1_someMovementRuns f) := by
  refine xe_R (cc := cX1_someMovementRuns) (maxL := 2) (ret := (some .boolean)) (by decide) rfl (Nat.le_of_ble_eq_true rfl) ?_
  intro p e s m below meth c hx hb hr hml hts hown hlocks hP hK ls hl
  have hl : lv_has ls 2 [(0, .ref (a 0))] := hl
  have hown : s.vm.findClass RX1 = some m.cls := hown
  have hSx : CallFix p m c cX1_someMovementRuns 2 s ([.ref (a 0)] : List Value).toArray wsX1_someMovementRuns RX1 := ⟨hx, hb, hml, hown, hts⟩
  have inRX1 : ∀ w ∈ u_ws RX1 TX1 6, w ∈ wsX1_someMovementRuns := by decide +kernel
  have qf9 := hts (.fieldLink RX1 9 "VaultMovements" "now" "[I") (by decide +kernel)
  obtain ⟨z, hz⟩ : ∃ z, z = (s_X1_someMovementRuns f) := ⟨_, rfl⟩
  rw [← hz]
  unfold s_X1_someMovementRuns at hz
  refine lv_iconst (v := jI 0) hx hb dX1_someMovementRuns_0 rfl ?_
  refine lv_istore_n (lv' := [(1, .int (jI 0)), (0, .ref (a 0))]) hx hb dX1_someMovementRuns_1 rfl hl (by decide) rfl (fun ls hl => ?_)
  have LP2 : ∀ (k i : Nat) (ls : Array Slot), i ≤ 3 → i + k = 3 + 1 → z = (s_X1_someMovementRuns_lp2 f) k i → lv_has ls 2 [(0, .ref (a 0)), (1, .int (jI (i : Int)))] → W p l e rm_X1_someMovementRuns s m ([.ref (a 0)] : List Value).toArray below meth c s.heap [] 0 0 (MQ below (vp_Si (fun x => x = jI z)) ([.ref (a 0)] : List Value).toArray s 0 0 (fun _ => False)) (F0 m 2 ls []) := by
    intro k
    induction k with
    | zero => intro i  ls h1 h2; exact absurd h2 (by omega)
    | succ k ih =>
      intro i   ls h1 h2 hz hl
      rw [s_X1_someMovementRuns_lp2] at hz
      refine lv_iload_n hx hb dX1_someMovementRuns_2 rfl (lv_at hl 1 rfl) ?_
      refine lv_iconst (v := jI 3) hx hb dX1_someMovementRuns_3 rfl ?_
      refine x_icmp_ge (tgt := 36) hx hb dX1_someMovementRuns_4 (by decide) ⟨(by omega), (by decide)⟩ (fun c4 => ?_) (fun c4 => ?_)
      · rw [if_pos c4] at hz
        refine lv_iconst (v := jI 0) hx hb dX1_someMovementRuns_36 rfl ?_
        subst hz
        exact xr_z hx hb hr hlocks (Or.inl rfl) rfl dX1_someMovementRuns_37
      · rw [if_neg c4] at hz
        refine lv_aload_n hx hb dX1_someMovementRuns_7 rfl (lv_at hl 0 rfl) ?_
        refine lv_iload_n hx hb dX1_someMovementRuns_8 rfl (lv_at hl 1 rfl) ?_
        refine xc_R (As := [.int (jI (i : Int))]) (rest := []) hSx (m_X1_goes l D cI a f g n b len kd sg nb pt i (by omega) (by omega)) (cwV 1 hts gX1_someMovementRuns_X1_goes rfl rfl rfl (by decide +kernel) ⟨Nat.le_of_ble_eq_true rfl, Nat.le_of_ble_eq_true rfl⟩) hP hK 0 rfl rfl rfl rfl hl.1 rfl (Nat.le_of_ble_eq_true rfl) dX1_someMovementRuns_9 ⟨Nat.zero_le _, Nat.zero_le _⟩ ?_
        refine x_if_eq (tgt := 30) hx hb dX1_someMovementRuns_12 (by decide) (b01 (b_X1_goes f i)) (fun c12 => ?_) (fun c12 => ?_)
        · rw [if_pos c12] at hz
          refine lv_iinc (v := jI ((i + 1 : Nat) : Int)) (lv' := [(1, .int (jI ((i + 1 : Nat) : Int))), (0, .ref (a 0))]) hx hb dX1_someMovementRuns_30 hl (k := 1) rfl (jI_inc _ 1) (by decide) rfl (fun ls hl => ?_)
          refine lv_goto (tgt := 2) hx hb dX1_someMovementRuns_33 (by decide) ?_
          exact ih (i + 1)  ls (by omega) (by omega) hz (lv_sub hl [1, 0] rfl)
        · rw [if_neg c12] at hz
          refine lv_aload_n hx hb dX1_someMovementRuns_15 rfl (lv_at hl 0 rfl) ?_
          refine va_get (D := D) (ci := 1) (v := .ref (a 1)) (C := RX1) (T := TX1) (N := 6) hx hb hts inRX1 hown hK hP 0 rfl rfl 0 (by decide) qf9 (fun _ h9 => h9) rfl dX1_someMovementRuns_16 ?_
          refine lv_iload_n hx hb dX1_someMovementRuns_19 rfl (lv_at hl 1 rfl) ?_
          refine lv_iconst (v := jI 0) hx hb dX1_someMovementRuns_20 rfl ?_
          refine xc_P (As := [.int (jI (i : Int)), .int (jI 0)]) (rest := [.ref (a 1)]) hSx (m_X1_place l (i : Int) 0 ) (va_cwS 2 hts gX1_someMovementRuns_X1_place rfl rfl rfl (by decide +kernel) ⟨Nat.le_of_ble_eq_true rfl, Nat.le_of_ble_eq_true rfl⟩) rfl hl.1 rfl (Nat.le_of_ble_eq_true rfl) dX1_someMovementRuns_21 ⟨Nat.zero_le _, Nat.zero_le _⟩ ?_
          refine x_iald hx hb hK hP 1 0 rfl rfl ((21 + (i * 4)) + 0) (by omega) (by omega) (by decide) dX1_someMovementRuns_24 ?_
          refine x_if_le (tgt := 30) hx hb dX1_someMovementRuns_25 (by decide) (hrf _) (fun c25 => ?_) (fun c25 => ?_)
          · rw [if_pos c25] at hz
            refine lv_iinc (v := jI ((i + 1 : Nat) : Int)) (lv' := [(1, .int (jI ((i + 1 : Nat) : Int))), (0, .ref (a 0))]) hx hb dX1_someMovementRuns_30 hl (k := 1) rfl (jI_inc _ 1) (by decide) rfl (fun ls hl => ?_)
            refine lv_goto (tgt := 2) hx hb dX1_someMovementRuns_33 (by decide) ?_
            exact ih (i + 1)  ls (by omega) (by omega) hz (lv_sub hl [1, 0] rfl)
          · rw [if_neg c25] at hz
            refine lv_iconst (v := jI 1) hx hb dX1_someMovementRuns_28 rfl ?_
            subst hz
            exact xr_z hx hb hr hlocks (Or.inr rfl) rfl dX1_someMovementRuns_29
  exact LP2 (3 + 1 - 0) 0  ls (by omega) (by omega) hz (lv_sub hl [1, 0] rfl)
def s_X1_movementsRunDown_lp4 (f : Nat → Int) : Nat → Nat → Int → Int
  | 0, _, _ => default
  | k + 1, i, v => if 3 ≤ (i : Int) then v else (if (f ((21 + (i * 4)) + 0)) = 0 then (s_X1_movementsRunDown_lp4 f k (i + 1) (v + 1)) else (s_X1_movementsRunDown_lp4 f k (i + 1) v))
def s_X1_movementsRunDown (f : Nat → Int) : Int := s_X1_movementsRunDown_lp4 f (3 + 1 - 0) 0 0
abbrev rm_X1_movementsRunDown : Room := { frames := 1, cells := 0, slots := 0, locals := 21 }
set_option maxHeartbeats 4000000 in
set_option maxRecDepth 100000 in
theorem m_X1_movementsRunDown (l : Launch) (D : va_G) (cI : ClassId) (a : Nat → Nat) (f : Nat → Int) (g : Nat → Int) (n : Nat) (b : Nat → Int) (len : Nat) (kd : Nat → Int) (sg : Nat → Int) (nb : Nat → Int) (pt : Nat) (hrf : rng f) : MetR l yX1_movementsRunDown wsX1_movementsRunDown rm_X1_movementsRunDown D cI [.ref (a 0)] (w1 cI a f g n b len kd sg nb pt) (s_X1_movementsRunDown f) := by
  refine xe_R (cc := cX1_movementsRunDown) (maxL := 3) (ret := (some .int)) (by decide) rfl (Nat.le_of_ble_eq_true rfl) ?_
  intro p e s m below meth c hx hb hr hml hts hown hlocks hP hK ls hl
  have hl : lv_has ls 3 [(0, .ref (a 0))] := hl
  have hown : s.vm.findClass RX1 = some m.cls := hown
  have hSx : CallFix p m c cX1_movementsRunDown 3 s ([.ref (a 0)] : List Value).toArray wsX1_movementsRunDown RX1 := ⟨hx, hb, hml, hown, hts⟩
  have inRX1 : ∀ w ∈ u_ws RX1 TX1 6, w ∈ wsX1_movementsRunDown := by decide +kernel
  have qf9 := hts (.fieldLink RX1 9 "VaultMovements" "now" "[I") (by decide +kernel)
  obtain ⟨z, hz⟩ : ∃ z, z = (s_X1_movementsRunDown f) := ⟨_, rfl⟩
  rw [← hz]
  unfold s_X1_movementsRunDown at hz
  refine lv_iconst (v := jI 0) hx hb dX1_movementsRunDown_0 rfl ?_
  refine lv_istore_n (lv' := [(1, .int (jI 0)), (0, .ref (a 0))]) hx hb dX1_movementsRunDown_1 rfl hl (by decide) rfl (fun ls hl => ?_)
  refine lv_iconst (v := jI 0) hx hb dX1_movementsRunDown_2 rfl ?_
  refine lv_istore_n (lv' := [(2, .int (jI 0)), (1, .int (jI 0)), (0, .ref (a 0))]) hx hb dX1_movementsRunDown_3 rfl hl (by decide) rfl (fun ls hl => ?_)
  have LP4 : ∀ (k i : Nat) (v : Int) (ls : Array Slot), i ≤ 3 → i + k = 3 + 1 → z = (s_X1_movementsRunDown_lp4 f) k i v → lv_has ls 3 [(0, .ref (a 0)), (1, .int (jI v)), (2, .int (jI (i : Int)))] → W p l e rm_X1_movementsRunDown s m ([.ref (a 0)] : List Value).toArray below meth c s.heap [] 0 0 (MQ below (vp_Si (fun x => x = jI z)) ([.ref (a 0)] : List Value).toArray s 0 0 (fun _ => False)) (F0 m 4 ls []) := by
    intro k
    induction k with
    | zero => intro i v ls h1 h2; exact absurd h2 (by omega)
    | succ k ih =>
      intro i v  ls h1 h2 hz hl
      rw [s_X1_movementsRunDown_lp4] at hz
      refine lv_iload_n hx hb dX1_movementsRunDown_4 rfl (lv_at hl 2 rfl) ?_
      refine lv_iconst (v := jI 3) hx hb dX1_movementsRunDown_5 rfl ?_
      refine x_icmp_ge (tgt := 31) hx hb dX1_movementsRunDown_6 (by decide) ⟨(by omega), (by decide)⟩ (fun c6 => ?_) (fun c6 => ?_)
      · rw [if_pos c6] at hz
        refine lv_iload_n hx hb dX1_movementsRunDown_31 rfl (lv_at hl 1 rfl) ?_
        subst hz
        exact xr_i hx hb hr hlocks rfl dX1_movementsRunDown_32
      · rw [if_neg c6] at hz
        refine lv_aload_n hx hb dX1_movementsRunDown_9 rfl (lv_at hl 0 rfl) ?_
        refine va_get (D := D) (ci := 1) (v := .ref (a 1)) (C := RX1) (T := TX1) (N := 6) hx hb hts inRX1 hown hK hP 0 rfl rfl 0 (by decide) qf9 (fun _ h9 => h9) rfl dX1_movementsRunDown_10 ?_
        refine lv_iload_n hx hb dX1_movementsRunDown_13 rfl (lv_at hl 2 rfl) ?_
        refine lv_iconst (v := jI 0) hx hb dX1_movementsRunDown_14 rfl ?_
        refine xc_P (As := [.int (jI (i : Int)), .int (jI 0)]) (rest := [.ref (a 1)]) hSx (m_X1_place l (i : Int) 0 ) (va_cwS 2 hts gX1_movementsRunDown_X1_place rfl rfl rfl (by decide +kernel) ⟨Nat.le_of_ble_eq_true rfl, Nat.le_of_ble_eq_true rfl⟩) rfl hl.1 rfl (Nat.le_of_ble_eq_true rfl) dX1_movementsRunDown_15 ⟨Nat.zero_le _, Nat.zero_le _⟩ ?_
        refine x_iald hx hb hK hP 1 0 rfl rfl ((21 + (i * 4)) + 0) (by omega) (by omega) (by decide) dX1_movementsRunDown_18 ?_
        refine x_if_ne (tgt := 25) hx hb dX1_movementsRunDown_19 (by decide) (hrf _) (fun c19 => ?_) (fun c19 => ?_)
        · rw [if_neg c19] at hz
          refine lv_iinc (v := jI ((i + 1 : Nat) : Int)) (lv' := [(2, .int (jI ((i + 1 : Nat) : Int))), (0, .ref (a 0)), (1, .int (jI v))]) hx hb dX1_movementsRunDown_25 hl (k := 2) rfl (jI_inc _ 1) (by decide) rfl (fun ls hl => ?_)
          refine lv_goto (tgt := 4) hx hb dX1_movementsRunDown_28 (by decide) ?_
          exact ih (i + 1) v ls (by omega) (by omega) hz (lv_sub hl [1, 2, 0] rfl)
        · rw [if_pos c19] at hz
          refine lv_iinc (v := jI (v + 1)) (lv' := [(1, .int (jI (v + 1))), (0, .ref (a 0)), (2, .int (jI (i : Int)))]) hx hb dX1_movementsRunDown_22 hl (k := 1) rfl (jI_add _ 1) (by decide) rfl (fun ls hl => ?_)
          refine lv_iinc (v := jI ((i + 1 : Nat) : Int)) (lv' := [(2, .int (jI ((i + 1 : Nat) : Int))), (1, .int (jI (v + 1))), (0, .ref (a 0))]) hx hb dX1_movementsRunDown_25 hl (k := 2) rfl (jI_inc _ 1) (by decide) rfl (fun ls hl => ?_)
          refine lv_goto (tgt := 4) hx hb dX1_movementsRunDown_28 (by decide) ?_
          exact ih (i + 1) (v + 1) ls (by omega) (by omega) hz (lv_sub hl [2, 1, 0] rfl)
  exact LP4 (3 + 1 - 0) 0 0 ls (by omega) (by omega) hz (lv_sub hl [2, 1, 0] rfl)
abbrev rm_X1_hoursToWait : Room := { frames := 1, cells := 0, slots := 0, locals := 40 }
set_option maxHeartbeats 4000000 in
set_option maxRecDepth 100000 in
theorem m_X1_hoursToWait (l : Launch) (D : va_G) (cI : ClassId) (a : Nat → Nat) (f : Nat → Int) (g : Nat → Int) (n : Nat) (b : Nat → Int) (len : Nat) (kd : Nat → Int) (sg : Nat → Int) (nb : Nat → Int) (pt : Nat) (hh : 0 ≤ f 0 ∧ f 0 ≤ 99999) (hw : 0 ≤ f 4 ∧ f 4 ≤ 100100) : MetR l yX1_hoursToWait wsX1_hoursToWait rm_X1_hoursToWait D cI [.ref (a 0)] (w1 cI a f g n b len kd sg nb pt) (if ((f 4) - (f 0)) < 0 then 0 else ((f 4) - (f 0))) := by
  refine xe_R (cc := cX1_hoursToWait) (maxL := 1) (ret := (some .int)) (by decide) rfl (Nat.le_of_ble_eq_true rfl) ?_
  intro p e s m below meth c hx hb hr hml hts hown hlocks hP hK ls hl
  have hl : lv_has ls 1 [(0, .ref (a 0))] := hl
  have hown : s.vm.findClass RX1 = some m.cls := hown
  have hSx : CallFix p m c cX1_hoursToWait 1 s ([.ref (a 0)] : List Value).toArray wsX1_hoursToWait RX1 := ⟨hx, hb, hml, hown, hts⟩
  have inRX1 : ∀ w ∈ u_ws RX1 TX1 6, w ∈ wsX1_hoursToWait := by decide +kernel
  have qf9 := hts (.fieldLink RX1 9 "VaultMovements" "now" "[I") (by decide +kernel)
  have qm179 := hts (.methodLink RX1 179 Lib.Math.max.name) (by decide +kernel)
  have qmC := hts (.code Lib.Math.max.name Lib.Math.max.code 2 (some .int)) (by decide +kernel)
  have qmI := hts (.initialized "java/lang/Math") (by decide +kernel)
  have qmS := hts (.static Lib.Math.max.name) (by decide +kernel)
  obtain ⟨z, hz⟩ : ∃ z, z = (if ((f 4) - (f 0)) < 0 then 0 else ((f 4) - (f 0))) := ⟨_, rfl⟩
  rw [← hz]
  refine lv_aload_n hx hb dX1_hoursToWait_0 rfl (lv_at hl 0 rfl) ?_
  refine va_get (D := D) (ci := 1) (v := .ref (a 1)) (C := RX1) (T := TX1) (N := 6) hx hb hts inRX1 hown hK hP 0 rfl rfl 0 (by decide) qf9 (fun _ h9 => h9) rfl dX1_hoursToWait_1 ?_
  refine lv_iconst (v := jI 4) hx hb dX1_hoursToWait_4 rfl ?_
  refine x_iald hx hb hK hP 1 0 rfl rfl 4 rfl (by decide) (by decide) dX1_hoursToWait_5 ?_
  refine lv_aload_n hx hb dX1_hoursToWait_6 rfl (lv_at hl 0 rfl) ?_
  refine va_get (D := D) (ci := 1) (v := .ref (a 1)) (C := RX1) (T := TX1) (N := 6) hx hb hts inRX1 hown hK hP 0 rfl rfl 0 (by decide) qf9 (fun _ h9 => h9) rfl dX1_hoursToWait_7 ?_
  refine lv_iconst (v := jI 0) hx hb dX1_hoursToWait_10 rfl ?_
  refine x_iald hx hb hK hP 1 0 rfl rfl 0 rfl (by decide) (by decide) dX1_hoursToWait_11 ?_
  refine x_isub hx hb dX1_hoursToWait_12 ?_
  refine lv_iconst (v := jI 0) hx hb dX1_hoursToWait_13 rfl ?_
  refine x_mmax hx hb (hml.trans hl.1.symm) hown qm179 qmS qmI qmC (Nat.le_of_ble_eq_true rfl) (Nat.le_of_ble_eq_true rfl) (Nat.zero_le _) (Nat.zero_le _) dX1_hoursToWait_14 ⟨(by omega), (by decide)⟩ ?_
  subst hz
  exact xr_i hx hb hr hlocks rfl dX1_hoursToWait_17
def s_X1_latenessAfter (f : Nat → Int) (x0 : Int) : Int := if (f 2) = (-1) then 0 else (((f 0) + x0) - (f 2))
abbrev rm_X1_latenessAfter : Room := { frames := 0, cells := 0, slots := 0, locals := 0 }
set_option maxHeartbeats 4000000 in
set_option maxRecDepth 100000 in
theorem m_X1_latenessAfter (l : Launch) (D : va_G) (cI : ClassId) (a : Nat → Nat) (f : Nat → Int) (g : Nat → Int) (n : Nat) (b : Nat → Int) (len : Nat) (kd : Nat → Int) (sg : Nat → Int) (nb : Nat → Int) (pt : Nat) (x0 : Int) (hrf : rng f) : MetR l yX1_latenessAfter wsX1_latenessAfter rm_X1_latenessAfter D cI [.ref (a 0), .int (jI x0)] (w1 cI a f g n b len kd sg nb pt) (s_X1_latenessAfter f x0) := by
  refine xe_R (cc := cX1_latenessAfter) (maxL := 2) (ret := (some .int)) (by decide) rfl (Nat.le_of_ble_eq_true rfl) ?_
  intro p e s m below meth c hx hb hr hml hts hown hlocks hP hK ls hl
  have hl : lv_has ls 2 [(0, .ref (a 0)), (1, .int (jI x0))] := hl
  have hown : s.vm.findClass RX1 = some m.cls := hown
  have hSx : CallFix p m c cX1_latenessAfter 2 s ([.ref (a 0), .int (jI x0)] : List Value).toArray wsX1_latenessAfter RX1 := ⟨hx, hb, hml, hown, hts⟩
  have inRX1 : ∀ w ∈ u_ws RX1 TX1 6, w ∈ wsX1_latenessAfter := by decide +kernel
  have qf9 := hts (.fieldLink RX1 9 "VaultMovements" "now" "[I") (by decide +kernel)
  obtain ⟨z, hz⟩ : ∃ z, z = (s_X1_latenessAfter f x0) := ⟨_, rfl⟩
  rw [← hz]
  unfold s_X1_latenessAfter at hz
  refine lv_aload_n hx hb dX1_latenessAfter_0 rfl (lv_at hl 0 rfl) ?_
  refine va_get (D := D) (ci := 1) (v := .ref (a 1)) (C := RX1) (T := TX1) (N := 6) hx hb hts inRX1 hown hK hP 0 rfl rfl 0 (by decide) qf9 (fun _ h9 => h9) rfl dX1_latenessAfter_1 ?_
  refine lv_iconst (v := jI 2) hx hb dX1_latenessAfter_4 rfl ?_
  refine x_iald hx hb hK hP 1 0 rfl rfl 2 rfl (by decide) (by decide) dX1_latenessAfter_5 ?_
  refine lv_iconst (v := jI (-1)) hx hb dX1_latenessAfter_6 rfl ?_
  refine x_icmp_ne (tgt := 14) hx hb dX1_latenessAfter_7 (by decide) ⟨(hrf _), (by decide)⟩ (fun c7 => ?_) (fun c7 => ?_)
  · rw [if_neg c7] at hz
    refine lv_aload_n hx hb dX1_latenessAfter_14 rfl (lv_at hl 0 rfl) ?_
    refine va_get (D := D) (ci := 1) (v := .ref (a 1)) (C := RX1) (T := TX1) (N := 6) hx hb hts inRX1 hown hK hP 0 rfl rfl 0 (by decide) qf9 (fun _ h9 => h9) rfl dX1_latenessAfter_15 ?_
    refine lv_iconst (v := jI 0) hx hb dX1_latenessAfter_18 rfl ?_
    refine x_iald hx hb hK hP 1 0 rfl rfl 0 rfl (by decide) (by decide) dX1_latenessAfter_19 ?_
    refine lv_iload_n hx hb dX1_latenessAfter_20 rfl (lv_at hl 1 rfl) ?_
    refine x_iadd hx hb dX1_latenessAfter_21 ?_
    refine lv_aload_n hx hb dX1_latenessAfter_22 rfl (lv_at hl 0 rfl) ?_
    refine va_get (D := D) (ci := 1) (v := .ref (a 1)) (C := RX1) (T := TX1) (N := 6) hx hb hts inRX1 hown hK hP 0 rfl rfl 0 (by decide) qf9 (fun _ h9 => h9) rfl dX1_latenessAfter_23 ?_
    refine lv_iconst (v := jI 2) hx hb dX1_latenessAfter_26 rfl ?_
    refine x_iald hx hb hK hP 1 0 rfl rfl 2 rfl (by decide) (by decide) dX1_latenessAfter_27 ?_
    refine x_isub hx hb dX1_latenessAfter_28 ?_
    subst hz
    exact xr_i hx hb hr hlocks rfl dX1_latenessAfter_29
  · rw [if_pos c7] at hz
    refine lv_iconst (v := jI 0) hx hb dX1_latenessAfter_10 rfl ?_
    refine lv_goto (tgt := 29) hx hb dX1_latenessAfter_11 (by decide) ?_
    subst hz
    exact xr_i hx hb hr hlocks rfl dX1_latenessAfter_29
def s_X1_hoursToRunDown (f : Nat → Int) (j : Nat) (gg : Int) : Int := if (f ((21 + (j * 4)) + 0)) = 0 then 0 else (if gg = 0 then (-1) else (if (f ((21 + (j * 4)) + 2)) = 1 then (-1) else (if 0 < (f ((21 + (j * 4)) + 2)) then ((f ((21 + (j * 4)) + 0)) + (((((f ((21 + (j * 4)) + 3)) % (f ((21 + (j * 4)) + 2))) + (f ((21 + (j * 4)) + 0))) - 1) / ((f ((21 + (j * 4)) + 2)) - 1))) else (f ((21 + (j * 4)) + 0)))))
abbrev rm_X1_hoursToRunDown : Room := { frames := 1, cells := 0, slots := 0, locals := 21 }
set_option maxHeartbeats 4000000 in
set_option maxRecDepth 100000 in
theorem m_X1_hoursToRunDown (l : Launch) (D : va_G) (cI : ClassId) (a : Nat → Nat) (f : Nat → Int) (g : Nat → Int) (n : Nat) (b : Nat → Int) (len : Nat) (kd : Nat → Int) (sg : Nat → Int) (nb : Nat → Int) (pt : Nat) (j : Nat) (gg : Int) (hj : j < 3) (hrf : rng f) (hm : mvs f) (hg : -2147483648 ≤ gg ∧ gg < 2147483648) : MetR l yX1_hoursToRunDown wsX1_hoursToRunDown rm_X1_hoursToRunDown D cI [.ref (a 0), .int (jI (j : Int)), .int (jI gg)] (w1 cI a f g n b len kd sg nb pt) (s_X1_hoursToRunDown f j gg) := by
  refine xe_R (cc := cX1_hoursToRunDown) (maxL := 6) (ret := (some .int)) (by decide) rfl (Nat.le_of_ble_eq_true rfl) ?_
  intro p e s m below meth c hx hb hr hml hts hown hlocks hP hK ls hl
  have hl : lv_has ls 6 [(0, .ref (a 0)), (1, .int (jI (j : Int))), (2, .int (jI gg))] := hl
  have hown : s.vm.findClass RX1 = some m.cls := hown
  have hSx : CallFix p m c cX1_hoursToRunDown 6 s ([.ref (a 0), .int (jI (j : Int)), .int (jI gg)] : List Value).toArray wsX1_hoursToRunDown RX1 := ⟨hx, hb, hml, hown, hts⟩
  have inRX1 : ∀ w ∈ u_ws RX1 TX1 6, w ∈ wsX1_hoursToRunDown := by decide +kernel
  have qf9 := hts (.fieldLink RX1 9 "VaultMovements" "now" "[I") (by decide +kernel)
  have hm1 := hm j hj
  obtain ⟨z, hz⟩ : ∃ z, z = (s_X1_hoursToRunDown f j gg) := ⟨_, rfl⟩
  rw [← hz]
  unfold s_X1_hoursToRunDown at hz
  refine lv_aload_n hx hb dX1_hoursToRunDown_0 rfl (lv_at hl 0 rfl) ?_
  refine va_get (D := D) (ci := 1) (v := .ref (a 1)) (C := RX1) (T := TX1) (N := 6) hx hb hts inRX1 hown hK hP 0 rfl rfl 0 (by decide) qf9 (fun _ h9 => h9) rfl dX1_hoursToRunDown_1 ?_
  refine lv_iload_n hx hb dX1_hoursToRunDown_4 rfl (lv_at hl 1 rfl) ?_
  refine lv_iconst (v := jI 0) hx hb dX1_hoursToRunDown_5 rfl ?_
  refine xc_P (As := [.int (jI (j : Int)), .int (jI 0)]) (rest := [.ref (a 1)]) hSx (m_X1_place l (j : Int) 0 ) (va_cwS 2 hts gX1_hoursToRunDown_X1_place rfl rfl rfl (by decide +kernel) ⟨Nat.le_of_ble_eq_true rfl, Nat.le_of_ble_eq_true rfl⟩) rfl hl.1 rfl (Nat.le_of_ble_eq_true rfl) dX1_hoursToRunDown_6 ⟨Nat.zero_le _, Nat.zero_le _⟩ ?_
  refine x_iald hx hb hK hP 1 0 rfl rfl ((21 + (j * 4)) + 0) (by omega) (by omega) (by decide) dX1_hoursToRunDown_9 ?_
  refine lv_istore_n (lv' := [(3, .int (jI (f ((21 + (j * 4)) + 0)))), (0, .ref (a 0)), (1, .int (jI (j : Int))), (2, .int (jI gg))]) hx hb dX1_hoursToRunDown_10 rfl hl (by decide) rfl (fun ls hl => ?_)
  refine lv_aload_n hx hb dX1_hoursToRunDown_11 rfl (lv_at hl 1 rfl) ?_
  refine va_get (D := D) (ci := 1) (v := .ref (a 1)) (C := RX1) (T := TX1) (N := 6) hx hb hts inRX1 hown hK hP 0 rfl rfl 0 (by decide) qf9 (fun _ h9 => h9) rfl dX1_hoursToRunDown_12 ?_
  refine lv_iload_n hx hb dX1_hoursToRunDown_15 rfl (lv_at hl 2 rfl) ?_
  refine lv_iconst (v := jI 2) hx hb dX1_hoursToRunDown_16 rfl ?_
  refine xc_P (As := [.int (jI (j : Int)), .int (jI 2)]) (rest := [.ref (a 1)]) hSx (m_X1_place l (j : Int) 2 ) (va_cwS 2 hts gX1_hoursToRunDown_X1_place rfl rfl rfl (by decide +kernel) ⟨Nat.le_of_ble_eq_true rfl, Nat.le_of_ble_eq_true rfl⟩) rfl hl.1 rfl (Nat.le_of_ble_eq_true rfl) dX1_hoursToRunDown_17 ⟨Nat.zero_le _, Nat.zero_le _⟩ ?_
  refine x_iald hx hb hK hP 1 0 rfl rfl ((21 + (j * 4)) + 2) (by omega) (by omega) (by decide) dX1_hoursToRunDown_20 ?_
  refine lv_istore (lv' := [(4, .int (jI (f ((21 + (j * 4)) + 2)))), (3, .int (jI (f ((21 + (j * 4)) + 0)))), (0, .ref (a 0)), (1, .int (jI (j : Int))), (2, .int (jI gg))]) hx hb dX1_hoursToRunDown_21 hl (by decide) rfl (fun ls hl => ?_)
  refine lv_iload_n hx hb dX1_hoursToRunDown_23 rfl (lv_at hl 1 rfl) ?_
  refine x_if_ne (tgt := 29) hx hb dX1_hoursToRunDown_24 (by decide) (hrf _) (fun c24 => ?_) (fun c24 => ?_)
  · rw [if_neg c24] at hz
    refine lv_iload_n hx hb dX1_hoursToRunDown_29 rfl (lv_at hl 4 rfl) ?_
    refine x_if_eq (tgt := 39) hx hb dX1_hoursToRunDown_30 (by decide) (by omega) (fun c30 => ?_) (fun c30 => ?_)
    · rw [if_pos c30] at hz
      refine lv_iconst (v := jI (-1)) hx hb dX1_hoursToRunDown_39 rfl ?_
      subst hz
      exact xr_i hx hb hr hlocks rfl dX1_hoursToRunDown_40
    · rw [if_neg c30] at hz
      refine lv_iload hx hb dX1_hoursToRunDown_33 (lv_at hl 0 rfl) ?_
      refine lv_iconst (v := jI 1) hx hb dX1_hoursToRunDown_35 rfl ?_
      refine x_icmp_ne (tgt := 41) hx hb dX1_hoursToRunDown_36 (by decide) ⟨(hrf _), (by decide)⟩ (fun c36 => ?_) (fun c36 => ?_)
      · rw [if_neg c36] at hz
        refine lv_iload hx hb dX1_hoursToRunDown_41 (lv_at hl 0 rfl) ?_
        refine x_if_gt (tgt := 48) hx hb dX1_hoursToRunDown_43 (by decide) (hrf _) (fun c43 => ?_) (fun c43 => ?_)
        · rw [if_pos c43] at hz
          refine lv_aload_n hx hb dX1_hoursToRunDown_48 rfl (lv_at hl 2 rfl) ?_
          refine va_get (D := D) (ci := 1) (v := .ref (a 1)) (C := RX1) (T := TX1) (N := 6) hx hb hts inRX1 hown hK hP 0 rfl rfl 0 (by decide) qf9 (fun _ h9 => h9) rfl dX1_hoursToRunDown_49 ?_
          refine lv_iload_n hx hb dX1_hoursToRunDown_52 rfl (lv_at hl 3 rfl) ?_
          refine lv_iconst (v := jI 3) hx hb dX1_hoursToRunDown_53 rfl ?_
          refine xc_P (As := [.int (jI (j : Int)), .int (jI 3)]) (rest := [.ref (a 1)]) hSx (m_X1_place l (j : Int) 3 ) (va_cwS 2 hts gX1_hoursToRunDown_X1_place rfl rfl rfl (by decide +kernel) ⟨Nat.le_of_ble_eq_true rfl, Nat.le_of_ble_eq_true rfl⟩) rfl hl.1 rfl (Nat.le_of_ble_eq_true rfl) dX1_hoursToRunDown_54 ⟨Nat.zero_le _, Nat.zero_le _⟩ ?_
          refine x_iald hx hb hK hP 1 0 rfl rfl ((21 + (j * 4)) + 3) (by omega) (by omega) (by decide) dX1_hoursToRunDown_57 ?_
          refine lv_iload hx hb dX1_hoursToRunDown_58 (lv_at hl 0 rfl) ?_
          refine x_irem hx hb dX1_hoursToRunDown_60 (by omega) ?_
          have he1 := Int.emod_nonneg ((f ((21 + (j * 4)) + 3))) (show (f ((21 + (j * 4)) + 2)) ≠ 0 by omega)
          have he2 := Int.emod_lt_of_pos ((f ((21 + (j * 4)) + 3))) (show 0 < (f ((21 + (j * 4)) + 2)) by omega)
          refine lv_istore (lv' := [(5, .int (jI ((f ((21 + (j * 4)) + 3)) % (f ((21 + (j * 4)) + 2))))), (4, .int (jI (f ((21 + (j * 4)) + 2)))), (3, .int (jI (f ((21 + (j * 4)) + 0)))), (0, .ref (a 0)), (1, .int (jI (j : Int))), (2, .int (jI gg))]) hx hb dX1_hoursToRunDown_61 hl (by decide) rfl (fun ls hl => ?_)
          refine lv_iload_n hx hb dX1_hoursToRunDown_63 rfl (lv_at hl 2 rfl) ?_
          refine lv_iload hx hb dX1_hoursToRunDown_64 (lv_at hl 0 rfl) ?_
          refine lv_iload_n hx hb dX1_hoursToRunDown_66 rfl (lv_at hl 2 rfl) ?_
          refine x_iadd hx hb dX1_hoursToRunDown_67 ?_
          refine lv_iconst (v := jI 1) hx hb dX1_hoursToRunDown_68 rfl ?_
          refine x_isub hx hb dX1_hoursToRunDown_69 ?_
          refine lv_iload hx hb dX1_hoursToRunDown_70 (lv_at hl 1 rfl) ?_
          refine lv_iconst (v := jI 1) hx hb dX1_hoursToRunDown_72 rfl ?_
          refine x_isub hx hb dX1_hoursToRunDown_73 ?_
          refine x_idiv hx hb dX1_hoursToRunDown_74 (by omega) ?_
          refine x_iadd hx hb dX1_hoursToRunDown_75 ?_
          subst hz
          exact xr_i hx hb hr hlocks rfl dX1_hoursToRunDown_76
        · rw [if_neg c43] at hz
          refine lv_iload_n hx hb dX1_hoursToRunDown_46 rfl (lv_at hl 1 rfl) ?_
          subst hz
          exact xr_i hx hb hr hlocks rfl dX1_hoursToRunDown_47
      · rw [if_pos c36] at hz
        refine lv_iconst (v := jI (-1)) hx hb dX1_hoursToRunDown_39 rfl ?_
        subst hz
        exact xr_i hx hb hr hlocks rfl dX1_hoursToRunDown_40
  · rw [if_pos c24] at hz
    refine lv_iconst (v := jI 0) hx hb dX1_hoursToRunDown_27 rfl ?_
    subst hz
    exact xr_i hx hb hr hlocks rfl dX1_hoursToRunDown_28
theorem r_X1_hoursToRunDown (f : Nat → Int) (j : Nat) (gg : Int) (hj : j < 3) (hm : mvs f) : -1 ≤ s_X1_hoursToRunDown f j gg ∧ s_X1_hoursToRunDown f j gg ≤ 500 := by
  have hm1 := hm j hj
  unfold s_X1_hoursToRunDown
  split
  · omega
  split
  · omega
  split
  · omega
  split
  · have he1 := Int.emod_nonneg (f (21 + j * 4 + 3)) (show f (21 + j * 4 + 2) ≠ 0 by omega)
    have he2 := Int.emod_lt_of_pos (f (21 + j * 4 + 3)) (show 0 < f (21 + j * 4 + 2) by omega)
    have hq := Int.ediv_le_self (f (21 + j * 4 + 2) - 1) (show 0 ≤ f (21 + j * 4 + 3) % f (21 + j * 4 + 2) + f (21 + j * 4 + 0) - 1 by omega)
    have hq2 := Int.ediv_nonneg (show 0 ≤ f (21 + j * 4 + 3) % f (21 + j * 4 + 2) + f (21 + j * 4 + 0) - 1 by omega) (show 0 ≤ f (21 + j * 4 + 2) - 1 by omega)
    omega
  · omega
