/-- what the three rows of the windings hold -/
def wok (kd sg nb : Nat → Int) : Prop := ∀ k : Nat, (0 ≤ kd k ∧ kd k ≤ 3) ∧ (-1 ≤ sg k ∧ sg k ≤ 1) ∧ 0 ≤ nb k ∧ nb k ≤ 200
def s_X0_isPartComplete (kd : Nat → Int) (sg : Nat → Int) (nb : Nat → Int) (pt : Nat) : Int := if (kd pt) = 3 then (if (sg pt) = 0 then 1 else (if (nb pt) ≤ 0 then 0 else 1)) else (if (kd pt) = 0 then 0 else 1)
theorem b_X0_isPartComplete (kd : Nat → Int) (sg : Nat → Int) (nb : Nat → Int) (pt : Nat) : (s_X0_isPartComplete kd sg nb pt) = 0 ∨ (s_X0_isPartComplete kd sg nb pt) = 1 := by unfold s_X0_isPartComplete; (repeat' split) <;> first | exact Or.inl rfl | exact Or.inr rfl
abbrev rm_X0_isPartComplete : Room := { frames := 0, cells := 0, slots := 0, locals := 0 }
set_option maxHeartbeats 4000000 in
set_option maxRecDepth 100000 in
theorem m_X0_isPartComplete (l : Launch) (D : va_G) (cI : ClassId) (a : Nat → Nat) (f : Nat → Int) (g : Nat → Int) (n : Nat) (b : Nat → Int) (len : Nat) (kd : Nat → Int) (sg : Nat → Int) (nb : Nat → Int) (pt : Nat) (hw : wok kd sg nb) (hpt : pt < 3) : MetR l yX0_isPartComplete wsX0_isPartComplete rm_X0_isPartComplete D cI [.ref (a 4)] (w1 cI a f g n b len kd sg nb pt) (s_X0_isPartComplete kd sg nb pt) := by
  refine xe_R (cc := cX0_isPartComplete) (maxL := 1) (ret := (some .boolean)) (by decide) rfl (Nat.le_of_ble_eq_true rfl) ?_
  intro p e s m below meth c hx hb hr hml hts hown hlocks hP hK ls hl
  have hl : lv_has ls 1 [(0, .ref (a 4))] := hl
  have hown : s.vm.findClass RX0 = some m.cls := hown
  have hSx : CallFix p m c cX0_isPartComplete 1 s ([.ref (a 4)] : List Value).toArray wsX0_isPartComplete RX0 := ⟨hx, hb, hml, hown, hts⟩
  have inRX0 : ∀ w ∈ u_ws RX0 TX0 4, w ∈ wsX0_isPartComplete := by decide +kernel
  have qf15 := hts (.fieldLink RX0 15 "VaultMovements$Windings" "signs" "[I") (by decide +kernel)
  have qf18 := hts (.fieldLink RX0 18 "VaultMovements$Windings" "numbers" "[I") (by decide +kernel)
  have qf21 := hts (.fieldLink RX0 21 "VaultMovements$Windings" "part" "I") (by decide +kernel)
  have qf9 := hts (.fieldLink RX0 9 "VaultMovements$Windings" "kinds" "[I") (by decide +kernel)
  have hw9 := hw pt
  obtain ⟨z, hz⟩ : ∃ z, z = (s_X0_isPartComplete kd sg nb pt) := ⟨_, rfl⟩
  rw [← hz]
  unfold s_X0_isPartComplete at hz
  refine lv_aload_n hx hb dX0_isPartComplete_0 rfl (lv_at hl 0 rfl) ?_
  refine va_get (D := D) (ci := 0) (v := .ref (a 5)) (C := RX0) (T := TX0) (N := 4) hx hb hts inRX0 hown hK hP 4 rfl rfl 0 (by decide) qf9 (fun _ h9 => h9) rfl dX0_isPartComplete_1 ?_
  refine lv_aload_n hx hb dX0_isPartComplete_4 rfl (lv_at hl 0 rfl) ?_
  refine va_get (D := D) (ci := 0) (v := .int (jI (pt : Int))) (C := RX0) (T := TX0) (N := 4) hx hb hts inRX0 hown hK hP 4 rfl rfl 3 (by decide) qf21 (fun _ h9 => h9) rfl dX0_isPartComplete_5 ?_
  refine x_iald hx hb hK hP 5 0 rfl rfl pt (by omega) (by omega) (by decide) dX0_isPartComplete_8 ?_
  refine lv_iconst (v := jI 3) hx hb dX0_isPartComplete_9 rfl ?_
  refine x_icmp_ne (tgt := 43) hx hb dX0_isPartComplete_10 (by decide) ⟨(by omega), (by decide)⟩ (fun c10 => ?_) (fun c10 => ?_)
  · rw [if_neg c10] at hz
    refine lv_aload_n hx hb dX0_isPartComplete_43 rfl (lv_at hl 0 rfl) ?_
    refine va_get (D := D) (ci := 0) (v := .ref (a 5)) (C := RX0) (T := TX0) (N := 4) hx hb hts inRX0 hown hK hP 4 rfl rfl 0 (by decide) qf9 (fun _ h9 => h9) rfl dX0_isPartComplete_44 ?_
    refine lv_aload_n hx hb dX0_isPartComplete_47 rfl (lv_at hl 0 rfl) ?_
    refine va_get (D := D) (ci := 0) (v := .int (jI (pt : Int))) (C := RX0) (T := TX0) (N := 4) hx hb hts inRX0 hown hK hP 4 rfl rfl 3 (by decide) qf21 (fun _ h9 => h9) rfl dX0_isPartComplete_48 ?_
    refine x_iald hx hb hK hP 5 0 rfl rfl pt (by omega) (by omega) (by decide) dX0_isPartComplete_51 ?_
    refine x_if_eq (tgt := 59) hx hb dX0_isPartComplete_52 (by decide) (by omega) (fun c52 => ?_) (fun c52 => ?_)
    · rw [if_pos c52] at hz
      refine lv_iconst (v := jI 0) hx hb dX0_isPartComplete_59 rfl ?_
      subst hz
      exact xr_z hx hb hr hlocks (Or.inl rfl) rfl dX0_isPartComplete_60
    · rw [if_neg c52] at hz
      refine lv_iconst (v := jI 1) hx hb dX0_isPartComplete_55 rfl ?_
      refine lv_goto (tgt := 60) hx hb dX0_isPartComplete_56 (by decide) ?_
      subst hz
      exact xr_z hx hb hr hlocks (Or.inr rfl) rfl dX0_isPartComplete_60
  · rw [if_pos c10] at hz
    refine lv_aload_n hx hb dX0_isPartComplete_13 rfl (lv_at hl 0 rfl) ?_
    refine va_get (D := D) (ci := 0) (v := .ref (a 6)) (C := RX0) (T := TX0) (N := 4) hx hb hts inRX0 hown hK hP 4 rfl rfl 1 (by decide) qf15 (fun _ h9 => h9) rfl dX0_isPartComplete_14 ?_
    refine lv_aload_n hx hb dX0_isPartComplete_17 rfl (lv_at hl 0 rfl) ?_
    refine va_get (D := D) (ci := 0) (v := .int (jI (pt : Int))) (C := RX0) (T := TX0) (N := 4) hx hb hts inRX0 hown hK hP 4 rfl rfl 3 (by decide) qf21 (fun _ h9 => h9) rfl dX0_isPartComplete_18 ?_
    refine x_iald hx hb hK hP 6 0 rfl rfl pt (by omega) (by omega) (by decide) dX0_isPartComplete_21 ?_
    refine x_if_eq (tgt := 37) hx hb dX0_isPartComplete_22 (by decide) (by omega) (fun c22 => ?_) (fun c22 => ?_)
    · rw [if_pos c22] at hz
      refine lv_iconst (v := jI 1) hx hb dX0_isPartComplete_37 rfl ?_
      refine lv_goto (tgt := 42) hx hb dX0_isPartComplete_38 (by decide) ?_
      subst hz
      exact xr_z hx hb hr hlocks (Or.inr rfl) rfl dX0_isPartComplete_42
    · rw [if_neg c22] at hz
      refine lv_aload_n hx hb dX0_isPartComplete_25 rfl (lv_at hl 0 rfl) ?_
      refine va_get (D := D) (ci := 0) (v := .ref (a 7)) (C := RX0) (T := TX0) (N := 4) hx hb hts inRX0 hown hK hP 4 rfl rfl 2 (by decide) qf18 (fun _ h9 => h9) rfl dX0_isPartComplete_26 ?_
      refine lv_aload_n hx hb dX0_isPartComplete_29 rfl (lv_at hl 0 rfl) ?_
      refine va_get (D := D) (ci := 0) (v := .int (jI (pt : Int))) (C := RX0) (T := TX0) (N := 4) hx hb hts inRX0 hown hK hP 4 rfl rfl 3 (by decide) qf21 (fun _ h9 => h9) rfl dX0_isPartComplete_30 ?_
      refine x_iald hx hb hK hP 7 0 rfl rfl pt (by omega) (by omega) (by decide) dX0_isPartComplete_33 ?_
      refine x_if_le (tgt := 41) hx hb dX0_isPartComplete_34 (by decide) (by omega) (fun c34 => ?_) (fun c34 => ?_)
      · rw [if_pos c34] at hz
        refine lv_iconst (v := jI 0) hx hb dX0_isPartComplete_41 rfl ?_
        subst hz
        exact xr_z hx hb hr hlocks (Or.inl rfl) rfl dX0_isPartComplete_42
      · rw [if_neg c34] at hz
        refine lv_iconst (v := jI 1) hx hb dX0_isPartComplete_37 rfl ?_
        refine lv_goto (tgt := 42) hx hb dX0_isPartComplete_38 (by decide) ?_
        subst hz
        exact xr_z hx hb hr hlocks (Or.inr rfl) rfl dX0_isPartComplete_42
def s_X0_areComplete (kd : Nat → Int) (sg : Nat → Int) (nb : Nat → Int) (pt : Nat) : Int := if (pt : Int) = 2 then (if (s_X0_isPartComplete kd sg nb pt) = 0 then 0 else 1) else 0
theorem b_X0_areComplete (kd : Nat → Int) (sg : Nat → Int) (nb : Nat → Int) (pt : Nat) : (s_X0_areComplete kd sg nb pt) = 0 ∨ (s_X0_areComplete kd sg nb pt) = 1 := by unfold s_X0_areComplete; (repeat' split) <;> first | exact Or.inl rfl | exact Or.inr rfl | exact b_X0_isPartComplete _ _ _ _
abbrev rm_X0_areComplete : Room := { frames := 1, cells := 0, slots := 0, locals := 20 }
set_option maxHeartbeats 4000000 in
set_option maxRecDepth 100000 in
theorem m_X0_areComplete (l : Launch) (D : va_G) (cI : ClassId) (a : Nat → Nat) (f : Nat → Int) (g : Nat → Int) (n : Nat) (b : Nat → Int) (len : Nat) (kd : Nat → Int) (sg : Nat → Int) (nb : Nat → Int) (pt : Nat) (hw : wok kd sg nb) (hpt : pt < 3) : MetR l yX0_areComplete wsX0_areComplete rm_X0_areComplete D cI [.ref (a 4)] (w1 cI a f g n b len kd sg nb pt) (s_X0_areComplete kd sg nb pt) := by
  refine xe_R (cc := cX0_areComplete) (maxL := 1) (ret := (some .boolean)) (by decide) rfl (Nat.le_of_ble_eq_true rfl) ?_
  intro p e s m below meth c hx hb hr hml hts hown hlocks hP hK ls hl
  have hl : lv_has ls 1 [(0, .ref (a 4))] := hl
  have hown : s.vm.findClass RX0 = some m.cls := hown
  have hSx : CallFix p m c cX0_areComplete 1 s ([.ref (a 4)] : List Value).toArray wsX0_areComplete RX0 := ⟨hx, hb, hml, hown, hts⟩
  have inRX0 : ∀ w ∈ u_ws RX0 TX0 4, w ∈ wsX0_areComplete := by decide +kernel
  have qf21 := hts (.fieldLink RX0 21 "VaultMovements$Windings" "part" "I") (by decide +kernel)
  have hw9 := hw pt
  obtain ⟨z, hz⟩ : ∃ z, z = (s_X0_areComplete kd sg nb pt) := ⟨_, rfl⟩
  rw [← hz]
  unfold s_X0_areComplete at hz
  refine lv_aload_n hx hb dX0_areComplete_0 rfl (lv_at hl 0 rfl) ?_
  refine va_get (D := D) (ci := 0) (v := .int (jI (pt : Int))) (C := RX0) (T := TX0) (N := 4) hx hb hts inRX0 hown hK hP 4 rfl rfl 3 (by decide) qf21 (fun _ h9 => h9) rfl dX0_areComplete_1 ?_
  refine lv_iconst (v := jI 2) hx hb dX0_areComplete_4 rfl ?_
  refine x_icmp_ne (tgt := 19) hx hb dX0_areComplete_5 (by decide) ⟨(by omega), (by decide)⟩ (fun c5 => ?_) (fun c5 => ?_)
  · rw [if_neg c5] at hz
    refine lv_iconst (v := jI 0) hx hb dX0_areComplete_19 rfl ?_
    subst hz
    exact xr_z hx hb hr hlocks (Or.inl rfl) rfl dX0_areComplete_20
  · rw [if_pos c5] at hz
    refine lv_aload_n hx hb dX0_areComplete_8 rfl (lv_at hl 0 rfl) ?_
    refine xc_R (As := []) (rest := []) hSx (m_X0_isPartComplete l D cI a f g n b len kd sg nb pt  (by omega) (by omega)) (cwV 0 hts gX0_areComplete_X0_isPartComplete rfl rfl rfl (by decide +kernel) ⟨Nat.le_of_ble_eq_true rfl, Nat.le_of_ble_eq_true rfl⟩) hP hK 4 rfl rfl rfl rfl hl.1 rfl (Nat.le_of_ble_eq_true rfl) dX0_areComplete_9 ⟨Nat.zero_le _, Nat.zero_le _⟩ ?_
    refine x_if_eq (tgt := 19) hx hb dX0_areComplete_12 (by decide) (b01 (b_X0_isPartComplete kd sg nb pt)) (fun c12 => ?_) (fun c12 => ?_)
    · rw [if_pos c12] at hz
      refine lv_iconst (v := jI 0) hx hb dX0_areComplete_19 rfl ?_
      subst hz
      exact xr_z hx hb hr hlocks (Or.inl rfl) rfl dX0_areComplete_20
    · rw [if_neg c12] at hz
      refine lv_iconst (v := jI 1) hx hb dX0_areComplete_15 rfl ?_
      refine lv_goto (tgt := 20) hx hb dX0_areComplete_16 (by decide) ?_
      subst hz
      exact xr_z hx hb hr hlocks (Or.inr rfl) rfl dX0_areComplete_20
def s_X0_winds (kd : Nat → Int) (j : Nat) : Int := if (kd j) = 1 then 0 else 1
theorem b_X0_winds (kd : Nat → Int) (j : Nat) : (s_X0_winds kd j) = 0 ∨ (s_X0_winds kd j) = 1 := by unfold s_X0_winds; (repeat' split) <;> first | exact Or.inl rfl | exact Or.inr rfl
abbrev rm_X0_winds : Room := { frames := 0, cells := 0, slots := 0, locals := 0 }
set_option maxHeartbeats 4000000 in
set_option maxRecDepth 100000 in
theorem m_X0_winds (l : Launch) (D : va_G) (cI : ClassId) (a : Nat → Nat) (f : Nat → Int) (g : Nat → Int) (n : Nat) (b : Nat → Int) (len : Nat) (kd : Nat → Int) (sg : Nat → Int) (nb : Nat → Int) (pt : Nat) (j : Nat) (hj : j < 3) (hw : wok kd sg nb) : MetR l yX0_winds wsX0_winds rm_X0_winds D cI [.ref (a 4), .int (jI (j : Int))] (w1 cI a f g n b len kd sg nb pt) (s_X0_winds kd j) := by
  refine xe_R (cc := cX0_winds) (maxL := 2) (ret := (some .boolean)) (by decide) rfl (Nat.le_of_ble_eq_true rfl) ?_
  intro p e s m below meth c hx hb hr hml hts hown hlocks hP hK ls hl
  have hl : lv_has ls 2 [(0, .ref (a 4)), (1, .int (jI (j : Int)))] := hl
  have hown : s.vm.findClass RX0 = some m.cls := hown
  have hSx : CallFix p m c cX0_winds 2 s ([.ref (a 4), .int (jI (j : Int))] : List Value).toArray wsX0_winds RX0 := ⟨hx, hb, hml, hown, hts⟩
  have inRX0 : ∀ w ∈ u_ws RX0 TX0 4, w ∈ wsX0_winds := by decide +kernel
  have qf9 := hts (.fieldLink RX0 9 "VaultMovements$Windings" "kinds" "[I") (by decide +kernel)
  have hw9 := hw j
  obtain ⟨z, hz⟩ : ∃ z, z = (s_X0_winds kd j) := ⟨_, rfl⟩
  rw [← hz]
  unfold s_X0_winds at hz
  refine lv_aload_n hx hb dX0_winds_0 rfl (lv_at hl 0 rfl) ?_
  refine va_get (D := D) (ci := 0) (v := .ref (a 5)) (C := RX0) (T := TX0) (N := 4) hx hb hts inRX0 hown hK hP 4 rfl rfl 0 (by decide) qf9 (fun _ h9 => h9) rfl dX0_winds_1 ?_
  refine lv_iload_n hx hb dX0_winds_4 rfl (lv_at hl 1 rfl) ?_
  refine x_iald hx hb hK hP 5 0 rfl rfl j (by omega) (by omega) (by decide) dX0_winds_5 ?_
  refine lv_iconst (v := jI 1) hx hb dX0_winds_6 rfl ?_
  refine x_icmp_eq (tgt := 14) hx hb dX0_winds_7 (by decide) ⟨(by omega), (by decide)⟩ (fun c7 => ?_) (fun c7 => ?_)
  · rw [if_pos c7] at hz
    refine lv_iconst (v := jI 0) hx hb dX0_winds_14 rfl ?_
    subst hz
    exact xr_z hx hb hr hlocks (Or.inl rfl) rfl dX0_winds_15
  · rw [if_neg c7] at hz
    refine lv_iconst (v := jI 1) hx hb dX0_winds_10 rfl ?_
    refine lv_goto (tgt := 15) hx hb dX0_winds_11 (by decide) ?_
    subst hz
    exact xr_z hx hb hr hlocks (Or.inr rfl) rfl dX0_winds_15
def s_X0_hours (kd : Nat → Int) (sg : Nat → Int) (nb : Nat → Int) (j : Nat) (x1 : Int) : Int := if (kd j) = 2 then (nb j) else (if x1 = (-1) then (-1) else (x1 + ((sg j) * (nb j))))
abbrev rm_X0_hours : Room := { frames := 0, cells := 0, slots := 0, locals := 0 }
set_option maxHeartbeats 4000000 in
set_option maxRecDepth 100000 in
theorem m_X0_hours (l : Launch) (D : va_G) (cI : ClassId) (a : Nat → Nat) (f : Nat → Int) (g : Nat → Int) (n : Nat) (b : Nat → Int) (len : Nat) (kd : Nat → Int) (sg : Nat → Int) (nb : Nat → Int) (pt : Nat) (j : Nat) (x1 : Int) (hj : j < 3) (hw : wok kd sg nb) (hx1 : -2147483648 ≤ x1 ∧ x1 < 2147483648) : MetR l yX0_hours wsX0_hours rm_X0_hours D cI [.ref (a 4), .int (jI (j : Int)), .int (jI x1)] (w1 cI a f g n b len kd sg nb pt) (s_X0_hours kd sg nb j x1) := by
  refine xe_R (cc := cX0_hours) (maxL := 3) (ret := (some .int)) (by decide) rfl (Nat.le_of_ble_eq_true rfl) ?_
  intro p e s m below meth c hx hb hr hml hts hown hlocks hP hK ls hl
  have hl : lv_has ls 3 [(0, .ref (a 4)), (1, .int (jI (j : Int))), (2, .int (jI x1))] := hl
  have hown : s.vm.findClass RX0 = some m.cls := hown
  have hSx : CallFix p m c cX0_hours 3 s ([.ref (a 4), .int (jI (j : Int)), .int (jI x1)] : List Value).toArray wsX0_hours RX0 := ⟨hx, hb, hml, hown, hts⟩
  have inRX0 : ∀ w ∈ u_ws RX0 TX0 4, w ∈ wsX0_hours := by decide +kernel
  have qf15 := hts (.fieldLink RX0 15 "VaultMovements$Windings" "signs" "[I") (by decide +kernel)
  have qf18 := hts (.fieldLink RX0 18 "VaultMovements$Windings" "numbers" "[I") (by decide +kernel)
  have qf9 := hts (.fieldLink RX0 9 "VaultMovements$Windings" "kinds" "[I") (by decide +kernel)
  have hw9 := hw j
  obtain ⟨z, hz⟩ : ∃ z, z = (s_X0_hours kd sg nb j x1) := ⟨_, rfl⟩
  rw [← hz]
  unfold s_X0_hours at hz
  refine lv_aload_n hx hb dX0_hours_0 rfl (lv_at hl 0 rfl) ?_
  refine va_get (D := D) (ci := 0) (v := .ref (a 5)) (C := RX0) (T := TX0) (N := 4) hx hb hts inRX0 hown hK hP 4 rfl rfl 0 (by decide) qf9 (fun _ h9 => h9) rfl dX0_hours_1 ?_
  refine lv_iload_n hx hb dX0_hours_4 rfl (lv_at hl 1 rfl) ?_
  refine x_iald hx hb hK hP 5 0 rfl rfl j (by omega) (by omega) (by decide) dX0_hours_5 ?_
  refine lv_iconst (v := jI 2) hx hb dX0_hours_6 rfl ?_
  refine x_icmp_ne (tgt := 17) hx hb dX0_hours_7 (by decide) ⟨(by omega), (by decide)⟩ (fun c7 => ?_) (fun c7 => ?_)
  · rw [if_neg c7] at hz
    refine lv_iload_n hx hb dX0_hours_17 rfl (lv_at hl 2 rfl) ?_
    refine lv_iconst (v := jI (-1)) hx hb dX0_hours_18 rfl ?_
    refine x_icmp_ne (tgt := 26) hx hb dX0_hours_19 (by decide) ⟨(by omega), (by decide)⟩ (fun c19 => ?_) (fun c19 => ?_)
    · rw [if_neg c19] at hz
      refine lv_iload_n hx hb dX0_hours_26 rfl (lv_at hl 2 rfl) ?_
      refine lv_aload_n hx hb dX0_hours_27 rfl (lv_at hl 0 rfl) ?_
      refine va_get (D := D) (ci := 0) (v := .ref (a 6)) (C := RX0) (T := TX0) (N := 4) hx hb hts inRX0 hown hK hP 4 rfl rfl 1 (by decide) qf15 (fun _ h9 => h9) rfl dX0_hours_28 ?_
      refine lv_iload_n hx hb dX0_hours_31 rfl (lv_at hl 1 rfl) ?_
      refine x_iald hx hb hK hP 6 0 rfl rfl j (by omega) (by omega) (by decide) dX0_hours_32 ?_
      refine lv_aload_n hx hb dX0_hours_33 rfl (lv_at hl 0 rfl) ?_
      refine va_get (D := D) (ci := 0) (v := .ref (a 7)) (C := RX0) (T := TX0) (N := 4) hx hb hts inRX0 hown hK hP 4 rfl rfl 2 (by decide) qf18 (fun _ h9 => h9) rfl dX0_hours_34 ?_
      refine lv_iload_n hx hb dX0_hours_37 rfl (lv_at hl 1 rfl) ?_
      refine x_iald hx hb hK hP 7 0 rfl rfl j (by omega) (by omega) (by decide) dX0_hours_38 ?_
      refine x_imul hx hb dX0_hours_39 ?_
      refine x_iadd hx hb dX0_hours_40 ?_
      subst hz
      exact xr_i hx hb hr hlocks rfl dX0_hours_41
    · rw [if_pos c19] at hz
      refine lv_iconst (v := jI (-1)) hx hb dX0_hours_22 rfl ?_
      refine lv_goto (tgt := 41) hx hb dX0_hours_23 (by decide) ?_
      subst hz
      exact xr_i hx hb hr hlocks rfl dX0_hours_41
  · rw [if_pos c7] at hz
    refine lv_aload_n hx hb dX0_hours_10 rfl (lv_at hl 0 rfl) ?_
    refine va_get (D := D) (ci := 0) (v := .ref (a 7)) (C := RX0) (T := TX0) (N := 4) hx hb hts inRX0 hown hK hP 4 rfl rfl 2 (by decide) qf18 (fun _ h9 => h9) rfl dX0_hours_11 ?_
    refine lv_iload_n hx hb dX0_hours_14 rfl (lv_at hl 1 rfl) ?_
    refine x_iald hx hb hK hP 7 0 rfl rfl j (by omega) (by omega) (by decide) dX0_hours_15 ?_
    subst hz
    exact xr_i hx hb hr hlocks rfl dX0_hours_16
def s_X0_takeComma (kd : Nat → Int) (sg : Nat → Int) (nb : Nat → Int) (pt : Nat) : Int × Nat := if 2 ≤ (pt : Int) then (0, pt) else (if (s_X0_isPartComplete kd sg nb pt) = 0 then (0, pt) else (1, (pt + 1)))
theorem b_X0_takeComma (kd : Nat → Int) (sg : Nat → Int) (nb : Nat → Int) (pt : Nat) : (s_X0_takeComma kd sg nb pt).1 = 0 ∨ (s_X0_takeComma kd sg nb pt).1 = 1 := by unfold s_X0_takeComma; (repeat' split) <;> first | exact Or.inl rfl | exact Or.inr rfl | exact b_X0_isPartComplete _ _ _ _
abbrev rm_X0_takeComma : Room := { frames := 1, cells := 0, slots := 0, locals := 20 }
set_option maxHeartbeats 4000000 in
set_option maxRecDepth 100000 in
theorem m_X0_takeComma (l : Launch) (D : va_G) (cI : ClassId) (a : Nat → Nat) (f : Nat → Int) (g : Nat → Int) (n : Nat) (b : Nat → Int) (len : Nat) (kd : Nat → Int) (sg : Nat → Int) (nb : Nat → Int) (pt : Nat) (hw : wok kd sg nb) (hpt : pt < 3) : MetI l yX0_takeComma wsX0_takeComma rm_X0_takeComma D cI [.ref (a 4)] (w1 cI a f g n b len kd sg nb pt) (w1 cI a f g n b len kd sg nb ((s_X0_takeComma kd sg nb pt).2)) ((s_X0_takeComma kd sg nb pt).1) := by
  refine xe_I (cc := cX0_takeComma) (maxL := 1) (ret := (some .boolean)) (by decide) rfl (Nat.le_of_ble_eq_true rfl) ?_
  intro p e s m below meth c hx hb hr hml hts hown hlocks hP hK A hA hD hS ls hl
  have hl : lv_has ls 1 [(0, .ref (a 4))] := hl
  have hown : s.vm.findClass RX0 = some m.cls := hown
  have hSx : CallFix p m c cX0_takeComma 1 s ([.ref (a 4)] : List Value).toArray wsX0_takeComma RX0 := ⟨hx, hb, hml, hown, hts⟩
  have inRX0 : ∀ w ∈ u_ws RX0 TX0 4, w ∈ wsX0_takeComma := by decide +kernel
  have qf21 := hts (.fieldLink RX0 21 "VaultMovements$Windings" "part" "I") (by decide +kernel)
  have hw9 := hw pt
  obtain ⟨z, hz⟩ : ∃ z, z = (s_X0_takeComma kd sg nb pt) := ⟨_, rfl⟩
  rw [← hz]
  unfold s_X0_takeComma at hz
  refine lv_aload_n hx hb dX0_takeComma_0 rfl (lv_at hl 0 rfl) ?_
  refine va_get (D := D) (ci := 0) (v := .int (jI (pt : Int))) (C := RX0) (T := TX0) (N := 4) hx hb hts inRX0 hown hK hP 4 rfl rfl 3 (by decide) qf21 (fun _ h9 => h9) rfl dX0_takeComma_1 ?_
  refine lv_iconst (v := jI 2) hx hb dX0_takeComma_4 rfl ?_
  refine x_icmp_ge (tgt := 15) hx hb dX0_takeComma_5 (by decide) ⟨(by omega), (by decide)⟩ (fun c5 => ?_) (fun c5 => ?_)
  · rw [if_pos c5] at hz
    refine lv_iconst (v := jI 0) hx hb dX0_takeComma_15 rfl ?_
    subst hz
    exact xi_z hx hb hr hlocks (Or.inl rfl) hK hP hD hS rfl rfl dX0_takeComma_16
  · rw [if_neg c5] at hz
    refine lv_aload_n hx hb dX0_takeComma_8 rfl (lv_at hl 0 rfl) ?_
    refine xc_R (As := []) (rest := []) hSx (m_X0_isPartComplete l D cI a f g n b len kd sg nb pt  (by omega) (by omega)) (cwV 0 hts gX0_takeComma_X0_isPartComplete rfl rfl rfl (by decide +kernel) ⟨Nat.le_of_ble_eq_true rfl, Nat.le_of_ble_eq_true rfl⟩) hP hK 4 rfl rfl rfl rfl hl.1 rfl (Nat.le_of_ble_eq_true rfl) dX0_takeComma_9 ⟨Nat.zero_le _, Nat.zero_le _⟩ ?_
    refine x_if_ne (tgt := 17) hx hb dX0_takeComma_12 (by decide) (b01 (b_X0_isPartComplete kd sg nb pt)) (fun c12 => ?_) (fun c12 => ?_)
    · rw [if_neg c12] at hz
      refine lv_aload_n hx hb dX0_takeComma_17 rfl (lv_at hl 0 rfl) ?_
      refine lv_dup hx hb dX0_takeComma_18 rfl ?_
      refine va_get (D := D) (ci := 0) (v := .int (jI (pt : Int))) (C := RX0) (T := TX0) (N := 4) hx hb hts inRX0 hown hK hP 4 rfl rfl 3 (by decide) qf21 (fun _ h9 => h9) rfl dX0_takeComma_19 ?_
      refine lv_iconst (v := jI 1) hx hb dX0_takeComma_22 rfl ?_
      refine x_iadd hx hb dX0_takeComma_23 ?_
      refine va_put (D := D) (ci := 0) (v := .int (jI ((pt : Int) + 1))) (ty := .int) (C := RX0) (T := TX0) (N := 4) hx hb hts inRX0 tyX0 tyX0_ok nmX0 hown hK hP hD hS 4 rfl rfl 3 (by decide) qf21 (fun _ h9 => h9) rfl (by decide +kernel) rfl rfl (Nat.le_of_ble_eq_true rfl) dX0_takeComma_24 (fun H locs hP hD hS => ?_)
      have hP : va_P D vwCl (w1 cI a f g n b len kd sg nb (pt + 1)) H := hP
      have hD : va_D A (w1 cI a f g n b len kd sg nb (pt + 1)) := hD
      refine lv_iconst (v := jI 1) hx hb dX0_takeComma_27 rfl ?_
      subst hz
      exact xi_z hx hb hr hlocks (Or.inr rfl) hK hP hD hS rfl rfl dX0_takeComma_28
    · rw [if_pos c12] at hz
      refine lv_iconst (v := jI 0) hx hb dX0_takeComma_15 rfl ?_
      subst hz
      exact xi_z hx hb hr hlocks (Or.inl rfl) hK hP hD hS rfl rfl dX0_takeComma_16
def s_X0_takeFirst (kd : Nat → Int) (nb : Nat → Int) (pt : Nat) (x0 : Int) : Int × (Nat → Int) × (Nat → Int) := if x0 = 45 then (1, (upz kd pt 1), nb) else (if x0 = 110 then (1, (upz kd pt 3), nb) else (if x0 < 49 then (0, kd, nb) else (if 57 < x0 then (0, kd, nb) else (1, (upz kd pt 2), (upz nb pt (x0 - 48))))))
theorem b_X0_takeFirst (kd : Nat → Int) (nb : Nat → Int) (pt : Nat) (x0 : Int) : (s_X0_takeFirst kd nb pt x0).1 = 0 ∨ (s_X0_takeFirst kd nb pt x0).1 = 1 := by unfold s_X0_takeFirst; (repeat' split) <;> first | exact Or.inl rfl | exact Or.inr rfl
abbrev rm_X0_takeFirst : Room := { frames := 0, cells := 0, slots := 0, locals := 0 }
set_option maxHeartbeats 4000000 in
set_option maxRecDepth 100000 in
theorem m_X0_takeFirst (l : Launch) (D : va_G) (cI : ClassId) (a : Nat → Nat) (f : Nat → Int) (g : Nat → Int) (n : Nat) (b : Nat → Int) (len : Nat) (kd : Nat → Int) (sg : Nat → Int) (nb : Nat → Int) (pt : Nat) (x0 : Int) (hpt : pt < 3) (hx0 : 33 ≤ x0 ∧ x0 ≤ 126) : MetI l yX0_takeFirst wsX0_takeFirst rm_X0_takeFirst D cI [.ref (a 4), .int (jI x0)] (w1 cI a f g n b len kd sg nb pt) (w1 cI a f g n b len ((s_X0_takeFirst kd nb pt x0).2.1) sg ((s_X0_takeFirst kd nb pt x0).2.2) pt) ((s_X0_takeFirst kd nb pt x0).1) := by
  refine xe_I (cc := cX0_takeFirst) (maxL := 2) (ret := (some .boolean)) (by decide) rfl (Nat.le_of_ble_eq_true rfl) ?_
  intro p e s m below meth c hx hb hr hml hts hown hlocks hP hK A hA hD hS ls hl
  have hl : lv_has ls 2 [(0, .ref (a 4)), (1, .int (jI x0))] := hl
  have hown : s.vm.findClass RX0 = some m.cls := hown
  have hSx : CallFix p m c cX0_takeFirst 2 s ([.ref (a 4), .int (jI x0)] : List Value).toArray wsX0_takeFirst RX0 := ⟨hx, hb, hml, hown, hts⟩
  have inRX0 : ∀ w ∈ u_ws RX0 TX0 4, w ∈ wsX0_takeFirst := by decide +kernel
  have qf18 := hts (.fieldLink RX0 18 "VaultMovements$Windings" "numbers" "[I") (by decide +kernel)
  have qf21 := hts (.fieldLink RX0 21 "VaultMovements$Windings" "part" "I") (by decide +kernel)
  have qf9 := hts (.fieldLink RX0 9 "VaultMovements$Windings" "kinds" "[I") (by decide +kernel)
  obtain ⟨z, hz⟩ : ∃ z, z = (s_X0_takeFirst kd nb pt x0) := ⟨_, rfl⟩
  rw [← hz]
  unfold s_X0_takeFirst at hz
  refine lv_iload_n hx hb dX0_takeFirst_0 rfl (lv_at hl 1 rfl) ?_
  refine lv_bipush (v := jI 45) hx hb dX0_takeFirst_1 (by decide) ?_
  refine x_icmp_ne (tgt := 19) hx hb dX0_takeFirst_3 (by decide) ⟨(by omega), (by decide)⟩ (fun c3 => ?_) (fun c3 => ?_)
  · rw [if_neg c3] at hz
    refine lv_iload_n hx hb dX0_takeFirst_19 rfl (lv_at hl 1 rfl) ?_
    refine lv_bipush (v := jI 110) hx hb dX0_takeFirst_20 (by decide) ?_
    refine x_icmp_ne (tgt := 38) hx hb dX0_takeFirst_22 (by decide) ⟨(by omega), (by decide)⟩ (fun c22 => ?_) (fun c22 => ?_)
    · rw [if_neg c22] at hz
      refine lv_iload_n hx hb dX0_takeFirst_38 rfl (lv_at hl 1 rfl) ?_
      refine lv_bipush (v := jI 49) hx hb dX0_takeFirst_39 (by decide) ?_
      refine x_icmp_lt (tgt := 76) hx hb dX0_takeFirst_41 (by decide) ⟨(by omega), (by decide)⟩ (fun c41 => ?_) (fun c41 => ?_)
      · rw [if_pos c41] at hz
        refine lv_iconst (v := jI 0) hx hb dX0_takeFirst_76 rfl ?_
        subst hz
        exact xi_z hx hb hr hlocks (Or.inl rfl) hK hP hD hS rfl rfl dX0_takeFirst_77
      · rw [if_neg c41] at hz
        refine lv_iload_n hx hb dX0_takeFirst_44 rfl (lv_at hl 1 rfl) ?_
        refine lv_bipush (v := jI 57) hx hb dX0_takeFirst_45 (by decide) ?_
        refine x_icmp_gt (tgt := 76) hx hb dX0_takeFirst_47 (by decide) ⟨(by omega), (by decide)⟩ (fun c47 => ?_) (fun c47 => ?_)
        · rw [if_pos c47] at hz
          refine lv_iconst (v := jI 0) hx hb dX0_takeFirst_76 rfl ?_
          subst hz
          exact xi_z hx hb hr hlocks (Or.inl rfl) hK hP hD hS rfl rfl dX0_takeFirst_77
        · rw [if_neg c47] at hz
          refine lv_aload_n hx hb dX0_takeFirst_50 rfl (lv_at hl 0 rfl) ?_
          refine va_get (D := D) (ci := 0) (v := .ref (a 5)) (C := RX0) (T := TX0) (N := 4) hx hb hts inRX0 hown hK hP 4 rfl rfl 0 (by decide) qf9 (fun _ h9 => h9) rfl dX0_takeFirst_51 ?_
          refine lv_aload_n hx hb dX0_takeFirst_54 rfl (lv_at hl 0 rfl) ?_
          refine va_get (D := D) (ci := 0) (v := .int (jI (pt : Int))) (C := RX0) (T := TX0) (N := 4) hx hb hts inRX0 hown hK hP 4 rfl rfl 3 (by decide) qf21 (fun _ h9 => h9) rfl dX0_takeFirst_55 ?_
          refine lv_iconst (v := jI 2) hx hb dX0_takeFirst_58 rfl ?_
          refine x_iast (w1 := (w1 cI a f g n b len (upz kd pt 2) sg nb pt)) hx hb hK hP hD hS 5 0 rfl rfl pt (by omega) (by omega) (by decide) dX0_takeFirst_59 rfl (fun H locs hP hD hS => ?_)
          refine lv_aload_n hx hb dX0_takeFirst_60 rfl (lv_at hl 0 rfl) ?_
          refine va_get (D := D) (ci := 0) (v := .ref (a 7)) (C := RX0) (T := TX0) (N := 4) hx hb hts inRX0 hown hK hP 4 rfl rfl 2 (by decide) qf18 (fun _ h9 => h9) rfl dX0_takeFirst_61 ?_
          refine lv_aload_n hx hb dX0_takeFirst_64 rfl (lv_at hl 0 rfl) ?_
          refine va_get (D := D) (ci := 0) (v := .int (jI (pt : Int))) (C := RX0) (T := TX0) (N := 4) hx hb hts inRX0 hown hK hP 4 rfl rfl 3 (by decide) qf21 (fun _ h9 => h9) rfl dX0_takeFirst_65 ?_
          refine lv_iload_n hx hb dX0_takeFirst_68 rfl (lv_at hl 1 rfl) ?_
          refine lv_bipush (v := jI 48) hx hb dX0_takeFirst_69 (by decide) ?_
          refine x_isub hx hb dX0_takeFirst_71 ?_
          refine x_iast (w1 := (w1 cI a f g n b len (upz kd pt 2) sg (upz nb pt (x0 - 48)) pt)) hx hb hK hP hD hS 7 0 rfl rfl pt (by omega) (by omega) (by decide) dX0_takeFirst_72 rfl (fun H locs hP hD hS => ?_)
          refine lv_goto (tgt := 78) hx hb dX0_takeFirst_73 (by decide) ?_
          refine lv_iconst (v := jI 1) hx hb dX0_takeFirst_78 rfl ?_
          subst hz
          exact xi_z hx hb hr hlocks (Or.inr rfl) hK hP hD hS rfl rfl dX0_takeFirst_79
    · rw [if_pos c22] at hz
      refine lv_aload_n hx hb dX0_takeFirst_25 rfl (lv_at hl 0 rfl) ?_
      refine va_get (D := D) (ci := 0) (v := .ref (a 5)) (C := RX0) (T := TX0) (N := 4) hx hb hts inRX0 hown hK hP 4 rfl rfl 0 (by decide) qf9 (fun _ h9 => h9) rfl dX0_takeFirst_26 ?_
      refine lv_aload_n hx hb dX0_takeFirst_29 rfl (lv_at hl 0 rfl) ?_
      refine va_get (D := D) (ci := 0) (v := .int (jI (pt : Int))) (C := RX0) (T := TX0) (N := 4) hx hb hts inRX0 hown hK hP 4 rfl rfl 3 (by decide) qf21 (fun _ h9 => h9) rfl dX0_takeFirst_30 ?_
      refine lv_iconst (v := jI 3) hx hb dX0_takeFirst_33 rfl ?_
      refine x_iast (w1 := (w1 cI a f g n b len (upz kd pt 3) sg nb pt)) hx hb hK hP hD hS 5 0 rfl rfl pt (by omega) (by omega) (by decide) dX0_takeFirst_34 rfl (fun H locs hP hD hS => ?_)
      refine lv_goto (tgt := 78) hx hb dX0_takeFirst_35 (by decide) ?_
      refine lv_iconst (v := jI 1) hx hb dX0_takeFirst_78 rfl ?_
      subst hz
      exact xi_z hx hb hr hlocks (Or.inr rfl) hK hP hD hS rfl rfl dX0_takeFirst_79
  · rw [if_pos c3] at hz
    refine lv_aload_n hx hb dX0_takeFirst_6 rfl (lv_at hl 0 rfl) ?_
    refine va_get (D := D) (ci := 0) (v := .ref (a 5)) (C := RX0) (T := TX0) (N := 4) hx hb hts inRX0 hown hK hP 4 rfl rfl 0 (by decide) qf9 (fun _ h9 => h9) rfl dX0_takeFirst_7 ?_
    refine lv_aload_n hx hb dX0_takeFirst_10 rfl (lv_at hl 0 rfl) ?_
    refine va_get (D := D) (ci := 0) (v := .int (jI (pt : Int))) (C := RX0) (T := TX0) (N := 4) hx hb hts inRX0 hown hK hP 4 rfl rfl 3 (by decide) qf21 (fun _ h9 => h9) rfl dX0_takeFirst_11 ?_
    refine lv_iconst (v := jI 1) hx hb dX0_takeFirst_14 rfl ?_
    refine x_iast (w1 := (w1 cI a f g n b len (upz kd pt 1) sg nb pt)) hx hb hK hP hD hS 5 0 rfl rfl pt (by omega) (by omega) (by decide) dX0_takeFirst_15 rfl (fun H locs hP hD hS => ?_)
    refine lv_goto (tgt := 78) hx hb dX0_takeFirst_16 (by decide) ?_
    refine lv_iconst (v := jI 1) hx hb dX0_takeFirst_78 rfl ?_
    subst hz
    exact xi_z hx hb hr hlocks (Or.inr rfl) hK hP hD hS rfl rfl dX0_takeFirst_79
def s_X0_takeNextDigit (nb : Nat → Int) (pt : Nat) (x0 : Int) : Int × (Nat → Int) := if x0 < 48 then (0, nb) else (if 57 < x0 then (0, nb) else (if ((((nb pt) * 10) + x0) - 48) ≤ 200 then (1, (upz nb pt ((((nb pt) * 10) + x0) - 48))) else (0, nb)))
theorem b_X0_takeNextDigit (nb : Nat → Int) (pt : Nat) (x0 : Int) : (s_X0_takeNextDigit nb pt x0).1 = 0 ∨ (s_X0_takeNextDigit nb pt x0).1 = 1 := by unfold s_X0_takeNextDigit; (repeat' split) <;> first | exact Or.inl rfl | exact Or.inr rfl
abbrev rm_X0_takeNextDigit : Room := { frames := 0, cells := 0, slots := 0, locals := 0 }
set_option maxHeartbeats 4000000 in
set_option maxRecDepth 100000 in
theorem m_X0_takeNextDigit (l : Launch) (D : va_G) (cI : ClassId) (a : Nat → Nat) (f : Nat → Int) (g : Nat → Int) (n : Nat) (b : Nat → Int) (len : Nat) (kd : Nat → Int) (sg : Nat → Int) (nb : Nat → Int) (pt : Nat) (x0 : Int) (hw : wok kd sg nb) (hpt : pt < 3) (hx0 : 33 ≤ x0 ∧ x0 ≤ 126) : MetI l yX0_takeNextDigit wsX0_takeNextDigit rm_X0_takeNextDigit D cI [.ref (a 4), .int (jI x0)] (w1 cI a f g n b len kd sg nb pt) (w1 cI a f g n b len kd sg ((s_X0_takeNextDigit nb pt x0).2) pt) ((s_X0_takeNextDigit nb pt x0).1) := by
  refine xe_I (cc := cX0_takeNextDigit) (maxL := 3) (ret := (some .boolean)) (by decide) rfl (Nat.le_of_ble_eq_true rfl) ?_
  intro p e s m below meth c hx hb hr hml hts hown hlocks hP hK A hA hD hS ls hl
  have hl : lv_has ls 3 [(0, .ref (a 4)), (1, .int (jI x0))] := hl
  have hown : s.vm.findClass RX0 = some m.cls := hown
  have hSx : CallFix p m c cX0_takeNextDigit 3 s ([.ref (a 4), .int (jI x0)] : List Value).toArray wsX0_takeNextDigit RX0 := ⟨hx, hb, hml, hown, hts⟩
  have inRX0 : ∀ w ∈ u_ws RX0 TX0 4, w ∈ wsX0_takeNextDigit := by decide +kernel
  have qf18 := hts (.fieldLink RX0 18 "VaultMovements$Windings" "numbers" "[I") (by decide +kernel)
  have qf21 := hts (.fieldLink RX0 21 "VaultMovements$Windings" "part" "I") (by decide +kernel)
  have hw9 := hw pt
  obtain ⟨z, hz⟩ : ∃ z, z = (s_X0_takeNextDigit nb pt x0) := ⟨_, rfl⟩
  rw [← hz]
  unfold s_X0_takeNextDigit at hz
  refine lv_aload_n hx hb dX0_takeNextDigit_0 rfl (lv_at hl 0 rfl) ?_
  refine va_get (D := D) (ci := 0) (v := .ref (a 7)) (C := RX0) (T := TX0) (N := 4) hx hb hts inRX0 hown hK hP 4 rfl rfl 2 (by decide) qf18 (fun _ h9 => h9) rfl dX0_takeNextDigit_1 ?_
  refine lv_aload_n hx hb dX0_takeNextDigit_4 rfl (lv_at hl 0 rfl) ?_
  refine va_get (D := D) (ci := 0) (v := .int (jI (pt : Int))) (C := RX0) (T := TX0) (N := 4) hx hb hts inRX0 hown hK hP 4 rfl rfl 3 (by decide) qf21 (fun _ h9 => h9) rfl dX0_takeNextDigit_5 ?_
  refine x_iald hx hb hK hP 7 0 rfl rfl pt (by omega) (by omega) (by decide) dX0_takeNextDigit_8 ?_
  refine lv_bipush (v := jI 10) hx hb dX0_takeNextDigit_9 (by decide) ?_
  refine x_imul hx hb dX0_takeNextDigit_11 ?_
  refine lv_iload_n hx hb dX0_takeNextDigit_12 rfl (lv_at hl 1 rfl) ?_
  refine x_iadd hx hb dX0_takeNextDigit_13 ?_
  refine lv_bipush (v := jI 48) hx hb dX0_takeNextDigit_14 (by decide) ?_
  refine x_isub hx hb dX0_takeNextDigit_16 ?_
  refine lv_istore_n (lv' := [(2, .int (jI ((((nb pt) * 10) + x0) - 48))), (0, .ref (a 4)), (1, .int (jI x0))]) hx hb dX0_takeNextDigit_17 rfl hl (by decide) rfl (fun ls hl => ?_)
  refine lv_iload_n hx hb dX0_takeNextDigit_18 rfl (lv_at hl 2 rfl) ?_
  refine lv_bipush (v := jI 48) hx hb dX0_takeNextDigit_19 (by decide) ?_
  refine x_icmp_lt (tgt := 37) hx hb dX0_takeNextDigit_21 (by decide) ⟨(by omega), (by decide)⟩ (fun c21 => ?_) (fun c21 => ?_)
  · rw [if_pos c21] at hz
    refine lv_iconst (v := jI 0) hx hb dX0_takeNextDigit_37 rfl ?_
    subst hz
    exact xi_z hx hb hr hlocks (Or.inl rfl) hK hP hD hS rfl rfl dX0_takeNextDigit_38
  · rw [if_neg c21] at hz
    refine lv_iload_n hx hb dX0_takeNextDigit_24 rfl (lv_at hl 2 rfl) ?_
    refine lv_bipush (v := jI 57) hx hb dX0_takeNextDigit_25 (by decide) ?_
    refine x_icmp_gt (tgt := 37) hx hb dX0_takeNextDigit_27 (by decide) ⟨(by omega), (by decide)⟩ (fun c27 => ?_) (fun c27 => ?_)
    · rw [if_pos c27] at hz
      refine lv_iconst (v := jI 0) hx hb dX0_takeNextDigit_37 rfl ?_
      subst hz
      exact xi_z hx hb hr hlocks (Or.inl rfl) hK hP hD hS rfl rfl dX0_takeNextDigit_38
    · rw [if_neg c27] at hz
      refine lv_iload_n hx hb dX0_takeNextDigit_30 rfl (lv_at hl 0 rfl) ?_
      refine lv_sipush (v := jI 200) hx hb dX0_takeNextDigit_31 (by decide) ?_
      refine x_icmp_le (tgt := 39) hx hb dX0_takeNextDigit_34 (by decide) ⟨(by omega), (by decide)⟩ (fun c34 => ?_) (fun c34 => ?_)
      · rw [if_pos c34] at hz
        refine lv_aload_n hx hb dX0_takeNextDigit_39 rfl (lv_at hl 1 rfl) ?_
        refine va_get (D := D) (ci := 0) (v := .ref (a 7)) (C := RX0) (T := TX0) (N := 4) hx hb hts inRX0 hown hK hP 4 rfl rfl 2 (by decide) qf18 (fun _ h9 => h9) rfl dX0_takeNextDigit_40 ?_
        refine lv_aload_n hx hb dX0_takeNextDigit_43 rfl (lv_at hl 1 rfl) ?_
        refine va_get (D := D) (ci := 0) (v := .int (jI (pt : Int))) (C := RX0) (T := TX0) (N := 4) hx hb hts inRX0 hown hK hP 4 rfl rfl 3 (by decide) qf21 (fun _ h9 => h9) rfl dX0_takeNextDigit_44 ?_
        refine lv_iload_n hx hb dX0_takeNextDigit_47 rfl (lv_at hl 0 rfl) ?_
        refine x_iast (w1 := (w1 cI a f g n b len kd sg (upz nb pt ((((nb pt) * 10) + x0) - 48)) pt)) hx hb hK hP hD hS 7 0 rfl rfl pt (by omega) (by omega) (by decide) dX0_takeNextDigit_48 rfl (fun H locs hP hD hS => ?_)
        refine lv_iconst (v := jI 1) hx hb dX0_takeNextDigit_49 rfl ?_
        subst hz
        exact xi_z hx hb hr hlocks (Or.inr rfl) hK hP hD hS rfl rfl dX0_takeNextDigit_50
      · rw [if_neg c34] at hz
        refine lv_iconst (v := jI 0) hx hb dX0_takeNextDigit_37 rfl ?_
        subst hz
        exact xi_z hx hb hr hlocks (Or.inl rfl) hK hP hD hS rfl rfl dX0_takeNextDigit_38
def s_X0_takeMoreOrLess (sg : Nat → Int) (nb : Nat → Int) (pt : Nat) (x0 : Int) : Int × (Nat → Int) × (Nat → Int) := if (sg pt) = 0 then (if x0 = 43 then (if x0 = 43 then (1, (upz sg pt 1), nb) else (1, (upz sg pt (-1)), nb)) else (if x0 = 45 then (if x0 = 43 then (1, (upz sg pt 1), nb) else (1, (upz sg pt (-1)), nb)) else (if (sg pt) = 0 then (0, sg, nb) else (if (nb pt) = 0 then (if x0 < 49 then (0, sg, nb) else (if 57 < x0 then (0, sg, nb) else (1, sg, (upz nb pt (x0 - 48))))) else (0, sg, nb))))) else (if (sg pt) = 0 then (0, sg, nb) else (if (nb pt) = 0 then (if x0 < 49 then (0, sg, nb) else (if 57 < x0 then (0, sg, nb) else (1, sg, (upz nb pt (x0 - 48))))) else (0, sg, nb)))
theorem b_X0_takeMoreOrLess (sg : Nat → Int) (nb : Nat → Int) (pt : Nat) (x0 : Int) : (s_X0_takeMoreOrLess sg nb pt x0).1 = 0 ∨ (s_X0_takeMoreOrLess sg nb pt x0).1 = 1 := by unfold s_X0_takeMoreOrLess; (repeat' split) <;> first | exact Or.inl rfl | exact Or.inr rfl
abbrev rm_X0_takeMoreOrLess : Room := { frames := 0, cells := 0, slots := 0, locals := 0 }
set_option maxHeartbeats 4000000 in
set_option maxRecDepth 100000 in
theorem m_X0_takeMoreOrLess (l : Launch) (D : va_G) (cI : ClassId) (a : Nat → Nat) (f : Nat → Int) (g : Nat → Int) (n : Nat) (b : Nat → Int) (len : Nat) (kd : Nat → Int) (sg : Nat → Int) (nb : Nat → Int) (pt : Nat) (x0 : Int) (hw : wok kd sg nb) (hpt : pt < 3) (hx0 : 33 ≤ x0 ∧ x0 ≤ 126) : MetI l yX0_takeMoreOrLess wsX0_takeMoreOrLess rm_X0_takeMoreOrLess D cI [.ref (a 4), .int (jI x0)] (w1 cI a f g n b len kd sg nb pt) (w1 cI a f g n b len kd ((s_X0_takeMoreOrLess sg nb pt x0).2.1) ((s_X0_takeMoreOrLess sg nb pt x0).2.2) pt) ((s_X0_takeMoreOrLess sg nb pt x0).1) := by
  refine xe_I (cc := cX0_takeMoreOrLess) (maxL := 2) (ret := (some .boolean)) (by decide) rfl (Nat.le_of_ble_eq_true rfl) ?_
  intro p e s m below meth c hx hb hr hml hts hown hlocks hP hK A hA hD hS ls hl
  have hl : lv_has ls 2 [(0, .ref (a 4)), (1, .int (jI x0))] := hl
  have hown : s.vm.findClass RX0 = some m.cls := hown
  have hSx : CallFix p m c cX0_takeMoreOrLess 2 s ([.ref (a 4), .int (jI x0)] : List Value).toArray wsX0_takeMoreOrLess RX0 := ⟨hx, hb, hml, hown, hts⟩
  have inRX0 : ∀ w ∈ u_ws RX0 TX0 4, w ∈ wsX0_takeMoreOrLess := by decide +kernel
  have qf15 := hts (.fieldLink RX0 15 "VaultMovements$Windings" "signs" "[I") (by decide +kernel)
  have qf18 := hts (.fieldLink RX0 18 "VaultMovements$Windings" "numbers" "[I") (by decide +kernel)
  have qf21 := hts (.fieldLink RX0 21 "VaultMovements$Windings" "part" "I") (by decide +kernel)
  have hw9 := hw pt
  obtain ⟨z, hz⟩ : ∃ z, z = (s_X0_takeMoreOrLess sg nb pt x0) := ⟨_, rfl⟩
  rw [← hz]
  unfold s_X0_takeMoreOrLess at hz
  refine lv_aload_n hx hb dX0_takeMoreOrLess_0 rfl (lv_at hl 0 rfl) ?_
  refine va_get (D := D) (ci := 0) (v := .ref (a 6)) (C := RX0) (T := TX0) (N := 4) hx hb hts inRX0 hown hK hP 4 rfl rfl 1 (by decide) qf15 (fun _ h9 => h9) rfl dX0_takeMoreOrLess_1 ?_
  refine lv_aload_n hx hb dX0_takeMoreOrLess_4 rfl (lv_at hl 0 rfl) ?_
  refine va_get (D := D) (ci := 0) (v := .int (jI (pt : Int))) (C := RX0) (T := TX0) (N := 4) hx hb hts inRX0 hown hK hP 4 rfl rfl 3 (by decide) qf21 (fun _ h9 => h9) rfl dX0_takeMoreOrLess_5 ?_
  refine x_iald hx hb hK hP 6 0 rfl rfl pt (by omega) (by omega) (by decide) dX0_takeMoreOrLess_8 ?_
  refine x_if_ne (tgt := 46) hx hb dX0_takeMoreOrLess_9 (by decide) (by omega) (fun c9 => ?_) (fun c9 => ?_)
  · rw [if_neg c9] at hz
    refine lv_aload_n hx hb dX0_takeMoreOrLess_46 rfl (lv_at hl 0 rfl) ?_
    refine va_get (D := D) (ci := 0) (v := .ref (a 6)) (C := RX0) (T := TX0) (N := 4) hx hb hts inRX0 hown hK hP 4 rfl rfl 1 (by decide) qf15 (fun _ h9 => h9) rfl dX0_takeMoreOrLess_47 ?_
    refine lv_aload_n hx hb dX0_takeMoreOrLess_50 rfl (lv_at hl 0 rfl) ?_
    refine va_get (D := D) (ci := 0) (v := .int (jI (pt : Int))) (C := RX0) (T := TX0) (N := 4) hx hb hts inRX0 hown hK hP 4 rfl rfl 3 (by decide) qf21 (fun _ h9 => h9) rfl dX0_takeMoreOrLess_51 ?_
    refine x_iald hx hb hK hP 6 0 rfl rfl pt (by omega) (by omega) (by decide) dX0_takeMoreOrLess_54 ?_
    refine x_if_eq (tgt := 97) hx hb dX0_takeMoreOrLess_55 (by decide) (by omega) (fun c55 => ?_) (fun c55 => ?_)
    · rw [if_pos c55] at hz
      refine lv_iconst (v := jI 0) hx hb dX0_takeMoreOrLess_97 rfl ?_
      subst hz
      exact xi_z hx hb hr hlocks (Or.inl rfl) hK hP hD hS rfl rfl dX0_takeMoreOrLess_98
    · rw [if_neg c55] at hz
      refine lv_aload_n hx hb dX0_takeMoreOrLess_58 rfl (lv_at hl 0 rfl) ?_
      refine va_get (D := D) (ci := 0) (v := .ref (a 7)) (C := RX0) (T := TX0) (N := 4) hx hb hts inRX0 hown hK hP 4 rfl rfl 2 (by decide) qf18 (fun _ h9 => h9) rfl dX0_takeMoreOrLess_59 ?_
      refine lv_aload_n hx hb dX0_takeMoreOrLess_62 rfl (lv_at hl 0 rfl) ?_
      refine va_get (D := D) (ci := 0) (v := .int (jI (pt : Int))) (C := RX0) (T := TX0) (N := 4) hx hb hts inRX0 hown hK hP 4 rfl rfl 3 (by decide) qf21 (fun _ h9 => h9) rfl dX0_takeMoreOrLess_63 ?_
      refine x_iald hx hb hK hP 7 0 rfl rfl pt (by omega) (by omega) (by decide) dX0_takeMoreOrLess_66 ?_
      refine x_if_ne (tgt := 97) hx hb dX0_takeMoreOrLess_67 (by decide) (by omega) (fun c67 => ?_) (fun c67 => ?_)
      · rw [if_neg c67] at hz
        refine lv_iconst (v := jI 0) hx hb dX0_takeMoreOrLess_97 rfl ?_
        subst hz
        exact xi_z hx hb hr hlocks (Or.inl rfl) hK hP hD hS rfl rfl dX0_takeMoreOrLess_98
      · rw [if_pos c67] at hz
        refine lv_iload_n hx hb dX0_takeMoreOrLess_70 rfl (lv_at hl 1 rfl) ?_
        refine lv_bipush (v := jI 49) hx hb dX0_takeMoreOrLess_71 (by decide) ?_
        refine x_icmp_lt (tgt := 97) hx hb dX0_takeMoreOrLess_73 (by decide) ⟨(by omega), (by decide)⟩ (fun c73 => ?_) (fun c73 => ?_)
        · rw [if_pos c73] at hz
          refine lv_iconst (v := jI 0) hx hb dX0_takeMoreOrLess_97 rfl ?_
          subst hz
          exact xi_z hx hb hr hlocks (Or.inl rfl) hK hP hD hS rfl rfl dX0_takeMoreOrLess_98
        · rw [if_neg c73] at hz
          refine lv_iload_n hx hb dX0_takeMoreOrLess_76 rfl (lv_at hl 1 rfl) ?_
          refine lv_bipush (v := jI 57) hx hb dX0_takeMoreOrLess_77 (by decide) ?_
          refine x_icmp_gt (tgt := 97) hx hb dX0_takeMoreOrLess_79 (by decide) ⟨(by omega), (by decide)⟩ (fun c79 => ?_) (fun c79 => ?_)
          · rw [if_pos c79] at hz
            refine lv_iconst (v := jI 0) hx hb dX0_takeMoreOrLess_97 rfl ?_
            subst hz
            exact xi_z hx hb hr hlocks (Or.inl rfl) hK hP hD hS rfl rfl dX0_takeMoreOrLess_98
          · rw [if_neg c79] at hz
            refine lv_aload_n hx hb dX0_takeMoreOrLess_82 rfl (lv_at hl 0 rfl) ?_
            refine va_get (D := D) (ci := 0) (v := .ref (a 7)) (C := RX0) (T := TX0) (N := 4) hx hb hts inRX0 hown hK hP 4 rfl rfl 2 (by decide) qf18 (fun _ h9 => h9) rfl dX0_takeMoreOrLess_83 ?_
            refine lv_aload_n hx hb dX0_takeMoreOrLess_86 rfl (lv_at hl 0 rfl) ?_
            refine va_get (D := D) (ci := 0) (v := .int (jI (pt : Int))) (C := RX0) (T := TX0) (N := 4) hx hb hts inRX0 hown hK hP 4 rfl rfl 3 (by decide) qf21 (fun _ h9 => h9) rfl dX0_takeMoreOrLess_87 ?_
            refine lv_iload_n hx hb dX0_takeMoreOrLess_90 rfl (lv_at hl 1 rfl) ?_
            refine lv_bipush (v := jI 48) hx hb dX0_takeMoreOrLess_91 (by decide) ?_
            refine x_isub hx hb dX0_takeMoreOrLess_93 ?_
            refine x_iast (w1 := (w1 cI a f g n b len kd sg (upz nb pt (x0 - 48)) pt)) hx hb hK hP hD hS 7 0 rfl rfl pt (by omega) (by omega) (by decide) dX0_takeMoreOrLess_94 rfl (fun H locs hP hD hS => ?_)
            refine lv_iconst (v := jI 1) hx hb dX0_takeMoreOrLess_95 rfl ?_
            subst hz
            exact xi_z hx hb hr hlocks (Or.inr rfl) hK hP hD hS rfl rfl dX0_takeMoreOrLess_96
  · rw [if_pos c9] at hz
    refine lv_iload_n hx hb dX0_takeMoreOrLess_12 rfl (lv_at hl 1 rfl) ?_
    refine lv_bipush (v := jI 43) hx hb dX0_takeMoreOrLess_13 (by decide) ?_
    refine x_icmp_eq (tgt := 24) hx hb dX0_takeMoreOrLess_15 (by decide) ⟨(by omega), (by decide)⟩ (fun c15 => ?_) (fun c15 => ?_)
    · rw [if_pos c15] at hz
      refine lv_aload_n hx hb dX0_takeMoreOrLess_24 rfl (lv_at hl 0 rfl) ?_
      refine va_get (D := D) (ci := 0) (v := .ref (a 6)) (C := RX0) (T := TX0) (N := 4) hx hb hts inRX0 hown hK hP 4 rfl rfl 1 (by decide) qf15 (fun _ h9 => h9) rfl dX0_takeMoreOrLess_25 ?_
      refine lv_aload_n hx hb dX0_takeMoreOrLess_28 rfl (lv_at hl 0 rfl) ?_
      refine va_get (D := D) (ci := 0) (v := .int (jI (pt : Int))) (C := RX0) (T := TX0) (N := 4) hx hb hts inRX0 hown hK hP 4 rfl rfl 3 (by decide) qf21 (fun _ h9 => h9) rfl dX0_takeMoreOrLess_29 ?_
      refine lv_iload_n hx hb dX0_takeMoreOrLess_32 rfl (lv_at hl 1 rfl) ?_
      refine lv_bipush (v := jI 43) hx hb dX0_takeMoreOrLess_33 (by decide) ?_
      refine x_icmp_ne (tgt := 42) hx hb dX0_takeMoreOrLess_35 (by decide) ⟨(by omega), (by decide)⟩ (fun c35 => ?_) (fun c35 => ?_)
      · rw [if_neg c35] at hz
        refine lv_iconst (v := jI (-1)) hx hb dX0_takeMoreOrLess_42 rfl ?_
        refine x_iast (w1 := (w1 cI a f g n b len kd (upz sg pt (-1)) nb pt)) hx hb hK hP hD hS 6 0 rfl rfl pt (by omega) (by omega) (by decide) dX0_takeMoreOrLess_43 rfl (fun H locs hP hD hS => ?_)
        refine lv_iconst (v := jI 1) hx hb dX0_takeMoreOrLess_44 rfl ?_
        subst hz
        exact xi_z hx hb hr hlocks (Or.inr rfl) hK hP hD hS rfl rfl dX0_takeMoreOrLess_45
      · rw [if_pos c35] at hz
        refine lv_iconst (v := jI 1) hx hb dX0_takeMoreOrLess_38 rfl ?_
        refine lv_goto (tgt := 43) hx hb dX0_takeMoreOrLess_39 (by decide) ?_
        refine x_iast (w1 := (w1 cI a f g n b len kd (upz sg pt 1) nb pt)) hx hb hK hP hD hS 6 0 rfl rfl pt (by omega) (by omega) (by decide) dX0_takeMoreOrLess_43 rfl (fun H locs hP hD hS => ?_)
        refine lv_iconst (v := jI 1) hx hb dX0_takeMoreOrLess_44 rfl ?_
        subst hz
        exact xi_z hx hb hr hlocks (Or.inr rfl) hK hP hD hS rfl rfl dX0_takeMoreOrLess_45
    · rw [if_neg c15] at hz
      refine lv_iload_n hx hb dX0_takeMoreOrLess_18 rfl (lv_at hl 1 rfl) ?_
      refine lv_bipush (v := jI 45) hx hb dX0_takeMoreOrLess_19 (by decide) ?_
      refine x_icmp_ne (tgt := 46) hx hb dX0_takeMoreOrLess_21 (by decide) ⟨(by omega), (by decide)⟩ (fun c21 => ?_) (fun c21 => ?_)
      · rw [if_neg c21] at hz
        refine lv_aload_n hx hb dX0_takeMoreOrLess_46 rfl (lv_at hl 0 rfl) ?_
        refine va_get (D := D) (ci := 0) (v := .ref (a 6)) (C := RX0) (T := TX0) (N := 4) hx hb hts inRX0 hown hK hP 4 rfl rfl 1 (by decide) qf15 (fun _ h9 => h9) rfl dX0_takeMoreOrLess_47 ?_
        refine lv_aload_n hx hb dX0_takeMoreOrLess_50 rfl (lv_at hl 0 rfl) ?_
        refine va_get (D := D) (ci := 0) (v := .int (jI (pt : Int))) (C := RX0) (T := TX0) (N := 4) hx hb hts inRX0 hown hK hP 4 rfl rfl 3 (by decide) qf21 (fun _ h9 => h9) rfl dX0_takeMoreOrLess_51 ?_
        refine x_iald hx hb hK hP 6 0 rfl rfl pt (by omega) (by omega) (by decide) dX0_takeMoreOrLess_54 ?_
        refine x_if_eq (tgt := 97) hx hb dX0_takeMoreOrLess_55 (by decide) (by omega) (fun c55 => ?_) (fun c55 => ?_)
        · rw [if_pos c55] at hz
          refine lv_iconst (v := jI 0) hx hb dX0_takeMoreOrLess_97 rfl ?_
          subst hz
          exact xi_z hx hb hr hlocks (Or.inl rfl) hK hP hD hS rfl rfl dX0_takeMoreOrLess_98
        · rw [if_neg c55] at hz
          refine lv_aload_n hx hb dX0_takeMoreOrLess_58 rfl (lv_at hl 0 rfl) ?_
          refine va_get (D := D) (ci := 0) (v := .ref (a 7)) (C := RX0) (T := TX0) (N := 4) hx hb hts inRX0 hown hK hP 4 rfl rfl 2 (by decide) qf18 (fun _ h9 => h9) rfl dX0_takeMoreOrLess_59 ?_
          refine lv_aload_n hx hb dX0_takeMoreOrLess_62 rfl (lv_at hl 0 rfl) ?_
          refine va_get (D := D) (ci := 0) (v := .int (jI (pt : Int))) (C := RX0) (T := TX0) (N := 4) hx hb hts inRX0 hown hK hP 4 rfl rfl 3 (by decide) qf21 (fun _ h9 => h9) rfl dX0_takeMoreOrLess_63 ?_
          refine x_iald hx hb hK hP 7 0 rfl rfl pt (by omega) (by omega) (by decide) dX0_takeMoreOrLess_66 ?_
          refine x_if_ne (tgt := 97) hx hb dX0_takeMoreOrLess_67 (by decide) (by omega) (fun c67 => ?_) (fun c67 => ?_)
          · rw [if_neg c67] at hz
            refine lv_iconst (v := jI 0) hx hb dX0_takeMoreOrLess_97 rfl ?_
            subst hz
            exact xi_z hx hb hr hlocks (Or.inl rfl) hK hP hD hS rfl rfl dX0_takeMoreOrLess_98
          · rw [if_pos c67] at hz
            refine lv_iload_n hx hb dX0_takeMoreOrLess_70 rfl (lv_at hl 1 rfl) ?_
            refine lv_bipush (v := jI 49) hx hb dX0_takeMoreOrLess_71 (by decide) ?_
            refine x_icmp_lt (tgt := 97) hx hb dX0_takeMoreOrLess_73 (by decide) ⟨(by omega), (by decide)⟩ (fun c73 => ?_) (fun c73 => ?_)
            · rw [if_pos c73] at hz
              refine lv_iconst (v := jI 0) hx hb dX0_takeMoreOrLess_97 rfl ?_
              subst hz
              exact xi_z hx hb hr hlocks (Or.inl rfl) hK hP hD hS rfl rfl dX0_takeMoreOrLess_98
            · rw [if_neg c73] at hz
              refine lv_iload_n hx hb dX0_takeMoreOrLess_76 rfl (lv_at hl 1 rfl) ?_
              refine lv_bipush (v := jI 57) hx hb dX0_takeMoreOrLess_77 (by decide) ?_
              refine x_icmp_gt (tgt := 97) hx hb dX0_takeMoreOrLess_79 (by decide) ⟨(by omega), (by decide)⟩ (fun c79 => ?_) (fun c79 => ?_)
              · rw [if_pos c79] at hz
                refine lv_iconst (v := jI 0) hx hb dX0_takeMoreOrLess_97 rfl ?_
                subst hz
                exact xi_z hx hb hr hlocks (Or.inl rfl) hK hP hD hS rfl rfl dX0_takeMoreOrLess_98
              · rw [if_neg c79] at hz
                refine lv_aload_n hx hb dX0_takeMoreOrLess_82 rfl (lv_at hl 0 rfl) ?_
                refine va_get (D := D) (ci := 0) (v := .ref (a 7)) (C := RX0) (T := TX0) (N := 4) hx hb hts inRX0 hown hK hP 4 rfl rfl 2 (by decide) qf18 (fun _ h9 => h9) rfl dX0_takeMoreOrLess_83 ?_
                refine lv_aload_n hx hb dX0_takeMoreOrLess_86 rfl (lv_at hl 0 rfl) ?_
                refine va_get (D := D) (ci := 0) (v := .int (jI (pt : Int))) (C := RX0) (T := TX0) (N := 4) hx hb hts inRX0 hown hK hP 4 rfl rfl 3 (by decide) qf21 (fun _ h9 => h9) rfl dX0_takeMoreOrLess_87 ?_
                refine lv_iload_n hx hb dX0_takeMoreOrLess_90 rfl (lv_at hl 1 rfl) ?_
                refine lv_bipush (v := jI 48) hx hb dX0_takeMoreOrLess_91 (by decide) ?_
                refine x_isub hx hb dX0_takeMoreOrLess_93 ?_
                refine x_iast (w1 := (w1 cI a f g n b len kd sg (upz nb pt (x0 - 48)) pt)) hx hb hK hP hD hS 7 0 rfl rfl pt (by omega) (by omega) (by decide) dX0_takeMoreOrLess_94 rfl (fun H locs hP hD hS => ?_)
                refine lv_iconst (v := jI 1) hx hb dX0_takeMoreOrLess_95 rfl ?_
                subst hz
                exact xi_z hx hb hr hlocks (Or.inr rfl) hK hP hD hS rfl rfl dX0_takeMoreOrLess_96
      · rw [if_pos c21] at hz
        refine lv_aload_n hx hb dX0_takeMoreOrLess_24 rfl (lv_at hl 0 rfl) ?_
        refine va_get (D := D) (ci := 0) (v := .ref (a 6)) (C := RX0) (T := TX0) (N := 4) hx hb hts inRX0 hown hK hP 4 rfl rfl 1 (by decide) qf15 (fun _ h9 => h9) rfl dX0_takeMoreOrLess_25 ?_
        refine lv_aload_n hx hb dX0_takeMoreOrLess_28 rfl (lv_at hl 0 rfl) ?_
        refine va_get (D := D) (ci := 0) (v := .int (jI (pt : Int))) (C := RX0) (T := TX0) (N := 4) hx hb hts inRX0 hown hK hP 4 rfl rfl 3 (by decide) qf21 (fun _ h9 => h9) rfl dX0_takeMoreOrLess_29 ?_
        refine lv_iload_n hx hb dX0_takeMoreOrLess_32 rfl (lv_at hl 1 rfl) ?_
        refine lv_bipush (v := jI 43) hx hb dX0_takeMoreOrLess_33 (by decide) ?_
        refine x_icmp_ne (tgt := 42) hx hb dX0_takeMoreOrLess_35 (by decide) ⟨(by omega), (by decide)⟩ (fun c35 => ?_) (fun c35 => ?_)
        · rw [if_neg c35] at hz
          refine lv_iconst (v := jI (-1)) hx hb dX0_takeMoreOrLess_42 rfl ?_
          refine x_iast (w1 := (w1 cI a f g n b len kd (upz sg pt (-1)) nb pt)) hx hb hK hP hD hS 6 0 rfl rfl pt (by omega) (by omega) (by decide) dX0_takeMoreOrLess_43 rfl (fun H locs hP hD hS => ?_)
          refine lv_iconst (v := jI 1) hx hb dX0_takeMoreOrLess_44 rfl ?_
          subst hz
          exact xi_z hx hb hr hlocks (Or.inr rfl) hK hP hD hS rfl rfl dX0_takeMoreOrLess_45
        · rw [if_pos c35] at hz
          refine lv_iconst (v := jI 1) hx hb dX0_takeMoreOrLess_38 rfl ?_
          refine lv_goto (tgt := 43) hx hb dX0_takeMoreOrLess_39 (by decide) ?_
          refine x_iast (w1 := (w1 cI a f g n b len kd (upz sg pt 1) nb pt)) hx hb hK hP hD hS 6 0 rfl rfl pt (by omega) (by omega) (by decide) dX0_takeMoreOrLess_43 rfl (fun H locs hP hD hS => ?_)
          refine lv_iconst (v := jI 1) hx hb dX0_takeMoreOrLess_44 rfl ?_
          subst hz
          exact xi_z hx hb hr hlocks (Or.inr rfl) hK hP hD hS rfl rfl dX0_takeMoreOrLess_45
def s_X0_take (kd : Nat → Int) (sg : Nat → Int) (nb : Nat → Int) (pt : Nat) (x0 : Int) : Int × (Nat → Int) × (Nat → Int) × (Nat → Int) × Nat := if x0 = 44 then ((s_X0_takeComma kd sg nb pt).1, kd, sg, nb, (s_X0_takeComma kd sg nb pt).2) else (if (kd pt) = 0 then ((s_X0_takeFirst kd nb pt x0).1, (s_X0_takeFirst kd nb pt x0).2.1, sg, (s_X0_takeFirst kd nb pt x0).2.2, pt) else (if (kd pt) = 1 then (0, kd, sg, nb, pt) else (if (kd pt) = 2 then ((s_X0_takeNextDigit nb pt x0).1, kd, sg, (s_X0_takeNextDigit nb pt x0).2, pt) else (if (kd pt) = 3 then ((s_X0_takeMoreOrLess sg nb pt x0).1, kd, (s_X0_takeMoreOrLess sg nb pt x0).2.1, (s_X0_takeMoreOrLess sg nb pt x0).2.2, pt) else (default)))))
theorem b_X0_take (kd : Nat → Int) (sg : Nat → Int) (nb : Nat → Int) (pt : Nat) (x0 : Int) : (s_X0_take kd sg nb pt x0).1 = 0 ∨ (s_X0_take kd sg nb pt x0).1 = 1 := by unfold s_X0_take; (repeat' split) <;> first | exact Or.inl rfl | exact Or.inr rfl | exact b_X0_takeFirst _ _ _ _ | exact b_X0_takeNextDigit _ _ _ | exact b_X0_takeMoreOrLess _ _ _ _ | exact b_X0_takeComma _ _ _ _
abbrev rm_X0_take : Room := { frames := 2, cells := 0, slots := 0, locals := 40 }
set_option maxHeartbeats 4000000 in
set_option maxRecDepth 100000 in
theorem m_X0_take (l : Launch) (D : va_G) (cI : ClassId) (a : Nat → Nat) (f : Nat → Int) (g : Nat → Int) (n : Nat) (b : Nat → Int) (len : Nat) (kd : Nat → Int) (sg : Nat → Int) (nb : Nat → Int) (pt : Nat) (x0 : Int) (hw : wok kd sg nb) (hpt : pt < 3) (hx0 : 33 ≤ x0 ∧ x0 ≤ 126) : MetI l yX0_take wsX0_take rm_X0_take D cI [.ref (a 4), .int (jI x0)] (w1 cI a f g n b len kd sg nb pt) (w1 cI a f g n b len ((s_X0_take kd sg nb pt x0).2.1) ((s_X0_take kd sg nb pt x0).2.2.1) ((s_X0_take kd sg nb pt x0).2.2.2.1) ((s_X0_take kd sg nb pt x0).2.2.2.2)) ((s_X0_take kd sg nb pt x0).1) := by
  refine xe_I (cc := cX0_take) (maxL := 2) (ret := (some .boolean)) (by decide) rfl (Nat.le_of_ble_eq_true rfl) ?_
  intro p e s m below meth c hx hb hr hml hts hown hlocks hP hK A hA hD hS ls hl
  have hl : lv_has ls 2 [(0, .ref (a 4)), (1, .int (jI x0))] := hl
  have hown : s.vm.findClass RX0 = some m.cls := hown
  have hSx : CallFix p m c cX0_take 2 s ([.ref (a 4), .int (jI x0)] : List Value).toArray wsX0_take RX0 := ⟨hx, hb, hml, hown, hts⟩
  have inRX0 : ∀ w ∈ u_ws RX0 TX0 4, w ∈ wsX0_take := by decide +kernel
  have qf21 := hts (.fieldLink RX0 21 "VaultMovements$Windings" "part" "I") (by decide +kernel)
  have qf9 := hts (.fieldLink RX0 9 "VaultMovements$Windings" "kinds" "[I") (by decide +kernel)
  have hw9 := hw pt
  obtain ⟨z, hz⟩ : ∃ z, z = (s_X0_take kd sg nb pt x0) := ⟨_, rfl⟩
  rw [← hz]
  unfold s_X0_take at hz
  refine lv_iload_n hx hb dX0_take_0 rfl (lv_at hl 1 rfl) ?_
  refine lv_bipush (v := jI 44) hx hb dX0_take_1 (by decide) ?_
  refine x_icmp_ne (tgt := 11) hx hb dX0_take_3 (by decide) ⟨(by omega), (by decide)⟩ (fun c3 => ?_) (fun c3 => ?_)
  · rw [if_neg c3] at hz
    refine lv_aload_n hx hb dX0_take_11 rfl (lv_at hl 0 rfl) ?_
    refine va_get (D := D) (ci := 0) (v := .ref (a 5)) (C := RX0) (T := TX0) (N := 4) hx hb hts inRX0 hown hK hP 4 rfl rfl 0 (by decide) qf9 (fun _ h9 => h9) rfl dX0_take_12 ?_
    refine lv_aload_n hx hb dX0_take_15 rfl (lv_at hl 0 rfl) ?_
    refine va_get (D := D) (ci := 0) (v := .int (jI (pt : Int))) (C := RX0) (T := TX0) (N := 4) hx hb hts inRX0 hown hK hP 4 rfl rfl 3 (by decide) qf21 (fun _ h9 => h9) rfl dX0_take_16 ?_
    refine x_iald hx hb hK hP 5 0 rfl rfl pt (by omega) (by omega) (by decide) dX0_take_19 ?_
    refine lv_topi (fun y9 ey9 => ?_)
    by_cases e0 : (kd pt) = 0
    · rw [if_pos e0] at hz
      obtain rfl : y9 = jI 0 := ey9.trans (congrArg jI e0)
      refine lv_tableIn (off := 32) (tgt := 52) hx hb dX0_take_20 (by decide) (by decide) (by decide) (by decide) ?_
      refine lv_aload_n hx hb dX0_take_52 rfl (lv_at hl 0 rfl) ?_
      refine lv_iload_n hx hb dX0_take_53 rfl (lv_at hl 1 rfl) ?_
      refine xc_I (As := [.int (jI x0)]) (rest := []) hSx (m_X0_takeFirst l D cI a f g n b len kd sg nb pt x0 (by omega) (by omega)) (cwV 1 hts gX0_take_X0_takeFirst rfl rfl rfl (by decide +kernel) ⟨Nat.le_of_ble_eq_true rfl, Nat.le_of_ble_eq_true rfl⟩) hP hD hS hA hK 4 rfl rfl rfl rfl hl.1 rfl (Nat.le_of_ble_eq_true rfl) dX0_take_54 ⟨Nat.zero_le _, Nat.zero_le _⟩ (fun H locs hP hD hS => ?_)
      subst hz
      exact xi_z hx hb hr hlocks (b_X0_takeFirst kd nb pt x0) hK hP hD hS rfl rfl dX0_take_57
    rw [if_neg e0] at hz
    by_cases e1 : (kd pt) = 1
    · rw [if_pos e1] at hz
      obtain rfl : y9 = jI 1 := ey9.trans (congrArg jI e1)
      refine lv_tableIn (off := 50) (tgt := 70) hx hb dX0_take_20 (by decide) (by decide) (by decide) (by decide) ?_
      refine lv_iconst (v := jI 0) hx hb dX0_take_70 rfl ?_
      subst hz
      exact xi_z hx hb hr hlocks (Or.inl rfl) hK hP hD hS rfl rfl dX0_take_71
    rw [if_neg e1] at hz
    by_cases e2 : (kd pt) = 2
    · rw [if_pos e2] at hz
      obtain rfl : y9 = jI 2 := ey9.trans (congrArg jI e2)
      refine lv_tableIn (off := 38) (tgt := 58) hx hb dX0_take_20 (by decide) (by decide) (by decide) (by decide) ?_
      refine lv_aload_n hx hb dX0_take_58 rfl (lv_at hl 0 rfl) ?_
      refine lv_iload_n hx hb dX0_take_59 rfl (lv_at hl 1 rfl) ?_
      refine xc_I (As := [.int (jI x0)]) (rest := []) hSx (m_X0_takeNextDigit l D cI a f g n b len kd sg nb pt x0 (by omega) (by omega) (by omega)) (cwV 1 hts gX0_take_X0_takeNextDigit rfl rfl rfl (by decide +kernel) ⟨Nat.le_of_ble_eq_true rfl, Nat.le_of_ble_eq_true rfl⟩) hP hD hS hA hK 4 rfl rfl rfl rfl hl.1 rfl (Nat.le_of_ble_eq_true rfl) dX0_take_60 ⟨Nat.zero_le _, Nat.zero_le _⟩ (fun H locs hP hD hS => ?_)
      subst hz
      exact xi_z hx hb hr hlocks (b_X0_takeNextDigit nb pt x0) hK hP hD hS rfl rfl dX0_take_63
    rw [if_neg e2] at hz
    by_cases e3 : (kd pt) = 3
    · rw [if_pos e3] at hz
      obtain rfl : y9 = jI 3 := ey9.trans (congrArg jI e3)
      refine lv_tableIn (off := 44) (tgt := 64) hx hb dX0_take_20 (by decide) (by decide) (by decide) (by decide) ?_
      refine lv_aload_n hx hb dX0_take_64 rfl (lv_at hl 0 rfl) ?_
      refine lv_iload_n hx hb dX0_take_65 rfl (lv_at hl 1 rfl) ?_
      refine xc_I (As := [.int (jI x0)]) (rest := []) hSx (m_X0_takeMoreOrLess l D cI a f g n b len kd sg nb pt x0 (by omega) (by omega) (by omega)) (cwV 1 hts gX0_take_X0_takeMoreOrLess rfl rfl rfl (by decide +kernel) ⟨Nat.le_of_ble_eq_true rfl, Nat.le_of_ble_eq_true rfl⟩) hP hD hS hA hK 4 rfl rfl rfl rfl hl.1 rfl (Nat.le_of_ble_eq_true rfl) dX0_take_66 ⟨Nat.zero_le _, Nat.zero_le _⟩ (fun H locs hP hD hS => ?_)
      subst hz
      exact xi_z hx hb hr hlocks (b_X0_takeMoreOrLess sg nb pt x0) hK hP hD hS rfl rfl dX0_take_69
    rw [if_neg e3] at hz
    exact (show False by omega).elim
  · rw [if_pos c3] at hz
    refine lv_aload_n hx hb dX0_take_6 rfl (lv_at hl 0 rfl) ?_
    refine xc_I (As := []) (rest := []) hSx (m_X0_takeComma l D cI a f g n b len kd sg nb pt  (by omega) (by omega)) (cwV 0 hts gX0_take_X0_takeComma rfl rfl rfl (by decide +kernel) ⟨Nat.le_of_ble_eq_true rfl, Nat.le_of_ble_eq_true rfl⟩) hP hD hS hA hK 4 rfl rfl rfl rfl hl.1 rfl (Nat.le_of_ble_eq_true rfl) dX0_take_7 ⟨Nat.zero_le _, Nat.zero_le _⟩ (fun H locs hP hD hS => ?_)
    subst hz
    exact xi_z hx hb hr hlocks (b_X0_takeComma kd sg nb pt) hK hP hD hS rfl rfl dX0_take_10
def s_X0_restart_lp7  : Nat → Nat → (Nat → Int) → (Nat → Int) → (Nat → Int) → (Nat → Int) × (Nat → Int) × (Nat → Int) × Nat
  | 0, _, _, _, _ => default
  | k + 1, i, kd, sg, nb => if 3 ≤ (i : Int) then (kd, sg, nb, 0) else (s_X0_restart_lp7 k (i + 1) (upz kd i 0) (upz sg i 0) (upz nb i 0))
def s_X0_restart (kd : Nat → Int) (sg : Nat → Int) (nb : Nat → Int) : (Nat → Int) × (Nat → Int) × (Nat → Int) × Nat := s_X0_restart_lp7 (3 + 1 - 0) 0 kd sg nb
abbrev rm_X0_restart : Room := { frames := 0, cells := 0, slots := 0, locals := 0 }
set_option maxHeartbeats 4000000 in
set_option maxRecDepth 100000 in
theorem m_X0_restart (l : Launch) (D : va_G) (cI : ClassId) (a : Nat → Nat) (f : Nat → Int) (g : Nat → Int) (n : Nat) (b : Nat → Int) (len : Nat) (kd : Nat → Int) (sg : Nat → Int) (nb : Nat → Int) (pt : Nat) : MetV l yX0_restart wsX0_restart rm_X0_restart D cI [.ref (a 4)] (w1 cI a f g n b len kd sg nb pt) (w1 cI a f g n b len ((s_X0_restart kd sg nb).1) ((s_X0_restart kd sg nb).2.1) ((s_X0_restart kd sg nb).2.2.1) ((s_X0_restart kd sg nb).2.2.2)) := by
  refine xe_V (cc := cX0_restart) (maxL := 2) (ret := none) (by decide) rfl (Nat.le_of_ble_eq_true rfl) ?_
  intro p e s m below meth c hx hb hr hml hts hown hlocks hP hK A hA hD hS ls hl
  have hl : lv_has ls 2 [(0, .ref (a 4))] := hl
  have hown : s.vm.findClass RX0 = some m.cls := hown
  have hSx : CallFix p m c cX0_restart 2 s ([.ref (a 4)] : List Value).toArray wsX0_restart RX0 := ⟨hx, hb, hml, hown, hts⟩
  have inRX0 : ∀ w ∈ u_ws RX0 TX0 4, w ∈ wsX0_restart := by decide +kernel
  have qf15 := hts (.fieldLink RX0 15 "VaultMovements$Windings" "signs" "[I") (by decide +kernel)
  have qf18 := hts (.fieldLink RX0 18 "VaultMovements$Windings" "numbers" "[I") (by decide +kernel)
  have qf21 := hts (.fieldLink RX0 21 "VaultMovements$Windings" "part" "I") (by decide +kernel)
  have qf9 := hts (.fieldLink RX0 9 "VaultMovements$Windings" "kinds" "[I") (by decide +kernel)
  obtain ⟨z, hz⟩ : ∃ z, z = (s_X0_restart kd sg nb) := ⟨_, rfl⟩
  rw [← hz]
  unfold s_X0_restart at hz
  refine lv_aload_n hx hb dX0_restart_0 rfl (lv_at hl 0 rfl) ?_
  refine lv_iconst (v := jI 0) hx hb dX0_restart_1 rfl ?_
  refine va_put (D := D) (ci := 0) (v := .int (jI 0)) (ty := .int) (C := RX0) (T := TX0) (N := 4) hx hb hts inRX0 tyX0 tyX0_ok nmX0 hown hK hP hD hS 4 rfl rfl 3 (by decide) qf21 (fun _ h9 => h9) rfl (by decide +kernel) rfl rfl (Nat.le_of_ble_eq_true rfl) dX0_restart_2 (fun H locs hP hD hS => ?_)
  have hP : va_P D vwCl (w1 cI a f g n b len kd sg nb 0) H := hP
  have hD : va_D A (w1 cI a f g n b len kd sg nb 0) := hD
  refine lv_iconst (v := jI 0) hx hb dX0_restart_5 rfl ?_
  refine lv_istore_n (lv' := [(1, .int (jI 0)), (0, .ref (a 4))]) hx hb dX0_restart_6 rfl hl (by decide) rfl (fun ls hl => ?_)
  have LP7 : ∀ (k i : Nat) (kd : Nat → Int) (sg : Nat → Int) (nb : Nat → Int) (H : Heap) (locs : List Loc) (ls : Array Slot), i ≤ 3 → i + k = 3 + 1 → z = s_X0_restart_lp7 k i kd sg nb → va_P D vwCl (w1 cI a f g n b len kd sg nb 0) H → va_D A (w1 cI a f g n b len kd sg nb 0) → va_S A s.heap H locs → lv_has ls 2 [(0, .ref (a 4)), (1, .int (jI (i : Int)))] → W p l e rm_X0_restart s m ([.ref (a 4)] : List Value).toArray below meth c H locs 0 0 (MQ below (va_Qv (fun (_ : Unit) => True) (xq_B D cI A (w1 cI a f g n b len z.1 z.2.1 z.2.2.1 z.2.2.2)) A) ([.ref (a 4)] : List Value).toArray s 0 0 A) (F0 m 7 ls []) := by
    intro k
    induction k with
    | zero => intro i kd sg nb _ _ ls h1 h2; exact absurd h2 (by omega)
    | succ k ih =>
      intro i kd sg nb H locs ls h1 h2 hz hP hD hS hl
      rw [s_X0_restart_lp7] at hz
      refine lv_iload_n hx hb dX0_restart_7 rfl (lv_at hl 1 rfl) ?_
      refine lv_iconst (v := jI 3) hx hb dX0_restart_8 rfl ?_
      refine x_icmp_ge (tgt := 39) hx hb dX0_restart_9 (by decide) ⟨(by omega), (by decide)⟩ (fun c9 => ?_) (fun c9 => ?_)
      · rw [if_pos c9] at hz
        subst hz
        exact xi_v hx hb hr hlocks hK hP hD hS rfl dX0_restart_39
      · rw [if_neg c9] at hz
        refine lv_aload_n hx hb dX0_restart_12 rfl (lv_at hl 0 rfl) ?_
        refine va_get (D := D) (ci := 0) (v := .ref (a 5)) (C := RX0) (T := TX0) (N := 4) hx hb hts inRX0 hown hK hP 4 rfl rfl 0 (by decide) qf9 (fun _ h9 => h9) rfl dX0_restart_13 ?_
        refine lv_iload_n hx hb dX0_restart_16 rfl (lv_at hl 1 rfl) ?_
        refine lv_iconst (v := jI 0) hx hb dX0_restart_17 rfl ?_
        refine x_iast (w1 := (w1 cI a f g n b len (upz kd i 0) sg nb 0)) hx hb hK hP hD hS 5 0 rfl rfl i (by omega) (by omega) (by decide) dX0_restart_18 rfl (fun H locs hP hD hS => ?_)
        refine lv_aload_n hx hb dX0_restart_19 rfl (lv_at hl 0 rfl) ?_
        refine va_get (D := D) (ci := 0) (v := .ref (a 6)) (C := RX0) (T := TX0) (N := 4) hx hb hts inRX0 hown hK hP 4 rfl rfl 1 (by decide) qf15 (fun _ h9 => h9) rfl dX0_restart_20 ?_
        refine lv_iload_n hx hb dX0_restart_23 rfl (lv_at hl 1 rfl) ?_
        refine lv_iconst (v := jI 0) hx hb dX0_restart_24 rfl ?_
        refine x_iast (w1 := (w1 cI a f g n b len (upz kd i 0) (upz sg i 0) nb 0)) hx hb hK hP hD hS 6 0 rfl rfl i (by omega) (by omega) (by decide) dX0_restart_25 rfl (fun H locs hP hD hS => ?_)
        refine lv_aload_n hx hb dX0_restart_26 rfl (lv_at hl 0 rfl) ?_
        refine va_get (D := D) (ci := 0) (v := .ref (a 7)) (C := RX0) (T := TX0) (N := 4) hx hb hts inRX0 hown hK hP 4 rfl rfl 2 (by decide) qf18 (fun _ h9 => h9) rfl dX0_restart_27 ?_
        refine lv_iload_n hx hb dX0_restart_30 rfl (lv_at hl 1 rfl) ?_
        refine lv_iconst (v := jI 0) hx hb dX0_restart_31 rfl ?_
        refine x_iast (w1 := (w1 cI a f g n b len (upz kd i 0) (upz sg i 0) (upz nb i 0) 0)) hx hb hK hP hD hS 7 0 rfl rfl i (by omega) (by omega) (by decide) dX0_restart_32 rfl (fun H locs hP hD hS => ?_)
        refine lv_iinc (v := jI ((i + 1 : Nat) : Int)) (lv' := [(1, .int (jI ((i + 1 : Nat) : Int))), (0, .ref (a 4))]) hx hb dX0_restart_33 hl (k := 1) rfl (jI_inc _ 1) (by decide) rfl (fun ls hl => ?_)
        refine lv_goto (tgt := 7) hx hb dX0_restart_36 (by decide) ?_
        exact ih (i + 1) (upz kd i 0) (upz sg i 0) (upz nb i 0) _ _ ls (by omega) (by omega) hz hP hD hS (lv_sub hl [1, 0] rfl)
  exact LP7 (3 + 1 - 0) 0 kd sg nb _ _ ls (by omega) (by omega) hz hP hD hS (lv_sub hl [1, 0] rfl)
