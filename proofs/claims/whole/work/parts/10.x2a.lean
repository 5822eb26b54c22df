/-- what a movement's places hold, by the reference's own places -/
def mv2B (f : Nat → Int) (B : Int) : Prop := ∀ j : Nat, j < 3 → (0 ≤ f (21 + 4 * j) ∧ f (21 + 4 * j) ≤ 200) ∧ (f (21 + 4 * j + 1) = 0 ∨ f (21 + 4 * j + 1) = 1) ∧ (0 ≤ f (21 + 4 * j + 2) ∧ f (21 + 4 * j + 2) ≤ 20) ∧ 0 ≤ f (21 + 4 * j + 3) ∧ f (21 + 4 * j + 3) ≤ B
def mv2 (f : Nat → Int) : Prop := mv2B f 1000000
theorem mv2B_mono {f : Nat → Int} {B C : Int} (h : mv2B f B) (hB : B ≤ C) : mv2B f C := fun j hj => by
  have := h j hj
  omega
theorem mv2B_upz {f : Nat → Int} {B : Int} {k : Nat} {v : Int} (h : mv2B f B) (hk : k < 21) : mv2B (upz f k v) B := fun j hj => by
  have := h j hj
  rw [upz_n (by omega), upz_n (by omega), upz_n (by omega), upz_n (by omega)]
  exact this
/-- the hours' loop: so many are gone, so many are left -/
def dnI (r L x : Int) (i : Nat) (v : Int) : Prop := 0 ≤ v ∧ v ≤ x ∧ (i : Int) + 2 * v + (if (r + i) % L = 0 then 0 else 1) ≤ 2 * x + 1
theorem dn_0 {r L x : Int} (h : 0 ≤ x) : dnI r L x 0 x := by
  refine ⟨h, Int.le_refl _, ?_⟩
  split <;> omega
theorem dn_no {r L x : Int} {i : Nat} {v : Int} (h : dnI r L x i v) (hv : ¬ v ≤ 0) : dnI r L x (i + 1) (v - 1) := by
  obtain ⟨h1, h2, h3⟩ := h
  refine ⟨by omega, by omega, ?_⟩
  split at h3 <;> split <;> omega
theorem dn_lost {r L x : Int} {i : Nat} {v : Int} (h : dnI r L x i v) (hL : 2 ≤ L) (hz : (r + ((i + 1 : Nat) : Int)) % L = 0) : dnI r L x (i + 1) (v - 0) := by
  obtain ⟨h1, h2, h3⟩ := h
  have hn : ¬ (r + (i : Int)) % L = 0 := fun hq => by
    have a1 := Int.dvd_of_emod_eq_zero hz
    have a2 := Int.dvd_of_emod_eq_zero hq
    have a3 := Int.dvd_sub a1 a2
    have e : r + ((i + 1 : Nat) : Int) - (r + (i : Int)) = 1 := by omega
    rw [e] at a3
    have := Int.le_of_dvd (by decide) a3
    omega
  rw [if_neg hn] at h3
  refine ⟨by omega, by omega, ?_⟩
  rw [if_pos hz]
  omega
abbrev rm_X2_thrown : Room := { frames := 0, cells := 0, slots := 0, locals := 0 }
set_option maxHeartbeats 4000000 in
set_option maxRecDepth 100000 in
theorem m_X2_thrown (l : Launch) (D : va_G) (cI : ClassId) (a : Nat → Nat) (f : Nat → Int) (g : Nat → Int) (n : Nat) (b : Nat → Int) (len : Nat) (th : Int) (at_ : Nat) (fl : Int) (va : Int) (so : Nat → Int) (ma : Nat → Int) : MetR l yX2_thrown wsX2_thrown rm_X2_thrown D cI [.ref (a 0)] (w2 cI a f g n b len th at_ fl va so ma) th := by
  refine xe_R (cc := cX2_thrown) (maxL := 1) (ret := (some .int)) (by decide) rfl (Nat.le_of_ble_eq_true rfl) ?_
  intro p e s m below meth c hx hb hr hml hts hown hlocks hP hK ls hl
  have hl : lv_has ls 1 [(0, .ref (a 0))] := hl
  have hown : s.vm.findClass RX2 = some m.cls := hown
  have hSx : CallFix p m c cX2_thrown 1 s ([.ref (a 0)] : List Value).toArray wsX2_thrown RX2 := ⟨hx, hb, hml, hown, hts⟩
  have inRX2 : ∀ w ∈ u_ws RX2 TX2 11, w ∈ wsX2_thrown := by decide +kernel
  have qf25 := hts (.fieldLink RX2 25 "VaultMovementsModel" "thrown" "I") (by decide +kernel)
  obtain ⟨z, hz⟩ : ∃ z, z = th := ⟨_, rfl⟩
  rw [← hz]
  refine lv_aload_n hx hb dX2_thrown_0 rfl (lv_at hl 0 rfl) ?_
  refine va_get (D := D) (ci := 2) (v := .int (jI th)) (C := RX2) (T := TX2) (N := 11) hx hb hts inRX2 hown hK hP 0 rfl rfl 5 (by decide) qf25 (fun _ h9 => h9) rfl dX2_thrown_1 ?_
  subst hz
  exact xr_i hx hb hr hlocks rfl dX2_thrown_4
def s_X2_fails (x0 : Int) : Int × Int := (0, x0)
abbrev rm_X2_fails : Room := { frames := 0, cells := 0, slots := 0, locals := 0 }
set_option maxHeartbeats 4000000 in
set_option maxRecDepth 100000 in
theorem m_X2_fails (l : Launch) (D : va_G) (cI : ClassId) (a : Nat → Nat) (f : Nat → Int) (g : Nat → Int) (n : Nat) (b : Nat → Int) (len : Nat) (th : Int) (at_ : Nat) (fl : Int) (va : Int) (so : Nat → Int) (ma : Nat → Int) (x0 : Int) : MetI l yX2_fails wsX2_fails rm_X2_fails D cI [.ref (a 0), .int (jI x0)] (w2 cI a f g n b len th at_ fl va so ma) (w2 cI a f g n b len ((s_X2_fails x0).2) at_ fl va so ma) ((s_X2_fails x0).1) := by
  refine xe_I (cc := cX2_fails) (maxL := 2) (ret := (some .int)) (by decide) rfl (Nat.le_of_ble_eq_true rfl) ?_
  intro p e s m below meth c hx hb hr hml hts hown hlocks hP hK A hA hD hS ls hl
  have hl : lv_has ls 2 [(0, .ref (a 0)), (1, .int (jI x0))] := hl
  have hown : s.vm.findClass RX2 = some m.cls := hown
  have hSx : CallFix p m c cX2_fails 2 s ([.ref (a 0), .int (jI x0)] : List Value).toArray wsX2_fails RX2 := ⟨hx, hb, hml, hown, hts⟩
  have inRX2 : ∀ w ∈ u_ws RX2 TX2 11, w ∈ wsX2_fails := by decide +kernel
  have qf25 := hts (.fieldLink RX2 25 "VaultMovementsModel" "thrown" "I") (by decide +kernel)
  obtain ⟨z, hz⟩ : ∃ z, z = (s_X2_fails x0) := ⟨_, rfl⟩
  rw [← hz]
  unfold s_X2_fails at hz
  refine lv_aload_n hx hb dX2_fails_0 rfl (lv_at hl 0 rfl) ?_
  refine lv_iload_n hx hb dX2_fails_1 rfl (lv_at hl 1 rfl) ?_
  refine va_put (D := D) (ci := 2) (v := .int (jI x0)) (ty := .int) (C := RX2) (T := TX2) (N := 11) hx hb hts inRX2 tyX2 tyX2_ok nmX2 hown hK hP hD hS 0 rfl rfl 5 (by decide) qf25 (fun _ h9 => h9) rfl (by decide +kernel) rfl rfl (Nat.le_of_ble_eq_true rfl) dX2_fails_2 (fun H locs hP hD hS => ?_)
  have hP : va_P D vwCl (w2 cI a f g n b len x0 at_ fl va so ma) H := hP
  have hD : va_D A (w2 cI a f g n b len x0 at_ fl va so ma) := hD
  refine lv_iconst (v := jI 0) hx hb dX2_fails_5 rfl ?_
  subst hz
  exact xi_i hx hb hr hlocks hK hP hD hS rfl rfl dX2_fails_6
def s_X2_in (x0 : Int) (x1 : Int) (x2 : Int) : Int := if x0 < x1 then 0 else (if x2 < x0 then 0 else 1)
theorem b_X2_in (x0 : Int) (x1 : Int) (x2 : Int) : (s_X2_in x0 x1 x2) = 0 ∨ (s_X2_in x0 x1 x2) = 1 := by unfold s_X2_in; (repeat' split) <;> first | exact Or.inl rfl | exact Or.inr rfl
abbrev rm_X2_in : Room := { frames := 0, cells := 0, slots := 0, locals := 0 }
set_option maxHeartbeats 4000000 in
set_option maxRecDepth 100000 in
theorem m_X2_in (l : Launch) (x0 : Int) (x1 : Int) (x2 : Int) (hx0 : -2147483648 ≤ x0 ∧ x0 < 2147483648) (hx1 : -2147483648 ≤ x1 ∧ x1 < 2147483648) (hx2 : -2147483648 ≤ x2 ∧ x2 < 2147483648) : MetP l yX2_in wsX2_in rm_X2_in [.int (jI x0), .int (jI x1), .int (jI x2)] (s_X2_in x0 x1 x2) := by
  refine xe_P (cc := cX2_in) (maxL := 3) (ret := (some .boolean)) (by decide) rfl (Nat.le_of_ble_eq_true rfl) ?_
  intro p e s m below meth c hx hb hr hml hts hown hlocks ls hl
  have hl : lv_has ls 3 [(0, .int (jI x0)), (1, .int (jI x1)), (2, .int (jI x2))] := hl
  have hown : s.vm.findClass RX2 = some m.cls := hown
  have hSx : CallFix p m c cX2_in 3 s ([.int (jI x0), .int (jI x1), .int (jI x2)] : List Value).toArray wsX2_in RX2 := ⟨hx, hb, hml, hown, hts⟩
  obtain ⟨z, hz⟩ : ∃ z, z = (s_X2_in x0 x1 x2) := ⟨_, rfl⟩
  rw [← hz]
  unfold s_X2_in at hz
  refine lv_iload_n hx hb dX2_in_0 rfl (lv_at hl 0 rfl) ?_
  refine lv_iload_n hx hb dX2_in_1 rfl (lv_at hl 1 rfl) ?_
  refine x_icmp_lt (tgt := 14) hx hb dX2_in_2 (by decide) ⟨(by omega), (by omega)⟩ (fun c2 => ?_) (fun c2 => ?_)
  · rw [if_pos c2] at hz
    refine lv_iconst (v := jI 0) hx hb dX2_in_14 rfl ?_
    subst hz
    exact xr_z hx hb hr hlocks (Or.inl rfl) rfl dX2_in_15
  · rw [if_neg c2] at hz
    refine lv_iload_n hx hb dX2_in_5 rfl (lv_at hl 0 rfl) ?_
    refine lv_iload_n hx hb dX2_in_6 rfl (lv_at hl 2 rfl) ?_
    refine x_icmp_gt (tgt := 14) hx hb dX2_in_7 (by decide) ⟨(by omega), (by omega)⟩ (fun c7 => ?_) (fun c7 => ?_)
    · rw [if_pos c7] at hz
      refine lv_iconst (v := jI 0) hx hb dX2_in_14 rfl ?_
      subst hz
      exact xr_z hx hb hr hlocks (Or.inl rfl) rfl dX2_in_15
    · rw [if_neg c7] at hz
      refine lv_iconst (v := jI 1) hx hb dX2_in_10 rfl ?_
      refine lv_goto (tgt := 15) hx hb dX2_in_11 (by decide) ?_
      subst hz
      exact xr_z hx hb hr hlocks (Or.inr rfl) rfl dX2_in_15
theorem ok_X2_in {x a b : Int} (h : ¬ s_X2_in x a b = 0) : a ≤ x ∧ x ≤ b := by
  unfold s_X2_in at h
  (repeat' split at h) <;> omega
theorem no_X2_in {x a b : Int} (h : s_X2_in x a b = 0) : ¬ (a ≤ x ∧ x ≤ b) := by
  unfold s_X2_in at h
  (repeat' split at h) <;> omega
abbrev rm_X2_isMovement : Room := { frames := 1, cells := 0, slots := 0, locals := 22 }
set_option maxHeartbeats 4000000 in
set_option maxRecDepth 100000 in
theorem m_X2_isMovement (l : Launch) (x0 : Int) (hx0 : -2147483648 ≤ x0 ∧ x0 < 2147483648) : MetP l yX2_isMovement wsX2_isMovement rm_X2_isMovement [.int (jI x0)] (s_X2_in x0 0 2) := by
  refine xe_P (cc := cX2_isMovement) (maxL := 1) (ret := (some .boolean)) (by decide) rfl (Nat.le_of_ble_eq_true rfl) ?_
  intro p e s m below meth c hx hb hr hml hts hown hlocks ls hl
  have hl : lv_has ls 1 [(0, .int (jI x0))] := hl
  have hown : s.vm.findClass RX2 = some m.cls := hown
  have hSx : CallFix p m c cX2_isMovement 1 s ([.int (jI x0)] : List Value).toArray wsX2_isMovement RX2 := ⟨hx, hb, hml, hown, hts⟩
  obtain ⟨z, hz⟩ : ∃ z, z = (s_X2_in x0 0 2) := ⟨_, rfl⟩
  rw [← hz]
  refine lv_iload_n hx hb dX2_isMovement_0 rfl (lv_at hl 0 rfl) ?_
  refine lv_iconst (v := jI 0) hx hb dX2_isMovement_1 rfl ?_
  refine lv_iconst (v := jI 2) hx hb dX2_isMovement_2 rfl ?_
  refine xc_P (As := [.int (jI x0), .int (jI 0), .int (jI 2)]) (rest := []) hSx (m_X2_in l x0 0 2 (by omega) (by decide) (by decide)) (va_cwS 3 hts gX2_isMovement_X2_in rfl rfl rfl (by decide +kernel) ⟨Nat.le_of_ble_eq_true rfl, Nat.le_of_ble_eq_true rfl⟩) rfl hl.1 rfl (Nat.le_of_ble_eq_true rfl) dX2_isMovement_3 ⟨Nat.zero_le _, Nat.zero_le _⟩ ?_
  subst hz
  exact xr_z hx hb hr hlocks (b_X2_in x0 0 2) rfl dX2_isMovement_6
abbrev rm_X2_isDay : Room := { frames := 1, cells := 0, slots := 0, locals := 22 }
set_option maxHeartbeats 4000000 in
set_option maxRecDepth 100000 in
theorem m_X2_isDay (l : Launch) (x0 : Int) (hx0 : -2147483648 ≤ x0 ∧ x0 < 2147483648) : MetP l yX2_isDay wsX2_isDay rm_X2_isDay [.int (jI x0)] (s_X2_in x0 0 6) := by
  refine xe_P (cc := cX2_isDay) (maxL := 1) (ret := (some .boolean)) (by decide) rfl (Nat.le_of_ble_eq_true rfl) ?_
  intro p e s m below meth c hx hb hr hml hts hown hlocks ls hl
  have hl : lv_has ls 1 [(0, .int (jI x0))] := hl
  have hown : s.vm.findClass RX2 = some m.cls := hown
  have hSx : CallFix p m c cX2_isDay 1 s ([.int (jI x0)] : List Value).toArray wsX2_isDay RX2 := ⟨hx, hb, hml, hown, hts⟩
  obtain ⟨z, hz⟩ : ∃ z, z = (s_X2_in x0 0 6) := ⟨_, rfl⟩
  rw [← hz]
  refine lv_iload_n hx hb dX2_isDay_0 rfl (lv_at hl 0 rfl) ?_
  refine lv_iconst (v := jI 0) hx hb dX2_isDay_1 rfl ?_
  refine lv_bipush (v := jI 6) hx hb dX2_isDay_2 (by decide) ?_
  refine xc_P (As := [.int (jI x0), .int (jI 0), .int (jI 6)]) (rest := []) hSx (m_X2_in l x0 0 6 (by omega) (by decide) (by decide)) (va_cwS 3 hts gX2_isDay_X2_in rfl rfl rfl (by decide +kernel) ⟨Nat.le_of_ble_eq_true rfl, Nat.le_of_ble_eq_true rfl⟩) rfl hl.1 rfl (Nat.le_of_ble_eq_true rfl) dX2_isDay_4 ⟨Nat.zero_le _, Nat.zero_le _⟩ ?_
  subst hz
  exact xr_z hx hb hr hlocks (b_X2_in x0 0 6) rfl dX2_isDay_7
def s_X2_isFor (x0 : Int) (x1 : Int) : Int := if x0 = 0 then (s_X2_in x1 1 9) else (if x0 = 1 then (s_X2_in x1 1 24) else (s_X2_in x1 10 5000))
theorem b_X2_isFor (x0 : Int) (x1 : Int) : (s_X2_isFor x0 x1) = 0 ∨ (s_X2_isFor x0 x1) = 1 := by unfold s_X2_isFor; (repeat' split) <;> first | exact Or.inl rfl | exact Or.inr rfl | exact b_X2_in _ _ _
abbrev rm_X2_isFor : Room := { frames := 1, cells := 0, slots := 0, locals := 22 }
set_option maxHeartbeats 4000000 in
set_option maxRecDepth 100000 in
theorem m_X2_isFor (l : Launch) (x0 : Int) (x1 : Int) (hx0 : -2147483648 ≤ x0 ∧ x0 < 2147483648) (hx1 : -2147483648 ≤ x1 ∧ x1 < 2147483648) : MetP l yX2_isFor wsX2_isFor rm_X2_isFor [.int (jI x0), .int (jI x1)] (s_X2_isFor x0 x1) := by
  refine xe_P (cc := cX2_isFor) (maxL := 2) (ret := (some .boolean)) (by decide) rfl (Nat.le_of_ble_eq_true rfl) ?_
  intro p e s m below meth c hx hb hr hml hts hown hlocks ls hl
  have hl : lv_has ls 2 [(0, .int (jI x0)), (1, .int (jI x1))] := hl
  have hown : s.vm.findClass RX2 = some m.cls := hown
  have hSx : CallFix p m c cX2_isFor 2 s ([.int (jI x0), .int (jI x1)] : List Value).toArray wsX2_isFor RX2 := ⟨hx, hb, hml, hown, hts⟩
  obtain ⟨z, hz⟩ : ∃ z, z = (s_X2_isFor x0 x1) := ⟨_, rfl⟩
  rw [← hz]
  unfold s_X2_isFor at hz
  refine lv_iload_n hx hb dX2_isFor_0 rfl (lv_at hl 0 rfl) ?_
  refine x_if_ne (tgt := 14) hx hb dX2_isFor_1 (by decide) (by omega) (fun c1 => ?_) (fun c1 => ?_)
  · rw [if_neg c1] at hz
    refine lv_iload_n hx hb dX2_isFor_14 rfl (lv_at hl 0 rfl) ?_
    refine lv_iconst (v := jI 1) hx hb dX2_isFor_15 rfl ?_
    refine x_icmp_ne (tgt := 29) hx hb dX2_isFor_16 (by decide) ⟨(by omega), (by decide)⟩ (fun c16 => ?_) (fun c16 => ?_)
    · rw [if_neg c16] at hz
      refine lv_iload_n hx hb dX2_isFor_29 rfl (lv_at hl 1 rfl) ?_
      refine lv_bipush (v := jI 10) hx hb dX2_isFor_30 (by decide) ?_
      refine lv_sipush (v := jI 5000) hx hb dX2_isFor_32 (by decide) ?_
      refine xc_P (As := [.int (jI x1), .int (jI 10), .int (jI 5000)]) (rest := []) hSx (m_X2_in l x1 10 5000 (by omega) (by decide) (by decide)) (va_cwS 3 hts gX2_isFor_X2_in rfl rfl rfl (by decide +kernel) ⟨Nat.le_of_ble_eq_true rfl, Nat.le_of_ble_eq_true rfl⟩) rfl hl.1 rfl (Nat.le_of_ble_eq_true rfl) dX2_isFor_35 ⟨Nat.zero_le _, Nat.zero_le _⟩ ?_
      subst hz
      exact xr_z hx hb hr hlocks (b_X2_in x1 10 5000) rfl dX2_isFor_38
    · rw [if_pos c16] at hz
      refine lv_iload_n hx hb dX2_isFor_19 rfl (lv_at hl 1 rfl) ?_
      refine lv_iconst (v := jI 1) hx hb dX2_isFor_20 rfl ?_
      refine lv_bipush (v := jI 24) hx hb dX2_isFor_21 (by decide) ?_
      refine xc_P (As := [.int (jI x1), .int (jI 1), .int (jI 24)]) (rest := []) hSx (m_X2_in l x1 1 24 (by omega) (by decide) (by decide)) (va_cwS 3 hts gX2_isFor_X2_in rfl rfl rfl (by decide +kernel) ⟨Nat.le_of_ble_eq_true rfl, Nat.le_of_ble_eq_true rfl⟩) rfl hl.1 rfl (Nat.le_of_ble_eq_true rfl) dX2_isFor_23 ⟨Nat.zero_le _, Nat.zero_le _⟩ ?_
      refine lv_goto (tgt := 38) hx hb dX2_isFor_26 (by decide) ?_
      subst hz
      exact xr_z hx hb hr hlocks (b_X2_in x1 1 24) rfl dX2_isFor_38
  · rw [if_pos c1] at hz
    refine lv_iload_n hx hb dX2_isFor_4 rfl (lv_at hl 1 rfl) ?_
    refine lv_iconst (v := jI 1) hx hb dX2_isFor_5 rfl ?_
    refine lv_bipush (v := jI 9) hx hb dX2_isFor_6 (by decide) ?_
    refine xc_P (As := [.int (jI x1), .int (jI 1), .int (jI 9)]) (rest := []) hSx (m_X2_in l x1 1 9 (by omega) (by decide) (by decide)) (va_cwS 3 hts gX2_isFor_X2_in rfl rfl rfl (by decide +kernel) ⟨Nat.le_of_ble_eq_true rfl, Nat.le_of_ble_eq_true rfl⟩) rfl hl.1 rfl (Nat.le_of_ble_eq_true rfl) dX2_isFor_8 ⟨Nat.zero_le _, Nat.zero_le _⟩ ?_
    refine lv_goto (tgt := 38) hx hb dX2_isFor_11 (by decide) ?_
    subst hz
    exact xr_z hx hb hr hlocks (b_X2_in x1 1 9) rfl dX2_isFor_38
abbrev rm_X2_hours : Room := { frames := 0, cells := 0, slots := 0, locals := 0 }
set_option maxHeartbeats 4000000 in
set_option maxRecDepth 100000 in
theorem m_X2_hours (l : Launch) (D : va_G) (cI : ClassId) (a : Nat → Nat) (f : Nat → Int) (g : Nat → Int) (n : Nat) (b : Nat → Int) (len : Nat) (th : Int) (at_ : Nat) (fl : Int) (va : Int) (so : Nat → Int) (ma : Nat → Int) (j : Nat) (hj : j < 3) : MetR l yX2_hours wsX2_hours rm_X2_hours D cI [.ref (a 0), .int (jI (j : Int))] (w2 cI a f g n b len th at_ fl va so ma) (f (21 + (4 * j))) := by
  refine xe_R (cc := cX2_hours) (maxL := 2) (ret := (some .int)) (by decide) rfl (Nat.le_of_ble_eq_true rfl) ?_
  intro p e s m below meth c hx hb hr hml hts hown hlocks hP hK ls hl
  have hl : lv_has ls 2 [(0, .ref (a 0)), (1, .int (jI (j : Int)))] := hl
  have hown : s.vm.findClass RX2 = some m.cls := hown
  have hSx : CallFix p m c cX2_hours 2 s ([.ref (a 0), .int (jI (j : Int))] : List Value).toArray wsX2_hours RX2 := ⟨hx, hb, hml, hown, hts⟩
  have inRX2 : ∀ w ∈ u_ws RX2 TX2 11, w ∈ wsX2_hours := by decide +kernel
  have qf7 := hts (.fieldLink RX2 7 "VaultMovementsModel" "now" "[I") (by decide +kernel)
  obtain ⟨z, hz⟩ : ∃ z, z = (f (21 + (4 * j))) := ⟨_, rfl⟩
  rw [← hz]
  refine lv_aload_n hx hb dX2_hours_0 rfl (lv_at hl 0 rfl) ?_
  refine va_get (D := D) (ci := 2) (v := .ref (a 1)) (C := RX2) (T := TX2) (N := 11) hx hb hts inRX2 hown hK hP 0 rfl rfl 0 (by decide) qf7 (fun _ h9 => h9) rfl dX2_hours_1 ?_
  refine lv_bipush (v := jI 21) hx hb dX2_hours_4 (by decide) ?_
  refine lv_iconst (v := jI 4) hx hb dX2_hours_6 rfl ?_
  refine lv_iload_n hx hb dX2_hours_7 rfl (lv_at hl 1 rfl) ?_
  refine x_imul hx hb dX2_hours_8 ?_
  refine x_iadd hx hb dX2_hours_9 ?_
  refine x_iald hx hb hK hP 1 0 rfl rfl (21 + (4 * j)) (by omega) (by omega) (by decide) dX2_hours_10 ?_
  subst hz
  exact xr_i hx hb hr hlocks rfl dX2_hours_11
def s_X2_goes (f : Nat → Int) (j : Nat) : Int := if (f ((21 + (4 * j)) + 1)) = 1 then 1 else 0
theorem b_X2_goes (f : Nat → Int) (j : Nat) : (s_X2_goes f j) = 0 ∨ (s_X2_goes f j) = 1 := by unfold s_X2_goes; (repeat' split) <;> first | exact Or.inl rfl | exact Or.inr rfl
abbrev rm_X2_goes : Room := { frames := 0, cells := 0, slots := 0, locals := 0 }
set_option maxHeartbeats 4000000 in
set_option maxRecDepth 100000 in
theorem m_X2_goes (l : Launch) (D : va_G) (cI : ClassId) (a : Nat → Nat) (f : Nat → Int) (g : Nat → Int) (n : Nat) (b : Nat → Int) (len : Nat) (th : Int) (at_ : Nat) (fl : Int) (va : Int) (so : Nat → Int) (ma : Nat → Int) (j : Nat) (hj : j < 3) (hrf : rng f) : MetR l yX2_goes wsX2_goes rm_X2_goes D cI [.ref (a 0), .int (jI (j : Int))] (w2 cI a f g n b len th at_ fl va so ma) (s_X2_goes f j) := by
  refine xe_R (cc := cX2_goes) (maxL := 2) (ret := (some .boolean)) (by decide) rfl (Nat.le_of_ble_eq_true rfl) ?_
  intro p e s m below meth c hx hb hr hml hts hown hlocks hP hK ls hl
  have hl : lv_has ls 2 [(0, .ref (a 0)), (1, .int (jI (j : Int)))] := hl
  have hown : s.vm.findClass RX2 = some m.cls := hown
  have hSx : CallFix p m c cX2_goes 2 s ([.ref (a 0), .int (jI (j : Int))] : List Value).toArray wsX2_goes RX2 := ⟨hx, hb, hml, hown, hts⟩
  have inRX2 : ∀ w ∈ u_ws RX2 TX2 11, w ∈ wsX2_goes := by decide +kernel
  have qf7 := hts (.fieldLink RX2 7 "VaultMovementsModel" "now" "[I") (by decide +kernel)
  obtain ⟨z, hz⟩ : ∃ z, z = (s_X2_goes f j) := ⟨_, rfl⟩
  rw [← hz]
  unfold s_X2_goes at hz
  refine lv_aload_n hx hb dX2_goes_0 rfl (lv_at hl 0 rfl) ?_
  refine va_get (D := D) (ci := 2) (v := .ref (a 1)) (C := RX2) (T := TX2) (N := 11) hx hb hts inRX2 hown hK hP 0 rfl rfl 0 (by decide) qf7 (fun _ h9 => h9) rfl dX2_goes_1 ?_
  refine lv_bipush (v := jI 21) hx hb dX2_goes_4 (by decide) ?_
  refine lv_iconst (v := jI 4) hx hb dX2_goes_6 rfl ?_
  refine lv_iload_n hx hb dX2_goes_7 rfl (lv_at hl 1 rfl) ?_
  refine x_imul hx hb dX2_goes_8 ?_
  refine x_iadd hx hb dX2_goes_9 ?_
  refine lv_iconst (v := jI 1) hx hb dX2_goes_10 rfl ?_
  refine x_iadd hx hb dX2_goes_11 ?_
  refine x_iald hx hb hK hP 1 0 rfl rfl ((21 + (4 * j)) + 1) (by omega) (by omega) (by decide) dX2_goes_12 ?_
  refine lv_iconst (v := jI 1) hx hb dX2_goes_13 rfl ?_
  refine x_icmp_ne (tgt := 21) hx hb dX2_goes_14 (by decide) ⟨(hrf _), (by decide)⟩ (fun c14 => ?_) (fun c14 => ?_)
  · rw [if_neg c14] at hz
    refine lv_iconst (v := jI 0) hx hb dX2_goes_21 rfl ?_
    subst hz
    exact xr_z hx hb hr hlocks (Or.inl rfl) rfl dX2_goes_22
  · rw [if_pos c14] at hz
    refine lv_iconst (v := jI 1) hx hb dX2_goes_17 rfl ?_
    refine lv_goto (tgt := 22) hx hb dX2_goes_18 (by decide) ?_
    subst hz
    exact xr_z hx hb hr hlocks (Or.inr rfl) rfl dX2_goes_22
abbrev rm_X2_lossOf : Room := { frames := 0, cells := 0, slots := 0, locals := 0 }
set_option maxHeartbeats 4000000 in
set_option maxRecDepth 100000 in
theorem m_X2_lossOf (l : Launch) (D : va_G) (cI : ClassId) (a : Nat → Nat) (f : Nat → Int) (g : Nat → Int) (n : Nat) (b : Nat → Int) (len : Nat) (th : Int) (at_ : Nat) (fl : Int) (va : Int) (so : Nat → Int) (ma : Nat → Int) (j : Nat) (hj : j < 3) : MetR l yX2_lossOf wsX2_lossOf rm_X2_lossOf D cI [.ref (a 0), .int (jI (j : Int))] (w2 cI a f g n b len th at_ fl va so ma) (f ((21 + (4 * j)) + 2)) := by
  refine xe_R (cc := cX2_lossOf) (maxL := 2) (ret := (some .int)) (by decide) rfl (Nat.le_of_ble_eq_true rfl) ?_
  intro p e s m below meth c hx hb hr hml hts hown hlocks hP hK ls hl
  have hl : lv_has ls 2 [(0, .ref (a 0)), (1, .int (jI (j : Int)))] := hl
  have hown : s.vm.findClass RX2 = some m.cls := hown
  have hSx : CallFix p m c cX2_lossOf 2 s ([.ref (a 0), .int (jI (j : Int))] : List Value).toArray wsX2_lossOf RX2 := ⟨hx, hb, hml, hown, hts⟩
  have inRX2 : ∀ w ∈ u_ws RX2 TX2 11, w ∈ wsX2_lossOf := by decide +kernel
  have qf7 := hts (.fieldLink RX2 7 "VaultMovementsModel" "now" "[I") (by decide +kernel)
  obtain ⟨z, hz⟩ : ∃ z, z = (f ((21 + (4 * j)) + 2)) := ⟨_, rfl⟩
  rw [← hz]
  refine lv_aload_n hx hb dX2_lossOf_0 rfl (lv_at hl 0 rfl) ?_
  refine va_get (D := D) (ci := 2) (v := .ref (a 1)) (C := RX2) (T := TX2) (N := 11) hx hb hts inRX2 hown hK hP 0 rfl rfl 0 (by decide) qf7 (fun _ h9 => h9) rfl dX2_lossOf_1 ?_
  refine lv_bipush (v := jI 21) hx hb dX2_lossOf_4 (by decide) ?_
  refine lv_iconst (v := jI 4) hx hb dX2_lossOf_6 rfl ?_
  refine lv_iload_n hx hb dX2_lossOf_7 rfl (lv_at hl 1 rfl) ?_
  refine x_imul hx hb dX2_lossOf_8 ?_
  refine x_iadd hx hb dX2_lossOf_9 ?_
  refine lv_iconst (v := jI 2) hx hb dX2_lossOf_10 rfl ?_
  refine x_iadd hx hb dX2_lossOf_11 ?_
  refine x_iald hx hb hK hP 1 0 rfl rfl ((21 + (4 * j)) + 2) (by omega) (by omega) (by decide) dX2_lossOf_12 ?_
  subst hz
  exact xr_i hx hb hr hlocks rfl dX2_lossOf_13
abbrev rm_X2_ran : Room := { frames := 0, cells := 0, slots := 0, locals := 0 }
set_option maxHeartbeats 4000000 in
set_option maxRecDepth 100000 in
theorem m_X2_ran (l : Launch) (D : va_G) (cI : ClassId) (a : Nat → Nat) (f : Nat → Int) (g : Nat → Int) (n : Nat) (b : Nat → Int) (len : Nat) (th : Int) (at_ : Nat) (fl : Int) (va : Int) (so : Nat → Int) (ma : Nat → Int) (j : Nat) (hj : j < 3) : MetR l yX2_ran wsX2_ran rm_X2_ran D cI [.ref (a 0), .int (jI (j : Int))] (w2 cI a f g n b len th at_ fl va so ma) (f ((21 + (4 * j)) + 3)) := by
  refine xe_R (cc := cX2_ran) (maxL := 2) (ret := (some .int)) (by decide) rfl (Nat.le_of_ble_eq_true rfl) ?_
  intro p e s m below meth c hx hb hr hml hts hown hlocks hP hK ls hl
  have hl : lv_has ls 2 [(0, .ref (a 0)), (1, .int (jI (j : Int)))] := hl
  have hown : s.vm.findClass RX2 = some m.cls := hown
  have hSx : CallFix p m c cX2_ran 2 s ([.ref (a 0), .int (jI (j : Int))] : List Value).toArray wsX2_ran RX2 := ⟨hx, hb, hml, hown, hts⟩
  have inRX2 : ∀ w ∈ u_ws RX2 TX2 11, w ∈ wsX2_ran := by decide +kernel
  have qf7 := hts (.fieldLink RX2 7 "VaultMovementsModel" "now" "[I") (by decide +kernel)
  obtain ⟨z, hz⟩ : ∃ z, z = (f ((21 + (4 * j)) + 3)) := ⟨_, rfl⟩
  rw [← hz]
  refine lv_aload_n hx hb dX2_ran_0 rfl (lv_at hl 0 rfl) ?_
  refine va_get (D := D) (ci := 2) (v := .ref (a 1)) (C := RX2) (T := TX2) (N := 11) hx hb hts inRX2 hown hK hP 0 rfl rfl 0 (by decide) qf7 (fun _ h9 => h9) rfl dX2_ran_1 ?_
  refine lv_bipush (v := jI 21) hx hb dX2_ran_4 (by decide) ?_
  refine lv_iconst (v := jI 4) hx hb dX2_ran_6 rfl ?_
  refine lv_iload_n hx hb dX2_ran_7 rfl (lv_at hl 1 rfl) ?_
  refine x_imul hx hb dX2_ran_8 ?_
  refine x_iadd hx hb dX2_ran_9 ?_
  refine lv_iconst (v := jI 3) hx hb dX2_ran_10 rfl ?_
  refine x_iadd hx hb dX2_ran_11 ?_
  refine x_iald hx hb hK hP 1 0 rfl rfl ((21 + (4 * j)) + 3) (by omega) (by omega) (by decide) dX2_ran_12 ?_
  subst hz
  exact xr_i hx hb hr hlocks rfl dX2_ran_13
def s_X2_toOpening_lp2 (f : Nat → Int) : Nat → Nat → Int
  | 0, _ => default
  | k + 1, i => if 168 < (i : Int) then (-1) else (if (f (((1 + ((((f 0) + (i : Int)) / 24) % 7))).toNat)) = (((f 0) + (i : Int)) % 24) then (i : Int) else (s_X2_toOpening_lp2 f k (i + 1)))
def s_X2_toOpening (f : Nat → Int) : Int := s_X2_toOpening_lp2 f (169 + 1 - 1) 1
abbrev rm_X2_toOpening : Room := { frames := 0, cells := 0, slots := 0, locals := 0 }
set_option maxHeartbeats 4000000 in
set_option maxRecDepth 100000 in
theorem m_X2_toOpening (l : Launch) (D : va_G) (cI : ClassId) (a : Nat → Nat) (f : Nat → Int) (g : Nat → Int) (n : Nat) (b : Nat → Int) (len : Nat) (th : Int) (at_ : Nat) (fl : Int) (va : Int) (so : Nat → Int) (ma : Nat → Int) (hrf : rng f) (hh : 0 ≤ f 0 ∧ f 0 ≤ 99999) : MetR l yX2_toOpening wsX2_toOpening rm_X2_toOpening D cI [.ref (a 0)] (w2 cI a f g n b len th at_ fl va so ma) (s_X2_toOpening f) := by
  refine xe_R (cc := cX2_toOpening) (maxL := 3) (ret := (some .int)) (by decide) rfl (Nat.le_of_ble_eq_true rfl) ?_
  intro p e s m below meth c hx hb hr hml hts hown hlocks hP hK ls hl
  have hl : lv_has ls 3 [(0, .ref (a 0))] := hl
  have hown : s.vm.findClass RX2 = some m.cls := hown
  have hSx : CallFix p m c cX2_toOpening 3 s ([.ref (a 0)] : List Value).toArray wsX2_toOpening RX2 := ⟨hx, hb, hml, hown, hts⟩
  have inRX2 : ∀ w ∈ u_ws RX2 TX2 11, w ∈ wsX2_toOpening := by decide +kernel
  have qf7 := hts (.fieldLink RX2 7 "VaultMovementsModel" "now" "[I") (by decide +kernel)
  obtain ⟨z, hz⟩ : ∃ z, z = (s_X2_toOpening f) := ⟨_, rfl⟩
  rw [← hz]
  unfold s_X2_toOpening at hz
  refine lv_iconst (v := jI 1) hx hb dX2_toOpening_0 rfl ?_
  refine lv_istore_n (lv' := [(1, .int (jI 1)), (0, .ref (a 0))]) hx hb dX2_toOpening_1 rfl hl (by decide) rfl (fun ls hl => ?_)
  have LP2 : ∀ (k i : Nat) (ls : Array Slot), i ≤ 169 → i + k = 169 + 1 → z = (s_X2_toOpening_lp2 f) k i → lv_has ls 3 [(0, .ref (a 0)), (1, .int (jI (i : Int)))] → W p l e rm_X2_toOpening s m ([.ref (a 0)] : List Value).toArray below meth c s.heap [] 0 0 (MQ below (vp_Si (fun x => x = jI z)) ([.ref (a 0)] : List Value).toArray s 0 0 (fun _ => False)) (F0 m 2 ls []) := by
    intro k
    induction k with
    | zero => intro i  ls h1 h2; exact absurd h2 (by omega)
    | succ k ih =>
      intro i   ls h1 h2 hz hl
      rw [s_X2_toOpening_lp2] at hz
      refine lv_iload_n hx hb dX2_toOpening_2 rfl (lv_at hl 1 rfl) ?_
      refine lv_sipush (v := jI 168) hx hb dX2_toOpening_3 (by decide) ?_
      refine x_icmp_gt (tgt := 47) hx hb dX2_toOpening_6 (by decide) ⟨(by omega), (by decide)⟩ (fun c6 => ?_) (fun c6 => ?_)
      · rw [if_pos c6] at hz
        refine lv_iconst (v := jI (-1)) hx hb dX2_toOpening_47 rfl ?_
        subst hz
        exact xr_i hx hb hr hlocks rfl dX2_toOpening_48
      · rw [if_neg c6] at hz
        refine lv_aload_n hx hb dX2_toOpening_9 rfl (lv_at hl 0 rfl) ?_
        refine va_get (D := D) (ci := 2) (v := .ref (a 1)) (C := RX2) (T := TX2) (N := 11) hx hb hts inRX2 hown hK hP 0 rfl rfl 0 (by decide) qf7 (fun _ h9 => h9) rfl dX2_toOpening_10 ?_
        refine lv_iconst (v := jI 0) hx hb dX2_toOpening_13 rfl ?_
        refine x_iald hx hb hK hP 1 0 rfl rfl 0 rfl (by decide) (by decide) dX2_toOpening_14 ?_
        refine lv_iload_n hx hb dX2_toOpening_15 rfl (lv_at hl 1 rfl) ?_
        refine x_iadd hx hb dX2_toOpening_16 ?_
        refine lv_istore_n (lv' := [(2, .int (jI ((f 0) + (i : Int)))), (0, .ref (a 0)), (1, .int (jI (i : Int)))]) hx hb dX2_toOpening_17 rfl hl (by decide) rfl (fun ls hl => ?_)
        refine lv_aload_n hx hb dX2_toOpening_18 rfl (lv_at hl 1 rfl) ?_
        refine va_get (D := D) (ci := 2) (v := .ref (a 1)) (C := RX2) (T := TX2) (N := 11) hx hb hts inRX2 hown hK hP 0 rfl rfl 0 (by decide) qf7 (fun _ h9 => h9) rfl dX2_toOpening_19 ?_
        refine lv_iconst (v := jI 1) hx hb dX2_toOpening_22 rfl ?_
        refine lv_iload_n hx hb dX2_toOpening_23 rfl (lv_at hl 0 rfl) ?_
        refine lv_bipush (v := jI 24) hx hb dX2_toOpening_24 (by decide) ?_
        refine x_idiv hx hb dX2_toOpening_26 (by omega) ?_
        refine lv_bipush (v := jI 7) hx hb dX2_toOpening_27 (by decide) ?_
        refine x_irem hx hb dX2_toOpening_29 (by omega) ?_
        refine x_iadd hx hb dX2_toOpening_30 ?_
        refine x_iald hx hb hK hP 1 0 rfl rfl (((1 + ((((f 0) + (i : Int)) / 24) % 7))).toNat) (by omega) (by omega) (by decide) dX2_toOpening_31 ?_
        refine lv_iload_n hx hb dX2_toOpening_32 rfl (lv_at hl 0 rfl) ?_
        refine lv_bipush (v := jI 24) hx hb dX2_toOpening_33 (by decide) ?_
        refine x_irem hx hb dX2_toOpening_35 (by omega) ?_
        refine x_icmp_ne (tgt := 41) hx hb dX2_toOpening_36 (by decide) ⟨(hrf _), (by omega)⟩ (fun c36 => ?_) (fun c36 => ?_)
        · rw [if_neg c36] at hz
          refine lv_iinc (v := jI ((i + 1 : Nat) : Int)) (lv' := [(1, .int (jI ((i + 1 : Nat) : Int))), (2, .int (jI ((f 0) + (i : Int)))), (0, .ref (a 0))]) hx hb dX2_toOpening_41 hl (k := 2) rfl (jI_inc _ 1) (by decide) rfl (fun ls hl => ?_)
          refine lv_goto (tgt := 2) hx hb dX2_toOpening_44 (by decide) ?_
          exact ih (i + 1)  ls (by omega) (by omega) hz (lv_sub hl [2, 0] rfl)
        · rw [if_pos c36] at hz
          refine lv_iload_n hx hb dX2_toOpening_39 rfl (lv_at hl 2 rfl) ?_
          subst hz
          exact xr_i hx hb hr hlocks rfl dX2_toOpening_40
  exact LP2 (169 + 1 - 1) 1  ls (by omega) (by omega) hz (lv_sub hl [1, 0] rfl)
def s_X2_downIn_lp30 (f : Nat → Int) (j : Nat) : Nat → Nat → Int → Int
  | 0, _, _ => default
  | k + 1, i, v => if v ≤ 0 then (i : Int) else (if (f ((21 + (4 * j)) + 2)) ≤ 0 then (s_X2_downIn_lp30 f j k (i + 1) (v - 1)) else (if (((f ((21 + (4 * j)) + 3)) + ((i + 1 : Nat) : Int)) % (f ((21 + (4 * j)) + 2))) = 0 then (s_X2_downIn_lp30 f j k (i + 1) (v - 0)) else (s_X2_downIn_lp30 f j k (i + 1) (v - 1))))
def s_X2_downIn (f : Nat → Int) (j : Nat) (x2 : Int) : Int := if x2 = 0 then 0 else (if (s_X2_goes f j) = 0 then (-1) else (if (f ((21 + (4 * j)) + 2)) = 1 then (-1) else (s_X2_downIn_lp30 f j (402 + 1 - 0) 0 x2)))
abbrev rm_X2_downIn : Room := { frames := 1, cells := 0, slots := 0, locals := 21 }
set_option maxHeartbeats 4000000 in
set_option maxRecDepth 100000 in
theorem m_X2_downIn (l : Launch) (D : va_G) (cI : ClassId) (a : Nat → Nat) (f : Nat → Int) (g : Nat → Int) (n : Nat) (b : Nat → Int) (len : Nat) (th : Int) (at_ : Nat) (fl : Int) (va : Int) (so : Nat → Int) (ma : Nat → Int) (j : Nat) (x2 : Int) (hj : j < 3) (hrf : rng f) (hm : mv2 f) (hx2 : 0 ≤ x2 ∧ x2 ≤ 200) : MetR l yX2_downIn wsX2_downIn rm_X2_downIn D cI [.ref (a 0), .int (jI (j : Int)), .int (jI x2)] (w2 cI a f g n b len th at_ fl va so ma) (s_X2_downIn f j x2) := by
  refine xe_R (cc := cX2_downIn) (maxL := 6) (ret := (some .int)) (by decide) rfl (Nat.le_of_ble_eq_true rfl) ?_
  intro p e s m below meth c hx hb hr hml hts hown hlocks hP hK ls hl
  have hl : lv_has ls 6 [(0, .ref (a 0)), (1, .int (jI (j : Int))), (2, .int (jI x2))] := hl
  have hown : s.vm.findClass RX2 = some m.cls := hown
  have hSx : CallFix p m c cX2_downIn 6 s ([.ref (a 0), .int (jI (j : Int)), .int (jI x2)] : List Value).toArray wsX2_downIn RX2 := ⟨hx, hb, hml, hown, hts⟩
  have hm1 := hm j hj
  obtain ⟨z, hz⟩ : ∃ z, z = (s_X2_downIn f j x2) := ⟨_, rfl⟩
  rw [← hz]
  unfold s_X2_downIn at hz
  refine lv_iload_n hx hb dX2_downIn_0 rfl (lv_at hl 2 rfl) ?_
  refine x_if_ne (tgt := 6) hx hb dX2_downIn_1 (by decide) (by omega) (fun c1 => ?_) (fun c1 => ?_)
  · rw [if_neg c1] at hz
    refine lv_aload_n hx hb dX2_downIn_6 rfl (lv_at hl 0 rfl) ?_
    refine lv_iload_n hx hb dX2_downIn_7 rfl (lv_at hl 1 rfl) ?_
    refine xc_R (As := [.int (jI (j : Int))]) (rest := []) hSx (m_X2_goes l D cI a f g n b len th at_ fl va so ma j (by omega) (by omega)) (cwV 1 hts gX2_downIn_X2_goes rfl rfl rfl (by decide +kernel) ⟨Nat.le_of_ble_eq_true rfl, Nat.le_of_ble_eq_true rfl⟩) hP hK 0 rfl rfl rfl rfl hl.1 rfl (Nat.le_of_ble_eq_true rfl) dX2_downIn_8 ⟨Nat.zero_le _, Nat.zero_le _⟩ ?_
    refine x_if_eq (tgt := 23) hx hb dX2_downIn_11 (by decide) (b01 (b_X2_goes f j)) (fun c11 => ?_) (fun c11 => ?_)
    · rw [if_pos c11] at hz
      refine lv_iconst (v := jI (-1)) hx hb dX2_downIn_23 rfl ?_
      subst hz
      exact xr_i hx hb hr hlocks rfl dX2_downIn_24
    · rw [if_neg c11] at hz
      refine lv_aload_n hx hb dX2_downIn_14 rfl (lv_at hl 0 rfl) ?_
      refine lv_iload_n hx hb dX2_downIn_15 rfl (lv_at hl 1 rfl) ?_
      refine xc_R (As := [.int (jI (j : Int))]) (rest := []) hSx (m_X2_lossOf l D cI a f g n b len th at_ fl va so ma j (by omega)) (cwV 1 hts gX2_downIn_X2_lossOf rfl rfl rfl (by decide +kernel) ⟨Nat.le_of_ble_eq_true rfl, Nat.le_of_ble_eq_true rfl⟩) hP hK 0 rfl rfl rfl rfl hl.1 rfl (Nat.le_of_ble_eq_true rfl) dX2_downIn_16 ⟨Nat.zero_le _, Nat.zero_le _⟩ ?_
      refine lv_iconst (v := jI 1) hx hb dX2_downIn_19 rfl ?_
      refine x_icmp_ne (tgt := 25) hx hb dX2_downIn_20 (by decide) ⟨(hrf _), (by decide)⟩ (fun c20 => ?_) (fun c20 => ?_)
      · rw [if_neg c20] at hz
        refine lv_iload_n hx hb dX2_downIn_25 rfl (lv_at hl 2 rfl) ?_
        refine lv_istore_n (lv' := [(3, .int (jI x2)), (0, .ref (a 0)), (1, .int (jI (j : Int))), (2, .int (jI x2))]) hx hb dX2_downIn_26 rfl hl (by decide) rfl (fun ls hl => ?_)
        refine lv_iconst (v := jI 0) hx hb dX2_downIn_27 rfl ?_
        refine lv_istore (lv' := [(4, .int (jI 0)), (3, .int (jI x2)), (0, .ref (a 0)), (1, .int (jI (j : Int))), (2, .int (jI x2))]) hx hb dX2_downIn_28 hl (by decide) rfl (fun ls hl => ?_)
        have LP30 : ∀ (k i : Nat) (v : Int) (ls : Array Slot), i ≤ 402 → i + k = 402 + 1 → z = (s_X2_downIn_lp30 f j) k i v → (dnI (f (21 + 4 * j + 3)) (f (21 + 4 * j + 2)) x2 i v) → lv_has ls 6 [(0, .ref (a 0)), (1, .int (jI (j : Int))), (2, .int (jI x2)), (3, .int (jI v)), (4, .int (jI (i : Int)))] → W p l e rm_X2_downIn s m ([.ref (a 0), .int (jI (j : Int)), .int (jI x2)] : List Value).toArray below meth c s.heap [] 0 0 (MQ below (vp_Si (fun x => x = jI z)) ([.ref (a 0), .int (jI (j : Int)), .int (jI x2)] : List Value).toArray s 0 0 (fun _ => False)) (F0 m 30 ls []) := by
          intro k
          induction k with
          | zero => intro i v ls h1 h2; exact absurd h2 (by omega)
          | succ k ih =>
            intro i v  ls h1 h2 hz hi2 hl
            rw [s_X2_downIn_lp30] at hz
            refine lv_iload_n hx hb dX2_downIn_30 rfl (lv_at hl 3 rfl) ?_
            refine x_if_le (tgt := 85) hx hb dX2_downIn_31 (by decide) ⟨by have := hi2.1; omega, by have := hi2.2.1; omega⟩ (fun c31 => ?_) (fun c31 => ?_)
            · rw [if_pos c31] at hz
              refine lv_iload hx hb dX2_downIn_85 (lv_at hl 4 rfl) ?_
              subst hz
              exact xr_i hx hb hr hlocks rfl dX2_downIn_87
            · rw [if_neg c31] at hz
              have hi3 := hi2.2.2
              have hi4 : (i : Int) + 2 * v ≤ 2 * x2 + 1 := by split at hi3 <;> omega
              have hi5 := hi2.1
              refine lv_iinc (v := jI ((i + 1 : Nat) : Int)) (lv' := [(4, .int (jI ((i + 1 : Nat) : Int))), (0, .ref (a 0)), (1, .int (jI (j : Int))), (2, .int (jI x2)), (3, .int (jI v))]) hx hb dX2_downIn_34 hl (k := 4) rfl (jI_inc _ 1) (by decide) rfl (fun ls hl => ?_)
              refine lv_aload_n hx hb dX2_downIn_37 rfl (lv_at hl 1 rfl) ?_
              refine lv_iload_n hx hb dX2_downIn_38 rfl (lv_at hl 2 rfl) ?_
              refine xc_R (As := [.int (jI (j : Int))]) (rest := []) hSx (m_X2_lossOf l D cI a f g n b len th at_ fl va so ma j (by omega)) (cwV 1 hts gX2_downIn_X2_lossOf rfl rfl rfl (by decide +kernel) ⟨Nat.le_of_ble_eq_true rfl, Nat.le_of_ble_eq_true rfl⟩) hP hK 0 rfl rfl rfl rfl hl.1 rfl (Nat.le_of_ble_eq_true rfl) dX2_downIn_39 ⟨Nat.zero_le _, Nat.zero_le _⟩ ?_
              refine x_if_le (tgt := 66) hx hb dX2_downIn_42 (by decide) (hrf _) (fun c42 => ?_) (fun c42 => ?_)
              · rw [if_pos c42] at hz
                refine lv_iconst (v := jI 0) hx hb dX2_downIn_66 rfl ?_
                refine lv_istore (lv' := [(5, .int (jI 0)), (4, .int (jI ((i + 1 : Nat) : Int))), (0, .ref (a 0)), (1, .int (jI (j : Int))), (2, .int (jI x2)), (3, .int (jI v))]) hx hb dX2_downIn_67 hl (by decide) rfl (fun ls hl => ?_)
                refine lv_iload_n hx hb dX2_downIn_69 rfl (lv_at hl 5 rfl) ?_
                refine lv_iload hx hb dX2_downIn_70 (lv_at hl 0 rfl) ?_
                refine x_if_eq (tgt := 79) hx hb dX2_downIn_72 (by decide) (by decide) (fun c72 => ?_) (fun c72 => absurd c72 (by decide))
                refine lv_iconst (v := jI 1) hx hb dX2_downIn_79 rfl ?_
                refine x_isub hx hb dX2_downIn_80 ?_
                refine lv_istore_n (lv' := [(3, .int (jI (v - 1))), (5, .int (jI 0)), (4, .int (jI ((i + 1 : Nat) : Int))), (0, .ref (a 0)), (1, .int (jI (j : Int))), (2, .int (jI x2))]) hx hb dX2_downIn_81 rfl hl (by decide) rfl (fun ls hl => ?_)
                refine lv_goto (tgt := 30) hx hb dX2_downIn_82 (by decide) ?_
                exact ih (i + 1) (v - 1) ls (by omega) (by omega) hz (dn_no hi2 c31) (lv_sub hl [3, 4, 5, 0, 2] rfl)
              · rw [if_neg c42] at hz
                refine lv_aload_n hx hb dX2_downIn_45 rfl (lv_at hl 1 rfl) ?_
                refine lv_iload_n hx hb dX2_downIn_46 rfl (lv_at hl 2 rfl) ?_
                refine xc_R (As := [.int (jI (j : Int))]) (rest := []) hSx (m_X2_ran l D cI a f g n b len th at_ fl va so ma j (by omega)) (cwV 1 hts gX2_downIn_X2_ran rfl rfl rfl (by decide +kernel) ⟨Nat.le_of_ble_eq_true rfl, Nat.le_of_ble_eq_true rfl⟩) hP hK 0 rfl rfl rfl rfl hl.1 rfl (Nat.le_of_ble_eq_true rfl) dX2_downIn_47 ⟨Nat.zero_le _, Nat.zero_le _⟩ ?_
                refine lv_iload hx hb dX2_downIn_50 (lv_at hl 0 rfl) ?_
                refine x_iadd hx hb dX2_downIn_52 ?_
                refine lv_aload_n hx hb dX2_downIn_53 rfl (lv_at hl 1 rfl) ?_
                refine lv_iload_n hx hb dX2_downIn_54 rfl (lv_at hl 2 rfl) ?_
                refine xc_R (As := [.int (jI (j : Int))]) (rest := [.int (jI ((f ((21 + (4 * j)) + 3)) + ((i + 1 : Nat) : Int)))]) hSx (m_X2_lossOf l D cI a f g n b len th at_ fl va so ma j (by omega)) (cwV 1 hts gX2_downIn_X2_lossOf rfl rfl rfl (by decide +kernel) ⟨Nat.le_of_ble_eq_true rfl, Nat.le_of_ble_eq_true rfl⟩) hP hK 0 rfl rfl rfl rfl hl.1 rfl (Nat.le_of_ble_eq_true rfl) dX2_downIn_55 ⟨Nat.zero_le _, Nat.zero_le _⟩ ?_
                refine x_irem hx hb dX2_downIn_58 (by omega) ?_
                refine x_if_ne (tgt := 66) hx hb dX2_downIn_59 (by decide) (rem_rng (by omega) (by omega)) (fun c59 => ?_) (fun c59 => ?_)
                · rw [if_neg c59] at hz
                  refine lv_iconst (v := jI 0) hx hb dX2_downIn_66 rfl ?_
                  refine lv_istore (lv' := [(5, .int (jI 0)), (4, .int (jI ((i + 1 : Nat) : Int))), (0, .ref (a 0)), (1, .int (jI (j : Int))), (2, .int (jI x2)), (3, .int (jI v))]) hx hb dX2_downIn_67 hl (by decide) rfl (fun ls hl => ?_)
                  refine lv_iload_n hx hb dX2_downIn_69 rfl (lv_at hl 5 rfl) ?_
                  refine lv_iload hx hb dX2_downIn_70 (lv_at hl 0 rfl) ?_
                  refine x_if_eq (tgt := 79) hx hb dX2_downIn_72 (by decide) (by decide) (fun c72 => ?_) (fun c72 => absurd c72 (by decide))
                  refine lv_iconst (v := jI 1) hx hb dX2_downIn_79 rfl ?_
                  refine x_isub hx hb dX2_downIn_80 ?_
                  refine lv_istore_n (lv' := [(3, .int (jI (v - 1))), (5, .int (jI 0)), (4, .int (jI ((i + 1 : Nat) : Int))), (0, .ref (a 0)), (1, .int (jI (j : Int))), (2, .int (jI x2))]) hx hb dX2_downIn_81 rfl hl (by decide) rfl (fun ls hl => ?_)
                  refine lv_goto (tgt := 30) hx hb dX2_downIn_82 (by decide) ?_
                  exact ih (i + 1) (v - 1) ls (by omega) (by omega) hz (dn_no hi2 c31) (lv_sub hl [3, 4, 5, 0, 2] rfl)
                · rw [if_pos c59] at hz
                  refine lv_iconst (v := jI 1) hx hb dX2_downIn_62 rfl ?_
                  refine lv_goto (tgt := 67) hx hb dX2_downIn_63 (by decide) ?_
                  refine lv_istore (lv' := [(5, .int (jI 1)), (4, .int (jI ((i + 1 : Nat) : Int))), (0, .ref (a 0)), (1, .int (jI (j : Int))), (2, .int (jI x2)), (3, .int (jI v))]) hx hb dX2_downIn_67 hl (by decide) rfl (fun ls hl => ?_)
                  refine lv_iload_n hx hb dX2_downIn_69 rfl (lv_at hl 5 rfl) ?_
                  refine lv_iload hx hb dX2_downIn_70 (lv_at hl 0 rfl) ?_
                  refine x_if_eq (tgt := 79) hx hb dX2_downIn_72 (by decide) (by decide) (fun c72 => absurd c72 (by decide)) (fun c72 => ?_)
                  refine lv_iconst (v := jI 0) hx hb dX2_downIn_75 rfl ?_
                  refine lv_goto (tgt := 80) hx hb dX2_downIn_76 (by decide) ?_
                  refine x_isub hx hb dX2_downIn_80 ?_
                  refine lv_istore_n (lv' := [(3, .int (jI (v - 0))), (5, .int (jI 1)), (4, .int (jI ((i + 1 : Nat) : Int))), (0, .ref (a 0)), (1, .int (jI (j : Int))), (2, .int (jI x2))]) hx hb dX2_downIn_81 rfl hl (by decide) rfl (fun ls hl => ?_)
                  refine lv_goto (tgt := 30) hx hb dX2_downIn_82 (by decide) ?_
                  exact ih (i + 1) (v - 0) ls (by omega) (by omega) hz (dn_lost hi2 (by omega) c59) (lv_sub hl [3, 4, 5, 0, 2] rfl)
        exact LP30 (402 + 1 - 0) 0 x2 ls (by omega) (by omega) hz (dn_0 hx2.1) (lv_sub hl [2, 3, 4, 1, 0] rfl)
      · rw [if_pos c20] at hz
        refine lv_iconst (v := jI (-1)) hx hb dX2_downIn_23 rfl ?_
        subst hz
        exact xr_i hx hb hr hlocks rfl dX2_downIn_24
  · rw [if_pos c1] at hz
    refine lv_iconst (v := jI 0) hx hb dX2_downIn_4 rfl ?_
    subst hz
    exact xr_i hx hb hr hlocks rfl dX2_downIn_5
theorem r_X2_dn_lp (f : Nat → Int) (j : Nat) : ∀ (k i : Nat) (v : Int), i + k ≤ 403 → 0 ≤ s_X2_downIn_lp30 f j k i v ∧ s_X2_downIn_lp30 f j k i v ≤ 500 := by
  intro k
  induction k with
  | zero => intro i v h; unfold s_X2_downIn_lp30; decide
  | succ k ih =>
    intro i v h
    rw [s_X2_downIn_lp30]
    (repeat' split) <;> first
      | omega
      | exact ih _ _ (by omega)
theorem r_X2_downIn (f : Nat → Int) (j : Nat) (x2 : Int) : -1 ≤ s_X2_downIn f j x2 ∧ s_X2_downIn f j x2 ≤ 500 := by
  have h := r_X2_dn_lp f j (402 + 1 - 0) 0 x2 (by omega)
  unfold s_X2_downIn
  (repeat' split) <;> omega
theorem r_X2_to_lp (f : Nat → Int) : ∀ (k i : Nat), i + k ≤ 170 → -1 ≤ s_X2_toOpening_lp2 f k i ∧ s_X2_toOpening_lp2 f k i ≤ 300 := by
  intro k
  induction k with
  | zero => intro i h; unfold s_X2_toOpening_lp2; decide
  | succ k ih =>
    intro i h
    rw [s_X2_toOpening_lp2]
    (repeat' split) <;> first
      | omega
      | exact ih _ (by omega)
theorem r_X2_toOpening (f : Nat → Int) : -1 ≤ s_X2_toOpening f ∧ s_X2_toOpening f ≤ 300 := r_X2_to_lp f _ _ (by omega)
def s_X2_waits (f : Nat → Int) : Int := if (f 11) = 1 then (if ((f 14) - (f 0)) ≤ 0 then 0 else ((f 14) - (f 0))) else 0
abbrev rm_X2_waits : Room := { frames := 0, cells := 0, slots := 0, locals := 0 }
set_option maxHeartbeats 4000000 in
set_option maxRecDepth 100000 in
theorem m_X2_waits (l : Launch) (D : va_G) (cI : ClassId) (a : Nat → Nat) (f : Nat → Int) (g : Nat → Int) (n : Nat) (b : Nat → Int) (len : Nat) (th : Int) (at_ : Nat) (fl : Int) (va : Int) (so : Nat → Int) (ma : Nat → Int) (hrf : rng f) (hh : 0 ≤ f 0 ∧ f 0 ≤ 99999) (hw : 0 ≤ f 14 ∧ f 14 ≤ 100100) : MetR l yX2_waits wsX2_waits rm_X2_waits D cI [.ref (a 0)] (w2 cI a f g n b len th at_ fl va so ma) (s_X2_waits f) := by
  refine xe_R (cc := cX2_waits) (maxL := 2) (ret := (some .int)) (by decide) rfl (Nat.le_of_ble_eq_true rfl) ?_
  intro p e s m below meth c hx hb hr hml hts hown hlocks hP hK ls hl
  have hl : lv_has ls 2 [(0, .ref (a 0))] := hl
  have hown : s.vm.findClass RX2 = some m.cls := hown
  have hSx : CallFix p m c cX2_waits 2 s ([.ref (a 0)] : List Value).toArray wsX2_waits RX2 := ⟨hx, hb, hml, hown, hts⟩
  have inRX2 : ∀ w ∈ u_ws RX2 TX2 11, w ∈ wsX2_waits := by decide +kernel
  have qf7 := hts (.fieldLink RX2 7 "VaultMovementsModel" "now" "[I") (by decide +kernel)
  obtain ⟨z, hz⟩ : ∃ z, z = (s_X2_waits f) := ⟨_, rfl⟩
  rw [← hz]
  unfold s_X2_waits at hz
  refine lv_aload_n hx hb dX2_waits_0 rfl (lv_at hl 0 rfl) ?_
  refine va_get (D := D) (ci := 2) (v := .ref (a 1)) (C := RX2) (T := TX2) (N := 11) hx hb hts inRX2 hown hK hP 0 rfl rfl 0 (by decide) qf7 (fun _ h9 => h9) rfl dX2_waits_1 ?_
  refine lv_bipush (v := jI 14) hx hb dX2_waits_4 (by decide) ?_
  refine x_iald hx hb hK hP 1 0 rfl rfl 14 rfl (by decide) (by decide) dX2_waits_6 ?_
  refine lv_aload_n hx hb dX2_waits_7 rfl (lv_at hl 0 rfl) ?_
  refine va_get (D := D) (ci := 2) (v := .ref (a 1)) (C := RX2) (T := TX2) (N := 11) hx hb hts inRX2 hown hK hP 0 rfl rfl 0 (by decide) qf7 (fun _ h9 => h9) rfl dX2_waits_8 ?_
  refine lv_iconst (v := jI 0) hx hb dX2_waits_11 rfl ?_
  refine x_iald hx hb hK hP 1 0 rfl rfl 0 rfl (by decide) (by decide) dX2_waits_12 ?_
  refine x_isub hx hb dX2_waits_13 ?_
  refine lv_istore_n (lv' := [(1, .int (jI ((f 14) - (f 0)))), (0, .ref (a 0))]) hx hb dX2_waits_14 rfl hl (by decide) rfl (fun ls hl => ?_)
  refine lv_aload_n hx hb dX2_waits_15 rfl (lv_at hl 1 rfl) ?_
  refine va_get (D := D) (ci := 2) (v := .ref (a 1)) (C := RX2) (T := TX2) (N := 11) hx hb hts inRX2 hown hK hP 0 rfl rfl 0 (by decide) qf7 (fun _ h9 => h9) rfl dX2_waits_16 ?_
  refine lv_bipush (v := jI 11) hx hb dX2_waits_19 (by decide) ?_
  refine x_iald hx hb hK hP 1 0 rfl rfl 11 rfl (by decide) (by decide) dX2_waits_21 ?_
  refine lv_iconst (v := jI 1) hx hb dX2_waits_22 rfl ?_
  refine x_icmp_ne (tgt := 34) hx hb dX2_waits_23 (by decide) ⟨(hrf _), (by decide)⟩ (fun c23 => ?_) (fun c23 => ?_)
  · rw [if_neg c23] at hz
    refine lv_iconst (v := jI 0) hx hb dX2_waits_34 rfl ?_
    subst hz
    exact xr_i hx hb hr hlocks rfl dX2_waits_35
  · rw [if_pos c23] at hz
    refine lv_iload_n hx hb dX2_waits_26 rfl (lv_at hl 0 rfl) ?_
    refine x_if_le (tgt := 34) hx hb dX2_waits_27 (by decide) (by omega) (fun c27 => ?_) (fun c27 => ?_)
    · rw [if_pos c27] at hz
      refine lv_iconst (v := jI 0) hx hb dX2_waits_34 rfl ?_
      subst hz
      exact xr_i hx hb hr hlocks rfl dX2_waits_35
    · rw [if_neg c27] at hz
      refine lv_iload_n hx hb dX2_waits_30 rfl (lv_at hl 0 rfl) ?_
      refine lv_goto (tgt := 35) hx hb dX2_waits_31 (by decide) ?_
      subst hz
      exact xr_i hx hb hr hlocks rfl dX2_waits_35
theorem r_X2_waits (f : Nat → Int) (hh : 0 ≤ f 0 ∧ f 0 ≤ 99999) (hw : 0 ≤ f 14 ∧ f 14 ≤ 100100) : 0 ≤ s_X2_waits f ∧ s_X2_waits f ≤ 100100 := by
  unfold s_X2_waits
  (repeat' split) <;> omega
def s_X2_opensBut_lp5 (f : Nat → Int) (x1 : Int) : Nat → Nat → Int → Int
  | 0, _, _ => default
  | k + 1, i, v => if 3 ≤ (i : Int) then (if (f 11) = 0 then (-1) else (if v = 1000000 then (-1) else (if v ≤ (s_X2_waits f) then (s_X2_waits f) else v))) else (if (i : Int) = x1 then (if (f (21 + (4 * i))) ≤ 0 then (if (s_X2_downIn f i (f (21 + (4 * i)))) < 0 then (s_X2_opensBut_lp5 f x1 k (i + 1) v) else (if v ≤ (s_X2_downIn f i (f (21 + (4 * i)))) then (s_X2_opensBut_lp5 f x1 k (i + 1) v) else (s_X2_opensBut_lp5 f x1 k (i + 1) (s_X2_downIn f i (f (21 + (4 * i))))))) else (s_X2_opensBut_lp5 f x1 k (i + 1) v)) else (if (s_X2_downIn f i (f (21 + (4 * i)))) < 0 then (s_X2_opensBut_lp5 f x1 k (i + 1) v) else (if v ≤ (s_X2_downIn f i (f (21 + (4 * i)))) then (s_X2_opensBut_lp5 f x1 k (i + 1) v) else (s_X2_opensBut_lp5 f x1 k (i + 1) (s_X2_downIn f i (f (21 + (4 * i))))))))
def s_X2_opensBut (f : Nat → Int) (x1 : Int) : Int := s_X2_opensBut_lp5 f x1 (3 + 1 - 0) 0 1000000
abbrev rm_X2_opensBut : Room := { frames := 2, cells := 0, slots := 0, locals := 46 }
set_option maxHeartbeats 4000000 in
set_option maxRecDepth 100000 in
theorem m_X2_opensBut (l : Launch) (D : va_G) (cI : ClassId) (a : Nat → Nat) (f : Nat → Int) (g : Nat → Int) (n : Nat) (b : Nat → Int) (len : Nat) (th : Int) (at_ : Nat) (fl : Int) (va : Int) (so : Nat → Int) (ma : Nat → Int) (x1 : Int) (hrf : rng f) (hm : mv2 f) (hh : 0 ≤ f 0 ∧ f 0 ≤ 99999) (hw : 0 ≤ f 14 ∧ f 14 ≤ 100100) (hx1 : -2147483648 ≤ x1 ∧ x1 < 2147483648) : MetR l yX2_opensBut wsX2_opensBut rm_X2_opensBut D cI [.ref (a 0), .int (jI x1)] (w2 cI a f g n b len th at_ fl va so ma) (s_X2_opensBut f x1) := by
  refine xe_R (cc := cX2_opensBut) (maxL := 5) (ret := (some .int)) (by decide) rfl (Nat.le_of_ble_eq_true rfl) ?_
  intro p e s m below meth c hx hb hr hml hts hown hlocks hP hK ls hl
  have hl : lv_has ls 5 [(0, .ref (a 0)), (1, .int (jI x1))] := hl
  have hown : s.vm.findClass RX2 = some m.cls := hown
  have hSx : CallFix p m c cX2_opensBut 5 s ([.ref (a 0), .int (jI x1)] : List Value).toArray wsX2_opensBut RX2 := ⟨hx, hb, hml, hown, hts⟩
  have inRX2 : ∀ w ∈ u_ws RX2 TX2 11, w ∈ wsX2_opensBut := by decide +kernel
  have qf7 := hts (.fieldLink RX2 7 "VaultMovementsModel" "now" "[I") (by decide +kernel)
  have qk50 := hts (.constant RX2 50 (1000000)) (by decide +kernel)
  obtain ⟨z, hz⟩ : ∃ z, z = (s_X2_opensBut f x1) := ⟨_, rfl⟩
  rw [← hz]
  unfold s_X2_opensBut at hz
  refine lv_ldc (v := jI 1000000) hx hb hown qk50 dX2_opensBut_0 ?_
  refine lv_istore_n (lv' := [(2, .int (jI 1000000)), (0, .ref (a 0)), (1, .int (jI x1))]) hx hb dX2_opensBut_2 rfl hl (by decide) rfl (fun ls hl => ?_)
  refine lv_iconst (v := jI 0) hx hb dX2_opensBut_3 rfl ?_
  refine lv_istore_n (lv' := [(3, .int (jI 0)), (2, .int (jI 1000000)), (0, .ref (a 0)), (1, .int (jI x1))]) hx hb dX2_opensBut_4 rfl hl (by decide) rfl (fun ls hl => ?_)
  have LP5 : ∀ (k i : Nat) (v : Int) (ls : Array Slot), i ≤ 3 → i + k = 3 + 1 → z = (s_X2_opensBut_lp5 f x1) k i v → (0 ≤ v ∧ v ≤ 1000000) → lv_has ls 5 [(0, .ref (a 0)), (1, .int (jI x1)), (2, .int (jI v)), (3, .int (jI (i : Int)))] → W p l e rm_X2_opensBut s m ([.ref (a 0), .int (jI x1)] : List Value).toArray below meth c s.heap [] 0 0 (MQ below (vp_Si (fun x => x = jI z)) ([.ref (a 0), .int (jI x1)] : List Value).toArray s 0 0 (fun _ => False)) (F0 m 5 ls []) := by
    intro k
    induction k with
    | zero => intro i v ls h1 h2; exact absurd h2 (by omega)
    | succ k ih =>
      intro i v  ls h1 h2 hz hv hl
      rw [s_X2_opensBut_lp5] at hz
      refine lv_iload_n hx hb dX2_opensBut_5 rfl (lv_at hl 3 rfl) ?_
      refine lv_iconst (v := jI 3) hx hb dX2_opensBut_6 rfl ?_
      refine x_icmp_ge (tgt := 63) hx hb dX2_opensBut_7 (by decide) ⟨(by omega), (by decide)⟩ (fun c7 => ?_) (fun c7 => ?_)
      · rw [if_pos c7] at hz
        refine lv_aload_n hx hb dX2_opensBut_63 rfl (lv_at hl 0 rfl) ?_
        refine va_get (D := D) (ci := 2) (v := .ref (a 1)) (C := RX2) (T := TX2) (N := 11) hx hb hts inRX2 hown hK hP 0 rfl rfl 0 (by decide) qf7 (fun _ h9 => h9) rfl dX2_opensBut_64 ?_
        refine lv_bipush (v := jI 11) hx hb dX2_opensBut_67 (by decide) ?_
        refine x_iald hx hb hK hP 1 0 rfl rfl 11 rfl (by decide) (by decide) dX2_opensBut_69 ?_
        refine x_if_eq (tgt := 79) hx hb dX2_opensBut_70 (by decide) (hrf _) (fun c70 => ?_) (fun c70 => ?_)
        · rw [if_pos c70] at hz
          refine lv_iconst (v := jI (-1)) hx hb dX2_opensBut_79 rfl ?_
          subst hz
          exact xr_i hx hb hr hlocks rfl dX2_opensBut_80
        · rw [if_neg c70] at hz
          refine lv_iload_n hx hb dX2_opensBut_73 rfl (lv_at hl 2 rfl) ?_
          refine lv_ldc (v := jI 1000000) hx hb hown qk50 dX2_opensBut_74 ?_
          refine x_icmp_ne (tgt := 81) hx hb dX2_opensBut_76 (by decide) ⟨(by omega), (by decide)⟩ (fun c76 => ?_) (fun c76 => ?_)
          · rw [if_neg c76] at hz
            refine lv_iload_n hx hb dX2_opensBut_81 rfl (lv_at hl 2 rfl) ?_
            refine lv_aload_n hx hb dX2_opensBut_82 rfl (lv_at hl 0 rfl) ?_
            refine xc_R (As := []) (rest := [.int (jI v)]) hSx (m_X2_waits l D cI a f g n b len th at_ fl va so ma  (by omega) (by omega) (by omega)) (cwV 0 hts gX2_opensBut_X2_waits rfl rfl rfl (by decide +kernel) ⟨Nat.le_of_ble_eq_true rfl, Nat.le_of_ble_eq_true rfl⟩) hP hK 0 rfl rfl rfl rfl hl.1 rfl (Nat.le_of_ble_eq_true rfl) dX2_opensBut_83 ⟨Nat.zero_le _, Nat.zero_le _⟩ ?_
            have hwt := r_X2_waits f hh hw
            refine x_icmp_le (tgt := 93) hx hb dX2_opensBut_86 (by decide) ⟨(by omega), (by omega)⟩ (fun c86 => ?_) (fun c86 => ?_)
            · rw [if_pos c86] at hz
              refine lv_aload_n hx hb dX2_opensBut_93 rfl (lv_at hl 0 rfl) ?_
              refine xc_R (As := []) (rest := []) hSx (m_X2_waits l D cI a f g n b len th at_ fl va so ma  (by omega) (by omega) (by omega)) (cwV 0 hts gX2_opensBut_X2_waits rfl rfl rfl (by decide +kernel) ⟨Nat.le_of_ble_eq_true rfl, Nat.le_of_ble_eq_true rfl⟩) hP hK 0 rfl rfl rfl rfl hl.1 rfl (Nat.le_of_ble_eq_true rfl) dX2_opensBut_94 ⟨Nat.zero_le _, Nat.zero_le _⟩ ?_
              subst hz
              exact xr_i hx hb hr hlocks rfl dX2_opensBut_97
            · rw [if_neg c86] at hz
              refine lv_iload_n hx hb dX2_opensBut_89 rfl (lv_at hl 2 rfl) ?_
              refine lv_goto (tgt := 97) hx hb dX2_opensBut_90 (by decide) ?_
              subst hz
              exact xr_i hx hb hr hlocks rfl dX2_opensBut_97
          · rw [if_pos c76] at hz
            refine lv_iconst (v := jI (-1)) hx hb dX2_opensBut_79 rfl ?_
            subst hz
            exact xr_i hx hb hr hlocks rfl dX2_opensBut_80
      · rw [if_neg c7] at hz
        have hm1 := hm i (by omega)
        refine lv_iload_n hx hb dX2_opensBut_10 rfl (lv_at hl 3 rfl) ?_
        refine lv_iload_n hx hb dX2_opensBut_11 rfl (lv_at hl 1 rfl) ?_
        refine x_icmp_ne (tgt := 27) hx hb dX2_opensBut_12 (by decide) ⟨(by omega), (by omega)⟩ (fun c12 => ?_) (fun c12 => ?_)
        · rw [if_neg c12] at hz
          refine lv_aload_n hx hb dX2_opensBut_27 rfl (lv_at hl 0 rfl) ?_
          refine lv_iload_n hx hb dX2_opensBut_28 rfl (lv_at hl 3 rfl) ?_
          refine lv_aload_n hx hb dX2_opensBut_29 rfl (lv_at hl 0 rfl) ?_
          refine lv_iload_n hx hb dX2_opensBut_30 rfl (lv_at hl 3 rfl) ?_
          refine xc_R (As := [.int (jI (i : Int))]) (rest := [.int (jI (i : Int)), .ref (a 0)]) hSx (m_X2_hours l D cI a f g n b len th at_ fl va so ma i (by omega)) (cwV 1 hts gX2_opensBut_X2_hours rfl rfl rfl (by decide +kernel) ⟨Nat.le_of_ble_eq_true rfl, Nat.le_of_ble_eq_true rfl⟩) hP hK 0 rfl rfl rfl rfl hl.1 rfl (Nat.le_of_ble_eq_true rfl) dX2_opensBut_31 ⟨Nat.zero_le _, Nat.zero_le _⟩ ?_
          refine xc_R (As := [.int (jI (i : Int)), .int (jI (f (21 + (4 * i))))]) (rest := []) hSx (m_X2_downIn l D cI a f g n b len th at_ fl va so ma i (f (21 + (4 * i))) (by omega) (by omega) (by omega) (by omega)) (cwV 2 hts gX2_opensBut_X2_downIn rfl rfl rfl (by decide +kernel) ⟨Nat.le_of_ble_eq_true rfl, Nat.le_of_ble_eq_true rfl⟩) hP hK 0 rfl rfl rfl rfl hl.1 rfl (Nat.le_of_ble_eq_true rfl) dX2_opensBut_34 ⟨Nat.zero_le _, Nat.zero_le _⟩ ?_
          refine lv_istore (lv' := [(4, .int (jI (s_X2_downIn f i (f (21 + (4 * i)))))), (0, .ref (a 0)), (1, .int (jI x1)), (2, .int (jI v)), (3, .int (jI (i : Int)))]) hx hb dX2_opensBut_37 hl (by decide) rfl (fun ls hl => ?_)
          try have hrd := r_X2_downIn f i (f (21 + (4 * i)))
          refine lv_iload hx hb dX2_opensBut_39 (lv_at hl 0 rfl) ?_
          refine x_if_lt (tgt := 55) hx hb dX2_opensBut_41 (by decide) (by omega) (fun c41 => ?_) (fun c41 => ?_)
          · rw [if_pos c41] at hz
            refine lv_iload_n hx hb dX2_opensBut_55 rfl (lv_at hl 3 rfl) ?_
            refine lv_istore_n (lv' := [(2, .int (jI v)), (4, .int (jI (s_X2_downIn f i (f (21 + (4 * i)))))), (0, .ref (a 0)), (1, .int (jI x1)), (3, .int (jI (i : Int)))]) hx hb dX2_opensBut_56 rfl hl (by decide) rfl (fun ls hl => ?_)
            refine lv_iinc (v := jI ((i + 1 : Nat) : Int)) (lv' := [(3, .int (jI ((i + 1 : Nat) : Int))), (2, .int (jI v)), (4, .int (jI (s_X2_downIn f i (f (21 + (4 * i)))))), (0, .ref (a 0)), (1, .int (jI x1))]) hx hb dX2_opensBut_57 hl (k := 4) rfl (jI_inc _ 1) (by decide) rfl (fun ls hl => ?_)
            refine lv_goto (tgt := 5) hx hb dX2_opensBut_60 (by decide) ?_
            exact ih (i + 1) v ls (by omega) (by omega) hz (by omega) (lv_sub hl [3, 4, 1, 0] rfl)
          · rw [if_neg c41] at hz
            refine lv_iload hx hb dX2_opensBut_44 (lv_at hl 0 rfl) ?_
            refine lv_iload_n hx hb dX2_opensBut_46 rfl (lv_at hl 3 rfl) ?_
            refine x_icmp_ge (tgt := 55) hx hb dX2_opensBut_47 (by decide) ⟨(by omega), (by omega)⟩ (fun c47 => ?_) (fun c47 => ?_)
            · rw [if_pos c47] at hz
              refine lv_iload_n hx hb dX2_opensBut_55 rfl (lv_at hl 3 rfl) ?_
              refine lv_istore_n (lv' := [(2, .int (jI v)), (4, .int (jI (s_X2_downIn f i (f (21 + (4 * i)))))), (0, .ref (a 0)), (1, .int (jI x1)), (3, .int (jI (i : Int)))]) hx hb dX2_opensBut_56 rfl hl (by decide) rfl (fun ls hl => ?_)
              refine lv_iinc (v := jI ((i + 1 : Nat) : Int)) (lv' := [(3, .int (jI ((i + 1 : Nat) : Int))), (2, .int (jI v)), (4, .int (jI (s_X2_downIn f i (f (21 + (4 * i)))))), (0, .ref (a 0)), (1, .int (jI x1))]) hx hb dX2_opensBut_57 hl (k := 4) rfl (jI_inc _ 1) (by decide) rfl (fun ls hl => ?_)
              refine lv_goto (tgt := 5) hx hb dX2_opensBut_60 (by decide) ?_
              exact ih (i + 1) v ls (by omega) (by omega) hz (by omega) (lv_sub hl [3, 4, 1, 0] rfl)
            · rw [if_neg c47] at hz
              refine lv_iload hx hb dX2_opensBut_50 (lv_at hl 0 rfl) ?_
              refine lv_goto (tgt := 56) hx hb dX2_opensBut_52 (by decide) ?_
              refine lv_istore_n (lv' := [(2, .int (jI (s_X2_downIn f i (f (21 + (4 * i)))))), (4, .int (jI (s_X2_downIn f i (f (21 + (4 * i)))))), (0, .ref (a 0)), (1, .int (jI x1)), (3, .int (jI (i : Int)))]) hx hb dX2_opensBut_56 rfl hl (by decide) rfl (fun ls hl => ?_)
              refine lv_iinc (v := jI ((i + 1 : Nat) : Int)) (lv' := [(3, .int (jI ((i + 1 : Nat) : Int))), (2, .int (jI (s_X2_downIn f i (f (21 + (4 * i)))))), (4, .int (jI (s_X2_downIn f i (f (21 + (4 * i)))))), (0, .ref (a 0)), (1, .int (jI x1))]) hx hb dX2_opensBut_57 hl (k := 4) rfl (jI_inc _ 1) (by decide) rfl (fun ls hl => ?_)
              refine lv_goto (tgt := 5) hx hb dX2_opensBut_60 (by decide) ?_
              exact ih (i + 1) (s_X2_downIn f i (f (21 + (4 * i)))) ls (by omega) (by omega) hz (by omega) (lv_sub hl [3, 4, 1, 0] rfl)
        · rw [if_pos c12] at hz
          refine lv_aload_n hx hb dX2_opensBut_15 rfl (lv_at hl 0 rfl) ?_
          refine lv_iload_n hx hb dX2_opensBut_16 rfl (lv_at hl 3 rfl) ?_
          refine xc_R (As := [.int (jI (i : Int))]) (rest := []) hSx (m_X2_hours l D cI a f g n b len th at_ fl va so ma i (by omega)) (cwV 1 hts gX2_opensBut_X2_hours rfl rfl rfl (by decide +kernel) ⟨Nat.le_of_ble_eq_true rfl, Nat.le_of_ble_eq_true rfl⟩) hP hK 0 rfl rfl rfl rfl hl.1 rfl (Nat.le_of_ble_eq_true rfl) dX2_opensBut_17 ⟨Nat.zero_le _, Nat.zero_le _⟩ ?_
          refine x_if_le (tgt := 27) hx hb dX2_opensBut_20 (by decide) (hrf _) (fun c20 => ?_) (fun c20 => ?_)
          · rw [if_pos c20] at hz
            refine lv_aload_n hx hb dX2_opensBut_27 rfl (lv_at hl 0 rfl) ?_
            refine lv_iload_n hx hb dX2_opensBut_28 rfl (lv_at hl 3 rfl) ?_
            refine lv_aload_n hx hb dX2_opensBut_29 rfl (lv_at hl 0 rfl) ?_
            refine lv_iload_n hx hb dX2_opensBut_30 rfl (lv_at hl 3 rfl) ?_
            refine xc_R (As := [.int (jI (i : Int))]) (rest := [.int (jI (i : Int)), .ref (a 0)]) hSx (m_X2_hours l D cI a f g n b len th at_ fl va so ma i (by omega)) (cwV 1 hts gX2_opensBut_X2_hours rfl rfl rfl (by decide +kernel) ⟨Nat.le_of_ble_eq_true rfl, Nat.le_of_ble_eq_true rfl⟩) hP hK 0 rfl rfl rfl rfl hl.1 rfl (Nat.le_of_ble_eq_true rfl) dX2_opensBut_31 ⟨Nat.zero_le _, Nat.zero_le _⟩ ?_
            refine xc_R (As := [.int (jI (i : Int)), .int (jI (f (21 + (4 * i))))]) (rest := []) hSx (m_X2_downIn l D cI a f g n b len th at_ fl va so ma i (f (21 + (4 * i))) (by omega) (by omega) (by omega) (by omega)) (cwV 2 hts gX2_opensBut_X2_downIn rfl rfl rfl (by decide +kernel) ⟨Nat.le_of_ble_eq_true rfl, Nat.le_of_ble_eq_true rfl⟩) hP hK 0 rfl rfl rfl rfl hl.1 rfl (Nat.le_of_ble_eq_true rfl) dX2_opensBut_34 ⟨Nat.zero_le _, Nat.zero_le _⟩ ?_
            refine lv_istore (lv' := [(4, .int (jI (s_X2_downIn f i (f (21 + (4 * i)))))), (0, .ref (a 0)), (1, .int (jI x1)), (2, .int (jI v)), (3, .int (jI (i : Int)))]) hx hb dX2_opensBut_37 hl (by decide) rfl (fun ls hl => ?_)
            try have hrd := r_X2_downIn f i (f (21 + (4 * i)))
            refine lv_iload hx hb dX2_opensBut_39 (lv_at hl 0 rfl) ?_
            refine x_if_lt (tgt := 55) hx hb dX2_opensBut_41 (by decide) (by omega) (fun c41 => ?_) (fun c41 => ?_)
            · rw [if_pos c41] at hz
              refine lv_iload_n hx hb dX2_opensBut_55 rfl (lv_at hl 3 rfl) ?_
              refine lv_istore_n (lv' := [(2, .int (jI v)), (4, .int (jI (s_X2_downIn f i (f (21 + (4 * i)))))), (0, .ref (a 0)), (1, .int (jI x1)), (3, .int (jI (i : Int)))]) hx hb dX2_opensBut_56 rfl hl (by decide) rfl (fun ls hl => ?_)
              refine lv_iinc (v := jI ((i + 1 : Nat) : Int)) (lv' := [(3, .int (jI ((i + 1 : Nat) : Int))), (2, .int (jI v)), (4, .int (jI (s_X2_downIn f i (f (21 + (4 * i)))))), (0, .ref (a 0)), (1, .int (jI x1))]) hx hb dX2_opensBut_57 hl (k := 4) rfl (jI_inc _ 1) (by decide) rfl (fun ls hl => ?_)
              refine lv_goto (tgt := 5) hx hb dX2_opensBut_60 (by decide) ?_
              exact ih (i + 1) v ls (by omega) (by omega) hz (by omega) (lv_sub hl [3, 4, 1, 0] rfl)
            · rw [if_neg c41] at hz
              refine lv_iload hx hb dX2_opensBut_44 (lv_at hl 0 rfl) ?_
              refine lv_iload_n hx hb dX2_opensBut_46 rfl (lv_at hl 3 rfl) ?_
              refine x_icmp_ge (tgt := 55) hx hb dX2_opensBut_47 (by decide) ⟨(by omega), (by omega)⟩ (fun c47 => ?_) (fun c47 => ?_)
              · rw [if_pos c47] at hz
                refine lv_iload_n hx hb dX2_opensBut_55 rfl (lv_at hl 3 rfl) ?_
                refine lv_istore_n (lv' := [(2, .int (jI v)), (4, .int (jI (s_X2_downIn f i (f (21 + (4 * i)))))), (0, .ref (a 0)), (1, .int (jI x1)), (3, .int (jI (i : Int)))]) hx hb dX2_opensBut_56 rfl hl (by decide) rfl (fun ls hl => ?_)
                refine lv_iinc (v := jI ((i + 1 : Nat) : Int)) (lv' := [(3, .int (jI ((i + 1 : Nat) : Int))), (2, .int (jI v)), (4, .int (jI (s_X2_downIn f i (f (21 + (4 * i)))))), (0, .ref (a 0)), (1, .int (jI x1))]) hx hb dX2_opensBut_57 hl (k := 4) rfl (jI_inc _ 1) (by decide) rfl (fun ls hl => ?_)
                refine lv_goto (tgt := 5) hx hb dX2_opensBut_60 (by decide) ?_
                exact ih (i + 1) v ls (by omega) (by omega) hz (by omega) (lv_sub hl [3, 4, 1, 0] rfl)
              · rw [if_neg c47] at hz
                refine lv_iload hx hb dX2_opensBut_50 (lv_at hl 0 rfl) ?_
                refine lv_goto (tgt := 56) hx hb dX2_opensBut_52 (by decide) ?_
                refine lv_istore_n (lv' := [(2, .int (jI (s_X2_downIn f i (f (21 + (4 * i)))))), (4, .int (jI (s_X2_downIn f i (f (21 + (4 * i)))))), (0, .ref (a 0)), (1, .int (jI x1)), (3, .int (jI (i : Int)))]) hx hb dX2_opensBut_56 rfl hl (by decide) rfl (fun ls hl => ?_)
                refine lv_iinc (v := jI ((i + 1 : Nat) : Int)) (lv' := [(3, .int (jI ((i + 1 : Nat) : Int))), (2, .int (jI (s_X2_downIn f i (f (21 + (4 * i)))))), (4, .int (jI (s_X2_downIn f i (f (21 + (4 * i)))))), (0, .ref (a 0)), (1, .int (jI x1))]) hx hb dX2_opensBut_57 hl (k := 4) rfl (jI_inc _ 1) (by decide) rfl (fun ls hl => ?_)
                refine lv_goto (tgt := 5) hx hb dX2_opensBut_60 (by decide) ?_
                exact ih (i + 1) (s_X2_downIn f i (f (21 + (4 * i)))) ls (by omega) (by omega) hz (by omega) (lv_sub hl [3, 4, 1, 0] rfl)
          · rw [if_neg c20] at hz
            refine lv_iconst (v := jI (-1)) hx hb dX2_opensBut_23 rfl ?_
            refine lv_goto (tgt := 37) hx hb dX2_opensBut_24 (by decide) ?_
            refine lv_istore (lv' := [(4, .int (jI (-1))), (0, .ref (a 0)), (1, .int (jI x1)), (2, .int (jI v)), (3, .int (jI (i : Int)))]) hx hb dX2_opensBut_37 hl (by decide) rfl (fun ls hl => ?_)
            skip
            refine lv_iload hx hb dX2_opensBut_39 (lv_at hl 0 rfl) ?_
            refine x_if_lt (tgt := 55) hx hb dX2_opensBut_41 (by decide) (by decide) (fun c41 => ?_) (fun c41 => absurd c41 (by decide))
            refine lv_iload_n hx hb dX2_opensBut_55 rfl (lv_at hl 3 rfl) ?_
            refine lv_istore_n (lv' := [(2, .int (jI v)), (4, .int (jI (-1))), (0, .ref (a 0)), (1, .int (jI x1)), (3, .int (jI (i : Int)))]) hx hb dX2_opensBut_56 rfl hl (by decide) rfl (fun ls hl => ?_)
            refine lv_iinc (v := jI ((i + 1 : Nat) : Int)) (lv' := [(3, .int (jI ((i + 1 : Nat) : Int))), (2, .int (jI v)), (4, .int (jI (-1))), (0, .ref (a 0)), (1, .int (jI x1))]) hx hb dX2_opensBut_57 hl (k := 4) rfl (jI_inc _ 1) (by decide) rfl (fun ls hl => ?_)
            refine lv_goto (tgt := 5) hx hb dX2_opensBut_60 (by decide) ?_
            exact ih (i + 1) v ls (by omega) (by omega) hz (by omega) (lv_sub hl [3, 4, 1, 0] rfl)
  exact LP5 (3 + 1 - 0) 0 1000000 ls (by omega) (by omega) hz (by omega) (lv_sub hl [2, 3, 1, 0] rfl)
theorem r_X2_ob_lp (f : Nat → Int) (x1 : Int) (hh : 0 ≤ f 0 ∧ f 0 ≤ 99999) (hw : 0 ≤ f 14 ∧ f 14 ≤ 100100) : ∀ (k i : Nat) (v : Int), 0 ≤ v ∧ v ≤ 1000000 → -1 ≤ s_X2_opensBut_lp5 f x1 k i v ∧ s_X2_opensBut_lp5 f x1 k i v ≤ 1000000 := by
  intro k
  induction k with
  | zero => intro i v h; unfold s_X2_opensBut_lp5; decide
  | succ k ih =>
    intro i v h
    have hwt := r_X2_waits f hh hw
    have hr := r_X2_downIn f i (f (21 + 4 * i))
    rw [s_X2_opensBut_lp5]
    (repeat' split) <;> first
      | omega
      | exact ih _ _ (by omega)
theorem r_X2_opensBut (f : Nat → Int) (x1 : Int) (hh : 0 ≤ f 0 ∧ f 0 ≤ 99999) (hw : 0 ≤ f 14 ∧ f 14 ≤ 100100) : -1 ≤ s_X2_opensBut f x1 ∧ s_X2_opensBut f x1 ≤ 1000000 := r_X2_ob_lp f x1 hh hw _ _ _ (by omega)
def s_X2_late (f : Nat → Int) : Int := if (f 11) = 0 then 0 else (if (s_X2_opensBut f (-1)) = (-1) then 1000 else (if (f 12) = (-1) then 0 else (if (s_X2_opensBut f (-1)) = 0 then (((f 0) + 1) - (f 12)) else (((f 0) + (s_X2_opensBut f (-1))) - (f 12)))))
abbrev rm_X2_late : Room := { frames := 3, cells := 0, slots := 0, locals := 70 }
set_option maxHeartbeats 4000000 in
set_option maxRecDepth 100000 in
theorem m_X2_late (l : Launch) (D : va_G) (cI : ClassId) (a : Nat → Nat) (f : Nat → Int) (g : Nat → Int) (n : Nat) (b : Nat → Int) (len : Nat) (th : Int) (at_ : Nat) (fl : Int) (va : Int) (so : Nat → Int) (ma : Nat → Int) (hrf : rng f) (hm : mv2 f) (hh : 0 ≤ f 0 ∧ f 0 ≤ 99999) (hw : 0 ≤ f 14 ∧ f 14 ≤ 100100) : MetR l yX2_late wsX2_late rm_X2_late D cI [.ref (a 0)] (w2 cI a f g n b len th at_ fl va so ma) (s_X2_late f) := by
  refine xe_R (cc := cX2_late) (maxL := 2) (ret := (some .int)) (by decide) rfl (Nat.le_of_ble_eq_true rfl) ?_
  intro p e s m below meth c hx hb hr hml hts hown hlocks hP hK ls hl
  have hl : lv_has ls 2 [(0, .ref (a 0))] := hl
  have hown : s.vm.findClass RX2 = some m.cls := hown
  have hSx : CallFix p m c cX2_late 2 s ([.ref (a 0)] : List Value).toArray wsX2_late RX2 := ⟨hx, hb, hml, hown, hts⟩
  have inRX2 : ∀ w ∈ u_ws RX2 TX2 11, w ∈ wsX2_late := by decide +kernel
  have qf7 := hts (.fieldLink RX2 7 "VaultMovementsModel" "now" "[I") (by decide +kernel)
  obtain ⟨z, hz⟩ : ∃ z, z = (s_X2_late f) := ⟨_, rfl⟩
  rw [← hz]
  unfold s_X2_late at hz
  refine lv_aload_n hx hb dX2_late_0 rfl (lv_at hl 0 rfl) ?_
  refine va_get (D := D) (ci := 2) (v := .ref (a 1)) (C := RX2) (T := TX2) (N := 11) hx hb hts inRX2 hown hK hP 0 rfl rfl 0 (by decide) qf7 (fun _ h9 => h9) rfl dX2_late_1 ?_
  refine lv_bipush (v := jI 11) hx hb dX2_late_4 (by decide) ?_
  refine x_iald hx hb hK hP 1 0 rfl rfl 11 rfl (by decide) (by decide) dX2_late_6 ?_
  refine x_if_ne (tgt := 12) hx hb dX2_late_7 (by decide) (hrf _) (fun c7 => ?_) (fun c7 => ?_)
  · rw [if_neg c7] at hz
    refine lv_aload_n hx hb dX2_late_12 rfl (lv_at hl 0 rfl) ?_
    refine lv_iconst (v := jI (-1)) hx hb dX2_late_13 rfl ?_
    refine xc_R (As := [.int (jI (-1))]) (rest := []) hSx (m_X2_opensBut l D cI a f g n b len th at_ fl va so ma (-1) (by omega) (by omega) (by omega) (by omega) (by decide)) (cwV 1 hts gX2_late_X2_opensBut rfl rfl rfl (by decide +kernel) ⟨Nat.le_of_ble_eq_true rfl, Nat.le_of_ble_eq_true rfl⟩) hP hK 0 rfl rfl rfl rfl hl.1 rfl (Nat.le_of_ble_eq_true rfl) dX2_late_14 ⟨Nat.zero_le _, Nat.zero_le _⟩ ?_
    have hrd := r_X2_opensBut f (-1) hh hw
    refine lv_istore_n (lv' := [(1, .int (jI (s_X2_opensBut f (-1)))), (0, .ref (a 0))]) hx hb dX2_late_17 rfl hl (by decide) rfl (fun ls hl => ?_)
    refine lv_iload_n hx hb dX2_late_18 rfl (lv_at hl 0 rfl) ?_
    refine lv_iconst (v := jI (-1)) hx hb dX2_late_19 rfl ?_
    refine x_icmp_ne (tgt := 27) hx hb dX2_late_20 (by decide) ⟨(by omega), (by decide)⟩ (fun c20 => ?_) (fun c20 => ?_)
    · rw [if_neg c20] at hz
      refine lv_aload_n hx hb dX2_late_27 rfl (lv_at hl 1 rfl) ?_
      refine va_get (D := D) (ci := 2) (v := .ref (a 1)) (C := RX2) (T := TX2) (N := 11) hx hb hts inRX2 hown hK hP 0 rfl rfl 0 (by decide) qf7 (fun _ h9 => h9) rfl dX2_late_28 ?_
      refine lv_bipush (v := jI 12) hx hb dX2_late_31 (by decide) ?_
      refine x_iald hx hb hK hP 1 0 rfl rfl 12 rfl (by decide) (by decide) dX2_late_33 ?_
      refine lv_iconst (v := jI (-1)) hx hb dX2_late_34 rfl ?_
      refine x_icmp_ne (tgt := 42) hx hb dX2_late_35 (by decide) ⟨(hrf _), (by decide)⟩ (fun c35 => ?_) (fun c35 => ?_)
      · rw [if_neg c35] at hz
        refine lv_aload_n hx hb dX2_late_42 rfl (lv_at hl 1 rfl) ?_
        refine va_get (D := D) (ci := 2) (v := .ref (a 1)) (C := RX2) (T := TX2) (N := 11) hx hb hts inRX2 hown hK hP 0 rfl rfl 0 (by decide) qf7 (fun _ h9 => h9) rfl dX2_late_43 ?_
        refine lv_iconst (v := jI 0) hx hb dX2_late_46 rfl ?_
        refine x_iald hx hb hK hP 1 0 rfl rfl 0 rfl (by decide) (by decide) dX2_late_47 ?_
        refine lv_iload_n hx hb dX2_late_48 rfl (lv_at hl 0 rfl) ?_
        refine x_if_ne (tgt := 56) hx hb dX2_late_49 (by decide) (by omega) (fun c49 => ?_) (fun c49 => ?_)
        · rw [if_neg c49] at hz
          refine lv_iload_n hx hb dX2_late_56 rfl (lv_at hl 0 rfl) ?_
          refine x_iadd hx hb dX2_late_57 ?_
          refine lv_aload_n hx hb dX2_late_58 rfl (lv_at hl 1 rfl) ?_
          refine va_get (D := D) (ci := 2) (v := .ref (a 1)) (C := RX2) (T := TX2) (N := 11) hx hb hts inRX2 hown hK hP 0 rfl rfl 0 (by decide) qf7 (fun _ h9 => h9) rfl dX2_late_59 ?_
          refine lv_bipush (v := jI 12) hx hb dX2_late_62 (by decide) ?_
          refine x_iald hx hb hK hP 1 0 rfl rfl 12 rfl (by decide) (by decide) dX2_late_64 ?_
          refine x_isub hx hb dX2_late_65 ?_
          subst hz
          exact xr_i hx hb hr hlocks rfl dX2_late_66
        · rw [if_pos c49] at hz
          refine lv_iconst (v := jI 1) hx hb dX2_late_52 rfl ?_
          refine lv_goto (tgt := 57) hx hb dX2_late_53 (by decide) ?_
          refine x_iadd hx hb dX2_late_57 ?_
          refine lv_aload_n hx hb dX2_late_58 rfl (lv_at hl 1 rfl) ?_
          refine va_get (D := D) (ci := 2) (v := .ref (a 1)) (C := RX2) (T := TX2) (N := 11) hx hb hts inRX2 hown hK hP 0 rfl rfl 0 (by decide) qf7 (fun _ h9 => h9) rfl dX2_late_59 ?_
          refine lv_bipush (v := jI 12) hx hb dX2_late_62 (by decide) ?_
          refine x_iald hx hb hK hP 1 0 rfl rfl 12 rfl (by decide) (by decide) dX2_late_64 ?_
          refine x_isub hx hb dX2_late_65 ?_
          subst hz
          exact xr_i hx hb hr hlocks rfl dX2_late_66
      · rw [if_pos c35] at hz
        refine lv_iconst (v := jI 0) hx hb dX2_late_38 rfl ?_
        refine lv_goto (tgt := 66) hx hb dX2_late_39 (by decide) ?_
        subst hz
        exact xr_i hx hb hr hlocks rfl dX2_late_66
    · rw [if_pos c20] at hz
      refine lv_sipush (v := jI 1000) hx hb dX2_late_23 (by decide) ?_
      subst hz
      exact xr_i hx hb hr hlocks rfl dX2_late_26
  · rw [if_pos c7] at hz
    refine lv_iconst (v := jI 0) hx hb dX2_late_10 rfl ?_
    subst hz
    exact xr_i hx hb hr hlocks rfl dX2_late_11
def s_X2_key_lp2 (f : Nat → Int) : Nat → Nat → Int
  | 0, _ => default
  | k + 1, i => if 3 ≤ (i : Int) then (-1) else (if (f 11) = 1 then (if (s_X2_goes f i) = 0 then (s_X2_key_lp2 f k (i + 1)) else (if (s_X2_opensBut f (i : Int)) = (s_X2_opensBut f (-1)) then (s_X2_key_lp2 f k (i + 1)) else (i : Int))) else (-1))
def s_X2_key (f : Nat → Int) : Int := s_X2_key_lp2 f (3 + 1 - 0) 0
abbrev rm_X2_key : Room := { frames := 3, cells := 0, slots := 0, locals := 70 }
set_option maxHeartbeats 4000000 in
set_option maxRecDepth 100000 in
theorem m_X2_key (l : Launch) (D : va_G) (cI : ClassId) (a : Nat → Nat) (f : Nat → Int) (g : Nat → Int) (n : Nat) (b : Nat → Int) (len : Nat) (th : Int) (at_ : Nat) (fl : Int) (va : Int) (so : Nat → Int) (ma : Nat → Int) (hrf : rng f) (hm : mv2 f) (hh : 0 ≤ f 0 ∧ f 0 ≤ 99999) (hw : 0 ≤ f 14 ∧ f 14 ≤ 100100) : MetR l yX2_key wsX2_key rm_X2_key D cI [.ref (a 0)] (w2 cI a f g n b len th at_ fl va so ma) (s_X2_key f) := by
  refine xe_R (cc := cX2_key) (maxL := 2) (ret := (some .int)) (by decide) rfl (Nat.le_of_ble_eq_true rfl) ?_
  intro p e s m below meth c hx hb hr hml hts hown hlocks hP hK ls hl
  have hl : lv_has ls 2 [(0, .ref (a 0))] := hl
  have hown : s.vm.findClass RX2 = some m.cls := hown
  have hSx : CallFix p m c cX2_key 2 s ([.ref (a 0)] : List Value).toArray wsX2_key RX2 := ⟨hx, hb, hml, hown, hts⟩
  have inRX2 : ∀ w ∈ u_ws RX2 TX2 11, w ∈ wsX2_key := by decide +kernel
  have qf7 := hts (.fieldLink RX2 7 "VaultMovementsModel" "now" "[I") (by decide +kernel)
  obtain ⟨z, hz⟩ : ∃ z, z = (s_X2_key f) := ⟨_, rfl⟩
  rw [← hz]
  unfold s_X2_key at hz
  refine lv_iconst (v := jI 0) hx hb dX2_key_0 rfl ?_
  refine lv_istore_n (lv' := [(1, .int (jI 0)), (0, .ref (a 0))]) hx hb dX2_key_1 rfl hl (by decide) rfl (fun ls hl => ?_)
  have LP2 : ∀ (k i : Nat) (ls : Array Slot), i ≤ 3 → i + k = 3 + 1 → z = (s_X2_key_lp2 f) k i → lv_has ls 2 [(0, .ref (a 0)), (1, .int (jI (i : Int)))] → W p l e rm_X2_key s m ([.ref (a 0)] : List Value).toArray below meth c s.heap [] 0 0 (MQ below (vp_Si (fun x => x = jI z)) ([.ref (a 0)] : List Value).toArray s 0 0 (fun _ => False)) (F0 m 2 ls []) := by
    intro k
    induction k with
    | zero => intro i  ls h1 h2; exact absurd h2 (by omega)
    | succ k ih =>
      intro i   ls h1 h2 hz hl
      rw [s_X2_key_lp2] at hz
      refine lv_iload_n hx hb dX2_key_2 rfl (lv_at hl 1 rfl) ?_
      refine lv_iconst (v := jI 3) hx hb dX2_key_3 rfl ?_
      refine x_icmp_ge (tgt := 47) hx hb dX2_key_4 (by decide) ⟨(by omega), (by decide)⟩ (fun c4 => ?_) (fun c4 => ?_)
      · rw [if_pos c4] at hz
        refine lv_iconst (v := jI (-1)) hx hb dX2_key_47 rfl ?_
        subst hz
        exact xr_i hx hb hr hlocks rfl dX2_key_48
      · rw [if_neg c4] at hz
        refine lv_aload_n hx hb dX2_key_7 rfl (lv_at hl 0 rfl) ?_
        refine va_get (D := D) (ci := 2) (v := .ref (a 1)) (C := RX2) (T := TX2) (N := 11) hx hb hts inRX2 hown hK hP 0 rfl rfl 0 (by decide) qf7 (fun _ h9 => h9) rfl dX2_key_8 ?_
        refine lv_bipush (v := jI 11) hx hb dX2_key_11 (by decide) ?_
        refine x_iald hx hb hK hP 1 0 rfl rfl 11 rfl (by decide) (by decide) dX2_key_13 ?_
        refine lv_iconst (v := jI 1) hx hb dX2_key_14 rfl ?_
        refine x_icmp_ne (tgt := 47) hx hb dX2_key_15 (by decide) ⟨(hrf _), (by decide)⟩ (fun c15 => ?_) (fun c15 => ?_)
        · rw [if_neg c15] at hz
          refine lv_iconst (v := jI (-1)) hx hb dX2_key_47 rfl ?_
          subst hz
          exact xr_i hx hb hr hlocks rfl dX2_key_48
        · rw [if_pos c15] at hz
          refine lv_aload_n hx hb dX2_key_18 rfl (lv_at hl 0 rfl) ?_
          refine lv_iload_n hx hb dX2_key_19 rfl (lv_at hl 1 rfl) ?_
          refine xc_R (As := [.int (jI (i : Int))]) (rest := []) hSx (m_X2_goes l D cI a f g n b len th at_ fl va so ma i (by omega) (by omega)) (cwV 1 hts gX2_key_X2_goes rfl rfl rfl (by decide +kernel) ⟨Nat.le_of_ble_eq_true rfl, Nat.le_of_ble_eq_true rfl⟩) hP hK 0 rfl rfl rfl rfl hl.1 rfl (Nat.le_of_ble_eq_true rfl) dX2_key_20 ⟨Nat.zero_le _, Nat.zero_le _⟩ ?_
          refine x_if_eq (tgt := 41) hx hb dX2_key_23 (by decide) (b01 (b_X2_goes f i)) (fun c23 => ?_) (fun c23 => ?_)
          · rw [if_pos c23] at hz
            refine lv_iinc (v := jI ((i + 1 : Nat) : Int)) (lv' := [(1, .int (jI ((i + 1 : Nat) : Int))), (0, .ref (a 0))]) hx hb dX2_key_41 hl (k := 1) rfl (jI_inc _ 1) (by decide) rfl (fun ls hl => ?_)
            refine lv_goto (tgt := 2) hx hb dX2_key_44 (by decide) ?_
            exact ih (i + 1)  ls (by omega) (by omega) hz (lv_sub hl [1, 0] rfl)
          · rw [if_neg c23] at hz
            refine lv_aload_n hx hb dX2_key_26 rfl (lv_at hl 0 rfl) ?_
            refine lv_iload_n hx hb dX2_key_27 rfl (lv_at hl 1 rfl) ?_
            refine xc_R (As := [.int (jI (i : Int))]) (rest := []) hSx (m_X2_opensBut l D cI a f g n b len th at_ fl va so ma (i : Int) (by omega) (by omega) (by omega) (by omega) (by omega)) (cwV 1 hts gX2_key_X2_opensBut rfl rfl rfl (by decide +kernel) ⟨Nat.le_of_ble_eq_true rfl, Nat.le_of_ble_eq_true rfl⟩) hP hK 0 rfl rfl rfl rfl hl.1 rfl (Nat.le_of_ble_eq_true rfl) dX2_key_28 ⟨Nat.zero_le _, Nat.zero_le _⟩ ?_
            refine lv_aload_n hx hb dX2_key_31 rfl (lv_at hl 0 rfl) ?_
            refine lv_iconst (v := jI (-1)) hx hb dX2_key_32 rfl ?_
            refine xc_R (As := [.int (jI (-1))]) (rest := [.int (jI (s_X2_opensBut f (i : Int)))]) hSx (m_X2_opensBut l D cI a f g n b len th at_ fl va so ma (-1) (by omega) (by omega) (by omega) (by omega) (by decide)) (cwV 1 hts gX2_key_X2_opensBut rfl rfl rfl (by decide +kernel) ⟨Nat.le_of_ble_eq_true rfl, Nat.le_of_ble_eq_true rfl⟩) hP hK 0 rfl rfl rfl rfl hl.1 rfl (Nat.le_of_ble_eq_true rfl) dX2_key_33 ⟨Nat.zero_le _, Nat.zero_le _⟩ ?_
            have hr1 := r_X2_opensBut f i hh hw
            have hr2 := r_X2_opensBut f (-1) hh hw
            refine x_icmp_eq (tgt := 41) hx hb dX2_key_36 (by decide) ⟨(by omega), (by omega)⟩ (fun c36 => ?_) (fun c36 => ?_)
            · rw [if_pos c36] at hz
              refine lv_iinc (v := jI ((i + 1 : Nat) : Int)) (lv' := [(1, .int (jI ((i + 1 : Nat) : Int))), (0, .ref (a 0))]) hx hb dX2_key_41 hl (k := 1) rfl (jI_inc _ 1) (by decide) rfl (fun ls hl => ?_)
              refine lv_goto (tgt := 2) hx hb dX2_key_44 (by decide) ?_
              exact ih (i + 1)  ls (by omega) (by omega) hz (lv_sub hl [1, 0] rfl)
            · rw [if_neg c36] at hz
              refine lv_iload_n hx hb dX2_key_39 rfl (lv_at hl 1 rfl) ?_
              subst hz
              exact xr_i hx hb hr hlocks rfl dX2_key_40
  exact LP2 (3 + 1 - 0) 0  ls (by omega) (by omega) hz (lv_sub hl [1, 0] rfl)
def s_X2_right_lp7 (f : Nat → Int) (j : Nat) : Nat → Nat → Int
  | 0, _ => default
  | k + 1, i => if 200 < (i : Int) then (-1) else (if (s_X2_toOpening f) = (-1) then (-1) else (if (s_X2_downIn f j (i : Int)) = (s_X2_toOpening f) then (i : Int) else (s_X2_right_lp7 f j k (i + 1))))
def s_X2_right (f : Nat → Int) (j : Nat) : Int := s_X2_right_lp7 f j (201 + 1 - 1) 1
abbrev rm_X2_right : Room := { frames := 2, cells := 0, slots := 0, locals := 46 }
set_option maxHeartbeats 4000000 in
set_option maxRecDepth 100000 in
theorem m_X2_right (l : Launch) (D : va_G) (cI : ClassId) (a : Nat → Nat) (f : Nat → Int) (g : Nat → Int) (n : Nat) (b : Nat → Int) (len : Nat) (th : Int) (at_ : Nat) (fl : Int) (va : Int) (so : Nat → Int) (ma : Nat → Int) (j : Nat) (hj : j < 3) (hrf : rng f) (hm : mv2 f) (hh : 0 ≤ f 0 ∧ f 0 ≤ 99999) : MetR l yX2_right wsX2_right rm_X2_right D cI [.ref (a 0), .int (jI (j : Int))] (w2 cI a f g n b len th at_ fl va so ma) (s_X2_right f j) := by
  refine xe_R (cc := cX2_right) (maxL := 4) (ret := (some .int)) (by decide) rfl (Nat.le_of_ble_eq_true rfl) ?_
  intro p e s m below meth c hx hb hr hml hts hown hlocks hP hK ls hl
  have hl : lv_has ls 4 [(0, .ref (a 0)), (1, .int (jI (j : Int)))] := hl
  have hown : s.vm.findClass RX2 = some m.cls := hown
  have hSx : CallFix p m c cX2_right 4 s ([.ref (a 0), .int (jI (j : Int))] : List Value).toArray wsX2_right RX2 := ⟨hx, hb, hml, hown, hts⟩
  obtain ⟨z, hz⟩ : ∃ z, z = (s_X2_right f j) := ⟨_, rfl⟩
  rw [← hz]
  unfold s_X2_right at hz
  refine lv_aload_n hx hb dX2_right_0 rfl (lv_at hl 0 rfl) ?_
  refine xc_R (As := []) (rest := []) hSx (m_X2_toOpening l D cI a f g n b len th at_ fl va so ma  (by omega) (by omega)) (cwV 0 hts gX2_right_X2_toOpening rfl rfl rfl (by decide +kernel) ⟨Nat.le_of_ble_eq_true rfl, Nat.le_of_ble_eq_true rfl⟩) hP hK 0 rfl rfl rfl rfl hl.1 rfl (Nat.le_of_ble_eq_true rfl) dX2_right_1 ⟨Nat.zero_le _, Nat.zero_le _⟩ ?_
  have hrd := r_X2_toOpening f
  refine lv_istore_n (lv' := [(2, .int (jI (s_X2_toOpening f))), (0, .ref (a 0)), (1, .int (jI (j : Int)))]) hx hb dX2_right_4 rfl hl (by decide) rfl (fun ls hl => ?_)
  refine lv_iconst (v := jI 1) hx hb dX2_right_5 rfl ?_
  refine lv_istore_n (lv' := [(3, .int (jI 1)), (2, .int (jI (s_X2_toOpening f))), (0, .ref (a 0)), (1, .int (jI (j : Int)))]) hx hb dX2_right_6 rfl hl (by decide) rfl (fun ls hl => ?_)
  have LP7 : ∀ (k i : Nat) (ls : Array Slot), i ≤ 201 → i + k = 201 + 1 → z = (s_X2_right_lp7 f j) k i → lv_has ls 4 [(0, .ref (a 0)), (1, .int (jI (j : Int))), (2, .int (jI (s_X2_toOpening f))), (3, .int (jI (i : Int)))] → W p l e rm_X2_right s m ([.ref (a 0), .int (jI (j : Int))] : List Value).toArray below meth c s.heap [] 0 0 (MQ below (vp_Si (fun x => x = jI z)) ([.ref (a 0), .int (jI (j : Int))] : List Value).toArray s 0 0 (fun _ => False)) (F0 m 7 ls []) := by
    intro k
    induction k with
    | zero => intro i  ls h1 h2; exact absurd h2 (by omega)
    | succ k ih =>
      intro i   ls h1 h2 hz hl
      rw [s_X2_right_lp7] at hz
      refine lv_iload_n hx hb dX2_right_7 rfl (lv_at hl 3 rfl) ?_
      refine lv_sipush (v := jI 200) hx hb dX2_right_8 (by decide) ?_
      refine x_icmp_gt (tgt := 37) hx hb dX2_right_11 (by decide) ⟨(by omega), (by decide)⟩ (fun c11 => ?_) (fun c11 => ?_)
      · rw [if_pos c11] at hz
        refine lv_iconst (v := jI (-1)) hx hb dX2_right_37 rfl ?_
        subst hz
        exact xr_i hx hb hr hlocks rfl dX2_right_38
      · rw [if_neg c11] at hz
        refine lv_iload_n hx hb dX2_right_14 rfl (lv_at hl 2 rfl) ?_
        refine lv_iconst (v := jI (-1)) hx hb dX2_right_15 rfl ?_
        refine x_icmp_eq (tgt := 37) hx hb dX2_right_16 (by decide) ⟨(by omega), (by decide)⟩ (fun c16 => ?_) (fun c16 => ?_)
        · rw [if_pos c16] at hz
          refine lv_iconst (v := jI (-1)) hx hb dX2_right_37 rfl ?_
          subst hz
          exact xr_i hx hb hr hlocks rfl dX2_right_38
        · rw [if_neg c16] at hz
          refine lv_aload_n hx hb dX2_right_19 rfl (lv_at hl 0 rfl) ?_
          refine lv_iload_n hx hb dX2_right_20 rfl (lv_at hl 1 rfl) ?_
          refine lv_iload_n hx hb dX2_right_21 rfl (lv_at hl 3 rfl) ?_
          refine xc_R (As := [.int (jI (j : Int)), .int (jI (i : Int))]) (rest := []) hSx (m_X2_downIn l D cI a f g n b len th at_ fl va so ma j (i : Int) (by omega) (by omega) (by omega) (by omega)) (cwV 2 hts gX2_right_X2_downIn rfl rfl rfl (by decide +kernel) ⟨Nat.le_of_ble_eq_true rfl, Nat.le_of_ble_eq_true rfl⟩) hP hK 0 rfl rfl rfl rfl hl.1 rfl (Nat.le_of_ble_eq_true rfl) dX2_right_22 ⟨Nat.zero_le _, Nat.zero_le _⟩ ?_
          have hrd2 := r_X2_downIn f j (i : Int)
          refine lv_iload_n hx hb dX2_right_25 rfl (lv_at hl 2 rfl) ?_
          refine x_icmp_ne (tgt := 31) hx hb dX2_right_26 (by decide) ⟨(by omega), (by omega)⟩ (fun c26 => ?_) (fun c26 => ?_)
          · rw [if_neg c26] at hz
            refine lv_iinc (v := jI ((i + 1 : Nat) : Int)) (lv' := [(3, .int (jI ((i + 1 : Nat) : Int))), (0, .ref (a 0)), (1, .int (jI (j : Int))), (2, .int (jI (s_X2_toOpening f)))]) hx hb dX2_right_31 hl (k := 3) rfl (jI_inc _ 1) (by decide) rfl (fun ls hl => ?_)
            refine lv_goto (tgt := 7) hx hb dX2_right_34 (by decide) ?_
            exact ih (i + 1)  ls (by omega) (by omega) hz (lv_sub hl [1, 2, 3, 0] rfl)
          · rw [if_pos c26] at hz
            refine lv_iload_n hx hb dX2_right_29 rfl (lv_at hl 3 rfl) ?_
            subst hz
            exact xr_i hx hb hr hlocks rfl dX2_right_30
  exact LP7 (201 + 1 - 1) 1  ls (by omega) (by omega) hz (lv_sub hl [2, 3, 1, 0] rfl)
def s_X2_ofMovement (f : Nat → Int) (j : Nat) (x1 : Nat) : Int := if 4 ≤ (x1 : Int) then (if (x1 : Int) = 4 then (if (f ((21 + (4 * j)) + 3)) < (f 10) then 0 else 1) else (s_X2_downIn f j (f (21 + (4 * j))))) else (f ((21 + (4 * j)) + x1))
abbrev rm_X2_ofMovement : Room := { frames := 2, cells := 0, slots := 0, locals := 46 }
set_option maxHeartbeats 4000000 in
set_option maxRecDepth 100000 in
theorem m_X2_ofMovement (l : Launch) (D : va_G) (cI : ClassId) (a : Nat → Nat) (f : Nat → Int) (g : Nat → Int) (n : Nat) (b : Nat → Int) (len : Nat) (th : Int) (at_ : Nat) (fl : Int) (va : Int) (so : Nat → Int) (ma : Nat → Int) (j : Nat) (x1 : Nat) (hj : j < 3) (hx1 : x1 ≤ 5) (hrf : rng f) (hm : mv2 f) : MetR l yX2_ofMovement wsX2_ofMovement rm_X2_ofMovement D cI [.ref (a 0), .int (jI (j : Int)), .int (jI (x1 : Int))] (w2 cI a f g n b len th at_ fl va so ma) (s_X2_ofMovement f j x1) := by
  refine xe_R (cc := cX2_ofMovement) (maxL := 3) (ret := (some .int)) (by decide) rfl (Nat.le_of_ble_eq_true rfl) ?_
  intro p e s m below meth c hx hb hr hml hts hown hlocks hP hK ls hl
  have hl : lv_has ls 3 [(0, .ref (a 0)), (1, .int (jI (j : Int))), (2, .int (jI (x1 : Int)))] := hl
  have hown : s.vm.findClass RX2 = some m.cls := hown
  have hSx : CallFix p m c cX2_ofMovement 3 s ([.ref (a 0), .int (jI (j : Int)), .int (jI (x1 : Int))] : List Value).toArray wsX2_ofMovement RX2 := ⟨hx, hb, hml, hown, hts⟩
  have inRX2 : ∀ w ∈ u_ws RX2 TX2 11, w ∈ wsX2_ofMovement := by decide +kernel
  have qf7 := hts (.fieldLink RX2 7 "VaultMovementsModel" "now" "[I") (by decide +kernel)
  have hm1 := hm j hj
  obtain ⟨z, hz⟩ : ∃ z, z = (s_X2_ofMovement f j x1) := ⟨_, rfl⟩
  rw [← hz]
  unfold s_X2_ofMovement at hz
  refine lv_iload_n hx hb dX2_ofMovement_0 rfl (lv_at hl 2 rfl) ?_
  refine lv_iconst (v := jI 4) hx hb dX2_ofMovement_1 rfl ?_
  refine x_icmp_ge (tgt := 19) hx hb dX2_ofMovement_2 (by decide) ⟨(by omega), (by decide)⟩ (fun c2 => ?_) (fun c2 => ?_)
  · rw [if_pos c2] at hz
    refine lv_iload_n hx hb dX2_ofMovement_19 rfl (lv_at hl 2 rfl) ?_
    refine lv_iconst (v := jI 4) hx hb dX2_ofMovement_20 rfl ?_
    refine x_icmp_ne (tgt := 47) hx hb dX2_ofMovement_21 (by decide) ⟨(by omega), (by decide)⟩ (fun c21 => ?_) (fun c21 => ?_)
    · rw [if_neg c21] at hz
      refine lv_aload_n hx hb dX2_ofMovement_47 rfl (lv_at hl 0 rfl) ?_
      refine lv_iload_n hx hb dX2_ofMovement_48 rfl (lv_at hl 1 rfl) ?_
      refine lv_aload_n hx hb dX2_ofMovement_49 rfl (lv_at hl 0 rfl) ?_
      refine lv_iload_n hx hb dX2_ofMovement_50 rfl (lv_at hl 1 rfl) ?_
      refine xc_R (As := [.int (jI (j : Int))]) (rest := [.int (jI (j : Int)), .ref (a 0)]) hSx (m_X2_hours l D cI a f g n b len th at_ fl va so ma j (by omega)) (cwV 1 hts gX2_ofMovement_X2_hours rfl rfl rfl (by decide +kernel) ⟨Nat.le_of_ble_eq_true rfl, Nat.le_of_ble_eq_true rfl⟩) hP hK 0 rfl rfl rfl rfl hl.1 rfl (Nat.le_of_ble_eq_true rfl) dX2_ofMovement_51 ⟨Nat.zero_le _, Nat.zero_le _⟩ ?_
      refine xc_R (As := [.int (jI (j : Int)), .int (jI (f (21 + (4 * j))))]) (rest := []) hSx (m_X2_downIn l D cI a f g n b len th at_ fl va so ma j (f (21 + (4 * j))) (by omega) (by omega) (by omega) (by omega)) (cwV 2 hts gX2_ofMovement_X2_downIn rfl rfl rfl (by decide +kernel) ⟨Nat.le_of_ble_eq_true rfl, Nat.le_of_ble_eq_true rfl⟩) hP hK 0 rfl rfl rfl rfl hl.1 rfl (Nat.le_of_ble_eq_true rfl) dX2_ofMovement_54 ⟨Nat.zero_le _, Nat.zero_le _⟩ ?_
      subst hz
      exact xr_i hx hb hr hlocks rfl dX2_ofMovement_57
    · rw [if_pos c21] at hz
      refine lv_aload_n hx hb dX2_ofMovement_24 rfl (lv_at hl 0 rfl) ?_
      refine lv_iload_n hx hb dX2_ofMovement_25 rfl (lv_at hl 1 rfl) ?_
      refine xc_R (As := [.int (jI (j : Int))]) (rest := []) hSx (m_X2_ran l D cI a f g n b len th at_ fl va so ma j (by omega)) (cwV 1 hts gX2_ofMovement_X2_ran rfl rfl rfl (by decide +kernel) ⟨Nat.le_of_ble_eq_true rfl, Nat.le_of_ble_eq_true rfl⟩) hP hK 0 rfl rfl rfl rfl hl.1 rfl (Nat.le_of_ble_eq_true rfl) dX2_ofMovement_26 ⟨Nat.zero_le _, Nat.zero_le _⟩ ?_
      refine lv_aload_n hx hb dX2_ofMovement_29 rfl (lv_at hl 0 rfl) ?_
      refine va_get (D := D) (ci := 2) (v := .ref (a 1)) (C := RX2) (T := TX2) (N := 11) hx hb hts inRX2 hown hK hP 0 rfl rfl 0 (by decide) qf7 (fun _ h9 => h9) rfl dX2_ofMovement_30 ?_
      refine lv_bipush (v := jI 10) hx hb dX2_ofMovement_33 (by decide) ?_
      refine x_iald hx hb hK hP 1 0 rfl rfl 10 rfl (by decide) (by decide) dX2_ofMovement_35 ?_
      refine x_icmp_lt (tgt := 43) hx hb dX2_ofMovement_36 (by decide) ⟨(hrf _), (hrf _)⟩ (fun c36 => ?_) (fun c36 => ?_)
      · rw [if_pos c36] at hz
        refine lv_iconst (v := jI 0) hx hb dX2_ofMovement_43 rfl ?_
        refine lv_goto (tgt := 57) hx hb dX2_ofMovement_44 (by decide) ?_
        subst hz
        exact xr_i hx hb hr hlocks rfl dX2_ofMovement_57
      · rw [if_neg c36] at hz
        refine lv_iconst (v := jI 1) hx hb dX2_ofMovement_39 rfl ?_
        refine lv_goto (tgt := 57) hx hb dX2_ofMovement_40 (by decide) ?_
        subst hz
        exact xr_i hx hb hr hlocks rfl dX2_ofMovement_57
  · rw [if_neg c2] at hz
    refine lv_aload_n hx hb dX2_ofMovement_5 rfl (lv_at hl 0 rfl) ?_
    refine va_get (D := D) (ci := 2) (v := .ref (a 1)) (C := RX2) (T := TX2) (N := 11) hx hb hts inRX2 hown hK hP 0 rfl rfl 0 (by decide) qf7 (fun _ h9 => h9) rfl dX2_ofMovement_6 ?_
    refine lv_bipush (v := jI 21) hx hb dX2_ofMovement_9 (by decide) ?_
    refine lv_iconst (v := jI 4) hx hb dX2_ofMovement_11 rfl ?_
    refine lv_iload_n hx hb dX2_ofMovement_12 rfl (lv_at hl 1 rfl) ?_
    refine x_imul hx hb dX2_ofMovement_13 ?_
    refine x_iadd hx hb dX2_ofMovement_14 ?_
    refine lv_iload_n hx hb dX2_ofMovement_15 rfl (lv_at hl 2 rfl) ?_
    refine x_iadd hx hb dX2_ofMovement_16 ?_
    refine x_iald hx hb hK hP 1 0 rfl rfl ((21 + (4 * j)) + x1) (by omega) (by omega) (by decide) dX2_ofMovement_17 ?_
    subst hz
    exact xr_i hx hb hr hlocks rfl dX2_ofMovement_18
def s_X2_counted (f : Nat → Int) (n : Nat) (x1 : Nat) : Int := if 4 ≤ (x1 : Int) then (if 8 ≤ (x1 : Int) then (if 14 ≤ (x1 : Int) then (n : Int) else (f (15 + x1 - 8))) else (if (x1 : Int) = 4 then (s_X2_toOpening f) else (if (x1 : Int) = 5 then (f 12) else (if (x1 : Int) = 6 then (f 13) else (s_X2_waits f))))) else (if (x1 : Int) = 0 then (f 0) else (if (x1 : Int) = 1 then (((f 0) / 24) % 7) else (if (x1 : Int) = 2 then ((f 0) % 24) else (f 11))))
abbrev rm_X2_counted : Room := { frames := 1, cells := 0, slots := 0, locals := 22 }
set_option maxHeartbeats 4000000 in
set_option maxRecDepth 100000 in
theorem m_X2_counted (l : Launch) (D : va_G) (cI : ClassId) (a : Nat → Nat) (f : Nat → Int) (g : Nat → Int) (n : Nat) (b : Nat → Int) (len : Nat) (th : Int) (at_ : Nat) (fl : Int) (va : Int) (so : Nat → Int) (ma : Nat → Int) (x1 : Nat) (hx1 : x1 ≤ 14) (hrf : rng f) (hh : 0 ≤ f 0 ∧ f 0 ≤ 99999) (hw : 0 ≤ f 14 ∧ f 14 ≤ 100100) : MetR l yX2_counted wsX2_counted rm_X2_counted D cI [.ref (a 0), .int (jI (x1 : Int))] (w2 cI a f g n b len th at_ fl va so ma) (s_X2_counted f n x1) := by
  refine xe_R (cc := cX2_counted) (maxL := 2) (ret := (some .int)) (by decide) rfl (Nat.le_of_ble_eq_true rfl) ?_
  intro p e s m below meth c hx hb hr hml hts hown hlocks hP hK ls hl
  have hl : lv_has ls 2 [(0, .ref (a 0)), (1, .int (jI (x1 : Int)))] := hl
  have hown : s.vm.findClass RX2 = some m.cls := hown
  have hSx : CallFix p m c cX2_counted 2 s ([.ref (a 0), .int (jI (x1 : Int))] : List Value).toArray wsX2_counted RX2 := ⟨hx, hb, hml, hown, hts⟩
  have inRX2 : ∀ w ∈ u_ws RX2 TX2 11, w ∈ wsX2_counted := by decide +kernel
  have qf33 := hts (.fieldLink RX2 33 "VaultMovementsModel" "kept" "I") (by decide +kernel)
  have qf7 := hts (.fieldLink RX2 7 "VaultMovementsModel" "now" "[I") (by decide +kernel)
  obtain ⟨z, hz⟩ : ∃ z, z = (s_X2_counted f n x1) := ⟨_, rfl⟩
  rw [← hz]
  unfold s_X2_counted at hz
  refine lv_iload_n hx hb dX2_counted_0 rfl (lv_at hl 1 rfl) ?_
  refine lv_iconst (v := jI 4) hx hb dX2_counted_1 rfl ?_
  refine x_icmp_ge (tgt := 63) hx hb dX2_counted_2 (by decide) ⟨(by omega), (by decide)⟩ (fun c2 => ?_) (fun c2 => ?_)
  · rw [if_pos c2] at hz
    refine lv_iload_n hx hb dX2_counted_63 rfl (lv_at hl 1 rfl) ?_
    refine lv_bipush (v := jI 8) hx hb dX2_counted_64 (by decide) ?_
    refine x_icmp_ge (tgt := 117) hx hb dX2_counted_66 (by decide) ⟨(by omega), (by decide)⟩ (fun c66 => ?_) (fun c66 => ?_)
    · rw [if_pos c66] at hz
      refine lv_iload_n hx hb dX2_counted_117 rfl (lv_at hl 1 rfl) ?_
      refine lv_bipush (v := jI 14) hx hb dX2_counted_118 (by decide) ?_
      refine x_icmp_ge (tgt := 138) hx hb dX2_counted_120 (by decide) ⟨(by omega), (by decide)⟩ (fun c120 => ?_) (fun c120 => ?_)
      · rw [if_pos c120] at hz
        refine lv_aload_n hx hb dX2_counted_138 rfl (lv_at hl 0 rfl) ?_
        refine va_get (D := D) (ci := 2) (v := .int (jI (n : Int))) (C := RX2) (T := TX2) (N := 11) hx hb hts inRX2 hown hK hP 0 rfl rfl 2 (by decide) qf33 (fun _ h9 => h9) rfl dX2_counted_139 ?_
        subst hz
        exact xr_i hx hb hr hlocks rfl dX2_counted_142
      · rw [if_neg c120] at hz
        refine lv_aload_n hx hb dX2_counted_123 rfl (lv_at hl 0 rfl) ?_
        refine va_get (D := D) (ci := 2) (v := .ref (a 1)) (C := RX2) (T := TX2) (N := 11) hx hb hts inRX2 hown hK hP 0 rfl rfl 0 (by decide) qf7 (fun _ h9 => h9) rfl dX2_counted_124 ?_
        refine lv_bipush (v := jI 15) hx hb dX2_counted_127 (by decide) ?_
        refine lv_iload_n hx hb dX2_counted_129 rfl (lv_at hl 1 rfl) ?_
        refine x_iadd hx hb dX2_counted_130 ?_
        refine lv_bipush (v := jI 8) hx hb dX2_counted_131 (by decide) ?_
        refine x_isub hx hb dX2_counted_133 ?_
        refine x_iald hx hb hK hP 1 0 rfl rfl (15 + x1 - 8) (by omega) (by omega) (by decide) dX2_counted_134 ?_
        refine lv_goto (tgt := 142) hx hb dX2_counted_135 (by decide) ?_
        subst hz
        exact xr_i hx hb hr hlocks rfl dX2_counted_142
    · rw [if_neg c66] at hz
      refine lv_iload_n hx hb dX2_counted_69 rfl (lv_at hl 1 rfl) ?_
      refine lv_iconst (v := jI 4) hx hb dX2_counted_70 rfl ?_
      refine x_icmp_ne (tgt := 81) hx hb dX2_counted_71 (by decide) ⟨(by omega), (by decide)⟩ (fun c71 => ?_) (fun c71 => ?_)
      · rw [if_neg c71] at hz
        refine lv_iload_n hx hb dX2_counted_81 rfl (lv_at hl 1 rfl) ?_
        refine lv_iconst (v := jI 5) hx hb dX2_counted_82 rfl ?_
        refine x_icmp_ne (tgt := 96) hx hb dX2_counted_83 (by decide) ⟨(by omega), (by decide)⟩ (fun c83 => ?_) (fun c83 => ?_)
        · rw [if_neg c83] at hz
          refine lv_iload_n hx hb dX2_counted_96 rfl (lv_at hl 1 rfl) ?_
          refine lv_bipush (v := jI 6) hx hb dX2_counted_97 (by decide) ?_
          refine x_icmp_ne (tgt := 112) hx hb dX2_counted_99 (by decide) ⟨(by omega), (by decide)⟩ (fun c99 => ?_) (fun c99 => ?_)
          · rw [if_neg c99] at hz
            refine lv_aload_n hx hb dX2_counted_112 rfl (lv_at hl 0 rfl) ?_
            refine xc_R (As := []) (rest := []) hSx (m_X2_waits l D cI a f g n b len th at_ fl va so ma  (by omega) (by omega) (by omega)) (cwV 0 hts gX2_counted_X2_waits rfl rfl rfl (by decide +kernel) ⟨Nat.le_of_ble_eq_true rfl, Nat.le_of_ble_eq_true rfl⟩) hP hK 0 rfl rfl rfl rfl hl.1 rfl (Nat.le_of_ble_eq_true rfl) dX2_counted_113 ⟨Nat.zero_le _, Nat.zero_le _⟩ ?_
            subst hz
            exact xr_i hx hb hr hlocks rfl dX2_counted_116
          · rw [if_pos c99] at hz
            refine lv_aload_n hx hb dX2_counted_102 rfl (lv_at hl 0 rfl) ?_
            refine va_get (D := D) (ci := 2) (v := .ref (a 1)) (C := RX2) (T := TX2) (N := 11) hx hb hts inRX2 hown hK hP 0 rfl rfl 0 (by decide) qf7 (fun _ h9 => h9) rfl dX2_counted_103 ?_
            refine lv_bipush (v := jI 13) hx hb dX2_counted_106 (by decide) ?_
            refine x_iald hx hb hK hP 1 0 rfl rfl 13 rfl (by decide) (by decide) dX2_counted_108 ?_
            refine lv_goto (tgt := 116) hx hb dX2_counted_109 (by decide) ?_
            subst hz
            exact xr_i hx hb hr hlocks rfl dX2_counted_116
        · rw [if_pos c83] at hz
          refine lv_aload_n hx hb dX2_counted_86 rfl (lv_at hl 0 rfl) ?_
          refine va_get (D := D) (ci := 2) (v := .ref (a 1)) (C := RX2) (T := TX2) (N := 11) hx hb hts inRX2 hown hK hP 0 rfl rfl 0 (by decide) qf7 (fun _ h9 => h9) rfl dX2_counted_87 ?_
          refine lv_bipush (v := jI 12) hx hb dX2_counted_90 (by decide) ?_
          refine x_iald hx hb hK hP 1 0 rfl rfl 12 rfl (by decide) (by decide) dX2_counted_92 ?_
          refine lv_goto (tgt := 116) hx hb dX2_counted_93 (by decide) ?_
          subst hz
          exact xr_i hx hb hr hlocks rfl dX2_counted_116
      · rw [if_pos c71] at hz
        refine lv_aload_n hx hb dX2_counted_74 rfl (lv_at hl 0 rfl) ?_
        refine xc_R (As := []) (rest := []) hSx (m_X2_toOpening l D cI a f g n b len th at_ fl va so ma  (by omega) (by omega)) (cwV 0 hts gX2_counted_X2_toOpening rfl rfl rfl (by decide +kernel) ⟨Nat.le_of_ble_eq_true rfl, Nat.le_of_ble_eq_true rfl⟩) hP hK 0 rfl rfl rfl rfl hl.1 rfl (Nat.le_of_ble_eq_true rfl) dX2_counted_75 ⟨Nat.zero_le _, Nat.zero_le _⟩ ?_
        refine lv_goto (tgt := 116) hx hb dX2_counted_78 (by decide) ?_
        subst hz
        exact xr_i hx hb hr hlocks rfl dX2_counted_116
  · rw [if_neg c2] at hz
    refine lv_iload_n hx hb dX2_counted_5 rfl (lv_at hl 1 rfl) ?_
    refine x_if_ne (tgt := 18) hx hb dX2_counted_6 (by decide) (by omega) (fun c6 => ?_) (fun c6 => ?_)
    · rw [if_neg c6] at hz
      refine lv_iload_n hx hb dX2_counted_18 rfl (lv_at hl 1 rfl) ?_
      refine lv_iconst (v := jI 1) hx hb dX2_counted_19 rfl ?_
      refine x_icmp_ne (tgt := 38) hx hb dX2_counted_20 (by decide) ⟨(by omega), (by decide)⟩ (fun c20 => ?_) (fun c20 => ?_)
      · rw [if_neg c20] at hz
        refine lv_iload_n hx hb dX2_counted_38 rfl (lv_at hl 1 rfl) ?_
        refine lv_iconst (v := jI 2) hx hb dX2_counted_39 rfl ?_
        refine x_icmp_ne (tgt := 55) hx hb dX2_counted_40 (by decide) ⟨(by omega), (by decide)⟩ (fun c40 => ?_) (fun c40 => ?_)
        · rw [if_neg c40] at hz
          refine lv_aload_n hx hb dX2_counted_55 rfl (lv_at hl 0 rfl) ?_
          refine va_get (D := D) (ci := 2) (v := .ref (a 1)) (C := RX2) (T := TX2) (N := 11) hx hb hts inRX2 hown hK hP 0 rfl rfl 0 (by decide) qf7 (fun _ h9 => h9) rfl dX2_counted_56 ?_
          refine lv_bipush (v := jI 11) hx hb dX2_counted_59 (by decide) ?_
          refine x_iald hx hb hK hP 1 0 rfl rfl 11 rfl (by decide) (by decide) dX2_counted_61 ?_
          subst hz
          exact xr_i hx hb hr hlocks rfl dX2_counted_62
        · rw [if_pos c40] at hz
          refine lv_aload_n hx hb dX2_counted_43 rfl (lv_at hl 0 rfl) ?_
          refine va_get (D := D) (ci := 2) (v := .ref (a 1)) (C := RX2) (T := TX2) (N := 11) hx hb hts inRX2 hown hK hP 0 rfl rfl 0 (by decide) qf7 (fun _ h9 => h9) rfl dX2_counted_44 ?_
          refine lv_iconst (v := jI 0) hx hb dX2_counted_47 rfl ?_
          refine x_iald hx hb hK hP 1 0 rfl rfl 0 rfl (by decide) (by decide) dX2_counted_48 ?_
          refine lv_bipush (v := jI 24) hx hb dX2_counted_49 (by decide) ?_
          refine x_irem hx hb dX2_counted_51 (by omega) ?_
          refine lv_goto (tgt := 62) hx hb dX2_counted_52 (by decide) ?_
          subst hz
          exact xr_i hx hb hr hlocks rfl dX2_counted_62
      · rw [if_pos c20] at hz
        refine lv_aload_n hx hb dX2_counted_23 rfl (lv_at hl 0 rfl) ?_
        refine va_get (D := D) (ci := 2) (v := .ref (a 1)) (C := RX2) (T := TX2) (N := 11) hx hb hts inRX2 hown hK hP 0 rfl rfl 0 (by decide) qf7 (fun _ h9 => h9) rfl dX2_counted_24 ?_
        refine lv_iconst (v := jI 0) hx hb dX2_counted_27 rfl ?_
        refine x_iald hx hb hK hP 1 0 rfl rfl 0 rfl (by decide) (by decide) dX2_counted_28 ?_
        refine lv_bipush (v := jI 24) hx hb dX2_counted_29 (by decide) ?_
        refine x_idiv hx hb dX2_counted_31 (by omega) ?_
        refine lv_bipush (v := jI 7) hx hb dX2_counted_32 (by decide) ?_
        refine x_irem hx hb dX2_counted_34 (by omega) ?_
        refine lv_goto (tgt := 62) hx hb dX2_counted_35 (by decide) ?_
        subst hz
        exact xr_i hx hb hr hlocks rfl dX2_counted_62
    · rw [if_pos c6] at hz
      refine lv_aload_n hx hb dX2_counted_9 rfl (lv_at hl 0 rfl) ?_
      refine va_get (D := D) (ci := 2) (v := .ref (a 1)) (C := RX2) (T := TX2) (N := 11) hx hb hts inRX2 hown hK hP 0 rfl rfl 0 (by decide) qf7 (fun _ h9 => h9) rfl dX2_counted_10 ?_
      refine lv_iconst (v := jI 0) hx hb dX2_counted_13 rfl ?_
      refine x_iald hx hb hK hP 1 0 rfl rfl 0 rfl (by decide) (by decide) dX2_counted_14 ?_
      refine lv_goto (tgt := 62) hx hb dX2_counted_15 (by decide) ?_
      subst hz
      exact xr_i hx hb hr hlocks rfl dX2_counted_62
