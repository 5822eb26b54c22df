def s_X2_isAt (b : Nat → Int) (len : Nat) (at_ : Nat) (x0 : Int) (x1 : Int) : Int := if (len : Int) ≤ (at_ : Int) then 0 else (if (s_X2_in (b at_) x0 x1) = 0 then 0 else 1)
theorem b_X2_isAt (b : Nat → Int) (len : Nat) (at_ : Nat) (x0 : Int) (x1 : Int) : (s_X2_isAt b len at_ x0 x1) = 0 ∨ (s_X2_isAt b len at_ x0 x1) = 1 := by unfold s_X2_isAt; (repeat' split) <;> first | exact Or.inl rfl | exact Or.inr rfl | exact b_X2_in _ _ _
abbrev rm_X2_isAt : Room := { frames := 1, cells := 0, slots := 0, locals := 22 }
set_option maxHeartbeats 4000000 in
set_option maxRecDepth 100000 in
theorem m_X2_isAt (l : Launch) (D : va_G) (cI : ClassId) (a : Nat → Nat) (f : Nat → Int) (g : Nat → Int) (n : Nat) (b : Nat → Int) (len : Nat) (th : Int) (at_ : Nat) (fl : Int) (va : Int) (so : Nat → Int) (ma : Nat → Int) (x0 : Int) (x1 : Int) (hbf : ∀ k : Nat, k < len → 33 ≤ b k ∧ b k ≤ 126) (hln : len ≤ 60) (hat : at_ ≤ len) (hx0 : -2147483648 ≤ x0 ∧ x0 < 2147483648) (hx1 : -2147483648 ≤ x1 ∧ x1 < 2147483648) : MetR l yX2_isAt wsX2_isAt rm_X2_isAt D cI [.ref (a 0), .int (jI x0), .int (jI x1)] (w2 cI a f g n b len th at_ fl va so ma) (s_X2_isAt b len at_ x0 x1) := by
  refine xe_R (cc := cX2_isAt) (maxL := 3) (ret := (some .boolean)) (by decide) rfl (Nat.le_of_ble_eq_true rfl) ?_
  intro p e s m below meth c hx hb hr hml hts hown hlocks hP hK ls hl
  have hl : lv_has ls 3 [(0, .ref (a 0)), (1, .int (jI x0)), (2, .int (jI x1))] := hl
  have hown : s.vm.findClass RX2 = some m.cls := hown
  have hSx : CallFix p m c cX2_isAt 3 s ([.ref (a 0), .int (jI x0), .int (jI x1)] : List Value).toArray wsX2_isAt RX2 := ⟨hx, hb, hml, hown, hts⟩
  have inRX2 : ∀ w ∈ u_ws RX2 TX2 11, w ∈ wsX2_isAt := by decide +kernel
  have qf16 := hts (.fieldLink RX2 16 "VaultMovementsModel" "text" "[I") (by decide +kernel)
  have qf91 := hts (.fieldLink RX2 91 "VaultMovementsModel" "typed" "I") (by decide +kernel)
  have qf94 := hts (.fieldLink RX2 94 "VaultMovementsModel" "at" "I") (by decide +kernel)
  obtain ⟨z, hz⟩ : ∃ z, z = (s_X2_isAt b len at_ x0 x1) := ⟨_, rfl⟩
  rw [← hz]
  unfold s_X2_isAt at hz
  refine lv_aload_n hx hb dX2_isAt_0 rfl (lv_at hl 0 rfl) ?_
  refine va_get (D := D) (ci := 2) (v := .int (jI (at_ : Int))) (C := RX2) (T := TX2) (N := 11) hx hb hts inRX2 hown hK hP 0 rfl rfl 6 (by decide) qf94 (fun _ h9 => h9) rfl dX2_isAt_1 ?_
  refine lv_aload_n hx hb dX2_isAt_4 rfl (lv_at hl 0 rfl) ?_
  refine va_get (D := D) (ci := 2) (v := .int (jI (len : Int))) (C := RX2) (T := TX2) (N := 11) hx hb hts inRX2 hown hK hP 0 rfl rfl 4 (by decide) qf91 (fun _ h9 => h9) rfl dX2_isAt_5 ?_
  refine x_icmp_ge (tgt := 32) hx hb dX2_isAt_8 (by decide) ⟨(by omega), (by omega)⟩ (fun c8 => ?_) (fun c8 => ?_)
  · rw [if_pos c8] at hz
    refine lv_iconst (v := jI 0) hx hb dX2_isAt_32 rfl ?_
    subst hz
    exact xr_z hx hb hr hlocks (Or.inl rfl) rfl dX2_isAt_33
  · rw [if_neg c8] at hz
    have hb1 := hbf at_ (by omega)
    refine lv_aload_n hx hb dX2_isAt_11 rfl (lv_at hl 0 rfl) ?_
    refine va_get (D := D) (ci := 2) (v := .ref (a 3)) (C := RX2) (T := TX2) (N := 11) hx hb hts inRX2 hown hK hP 0 rfl rfl 3 (by decide) qf16 (fun _ h9 => h9) rfl dX2_isAt_12 ?_
    refine lv_aload_n hx hb dX2_isAt_15 rfl (lv_at hl 0 rfl) ?_
    refine va_get (D := D) (ci := 2) (v := .int (jI (at_ : Int))) (C := RX2) (T := TX2) (N := 11) hx hb hts inRX2 hown hK hP 0 rfl rfl 6 (by decide) qf94 (fun _ h9 => h9) rfl dX2_isAt_16 ?_
    refine x_iald hx hb hK hP 3 0 rfl rfl at_ (by omega) (by omega) (by decide) dX2_isAt_19 ?_
    refine lv_iload_n hx hb dX2_isAt_20 rfl (lv_at hl 1 rfl) ?_
    refine lv_iload_n hx hb dX2_isAt_21 rfl (lv_at hl 2 rfl) ?_
    refine xc_P (As := [.int (jI (b at_)), .int (jI x0), .int (jI x1)]) (rest := []) hSx (m_X2_in l (b at_) x0 x1 (by omega) (by omega) (by omega)) (va_cwS 3 hts gX2_isAt_X2_in rfl rfl rfl (by decide +kernel) ⟨Nat.le_of_ble_eq_true rfl, Nat.le_of_ble_eq_true rfl⟩) rfl hl.1 rfl (Nat.le_of_ble_eq_true rfl) dX2_isAt_22 ⟨Nat.zero_le _, Nat.zero_le _⟩ ?_
    refine x_if_eq (tgt := 32) hx hb dX2_isAt_25 (by decide) (b01 (b_X2_in (b at_) x0 x1)) (fun c25 => ?_) (fun c25 => ?_)
    · rw [if_pos c25] at hz
      refine lv_iconst (v := jI 0) hx hb dX2_isAt_32 rfl ?_
      subst hz
      exact xr_z hx hb hr hlocks (Or.inl rfl) rfl dX2_isAt_33
    · rw [if_neg c25] at hz
      refine lv_iconst (v := jI 1) hx hb dX2_isAt_28 rfl ?_
      refine lv_goto (tgt := 33) hx hb dX2_isAt_29 (by decide) ?_
      subst hz
      exact xr_z hx hb hr hlocks (Or.inr rfl) rfl dX2_isAt_33
theorem ok_X2_isAt {b : Nat → Int} {len at_ : Nat} {x0 x1 : Int} (h : ¬ s_X2_isAt b len at_ x0 x1 = 0) : at_ < len ∧ x0 ≤ b at_ ∧ b at_ ≤ x1 := by
  unfold s_X2_isAt at h
  split at h
  · exact absurd rfl h
  split at h
  · exact absurd rfl h
  · rename_i h1 h2
    have := ok_X2_in h2
    omega
def s_X2_stops (len : Nat) (at_ : Nat) : Int × Int := if (len : Int) ≤ (at_ : Int) then (0, 0) else (0, 1)
theorem b_X2_stops (len : Nat) (at_ : Nat) : (s_X2_stops len at_).1 = 0 ∨ (s_X2_stops len at_).1 = 1 := by unfold s_X2_stops; (repeat' split) <;> first | exact Or.inl rfl | exact Or.inr rfl
abbrev rm_X2_stops : Room := { frames := 0, cells := 0, slots := 0, locals := 0 }
set_option maxHeartbeats 4000000 in
set_option maxRecDepth 100000 in
theorem m_X2_stops (l : Launch) (D : va_G) (cI : ClassId) (a : Nat → Nat) (f : Nat → Int) (g : Nat → Int) (n : Nat) (b : Nat → Int) (len : Nat) (th : Int) (at_ : Nat) (fl : Int) (va : Int) (so : Nat → Int) (ma : Nat → Int) (hln : len ≤ 60) (hat : at_ ≤ len) : MetI l yX2_stops wsX2_stops rm_X2_stops D cI [.ref (a 0)] (w2 cI a f g n b len th at_ fl va so ma) (w2 cI a f g n b len th at_ ((s_X2_stops len at_).2) va so ma) ((s_X2_stops len at_).1) := by
  refine xe_I (cc := cX2_stops) (maxL := 1) (ret := (some .boolean)) (by decide) rfl (Nat.le_of_ble_eq_true rfl) ?_
  intro p e s m below meth c hx hb hr hml hts hown hlocks hP hK A hA hD hS ls hl
  have hl : lv_has ls 1 [(0, .ref (a 0))] := hl
  have hown : s.vm.findClass RX2 = some m.cls := hown
  have hSx : CallFix p m c cX2_stops 1 s ([.ref (a 0)] : List Value).toArray wsX2_stops RX2 := ⟨hx, hb, hml, hown, hts⟩
  have inRX2 : ∀ w ∈ u_ws RX2 TX2 11, w ∈ wsX2_stops := by decide +kernel
  have qf91 := hts (.fieldLink RX2 91 "VaultMovementsModel" "typed" "I") (by decide +kernel)
  have qf94 := hts (.fieldLink RX2 94 "VaultMovementsModel" "at" "I") (by decide +kernel)
  have qf97 := hts (.fieldLink RX2 97 "VaultMovementsModel" "isFault" "Z") (by decide +kernel)
  obtain ⟨z, hz⟩ : ∃ z, z = (s_X2_stops len at_) := ⟨_, rfl⟩
  rw [← hz]
  unfold s_X2_stops at hz
  refine lv_aload_n hx hb dX2_stops_0 rfl (lv_at hl 0 rfl) ?_
  refine lv_aload_n hx hb dX2_stops_1 rfl (lv_at hl 0 rfl) ?_
  refine va_get (D := D) (ci := 2) (v := .int (jI (at_ : Int))) (C := RX2) (T := TX2) (N := 11) hx hb hts inRX2 hown hK hP 0 rfl rfl 6 (by decide) qf94 (fun _ h9 => h9) rfl dX2_stops_2 ?_
  refine lv_aload_n hx hb dX2_stops_5 rfl (lv_at hl 0 rfl) ?_
  refine va_get (D := D) (ci := 2) (v := .int (jI (len : Int))) (C := RX2) (T := TX2) (N := 11) hx hb hts inRX2 hown hK hP 0 rfl rfl 4 (by decide) qf91 (fun _ h9 => h9) rfl dX2_stops_6 ?_
  refine x_icmp_ge (tgt := 16) hx hb dX2_stops_9 (by decide) ⟨(by omega), (by omega)⟩ (fun c9 => ?_) (fun c9 => ?_)
  · rw [if_pos c9] at hz
    refine lv_iconst (v := jI 0) hx hb dX2_stops_16 rfl ?_
    refine va_put (D := D) (ci := 2) (v := .int (jI 0)) (ty := .boolean) (C := RX2) (T := TX2) (N := 11) hx hb hts inRX2 tyX2 tyX2_ok nmX2 hown hK hP hD hS 0 rfl rfl 7 (by decide) qf97 (fun _ h9 => h9) rfl (by decide +kernel) rfl rfl (Nat.le_of_ble_eq_true rfl) dX2_stops_17 (fun H locs hP hD hS => ?_)
    have hP : va_P D vwCl (w2 cI a f g n b len th at_ 0 va so ma) H := hP
    have hD : va_D A (w2 cI a f g n b len th at_ 0 va so ma) := hD
    refine lv_iconst (v := jI 0) hx hb dX2_stops_20 rfl ?_
    subst hz
    exact xi_z hx hb hr hlocks (Or.inl rfl) hK hP hD hS rfl rfl dX2_stops_21
  · rw [if_neg c9] at hz
    refine lv_iconst (v := jI 1) hx hb dX2_stops_12 rfl ?_
    refine lv_goto (tgt := 17) hx hb dX2_stops_13 (by decide) ?_
    refine va_put (D := D) (ci := 2) (v := .int (jI 1)) (ty := .boolean) (C := RX2) (T := TX2) (N := 11) hx hb hts inRX2 tyX2 tyX2_ok nmX2 hown hK hP hD hS 0 rfl rfl 7 (by decide) qf97 (fun _ h9 => h9) rfl (by decide +kernel) rfl rfl (Nat.le_of_ble_eq_true rfl) dX2_stops_17 (fun H locs hP hD hS => ?_)
    have hP : va_P D vwCl (w2 cI a f g n b len th at_ 1 va so ma) H := hP
    have hD : va_D A (w2 cI a f g n b len th at_ 1 va so ma) := hD
    refine lv_iconst (v := jI 0) hx hb dX2_stops_20 rfl ?_
    subst hz
    exact xi_z hx hb hr hlocks (Or.inl rfl) hK hP hD hS rfl rfl dX2_stops_21
def s_X2_isSign (b : Nat → Int) (len : Nat) (at_ : Nat) (x0 : Int) : Int × Nat := if (s_X2_isAt b len at_ x0 x0) = 0 then ((s_X2_isAt b len at_ x0 x0), (at_ + 0)) else ((s_X2_isAt b len at_ x0 x0), (at_ + 1))
theorem b_X2_isSign (b : Nat → Int) (len : Nat) (at_ : Nat) (x0 : Int) : (s_X2_isSign b len at_ x0).1 = 0 ∨ (s_X2_isSign b len at_ x0).1 = 1 := by unfold s_X2_isSign; (repeat' split) <;> first | exact Or.inl rfl | exact Or.inr rfl | exact b_X2_isAt _ _ _ _ _
abbrev rm_X2_isSign : Room := { frames := 2, cells := 0, slots := 0, locals := 44 }
set_option maxHeartbeats 4000000 in
set_option maxRecDepth 100000 in
theorem m_X2_isSign (l : Launch) (D : va_G) (cI : ClassId) (a : Nat → Nat) (f : Nat → Int) (g : Nat → Int) (n : Nat) (b : Nat → Int) (len : Nat) (th : Int) (at_ : Nat) (fl : Int) (va : Int) (so : Nat → Int) (ma : Nat → Int) (x0 : Int) (hbf : ∀ k : Nat, k < len → 33 ≤ b k ∧ b k ≤ 126) (hln : len ≤ 60) (hat : at_ ≤ len) (hx0 : -2147483648 ≤ x0 ∧ x0 < 2147483648) : MetI l yX2_isSign wsX2_isSign rm_X2_isSign D cI [.ref (a 0), .int (jI x0)] (w2 cI a f g n b len th at_ fl va so ma) (w2 cI a f g n b len th ((s_X2_isSign b len at_ x0).2) fl va so ma) ((s_X2_isSign b len at_ x0).1) := by
  refine xe_I (cc := cX2_isSign) (maxL := 3) (ret := (some .boolean)) (by decide) rfl (Nat.le_of_ble_eq_true rfl) ?_
  intro p e s m below meth c hx hb hr hml hts hown hlocks hP hK A hA hD hS ls hl
  have hl : lv_has ls 3 [(0, .ref (a 0)), (1, .int (jI x0))] := hl
  have hown : s.vm.findClass RX2 = some m.cls := hown
  have hSx : CallFix p m c cX2_isSign 3 s ([.ref (a 0), .int (jI x0)] : List Value).toArray wsX2_isSign RX2 := ⟨hx, hb, hml, hown, hts⟩
  have inRX2 : ∀ w ∈ u_ws RX2 TX2 11, w ∈ wsX2_isSign := by decide +kernel
  have qf94 := hts (.fieldLink RX2 94 "VaultMovementsModel" "at" "I") (by decide +kernel)
  obtain ⟨z, hz⟩ : ∃ z, z = (s_X2_isSign b len at_ x0) := ⟨_, rfl⟩
  rw [← hz]
  unfold s_X2_isSign at hz
  refine lv_aload_n hx hb dX2_isSign_0 rfl (lv_at hl 0 rfl) ?_
  refine lv_iload_n hx hb dX2_isSign_1 rfl (lv_at hl 1 rfl) ?_
  refine lv_iload_n hx hb dX2_isSign_2 rfl (lv_at hl 1 rfl) ?_
  refine xc_R (As := [.int (jI x0), .int (jI x0)]) (rest := []) hSx (m_X2_isAt l D cI a f g n b len th at_ fl va so ma x0 x0 (by omega) (by omega) (by omega) (by omega) (by omega)) (cwV 2 hts gX2_isSign_X2_isAt rfl rfl rfl (by decide +kernel) ⟨Nat.le_of_ble_eq_true rfl, Nat.le_of_ble_eq_true rfl⟩) hP hK 0 rfl rfl rfl rfl hl.1 rfl (Nat.le_of_ble_eq_true rfl) dX2_isSign_3 ⟨Nat.zero_le _, Nat.zero_le _⟩ ?_
  refine lv_istore_n (lv' := [(2, .int (jI (s_X2_isAt b len at_ x0 x0))), (0, .ref (a 0)), (1, .int (jI x0))]) hx hb dX2_isSign_6 rfl hl (by decide) rfl (fun ls hl => ?_)
  refine lv_aload_n hx hb dX2_isSign_7 rfl (lv_at hl 1 rfl) ?_
  refine lv_dup hx hb dX2_isSign_8 rfl ?_
  refine va_get (D := D) (ci := 2) (v := .int (jI (at_ : Int))) (C := RX2) (T := TX2) (N := 11) hx hb hts inRX2 hown hK hP 0 rfl rfl 6 (by decide) qf94 (fun _ h9 => h9) rfl dX2_isSign_9 ?_
  refine lv_iload_n hx hb dX2_isSign_12 rfl (lv_at hl 0 rfl) ?_
  refine x_if_eq (tgt := 20) hx hb dX2_isSign_13 (by decide) (b01 (b_X2_isAt b len at_ x0 x0)) (fun c13 => ?_) (fun c13 => ?_)
  · rw [if_pos c13] at hz
    refine lv_iconst (v := jI 0) hx hb dX2_isSign_20 rfl ?_
    refine x_iadd hx hb dX2_isSign_21 ?_
    refine va_put (D := D) (ci := 2) (v := .int (jI ((at_ : Int) + 0))) (ty := .int) (C := RX2) (T := TX2) (N := 11) hx hb hts inRX2 tyX2 tyX2_ok nmX2 hown hK hP hD hS 0 rfl rfl 6 (by decide) qf94 (fun _ h9 => h9) rfl (by decide +kernel) rfl rfl (Nat.le_of_ble_eq_true rfl) dX2_isSign_22 (fun H locs hP hD hS => ?_)
    have hP : va_P D vwCl (w2 cI a f g n b len th (at_ + 0) fl va so ma) H := hP
    have hD : va_D A (w2 cI a f g n b len th (at_ + 0) fl va so ma) := hD
    refine lv_iload_n hx hb dX2_isSign_25 rfl (lv_at hl 0 rfl) ?_
    subst hz
    exact xi_z hx hb hr hlocks (b_X2_isAt b len at_ x0 x0) hK hP hD hS rfl rfl dX2_isSign_26
  · rw [if_neg c13] at hz
    refine lv_iconst (v := jI 1) hx hb dX2_isSign_16 rfl ?_
    refine lv_goto (tgt := 21) hx hb dX2_isSign_17 (by decide) ?_
    refine x_iadd hx hb dX2_isSign_21 ?_
    refine va_put (D := D) (ci := 2) (v := .int (jI ((at_ : Int) + 1))) (ty := .int) (C := RX2) (T := TX2) (N := 11) hx hb hts inRX2 tyX2 tyX2_ok nmX2 hown hK hP hD hS 0 rfl rfl 6 (by decide) qf94 (fun _ h9 => h9) rfl (by decide +kernel) rfl rfl (Nat.le_of_ble_eq_true rfl) dX2_isSign_22 (fun H locs hP hD hS => ?_)
    have hP : va_P D vwCl (w2 cI a f g n b len th (at_ + 1) fl va so ma) H := hP
    have hD : va_D A (w2 cI a f g n b len th (at_ + 1) fl va so ma) := hD
    refine lv_iload_n hx hb dX2_isSign_25 rfl (lv_at hl 0 rfl) ?_
    subst hz
    exact xi_z hx hb hr hlocks (b_X2_isAt b len at_ x0 x0) hK hP hD hS rfl rfl dX2_isSign_26
theorem le_X2_isSign (b : Nat → Int) (len at_ : Nat) (x0 : Int) (h : at_ ≤ len) : (s_X2_isSign b len at_ x0).2 ≤ len := by
  unfold s_X2_isSign
  split
  · exact h
  · rename_i h1
    have := ok_X2_isAt h1
    dsimp only
    omega
def s_X2_isNumber_lp21 (b : Nat → Int) (len : Nat) (fl : Int) : Nat → Nat → Int → Int × Nat × Int × Int
  | 0, _, _ => default
  | k + 1, i, v => if (s_X2_isAt b len i 48 57) = 0 then (1, i, fl, v) else (if 200 < (((10 * v) + (b i)) - 48) then (1, i, fl, v) else (s_X2_isNumber_lp21 b len fl k (i + 1) (((10 * v) + (b i)) - 48)))
theorem b_X2_isNumber_lp21 (b : Nat → Int) (len : Nat) (fl : Int) : ∀ (k i : Nat) (v0 : Int), (s_X2_isNumber_lp21 b len fl k i v0).1 = 0 ∨ (s_X2_isNumber_lp21 b len fl k i v0).1 = 1 := by
  intro k
  induction k with
  | zero => intro i v0; exact Or.inl rfl
  | succ k ih =>
    intro i v0
    rw [s_X2_isNumber_lp21]
    (repeat' split) <;> first | exact Or.inl rfl | exact Or.inr rfl | exact ih _ _ | exact b_X2_isAt _ _ _ _ _ | exact b_X2_stops _ _
def s_X2_isNumber (b : Nat → Int) (len : Nat) (at_ : Nat) (fl : Int) (va : Int) : Int × Nat × Int × Int := if (s_X2_isAt b len at_ 49 57) = 0 then ((s_X2_stops len at_).1, at_, (s_X2_stops len at_).2, va) else (s_X2_isNumber_lp21 b len fl (len + 1 - at_) at_ 0)
theorem b_X2_isNumber (b : Nat → Int) (len : Nat) (at_ : Nat) (fl : Int) (va : Int) : (s_X2_isNumber b len at_ fl va).1 = 0 ∨ (s_X2_isNumber b len at_ fl va).1 = 1 := by unfold s_X2_isNumber; (repeat' split) <;> first | exact Or.inl rfl | exact Or.inr rfl | exact b_X2_isAt _ _ _ _ _ | exact b_X2_stops _ _ | exact b_X2_isNumber_lp21 _ _ _ _ _ _
abbrev rm_X2_isNumber : Room := { frames := 2, cells := 0, slots := 0, locals := 44 }
set_option maxHeartbeats 4000000 in
set_option maxRecDepth 100000 in
theorem m_X2_isNumber (l : Launch) (D : va_G) (cI : ClassId) (a : Nat → Nat) (f : Nat → Int) (g : Nat → Int) (n : Nat) (b : Nat → Int) (len : Nat) (th : Int) (at_ : Nat) (fl : Int) (va : Int) (so : Nat → Int) (ma : Nat → Int) (hbf : ∀ k : Nat, k < len → 33 ≤ b k ∧ b k ≤ 126) (hln : len ≤ 60) (hat : at_ ≤ len) : MetI l yX2_isNumber wsX2_isNumber rm_X2_isNumber D cI [.ref (a 0)] (w2 cI a f g n b len th at_ fl va so ma) (w2 cI a f g n b len th ((s_X2_isNumber b len at_ fl va).2.1) ((s_X2_isNumber b len at_ fl va).2.2.1) ((s_X2_isNumber b len at_ fl va).2.2.2) so ma) ((s_X2_isNumber b len at_ fl va).1) := by
  refine xe_I (cc := cX2_isNumber) (maxL := 1) (ret := (some .boolean)) (by decide) rfl (Nat.le_of_ble_eq_true rfl) ?_
  intro p e s m below meth c hx hb hr hml hts hown hlocks hP hK A hA hD hS ls hl
  have hl : lv_has ls 1 [(0, .ref (a 0))] := hl
  have hown : s.vm.findClass RX2 = some m.cls := hown
  have hSx : CallFix p m c cX2_isNumber 1 s ([.ref (a 0)] : List Value).toArray wsX2_isNumber RX2 := ⟨hx, hb, hml, hown, hts⟩
  have inRX2 : ∀ w ∈ u_ws RX2 TX2 11, w ∈ wsX2_isNumber := by decide +kernel
  have qf108 := hts (.fieldLink RX2 108 "VaultMovementsModel" "value" "I") (by decide +kernel)
  have qf16 := hts (.fieldLink RX2 16 "VaultMovementsModel" "text" "[I") (by decide +kernel)
  have qf94 := hts (.fieldLink RX2 94 "VaultMovementsModel" "at" "I") (by decide +kernel)
  obtain ⟨z, hz⟩ : ∃ z, z = (s_X2_isNumber b len at_ fl va) := ⟨_, rfl⟩
  rw [← hz]
  unfold s_X2_isNumber at hz
  refine lv_aload_n hx hb dX2_isNumber_0 rfl (lv_at hl 0 rfl) ?_
  refine lv_bipush (v := jI 49) hx hb dX2_isNumber_1 (by decide) ?_
  refine lv_bipush (v := jI 57) hx hb dX2_isNumber_3 (by decide) ?_
  refine xc_R (As := [.int (jI 49), .int (jI 57)]) (rest := []) hSx (m_X2_isAt l D cI a f g n b len th at_ fl va so ma 49 57 (by omega) (by omega) (by omega) (by decide) (by decide)) (cwV 2 hts gX2_isNumber_X2_isAt rfl rfl rfl (by decide +kernel) ⟨Nat.le_of_ble_eq_true rfl, Nat.le_of_ble_eq_true rfl⟩) hP hK 0 rfl rfl rfl rfl hl.1 rfl (Nat.le_of_ble_eq_true rfl) dX2_isNumber_5 ⟨Nat.zero_le _, Nat.zero_le _⟩ ?_
  refine x_if_ne (tgt := 16) hx hb dX2_isNumber_8 (by decide) (b01 (b_X2_isAt b len at_ 49 57)) (fun c8 => ?_) (fun c8 => ?_)
  · rw [if_neg c8] at hz
    have hat2 := ok_X2_isAt c8
    refine lv_aload_n hx hb dX2_isNumber_16 rfl (lv_at hl 0 rfl) ?_
    refine lv_iconst (v := jI 0) hx hb dX2_isNumber_17 rfl ?_
    refine va_put (D := D) (ci := 2) (v := .int (jI 0)) (ty := .int) (C := RX2) (T := TX2) (N := 11) hx hb hts inRX2 tyX2 tyX2_ok nmX2 hown hK hP hD hS 0 rfl rfl 8 (by decide) qf108 (fun _ h9 => h9) rfl (by decide +kernel) rfl rfl (Nat.le_of_ble_eq_true rfl) dX2_isNumber_18 (fun H locs hP hD hS => ?_)
    have hP : va_P D vwCl (w2 cI a f g n b len th at_ fl 0 so ma) H := hP
    have hD : va_D A (w2 cI a f g n b len th at_ fl 0 so ma) := hD
    have LP21 : ∀ (k i : Nat) (v : Int) (H : Heap) (locs : List Loc) (ls : Array Slot), i ≤ len → i + k = len + 1 → z = (s_X2_isNumber_lp21 b len fl) k i v → (0 ≤ v ∧ v ≤ 200) → va_P D vwCl (w2 cI a f g n b len th i fl v so ma) H → va_D A (w2 cI a f g n b len th i fl v so ma) → va_S A s.heap H locs → lv_has ls 1 [(0, .ref (a 0))] → W p l e rm_X2_isNumber s m ([.ref (a 0)] : List Value).toArray below meth c H locs 0 0 (MQ below (va_Qi (fun x (_ : Unit) => x = jI z.1) (xq_B D cI A (w2 cI a f g n b len th z.2.1 z.2.2.1 z.2.2.2 so ma)) A) ([.ref (a 0)] : List Value).toArray s 0 0 A) (F0 m 21 ls []) := by
      intro k
      induction k with
      | zero => intro i v _ _ ls h1 h2; exact absurd h2 (by omega)
      | succ k ih =>
        intro i v H locs ls h1 h2 hz hv hP hD hS hl
        rw [s_X2_isNumber_lp21] at hz
        refine lv_aload_n hx hb dX2_isNumber_21 rfl (lv_at hl 0 rfl) ?_
        refine lv_bipush (v := jI 48) hx hb dX2_isNumber_22 (by decide) ?_
        refine lv_bipush (v := jI 57) hx hb dX2_isNumber_24 (by decide) ?_
        refine xc_R (As := [.int (jI 48), .int (jI 57)]) (rest := []) hSx (m_X2_isAt l D cI a f g n b len th i fl v so ma 48 57 (by omega) (by omega) (by omega) (by decide) (by decide)) (cwV 2 hts gX2_isNumber_X2_isAt rfl rfl rfl (by decide +kernel) ⟨Nat.le_of_ble_eq_true rfl, Nat.le_of_ble_eq_true rfl⟩) hP hK 0 rfl rfl rfl rfl hl.1 rfl (Nat.le_of_ble_eq_true rfl) dX2_isNumber_26 ⟨Nat.zero_le _, Nat.zero_le _⟩ ?_
        refine x_if_eq (tgt := 95) hx hb dX2_isNumber_29 (by decide) (b01 (b_X2_isAt b len i 48 57)) (fun c29 => ?_) (fun c29 => ?_)
        · rw [if_pos c29] at hz
          refine lv_iconst (v := jI 1) hx hb dX2_isNumber_95 rfl ?_
          subst hz
          exact xi_z hx hb hr hlocks (Or.inr rfl) hK hP hD hS rfl rfl dX2_isNumber_96
        · rw [if_neg c29] at hz
          have hat2 := ok_X2_isAt c29
          have hb1 := hbf i (by omega)
          refine lv_bipush (v := jI 10) hx hb dX2_isNumber_32 (by decide) ?_
          refine lv_aload_n hx hb dX2_isNumber_34 rfl (lv_at hl 0 rfl) ?_
          refine va_get (D := D) (ci := 2) (v := .int (jI v)) (C := RX2) (T := TX2) (N := 11) hx hb hts inRX2 hown hK hP 0 rfl rfl 8 (by decide) qf108 (fun _ h9 => h9) rfl dX2_isNumber_35 ?_
          refine x_imul hx hb dX2_isNumber_38 ?_
          refine lv_aload_n hx hb dX2_isNumber_39 rfl (lv_at hl 0 rfl) ?_
          refine va_get (D := D) (ci := 2) (v := .ref (a 3)) (C := RX2) (T := TX2) (N := 11) hx hb hts inRX2 hown hK hP 0 rfl rfl 3 (by decide) qf16 (fun _ h9 => h9) rfl dX2_isNumber_40 ?_
          refine lv_aload_n hx hb dX2_isNumber_43 rfl (lv_at hl 0 rfl) ?_
          refine va_get (D := D) (ci := 2) (v := .int (jI (i : Int))) (C := RX2) (T := TX2) (N := 11) hx hb hts inRX2 hown hK hP 0 rfl rfl 6 (by decide) qf94 (fun _ h9 => h9) rfl dX2_isNumber_44 ?_
          refine x_iald hx hb hK hP 3 0 rfl rfl i (by omega) (by omega) (by decide) dX2_isNumber_47 ?_
          refine x_iadd hx hb dX2_isNumber_48 ?_
          refine lv_bipush (v := jI 48) hx hb dX2_isNumber_49 (by decide) ?_
          refine x_isub hx hb dX2_isNumber_51 ?_
          refine lv_sipush (v := jI 200) hx hb dX2_isNumber_52 (by decide) ?_
          refine x_icmp_gt (tgt := 95) hx hb dX2_isNumber_55 (by decide) ⟨(by omega), (by decide)⟩ (fun c55 => ?_) (fun c55 => ?_)
          · rw [if_pos c55] at hz
            refine lv_iconst (v := jI 1) hx hb dX2_isNumber_95 rfl ?_
            subst hz
            exact xi_z hx hb hr hlocks (Or.inr rfl) hK hP hD hS rfl rfl dX2_isNumber_96
          · rw [if_neg c55] at hz
            refine lv_aload_n hx hb dX2_isNumber_58 rfl (lv_at hl 0 rfl) ?_
            refine lv_bipush (v := jI 10) hx hb dX2_isNumber_59 (by decide) ?_
            refine lv_aload_n hx hb dX2_isNumber_61 rfl (lv_at hl 0 rfl) ?_
            refine va_get (D := D) (ci := 2) (v := .int (jI v)) (C := RX2) (T := TX2) (N := 11) hx hb hts inRX2 hown hK hP 0 rfl rfl 8 (by decide) qf108 (fun _ h9 => h9) rfl dX2_isNumber_62 ?_
            refine x_imul hx hb dX2_isNumber_65 ?_
            refine lv_aload_n hx hb dX2_isNumber_66 rfl (lv_at hl 0 rfl) ?_
            refine va_get (D := D) (ci := 2) (v := .ref (a 3)) (C := RX2) (T := TX2) (N := 11) hx hb hts inRX2 hown hK hP 0 rfl rfl 3 (by decide) qf16 (fun _ h9 => h9) rfl dX2_isNumber_67 ?_
            refine lv_aload_n hx hb dX2_isNumber_70 rfl (lv_at hl 0 rfl) ?_
            refine va_get (D := D) (ci := 2) (v := .int (jI (i : Int))) (C := RX2) (T := TX2) (N := 11) hx hb hts inRX2 hown hK hP 0 rfl rfl 6 (by decide) qf94 (fun _ h9 => h9) rfl dX2_isNumber_71 ?_
            refine x_iald hx hb hK hP 3 0 rfl rfl i (by omega) (by omega) (by decide) dX2_isNumber_74 ?_
            refine x_iadd hx hb dX2_isNumber_75 ?_
            refine lv_bipush (v := jI 48) hx hb dX2_isNumber_76 (by decide) ?_
            refine x_isub hx hb dX2_isNumber_78 ?_
            refine va_put (D := D) (ci := 2) (v := .int (jI (((10 * v) + (b i)) - 48))) (ty := .int) (C := RX2) (T := TX2) (N := 11) hx hb hts inRX2 tyX2 tyX2_ok nmX2 hown hK hP hD hS 0 rfl rfl 8 (by decide) qf108 (fun _ h9 => h9) rfl (by decide +kernel) rfl rfl (Nat.le_of_ble_eq_true rfl) dX2_isNumber_79 (fun H locs hP hD hS => ?_)
            have hP : va_P D vwCl (w2 cI a f g n b len th i fl (((10 * v) + (b i)) - 48) so ma) H := hP
            have hD : va_D A (w2 cI a f g n b len th i fl (((10 * v) + (b i)) - 48) so ma) := hD
            refine lv_aload_n hx hb dX2_isNumber_82 rfl (lv_at hl 0 rfl) ?_
            refine lv_dup hx hb dX2_isNumber_83 rfl ?_
            refine va_get (D := D) (ci := 2) (v := .int (jI (i : Int))) (C := RX2) (T := TX2) (N := 11) hx hb hts inRX2 hown hK hP 0 rfl rfl 6 (by decide) qf94 (fun _ h9 => h9) rfl dX2_isNumber_84 ?_
            refine lv_iconst (v := jI 1) hx hb dX2_isNumber_87 rfl ?_
            refine x_iadd hx hb dX2_isNumber_88 ?_
            refine va_put (D := D) (ci := 2) (v := .int (jI ((i : Int) + 1))) (ty := .int) (C := RX2) (T := TX2) (N := 11) hx hb hts inRX2 tyX2 tyX2_ok nmX2 hown hK hP hD hS 0 rfl rfl 6 (by decide) qf94 (fun _ h9 => h9) rfl (by decide +kernel) rfl rfl (Nat.le_of_ble_eq_true rfl) dX2_isNumber_89 (fun H locs hP hD hS => ?_)
            have hP : va_P D vwCl (w2 cI a f g n b len th (i + 1) fl (((10 * v) + (b i)) - 48) so ma) H := hP
            have hD : va_D A (w2 cI a f g n b len th (i + 1) fl (((10 * v) + (b i)) - 48) so ma) := hD
            refine lv_goto (tgt := 21) hx hb dX2_isNumber_92 (by decide) ?_
            exact ih (i + 1) (((10 * v) + (b i)) - 48) _ _ ls (by omega) (by omega) hz (by omega) hP hD hS (lv_sub hl [0] rfl)
    exact LP21 (len + 1 - at_) at_ 0 _ _ ls (by omega) (by omega) hz (by omega) hP hD hS (lv_sub hl [0] rfl)
  · rw [if_pos c8] at hz
    refine lv_aload_n hx hb dX2_isNumber_11 rfl (lv_at hl 0 rfl) ?_
    refine xc_I (As := []) (rest := []) hSx (m_X2_stops l D cI a f g n b len th at_ fl va so ma  (by omega) (by omega)) (cwV 0 hts gX2_isNumber_X2_stops rfl rfl rfl (by decide +kernel) ⟨Nat.le_of_ble_eq_true rfl, Nat.le_of_ble_eq_true rfl⟩) hP hD hS hA hK 0 rfl rfl rfl rfl hl.1 rfl (Nat.le_of_ble_eq_true rfl) dX2_isNumber_12 ⟨Nat.zero_le _, Nat.zero_le _⟩ (fun H locs hP hD hS => ?_)
    subst hz
    exact xi_z hx hb hr hlocks (b_X2_stops len at_) hK hP hD hS rfl rfl dX2_isNumber_15
theorem ok_X2_nu_lp (b : Nat → Int) (len : Nat) (fl : Int) (hfl : fl = 0 ∨ fl = 1) : ∀ (k i : Nat) (v : Int), i ≤ len → i + k = len + 1 → 0 ≤ v ∧ v ≤ 200 → (s_X2_isNumber_lp21 b len fl k i v).2.1 ≤ len ∧ ((s_X2_isNumber_lp21 b len fl k i v).2.2.1 = 0 ∨ (s_X2_isNumber_lp21 b len fl k i v).2.2.1 = 1) ∧ 0 ≤ (s_X2_isNumber_lp21 b len fl k i v).2.2.2 ∧ (s_X2_isNumber_lp21 b len fl k i v).2.2.2 ≤ 200 := by
  intro k
  induction k with
  | zero => intro i v h0 h; exact absurd h (by omega)
  | succ k ih =>
    intro i v h0 h hv
    rw [s_X2_isNumber_lp21]
    split
    · exact ⟨h0, hfl, hv⟩
    split
    · exact ⟨h0, hfl, hv⟩
    · rename_i h1 h2
      have := ok_X2_isAt h1
      exact ih _ _ (by omega) (by omega) (by omega)
theorem ok_X2_isNumber (b : Nat → Int) (len at_ : Nat) (fl va : Int) (h : at_ ≤ len) (hfl : fl = 0 ∨ fl = 1) (hva : 0 ≤ va ∧ va ≤ 200) : (s_X2_isNumber b len at_ fl va).2.1 ≤ len ∧ ((s_X2_isNumber b len at_ fl va).2.2.1 = 0 ∨ (s_X2_isNumber b len at_ fl va).2.2.1 = 1) ∧ 0 ≤ (s_X2_isNumber b len at_ fl va).2.2.2 ∧ (s_X2_isNumber b len at_ fl va).2.2.2 ≤ 200 := by
  unfold s_X2_isNumber
  split
  · refine ⟨h, ?_, hva⟩
    unfold s_X2_stops
    split
    · exact Or.inl rfl
    · exact Or.inr rfl
  · exact ok_X2_nu_lp b len fl hfl _ _ _ h (by omega) (by decide)
def s_X2_isWinding (b : Nat → Int) (len : Nat) (at_ : Nat) (fl : Int) (va : Int) (so : Nat → Int) (ma : Nat → Int) (j : Nat) : Int × Nat × Int × Int × (Nat → Int) × (Nat → Int) := if ((s_X2_isSign b len at_ 45).1) = 0 then (if ((s_X2_isSign b len ((s_X2_isSign b len at_ 45).2) 110).1) = 0 then ((s_X2_isNumber b len ((s_X2_isSign b len ((s_X2_isSign b len at_ 45).2) 110).2) fl va).1, (s_X2_isNumber b len ((s_X2_isSign b len ((s_X2_isSign b len at_ 45).2) 110).2) fl va).2.1, (s_X2_isNumber b len ((s_X2_isSign b len ((s_X2_isSign b len at_ 45).2) 110).2) fl va).2.2.1, (s_X2_isNumber b len ((s_X2_isSign b len ((s_X2_isSign b len at_ 45).2) 110).2) fl va).2.2.2, (upz (upz so j 0) j 1), (upz (upz ma j 0) j ((s_X2_isNumber b len ((s_X2_isSign b len ((s_X2_isSign b len at_ 45).2) 110).2) fl va).2.2.2))) else (if (s_X2_isAt b len ((s_X2_isSign b len ((s_X2_isSign b len at_ 45).2) 110).2) 45 45) = 0 then (if (s_X2_isAt b len ((s_X2_isSign b len ((s_X2_isSign b len at_ 45).2) 110).2) 43 43) = 0 then (1, (s_X2_isSign b len ((s_X2_isSign b len at_ 45).2) 110).2, fl, va, (upz (upz so j 0) j 2), (upz ma j 0)) else (if (s_X2_isAt b len (((s_X2_isSign b len ((s_X2_isSign b len at_ 45).2) 110).2) + 1) 49 57) = 0 then ((s_X2_stops len (((s_X2_isSign b len ((s_X2_isSign b len at_ 45).2) 110).2) + 1)).1, (((s_X2_isSign b len ((s_X2_isSign b len at_ 45).2) 110).2) + 1), (s_X2_stops len (((s_X2_isSign b len ((s_X2_isSign b len at_ 45).2) 110).2) + 1)).2, va, (upz (upz so j 0) j 2), (upz ma j 0)) else (if (s_X2_isAt b len ((s_X2_isSign b len ((s_X2_isSign b len at_ 45).2) 110).2) 45 45) = 0 then (1, ((((s_X2_isSign b len ((s_X2_isSign b len at_ 45).2) 110).2) + 1) + 1), fl, va, (upz (upz so j 0) j 2), (upz (upz ma j 0) j ((b (((s_X2_isSign b len ((s_X2_isSign b len at_ 45).2) 110).2) + 1)) - 48))) else (1, ((((s_X2_isSign b len ((s_X2_isSign b len at_ 45).2) 110).2) + 1) + 1), fl, va, (upz (upz so j 0) j 2), (upz (upz ma j 0) j (48 - (b (((s_X2_isSign b len ((s_X2_isSign b len at_ 45).2) 110).2) + 1)))))))) else (if (s_X2_isAt b len (((s_X2_isSign b len ((s_X2_isSign b len at_ 45).2) 110).2) + 1) 49 57) = 0 then ((s_X2_stops len (((s_X2_isSign b len ((s_X2_isSign b len at_ 45).2) 110).2) + 1)).1, (((s_X2_isSign b len ((s_X2_isSign b len at_ 45).2) 110).2) + 1), (s_X2_stops len (((s_X2_isSign b len ((s_X2_isSign b len at_ 45).2) 110).2) + 1)).2, va, (upz (upz so j 0) j 2), (upz ma j 0)) else (if (s_X2_isAt b len ((s_X2_isSign b len ((s_X2_isSign b len at_ 45).2) 110).2) 45 45) = 0 then (1, ((((s_X2_isSign b len ((s_X2_isSign b len at_ 45).2) 110).2) + 1) + 1), fl, va, (upz (upz so j 0) j 2), (upz (upz ma j 0) j ((b (((s_X2_isSign b len ((s_X2_isSign b len at_ 45).2) 110).2) + 1)) - 48))) else (1, ((((s_X2_isSign b len ((s_X2_isSign b len at_ 45).2) 110).2) + 1) + 1), fl, va, (upz (upz so j 0) j 2), (upz (upz ma j 0) j (48 - (b (((s_X2_isSign b len ((s_X2_isSign b len at_ 45).2) 110).2) + 1))))))))) else (1, (s_X2_isSign b len at_ 45).2, fl, va, (upz so j 0), (upz ma j 0))
theorem b_X2_isWinding (b : Nat → Int) (len : Nat) (at_ : Nat) (fl : Int) (va : Int) (so : Nat → Int) (ma : Nat → Int) (j : Nat) : (s_X2_isWinding b len at_ fl va so ma j).1 = 0 ∨ (s_X2_isWinding b len at_ fl va so ma j).1 = 1 := by unfold s_X2_isWinding; (repeat' split) <;> first | exact Or.inl rfl | exact Or.inr rfl | exact b_X2_isSign _ _ _ _ | exact b_X2_isAt _ _ _ _ _ | exact b_X2_stops _ _ | exact b_X2_isNumber _ _ _ _ _
abbrev rm_X2_isWinding : Room := { frames := 3, cells := 0, slots := 0, locals := 66 }
set_option maxHeartbeats 4000000 in
set_option maxRecDepth 100000 in
theorem m_X2_isWinding (l : Launch) (D : va_G) (cI : ClassId) (a : Nat → Nat) (f : Nat → Int) (g : Nat → Int) (n : Nat) (b : Nat → Int) (len : Nat) (th : Int) (at_ : Nat) (fl : Int) (va : Int) (so : Nat → Int) (ma : Nat → Int) (j : Nat) (hj : j < 3) (hbf : ∀ k : Nat, k < len → 33 ≤ b k ∧ b k ≤ 126) (hln : len ≤ 60) (hat : at_ ≤ len) : MetI l yX2_isWinding wsX2_isWinding rm_X2_isWinding D cI [.ref (a 0), .int (jI (j : Int))] (w2 cI a f g n b len th at_ fl va so ma) (w2 cI a f g n b len th ((s_X2_isWinding b len at_ fl va so ma j).2.1) ((s_X2_isWinding b len at_ fl va so ma j).2.2.1) ((s_X2_isWinding b len at_ fl va so ma j).2.2.2.1) ((s_X2_isWinding b len at_ fl va so ma j).2.2.2.2.1) ((s_X2_isWinding b len at_ fl va so ma j).2.2.2.2.2)) ((s_X2_isWinding b len at_ fl va so ma j).1) := by
  refine xe_I (cc := cX2_isWinding) (maxL := 3) (ret := (some .boolean)) (by decide) rfl (Nat.le_of_ble_eq_true rfl) ?_
  intro p e s m below meth c hx hb hr hml hts hown hlocks hP hK A hA hD hS ls hl
  have hl : lv_has ls 3 [(0, .ref (a 0)), (1, .int (jI (j : Int)))] := hl
  have hown : s.vm.findClass RX2 = some m.cls := hown
  have hSx : CallFix p m c cX2_isWinding 3 s ([.ref (a 0), .int (jI (j : Int))] : List Value).toArray wsX2_isWinding RX2 := ⟨hx, hb, hml, hown, hts⟩
  have inRX2 : ∀ w ∈ u_ws RX2 TX2 11, w ∈ wsX2_isWinding := by decide +kernel
  have qf108 := hts (.fieldLink RX2 108 "VaultMovementsModel" "value" "I") (by decide +kernel)
  have qf16 := hts (.fieldLink RX2 16 "VaultMovementsModel" "text" "[I") (by decide +kernel)
  have qf19 := hts (.fieldLink RX2 19 "VaultMovementsModel" "sorts" "[I") (by decide +kernel)
  have qf22 := hts (.fieldLink RX2 22 "VaultMovementsModel" "many" "[I") (by decide +kernel)
  have qf94 := hts (.fieldLink RX2 94 "VaultMovementsModel" "at" "I") (by decide +kernel)
  obtain ⟨z, hz⟩ : ∃ z, z = (s_X2_isWinding b len at_ fl va so ma j) := ⟨_, rfl⟩
  rw [← hz]
  unfold s_X2_isWinding at hz
  refine lv_aload_n hx hb dX2_isWinding_0 rfl (lv_at hl 0 rfl) ?_
  refine va_get (D := D) (ci := 2) (v := .ref (a 4)) (C := RX2) (T := TX2) (N := 11) hx hb hts inRX2 hown hK hP 0 rfl rfl 9 (by decide) qf19 (fun _ h9 => h9) rfl dX2_isWinding_1 ?_
  refine lv_iload_n hx hb dX2_isWinding_4 rfl (lv_at hl 1 rfl) ?_
  refine lv_iconst (v := jI 0) hx hb dX2_isWinding_5 rfl ?_
  refine x_iast (w1 := (w2 cI a f g n b len th at_ fl va (upz so j 0) ma)) hx hb hK hP hD hS 4 0 rfl rfl j (by omega) (by omega) (by decide) dX2_isWinding_6 rfl (fun H locs hP hD hS => ?_)
  refine lv_aload_n hx hb dX2_isWinding_7 rfl (lv_at hl 0 rfl) ?_
  refine va_get (D := D) (ci := 2) (v := .ref (a 5)) (C := RX2) (T := TX2) (N := 11) hx hb hts inRX2 hown hK hP 0 rfl rfl 10 (by decide) qf22 (fun _ h9 => h9) rfl dX2_isWinding_8 ?_
  refine lv_iload_n hx hb dX2_isWinding_11 rfl (lv_at hl 1 rfl) ?_
  refine lv_iconst (v := jI 0) hx hb dX2_isWinding_12 rfl ?_
  refine x_iast (w1 := (w2 cI a f g n b len th at_ fl va (upz so j 0) (upz ma j 0))) hx hb hK hP hD hS 5 0 rfl rfl j (by omega) (by omega) (by decide) dX2_isWinding_13 rfl (fun H locs hP hD hS => ?_)
  refine lv_aload_n hx hb dX2_isWinding_14 rfl (lv_at hl 0 rfl) ?_
  refine lv_bipush (v := jI 45) hx hb dX2_isWinding_15 (by decide) ?_
  refine xc_I (As := [.int (jI 45)]) (rest := []) hSx (m_X2_isSign l D cI a f g n b len th at_ fl va (upz so j 0) (upz ma j 0) 45 (by omega) (by omega) (by omega) (by decide)) (cwV 1 hts gX2_isWinding_X2_isSign rfl rfl rfl (by decide +kernel) ⟨Nat.le_of_ble_eq_true rfl, Nat.le_of_ble_eq_true rfl⟩) hP hD hS hA hK 0 rfl rfl rfl rfl hl.1 rfl (Nat.le_of_ble_eq_true rfl) dX2_isWinding_17 ⟨Nat.zero_le _, Nat.zero_le _⟩ (fun H locs hP hD hS => ?_)
  have ha1 := le_X2_isSign b len at_ 45 hat
  refine x_if_eq (tgt := 25) hx hb dX2_isWinding_20 (by decide) (b01 (b_X2_isSign b len at_ 45)) (fun c20 => ?_) (fun c20 => ?_)
  · rw [if_pos c20] at hz
    refine lv_aload_n hx hb dX2_isWinding_25 rfl (lv_at hl 0 rfl) ?_
    refine lv_bipush (v := jI 110) hx hb dX2_isWinding_26 (by decide) ?_
    refine xc_I (As := [.int (jI 110)]) (rest := []) hSx (m_X2_isSign l D cI a f g n b len th ((s_X2_isSign b len at_ 45).2) fl va (upz so j 0) (upz ma j 0) 110 (by omega) (by omega) (by omega) (by decide)) (cwV 1 hts gX2_isWinding_X2_isSign rfl rfl rfl (by decide +kernel) ⟨Nat.le_of_ble_eq_true rfl, Nat.le_of_ble_eq_true rfl⟩) hP hD hS hA hK 0 rfl rfl rfl rfl hl.1 rfl (Nat.le_of_ble_eq_true rfl) dX2_isWinding_28 ⟨Nat.zero_le _, Nat.zero_le _⟩ (fun H locs hP hD hS => ?_)
    have ha2 := le_X2_isSign b len (s_X2_isSign b len at_ 45).2 110 ha1
    refine x_if_ne (tgt := 58) hx hb dX2_isWinding_31 (by decide) (b01 (b_X2_isSign b len ((s_X2_isSign b len at_ 45).2) 110)) (fun c31 => ?_) (fun c31 => ?_)
    · rw [if_neg c31] at hz
      refine lv_aload_n hx hb dX2_isWinding_58 rfl (lv_at hl 0 rfl) ?_
      refine va_get (D := D) (ci := 2) (v := .ref (a 4)) (C := RX2) (T := TX2) (N := 11) hx hb hts inRX2 hown hK hP 0 rfl rfl 9 (by decide) qf19 (fun _ h9 => h9) rfl dX2_isWinding_59 ?_
      refine lv_iload_n hx hb dX2_isWinding_62 rfl (lv_at hl 1 rfl) ?_
      refine lv_iconst (v := jI 2) hx hb dX2_isWinding_63 rfl ?_
      refine x_iast (w1 := (w2 cI a f g n b len th ((s_X2_isSign b len ((s_X2_isSign b len at_ 45).2) 110).2) fl va (upz (upz so j 0) j 2) (upz ma j 0))) hx hb hK hP hD hS 4 0 rfl rfl j (by omega) (by omega) (by decide) dX2_isWinding_64 rfl (fun H locs hP hD hS => ?_)
      refine lv_aload_n hx hb dX2_isWinding_65 rfl (lv_at hl 0 rfl) ?_
      refine lv_bipush (v := jI 45) hx hb dX2_isWinding_66 (by decide) ?_
      refine lv_bipush (v := jI 45) hx hb dX2_isWinding_68 (by decide) ?_
      refine xc_R (As := [.int (jI 45), .int (jI 45)]) (rest := []) hSx (m_X2_isAt l D cI a f g n b len th ((s_X2_isSign b len ((s_X2_isSign b len at_ 45).2) 110).2) fl va (upz (upz so j 0) j 2) (upz ma j 0) 45 45 (by omega) (by omega) (by omega) (by decide) (by decide)) (cwV 2 hts gX2_isWinding_X2_isAt rfl rfl rfl (by decide +kernel) ⟨Nat.le_of_ble_eq_true rfl, Nat.le_of_ble_eq_true rfl⟩) hP hK 0 rfl rfl rfl rfl hl.1 rfl (Nat.le_of_ble_eq_true rfl) dX2_isWinding_70 ⟨Nat.zero_le _, Nat.zero_le _⟩ ?_
      refine lv_istore_n (lv' := [(2, .int (jI (s_X2_isAt b len ((s_X2_isSign b len ((s_X2_isSign b len at_ 45).2) 110).2) 45 45))), (0, .ref (a 0)), (1, .int (jI (j : Int)))]) hx hb dX2_isWinding_73 rfl hl (by decide) rfl (fun ls hl => ?_)
      refine lv_iload_n hx hb dX2_isWinding_74 rfl (lv_at hl 0 rfl) ?_
      refine x_if_ne (tgt := 89) hx hb dX2_isWinding_75 (by decide) (b01 (b_X2_isAt b len ((s_X2_isSign b len ((s_X2_isSign b len at_ 45).2) 110).2) 45 45)) (fun c75 => ?_) (fun c75 => ?_)
      · rw [if_neg c75] at hz
        have hat2 := ok_X2_isAt c75
        refine lv_aload_n hx hb dX2_isWinding_89 rfl (lv_at hl 1 rfl) ?_
        refine lv_dup hx hb dX2_isWinding_90 rfl ?_
        refine va_get (D := D) (ci := 2) (v := .int (jI (((s_X2_isSign b len ((s_X2_isSign b len at_ 45).2) 110).2 : Nat) : Int))) (C := RX2) (T := TX2) (N := 11) hx hb hts inRX2 hown hK hP 0 rfl rfl 6 (by decide) qf94 (fun _ h9 => h9) rfl dX2_isWinding_91 ?_
        refine lv_iconst (v := jI 1) hx hb dX2_isWinding_94 rfl ?_
        refine x_iadd hx hb dX2_isWinding_95 ?_
        refine va_put (D := D) (ci := 2) (v := .int (jI ((((s_X2_isSign b len ((s_X2_isSign b len at_ 45).2) 110).2 : Nat) : Int) + 1))) (ty := .int) (C := RX2) (T := TX2) (N := 11) hx hb hts inRX2 tyX2 tyX2_ok nmX2 hown hK hP hD hS 0 rfl rfl 6 (by decide) qf94 (fun _ h9 => h9) rfl (by decide +kernel) rfl rfl (Nat.le_of_ble_eq_true rfl) dX2_isWinding_96 (fun H locs hP hD hS => ?_)
        have hP : va_P D vwCl (w2 cI a f g n b len th (((s_X2_isSign b len ((s_X2_isSign b len at_ 45).2) 110).2) + 1) fl va (upz (upz so j 0) j 2) (upz ma j 0)) H := hP
        have hD : va_D A (w2 cI a f g n b len th (((s_X2_isSign b len ((s_X2_isSign b len at_ 45).2) 110).2) + 1) fl va (upz (upz so j 0) j 2) (upz ma j 0)) := hD
        refine lv_aload_n hx hb dX2_isWinding_99 rfl (lv_at hl 1 rfl) ?_
        refine lv_bipush (v := jI 49) hx hb dX2_isWinding_100 (by decide) ?_
        refine lv_bipush (v := jI 57) hx hb dX2_isWinding_102 (by decide) ?_
        refine xc_R (As := [.int (jI 49), .int (jI 57)]) (rest := []) hSx (m_X2_isAt l D cI a f g n b len th (((s_X2_isSign b len ((s_X2_isSign b len at_ 45).2) 110).2) + 1) fl va (upz (upz so j 0) j 2) (upz ma j 0) 49 57 (by omega) (by omega) (by omega) (by decide) (by decide)) (cwV 2 hts gX2_isWinding_X2_isAt rfl rfl rfl (by decide +kernel) ⟨Nat.le_of_ble_eq_true rfl, Nat.le_of_ble_eq_true rfl⟩) hP hK 0 rfl rfl rfl rfl hl.1 rfl (Nat.le_of_ble_eq_true rfl) dX2_isWinding_104 ⟨Nat.zero_le _, Nat.zero_le _⟩ ?_
        refine x_if_ne (tgt := 115) hx hb dX2_isWinding_107 (by decide) (b01 (b_X2_isAt b len (((s_X2_isSign b len ((s_X2_isSign b len at_ 45).2) 110).2) + 1) 49 57)) (fun c107 => ?_) (fun c107 => ?_)
        · rw [if_neg c107] at hz
          have hat3 := ok_X2_isAt c107
          refine lv_aload_n hx hb dX2_isWinding_115 rfl (lv_at hl 1 rfl) ?_
          refine va_get (D := D) (ci := 2) (v := .ref (a 5)) (C := RX2) (T := TX2) (N := 11) hx hb hts inRX2 hown hK hP 0 rfl rfl 10 (by decide) qf22 (fun _ h9 => h9) rfl dX2_isWinding_116 ?_
          refine lv_iload_n hx hb dX2_isWinding_119 rfl (lv_at hl 2 rfl) ?_
          refine lv_iload_n hx hb dX2_isWinding_120 rfl (lv_at hl 0 rfl) ?_
          refine x_if_eq (tgt := 139) hx hb dX2_isWinding_121 (by decide) (b01 (b_X2_isAt b len ((s_X2_isSign b len ((s_X2_isSign b len at_ 45).2) 110).2) 45 45)) (fun c121 => ?_) (fun c121 => ?_)
          · rw [if_pos c121] at hz
            refine lv_aload_n hx hb dX2_isWinding_139 rfl (lv_at hl 1 rfl) ?_
            refine va_get (D := D) (ci := 2) (v := .ref (a 3)) (C := RX2) (T := TX2) (N := 11) hx hb hts inRX2 hown hK hP 0 rfl rfl 3 (by decide) qf16 (fun _ h9 => h9) rfl dX2_isWinding_140 ?_
            refine lv_aload_n hx hb dX2_isWinding_143 rfl (lv_at hl 1 rfl) ?_
            refine va_get (D := D) (ci := 2) (v := .int (jI (((((s_X2_isSign b len ((s_X2_isSign b len at_ 45).2) 110).2) + 1) : Nat) : Int))) (C := RX2) (T := TX2) (N := 11) hx hb hts inRX2 hown hK hP 0 rfl rfl 6 (by decide) qf94 (fun _ h9 => h9) rfl dX2_isWinding_144 ?_
            refine x_iald hx hb hK hP 3 0 rfl rfl (((s_X2_isSign b len ((s_X2_isSign b len at_ 45).2) 110).2) + 1) (by omega) (by omega) (by decide) dX2_isWinding_147 ?_
            refine lv_bipush (v := jI 48) hx hb dX2_isWinding_148 (by decide) ?_
            refine x_isub hx hb dX2_isWinding_150 ?_
            refine x_iast (w1 := (w2 cI a f g n b len th (((s_X2_isSign b len ((s_X2_isSign b len at_ 45).2) 110).2) + 1) fl va (upz (upz so j 0) j 2) (upz (upz ma j 0) j ((b (((s_X2_isSign b len ((s_X2_isSign b len at_ 45).2) 110).2) + 1)) - 48)))) hx hb hK hP hD hS 5 0 rfl rfl j (by omega) (by omega) (by decide) dX2_isWinding_151 rfl (fun H locs hP hD hS => ?_)
            refine lv_aload_n hx hb dX2_isWinding_152 rfl (lv_at hl 1 rfl) ?_
            refine lv_dup hx hb dX2_isWinding_153 rfl ?_
            refine va_get (D := D) (ci := 2) (v := .int (jI (((((s_X2_isSign b len ((s_X2_isSign b len at_ 45).2) 110).2) + 1) : Nat) : Int))) (C := RX2) (T := TX2) (N := 11) hx hb hts inRX2 hown hK hP 0 rfl rfl 6 (by decide) qf94 (fun _ h9 => h9) rfl dX2_isWinding_154 ?_
            refine lv_iconst (v := jI 1) hx hb dX2_isWinding_157 rfl ?_
            refine x_iadd hx hb dX2_isWinding_158 ?_
            refine va_put (D := D) (ci := 2) (v := .int (jI ((((((s_X2_isSign b len ((s_X2_isSign b len at_ 45).2) 110).2) + 1) : Nat) : Int) + 1))) (ty := .int) (C := RX2) (T := TX2) (N := 11) hx hb hts inRX2 tyX2 tyX2_ok nmX2 hown hK hP hD hS 0 rfl rfl 6 (by decide) qf94 (fun _ h9 => h9) rfl (by decide +kernel) rfl rfl (Nat.le_of_ble_eq_true rfl) dX2_isWinding_159 (fun H locs hP hD hS => ?_)
            have hP : va_P D vwCl (w2 cI a f g n b len th ((((s_X2_isSign b len ((s_X2_isSign b len at_ 45).2) 110).2) + 1) + 1) fl va (upz (upz so j 0) j 2) (upz (upz ma j 0) j ((b (((s_X2_isSign b len ((s_X2_isSign b len at_ 45).2) 110).2) + 1)) - 48))) H := hP
            have hD : va_D A (w2 cI a f g n b len th ((((s_X2_isSign b len ((s_X2_isSign b len at_ 45).2) 110).2) + 1) + 1) fl va (upz (upz so j 0) j 2) (upz (upz ma j 0) j ((b (((s_X2_isSign b len ((s_X2_isSign b len at_ 45).2) 110).2) + 1)) - 48))) := hD
            refine lv_iconst (v := jI 1) hx hb dX2_isWinding_162 rfl ?_
            subst hz
            exact xi_z hx hb hr hlocks (Or.inr rfl) hK hP hD hS rfl rfl dX2_isWinding_163
          · rw [if_neg c121] at hz
            refine lv_bipush (v := jI 48) hx hb dX2_isWinding_124 (by decide) ?_
            refine lv_aload_n hx hb dX2_isWinding_126 rfl (lv_at hl 1 rfl) ?_
            refine va_get (D := D) (ci := 2) (v := .ref (a 3)) (C := RX2) (T := TX2) (N := 11) hx hb hts inRX2 hown hK hP 0 rfl rfl 3 (by decide) qf16 (fun _ h9 => h9) rfl dX2_isWinding_127 ?_
            refine lv_aload_n hx hb dX2_isWinding_130 rfl (lv_at hl 1 rfl) ?_
            refine va_get (D := D) (ci := 2) (v := .int (jI (((((s_X2_isSign b len ((s_X2_isSign b len at_ 45).2) 110).2) + 1) : Nat) : Int))) (C := RX2) (T := TX2) (N := 11) hx hb hts inRX2 hown hK hP 0 rfl rfl 6 (by decide) qf94 (fun _ h9 => h9) rfl dX2_isWinding_131 ?_
            refine x_iald hx hb hK hP 3 0 rfl rfl (((s_X2_isSign b len ((s_X2_isSign b len at_ 45).2) 110).2) + 1) (by omega) (by omega) (by decide) dX2_isWinding_134 ?_
            refine x_isub hx hb dX2_isWinding_135 ?_
            refine lv_goto (tgt := 151) hx hb dX2_isWinding_136 (by decide) ?_
            refine x_iast (w1 := (w2 cI a f g n b len th (((s_X2_isSign b len ((s_X2_isSign b len at_ 45).2) 110).2) + 1) fl va (upz (upz so j 0) j 2) (upz (upz ma j 0) j (48 - (b (((s_X2_isSign b len ((s_X2_isSign b len at_ 45).2) 110).2) + 1)))))) hx hb hK hP hD hS 5 0 rfl rfl j (by omega) (by omega) (by decide) dX2_isWinding_151 rfl (fun H locs hP hD hS => ?_)
            refine lv_aload_n hx hb dX2_isWinding_152 rfl (lv_at hl 1 rfl) ?_
            refine lv_dup hx hb dX2_isWinding_153 rfl ?_
            refine va_get (D := D) (ci := 2) (v := .int (jI (((((s_X2_isSign b len ((s_X2_isSign b len at_ 45).2) 110).2) + 1) : Nat) : Int))) (C := RX2) (T := TX2) (N := 11) hx hb hts inRX2 hown hK hP 0 rfl rfl 6 (by decide) qf94 (fun _ h9 => h9) rfl dX2_isWinding_154 ?_
            refine lv_iconst (v := jI 1) hx hb dX2_isWinding_157 rfl ?_
            refine x_iadd hx hb dX2_isWinding_158 ?_
            refine va_put (D := D) (ci := 2) (v := .int (jI ((((((s_X2_isSign b len ((s_X2_isSign b len at_ 45).2) 110).2) + 1) : Nat) : Int) + 1))) (ty := .int) (C := RX2) (T := TX2) (N := 11) hx hb hts inRX2 tyX2 tyX2_ok nmX2 hown hK hP hD hS 0 rfl rfl 6 (by decide) qf94 (fun _ h9 => h9) rfl (by decide +kernel) rfl rfl (Nat.le_of_ble_eq_true rfl) dX2_isWinding_159 (fun H locs hP hD hS => ?_)
            have hP : va_P D vwCl (w2 cI a f g n b len th ((((s_X2_isSign b len ((s_X2_isSign b len at_ 45).2) 110).2) + 1) + 1) fl va (upz (upz so j 0) j 2) (upz (upz ma j 0) j (48 - (b (((s_X2_isSign b len ((s_X2_isSign b len at_ 45).2) 110).2) + 1))))) H := hP
            have hD : va_D A (w2 cI a f g n b len th ((((s_X2_isSign b len ((s_X2_isSign b len at_ 45).2) 110).2) + 1) + 1) fl va (upz (upz so j 0) j 2) (upz (upz ma j 0) j (48 - (b (((s_X2_isSign b len ((s_X2_isSign b len at_ 45).2) 110).2) + 1))))) := hD
            refine lv_iconst (v := jI 1) hx hb dX2_isWinding_162 rfl ?_
            subst hz
            exact xi_z hx hb hr hlocks (Or.inr rfl) hK hP hD hS rfl rfl dX2_isWinding_163
        · rw [if_pos c107] at hz
          refine lv_aload_n hx hb dX2_isWinding_110 rfl (lv_at hl 1 rfl) ?_
          refine xc_I (As := []) (rest := []) hSx (m_X2_stops l D cI a f g n b len th (((s_X2_isSign b len ((s_X2_isSign b len at_ 45).2) 110).2) + 1) fl va (upz (upz so j 0) j 2) (upz ma j 0)  (by omega) (by omega)) (cwV 0 hts gX2_isWinding_X2_stops rfl rfl rfl (by decide +kernel) ⟨Nat.le_of_ble_eq_true rfl, Nat.le_of_ble_eq_true rfl⟩) hP hD hS hA hK 0 rfl rfl rfl rfl hl.1 rfl (Nat.le_of_ble_eq_true rfl) dX2_isWinding_111 ⟨Nat.zero_le _, Nat.zero_le _⟩ (fun H locs hP hD hS => ?_)
          subst hz
          exact xi_z hx hb hr hlocks (b_X2_stops len (((s_X2_isSign b len ((s_X2_isSign b len at_ 45).2) 110).2) + 1)) hK hP hD hS rfl rfl dX2_isWinding_114
      · rw [if_pos c75] at hz
        refine lv_aload_n hx hb dX2_isWinding_78 rfl (lv_at hl 1 rfl) ?_
        refine lv_bipush (v := jI 43) hx hb dX2_isWinding_79 (by decide) ?_
        refine lv_bipush (v := jI 43) hx hb dX2_isWinding_81 (by decide) ?_
        refine xc_R (As := [.int (jI 43), .int (jI 43)]) (rest := []) hSx (m_X2_isAt l D cI a f g n b len th ((s_X2_isSign b len ((s_X2_isSign b len at_ 45).2) 110).2) fl va (upz (upz so j 0) j 2) (upz ma j 0) 43 43 (by omega) (by omega) (by omega) (by decide) (by decide)) (cwV 2 hts gX2_isWinding_X2_isAt rfl rfl rfl (by decide +kernel) ⟨Nat.le_of_ble_eq_true rfl, Nat.le_of_ble_eq_true rfl⟩) hP hK 0 rfl rfl rfl rfl hl.1 rfl (Nat.le_of_ble_eq_true rfl) dX2_isWinding_83 ⟨Nat.zero_le _, Nat.zero_le _⟩ ?_
        refine x_if_eq (tgt := 162) hx hb dX2_isWinding_86 (by decide) (b01 (b_X2_isAt b len ((s_X2_isSign b len ((s_X2_isSign b len at_ 45).2) 110).2) 43 43)) (fun c86 => ?_) (fun c86 => ?_)
        · rw [if_pos c86] at hz
          refine lv_iconst (v := jI 1) hx hb dX2_isWinding_162 rfl ?_
          subst hz
          exact xi_z hx hb hr hlocks (Or.inr rfl) hK hP hD hS rfl rfl dX2_isWinding_163
        · rw [if_neg c86] at hz
          have hat2 := ok_X2_isAt c86
          refine lv_aload_n hx hb dX2_isWinding_89 rfl (lv_at hl 1 rfl) ?_
          refine lv_dup hx hb dX2_isWinding_90 rfl ?_
          refine va_get (D := D) (ci := 2) (v := .int (jI (((s_X2_isSign b len ((s_X2_isSign b len at_ 45).2) 110).2 : Nat) : Int))) (C := RX2) (T := TX2) (N := 11) hx hb hts inRX2 hown hK hP 0 rfl rfl 6 (by decide) qf94 (fun _ h9 => h9) rfl dX2_isWinding_91 ?_
          refine lv_iconst (v := jI 1) hx hb dX2_isWinding_94 rfl ?_
          refine x_iadd hx hb dX2_isWinding_95 ?_
          refine va_put (D := D) (ci := 2) (v := .int (jI ((((s_X2_isSign b len ((s_X2_isSign b len at_ 45).2) 110).2 : Nat) : Int) + 1))) (ty := .int) (C := RX2) (T := TX2) (N := 11) hx hb hts inRX2 tyX2 tyX2_ok nmX2 hown hK hP hD hS 0 rfl rfl 6 (by decide) qf94 (fun _ h9 => h9) rfl (by decide +kernel) rfl rfl (Nat.le_of_ble_eq_true rfl) dX2_isWinding_96 (fun H locs hP hD hS => ?_)
          have hP : va_P D vwCl (w2 cI a f g n b len th (((s_X2_isSign b len ((s_X2_isSign b len at_ 45).2) 110).2) + 1) fl va (upz (upz so j 0) j 2) (upz ma j 0)) H := hP
          have hD : va_D A (w2 cI a f g n b len th (((s_X2_isSign b len ((s_X2_isSign b len at_ 45).2) 110).2) + 1) fl va (upz (upz so j 0) j 2) (upz ma j 0)) := hD
          refine lv_aload_n hx hb dX2_isWinding_99 rfl (lv_at hl 1 rfl) ?_
          refine lv_bipush (v := jI 49) hx hb dX2_isWinding_100 (by decide) ?_
          refine lv_bipush (v := jI 57) hx hb dX2_isWinding_102 (by decide) ?_
          refine xc_R (As := [.int (jI 49), .int (jI 57)]) (rest := []) hSx (m_X2_isAt l D cI a f g n b len th (((s_X2_isSign b len ((s_X2_isSign b len at_ 45).2) 110).2) + 1) fl va (upz (upz so j 0) j 2) (upz ma j 0) 49 57 (by omega) (by omega) (by omega) (by decide) (by decide)) (cwV 2 hts gX2_isWinding_X2_isAt rfl rfl rfl (by decide +kernel) ⟨Nat.le_of_ble_eq_true rfl, Nat.le_of_ble_eq_true rfl⟩) hP hK 0 rfl rfl rfl rfl hl.1 rfl (Nat.le_of_ble_eq_true rfl) dX2_isWinding_104 ⟨Nat.zero_le _, Nat.zero_le _⟩ ?_
          refine x_if_ne (tgt := 115) hx hb dX2_isWinding_107 (by decide) (b01 (b_X2_isAt b len (((s_X2_isSign b len ((s_X2_isSign b len at_ 45).2) 110).2) + 1) 49 57)) (fun c107 => ?_) (fun c107 => ?_)
          · rw [if_neg c107] at hz
            have hat3 := ok_X2_isAt c107
            refine lv_aload_n hx hb dX2_isWinding_115 rfl (lv_at hl 1 rfl) ?_
            refine va_get (D := D) (ci := 2) (v := .ref (a 5)) (C := RX2) (T := TX2) (N := 11) hx hb hts inRX2 hown hK hP 0 rfl rfl 10 (by decide) qf22 (fun _ h9 => h9) rfl dX2_isWinding_116 ?_
            refine lv_iload_n hx hb dX2_isWinding_119 rfl (lv_at hl 2 rfl) ?_
            refine lv_iload_n hx hb dX2_isWinding_120 rfl (lv_at hl 0 rfl) ?_
            refine x_if_eq (tgt := 139) hx hb dX2_isWinding_121 (by decide) (b01 (b_X2_isAt b len ((s_X2_isSign b len ((s_X2_isSign b len at_ 45).2) 110).2) 45 45)) (fun c121 => ?_) (fun c121 => ?_)
            · rw [if_pos c121] at hz
              refine lv_aload_n hx hb dX2_isWinding_139 rfl (lv_at hl 1 rfl) ?_
              refine va_get (D := D) (ci := 2) (v := .ref (a 3)) (C := RX2) (T := TX2) (N := 11) hx hb hts inRX2 hown hK hP 0 rfl rfl 3 (by decide) qf16 (fun _ h9 => h9) rfl dX2_isWinding_140 ?_
              refine lv_aload_n hx hb dX2_isWinding_143 rfl (lv_at hl 1 rfl) ?_
              refine va_get (D := D) (ci := 2) (v := .int (jI (((((s_X2_isSign b len ((s_X2_isSign b len at_ 45).2) 110).2) + 1) : Nat) : Int))) (C := RX2) (T := TX2) (N := 11) hx hb hts inRX2 hown hK hP 0 rfl rfl 6 (by decide) qf94 (fun _ h9 => h9) rfl dX2_isWinding_144 ?_
              refine x_iald hx hb hK hP 3 0 rfl rfl (((s_X2_isSign b len ((s_X2_isSign b len at_ 45).2) 110).2) + 1) (by omega) (by omega) (by decide) dX2_isWinding_147 ?_
              refine lv_bipush (v := jI 48) hx hb dX2_isWinding_148 (by decide) ?_
              refine x_isub hx hb dX2_isWinding_150 ?_
              refine x_iast (w1 := (w2 cI a f g n b len th (((s_X2_isSign b len ((s_X2_isSign b len at_ 45).2) 110).2) + 1) fl va (upz (upz so j 0) j 2) (upz (upz ma j 0) j ((b (((s_X2_isSign b len ((s_X2_isSign b len at_ 45).2) 110).2) + 1)) - 48)))) hx hb hK hP hD hS 5 0 rfl rfl j (by omega) (by omega) (by decide) dX2_isWinding_151 rfl (fun H locs hP hD hS => ?_)
              refine lv_aload_n hx hb dX2_isWinding_152 rfl (lv_at hl 1 rfl) ?_
              refine lv_dup hx hb dX2_isWinding_153 rfl ?_
              refine va_get (D := D) (ci := 2) (v := .int (jI (((((s_X2_isSign b len ((s_X2_isSign b len at_ 45).2) 110).2) + 1) : Nat) : Int))) (C := RX2) (T := TX2) (N := 11) hx hb hts inRX2 hown hK hP 0 rfl rfl 6 (by decide) qf94 (fun _ h9 => h9) rfl dX2_isWinding_154 ?_
              refine lv_iconst (v := jI 1) hx hb dX2_isWinding_157 rfl ?_
              refine x_iadd hx hb dX2_isWinding_158 ?_
              refine va_put (D := D) (ci := 2) (v := .int (jI ((((((s_X2_isSign b len ((s_X2_isSign b len at_ 45).2) 110).2) + 1) : Nat) : Int) + 1))) (ty := .int) (C := RX2) (T := TX2) (N := 11) hx hb hts inRX2 tyX2 tyX2_ok nmX2 hown hK hP hD hS 0 rfl rfl 6 (by decide) qf94 (fun _ h9 => h9) rfl (by decide +kernel) rfl rfl (Nat.le_of_ble_eq_true rfl) dX2_isWinding_159 (fun H locs hP hD hS => ?_)
              have hP : va_P D vwCl (w2 cI a f g n b len th ((((s_X2_isSign b len ((s_X2_isSign b len at_ 45).2) 110).2) + 1) + 1) fl va (upz (upz so j 0) j 2) (upz (upz ma j 0) j ((b (((s_X2_isSign b len ((s_X2_isSign b len at_ 45).2) 110).2) + 1)) - 48))) H := hP
              have hD : va_D A (w2 cI a f g n b len th ((((s_X2_isSign b len ((s_X2_isSign b len at_ 45).2) 110).2) + 1) + 1) fl va (upz (upz so j 0) j 2) (upz (upz ma j 0) j ((b (((s_X2_isSign b len ((s_X2_isSign b len at_ 45).2) 110).2) + 1)) - 48))) := hD
              refine lv_iconst (v := jI 1) hx hb dX2_isWinding_162 rfl ?_
              subst hz
              exact xi_z hx hb hr hlocks (Or.inr rfl) hK hP hD hS rfl rfl dX2_isWinding_163
            · rw [if_neg c121] at hz
              refine lv_bipush (v := jI 48) hx hb dX2_isWinding_124 (by decide) ?_
              refine lv_aload_n hx hb dX2_isWinding_126 rfl (lv_at hl 1 rfl) ?_
              refine va_get (D := D) (ci := 2) (v := .ref (a 3)) (C := RX2) (T := TX2) (N := 11) hx hb hts inRX2 hown hK hP 0 rfl rfl 3 (by decide) qf16 (fun _ h9 => h9) rfl dX2_isWinding_127 ?_
              refine lv_aload_n hx hb dX2_isWinding_130 rfl (lv_at hl 1 rfl) ?_
              refine va_get (D := D) (ci := 2) (v := .int (jI (((((s_X2_isSign b len ((s_X2_isSign b len at_ 45).2) 110).2) + 1) : Nat) : Int))) (C := RX2) (T := TX2) (N := 11) hx hb hts inRX2 hown hK hP 0 rfl rfl 6 (by decide) qf94 (fun _ h9 => h9) rfl dX2_isWinding_131 ?_
              refine x_iald hx hb hK hP 3 0 rfl rfl (((s_X2_isSign b len ((s_X2_isSign b len at_ 45).2) 110).2) + 1) (by omega) (by omega) (by decide) dX2_isWinding_134 ?_
              refine x_isub hx hb dX2_isWinding_135 ?_
              refine lv_goto (tgt := 151) hx hb dX2_isWinding_136 (by decide) ?_
              refine x_iast (w1 := (w2 cI a f g n b len th (((s_X2_isSign b len ((s_X2_isSign b len at_ 45).2) 110).2) + 1) fl va (upz (upz so j 0) j 2) (upz (upz ma j 0) j (48 - (b (((s_X2_isSign b len ((s_X2_isSign b len at_ 45).2) 110).2) + 1)))))) hx hb hK hP hD hS 5 0 rfl rfl j (by omega) (by omega) (by decide) dX2_isWinding_151 rfl (fun H locs hP hD hS => ?_)
              refine lv_aload_n hx hb dX2_isWinding_152 rfl (lv_at hl 1 rfl) ?_
              refine lv_dup hx hb dX2_isWinding_153 rfl ?_
              refine va_get (D := D) (ci := 2) (v := .int (jI (((((s_X2_isSign b len ((s_X2_isSign b len at_ 45).2) 110).2) + 1) : Nat) : Int))) (C := RX2) (T := TX2) (N := 11) hx hb hts inRX2 hown hK hP 0 rfl rfl 6 (by decide) qf94 (fun _ h9 => h9) rfl dX2_isWinding_154 ?_
              refine lv_iconst (v := jI 1) hx hb dX2_isWinding_157 rfl ?_
              refine x_iadd hx hb dX2_isWinding_158 ?_
              refine va_put (D := D) (ci := 2) (v := .int (jI ((((((s_X2_isSign b len ((s_X2_isSign b len at_ 45).2) 110).2) + 1) : Nat) : Int) + 1))) (ty := .int) (C := RX2) (T := TX2) (N := 11) hx hb hts inRX2 tyX2 tyX2_ok nmX2 hown hK hP hD hS 0 rfl rfl 6 (by decide) qf94 (fun _ h9 => h9) rfl (by decide +kernel) rfl rfl (Nat.le_of_ble_eq_true rfl) dX2_isWinding_159 (fun H locs hP hD hS => ?_)
              have hP : va_P D vwCl (w2 cI a f g n b len th ((((s_X2_isSign b len ((s_X2_isSign b len at_ 45).2) 110).2) + 1) + 1) fl va (upz (upz so j 0) j 2) (upz (upz ma j 0) j (48 - (b (((s_X2_isSign b len ((s_X2_isSign b len at_ 45).2) 110).2) + 1))))) H := hP
              have hD : va_D A (w2 cI a f g n b len th ((((s_X2_isSign b len ((s_X2_isSign b len at_ 45).2) 110).2) + 1) + 1) fl va (upz (upz so j 0) j 2) (upz (upz ma j 0) j (48 - (b (((s_X2_isSign b len ((s_X2_isSign b len at_ 45).2) 110).2) + 1))))) := hD
              refine lv_iconst (v := jI 1) hx hb dX2_isWinding_162 rfl ?_
              subst hz
              exact xi_z hx hb hr hlocks (Or.inr rfl) hK hP hD hS rfl rfl dX2_isWinding_163
          · rw [if_pos c107] at hz
            refine lv_aload_n hx hb dX2_isWinding_110 rfl (lv_at hl 1 rfl) ?_
            refine xc_I (As := []) (rest := []) hSx (m_X2_stops l D cI a f g n b len th (((s_X2_isSign b len ((s_X2_isSign b len at_ 45).2) 110).2) + 1) fl va (upz (upz so j 0) j 2) (upz ma j 0)  (by omega) (by omega)) (cwV 0 hts gX2_isWinding_X2_stops rfl rfl rfl (by decide +kernel) ⟨Nat.le_of_ble_eq_true rfl, Nat.le_of_ble_eq_true rfl⟩) hP hD hS hA hK 0 rfl rfl rfl rfl hl.1 rfl (Nat.le_of_ble_eq_true rfl) dX2_isWinding_111 ⟨Nat.zero_le _, Nat.zero_le _⟩ (fun H locs hP hD hS => ?_)
            subst hz
            exact xi_z hx hb hr hlocks (b_X2_stops len (((s_X2_isSign b len ((s_X2_isSign b len at_ 45).2) 110).2) + 1)) hK hP hD hS rfl rfl dX2_isWinding_114
    · rw [if_pos c31] at hz
      refine lv_aload_n hx hb dX2_isWinding_34 rfl (lv_at hl 0 rfl) ?_
      refine va_get (D := D) (ci := 2) (v := .ref (a 4)) (C := RX2) (T := TX2) (N := 11) hx hb hts inRX2 hown hK hP 0 rfl rfl 9 (by decide) qf19 (fun _ h9 => h9) rfl dX2_isWinding_35 ?_
      refine lv_iload_n hx hb dX2_isWinding_38 rfl (lv_at hl 1 rfl) ?_
      refine lv_iconst (v := jI 1) hx hb dX2_isWinding_39 rfl ?_
      refine x_iast (w1 := (w2 cI a f g n b len th ((s_X2_isSign b len ((s_X2_isSign b len at_ 45).2) 110).2) fl va (upz (upz so j 0) j 1) (upz ma j 0))) hx hb hK hP hD hS 4 0 rfl rfl j (by omega) (by omega) (by decide) dX2_isWinding_40 rfl (fun H locs hP hD hS => ?_)
      refine lv_aload_n hx hb dX2_isWinding_41 rfl (lv_at hl 0 rfl) ?_
      refine xc_I (As := []) (rest := []) hSx (m_X2_isNumber l D cI a f g n b len th ((s_X2_isSign b len ((s_X2_isSign b len at_ 45).2) 110).2) fl va (upz (upz so j 0) j 1) (upz ma j 0)  (by omega) (by omega) (by omega)) (cwV 0 hts gX2_isWinding_X2_isNumber rfl rfl rfl (by decide +kernel) ⟨Nat.le_of_ble_eq_true rfl, Nat.le_of_ble_eq_true rfl⟩) hP hD hS hA hK 0 rfl rfl rfl rfl hl.1 rfl (Nat.le_of_ble_eq_true rfl) dX2_isWinding_42 ⟨Nat.zero_le _, Nat.zero_le _⟩ (fun H locs hP hD hS => ?_)
      refine lv_istore_n (lv' := [(2, .int (jI ((s_X2_isNumber b len ((s_X2_isSign b len ((s_X2_isSign b len at_ 45).2) 110).2) fl va).1))), (0, .ref (a 0)), (1, .int (jI (j : Int)))]) hx hb dX2_isWinding_45 rfl hl (by decide) rfl (fun ls hl => ?_)
      refine lv_aload_n hx hb dX2_isWinding_46 rfl (lv_at hl 1 rfl) ?_
      refine va_get (D := D) (ci := 2) (v := .ref (a 5)) (C := RX2) (T := TX2) (N := 11) hx hb hts inRX2 hown hK hP 0 rfl rfl 10 (by decide) qf22 (fun _ h9 => h9) rfl dX2_isWinding_47 ?_
      refine lv_iload_n hx hb dX2_isWinding_50 rfl (lv_at hl 2 rfl) ?_
      refine lv_aload_n hx hb dX2_isWinding_51 rfl (lv_at hl 1 rfl) ?_
      refine va_get (D := D) (ci := 2) (v := .int (jI ((s_X2_isNumber b len ((s_X2_isSign b len ((s_X2_isSign b len at_ 45).2) 110).2) fl va).2.2.2))) (C := RX2) (T := TX2) (N := 11) hx hb hts inRX2 hown hK hP 0 rfl rfl 8 (by decide) qf108 (fun _ h9 => h9) rfl dX2_isWinding_52 ?_
      refine x_iast (w1 := (w2 cI a f g n b len th ((s_X2_isNumber b len ((s_X2_isSign b len ((s_X2_isSign b len at_ 45).2) 110).2) fl va).2.1) ((s_X2_isNumber b len ((s_X2_isSign b len ((s_X2_isSign b len at_ 45).2) 110).2) fl va).2.2.1) ((s_X2_isNumber b len ((s_X2_isSign b len ((s_X2_isSign b len at_ 45).2) 110).2) fl va).2.2.2) (upz (upz so j 0) j 1) (upz (upz ma j 0) j ((s_X2_isNumber b len ((s_X2_isSign b len ((s_X2_isSign b len at_ 45).2) 110).2) fl va).2.2.2)))) hx hb hK hP hD hS 5 0 rfl rfl j (by omega) (by omega) (by decide) dX2_isWinding_55 rfl (fun H locs hP hD hS => ?_)
      refine lv_iload_n hx hb dX2_isWinding_56 rfl (lv_at hl 0 rfl) ?_
      subst hz
      exact xi_z hx hb hr hlocks (b_X2_isNumber b len ((s_X2_isSign b len ((s_X2_isSign b len at_ 45).2) 110).2) fl va) hK hP hD hS rfl rfl dX2_isWinding_57
  · rw [if_neg c20] at hz
    refine lv_iconst (v := jI 1) hx hb dX2_isWinding_23 rfl ?_
    subst hz
    exact xi_z hx hb hr hlocks (Or.inr rfl) hK hP hD hS rfl rfl dX2_isWinding_24
