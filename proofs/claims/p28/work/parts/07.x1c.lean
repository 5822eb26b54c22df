def s_X1_save (f : Nat → Int) (g : Nat → Int) (n : Nat) : (Nat → Int) × Nat := if (n : Int) < 6 then ((va_cpy f g 0 (n * 33) 33), (n + 1)) else ((va_cpy f (va_cpy g g 33 0 165) 0 (5 * 33) 33), (5 + 1))
abbrev rm_X1_save : Room := { frames := 1, cells := 0, slots := 0, locals := 60 }
set_option maxHeartbeats 4000000 in
set_option maxRecDepth 100000 in
theorem m_X1_save (l : Launch) (D : va_G) (cI : ClassId) (a : Nat → Nat) (f : Nat → Int) (g : Nat → Int) (n : Nat) (b : Nat → Int) (len : Nat) (kd : Nat → Int) (sg : Nat → Int) (nb : Nat → Int) (pt : Nat) (hn : n ≤ 6) : MetV l yX1_save wsX1_save rm_X1_save D cI [.ref (a 0)] (w1 cI a f g n b len kd sg nb pt) (w1 cI a f ((s_X1_save f g n).1) ((s_X1_save f g n).2) b len kd sg nb pt) := by
  refine xe_V (cc := cX1_save) (maxL := 1) (ret := none) (by decide) rfl (Nat.le_of_ble_eq_true rfl) ?_
  intro p e s m below meth c hx hb hr hml hts hown hlocks hP hK A hA hD hS ls hl
  have hl : lv_has ls 1 [(0, .ref (a 0))] := hl
  have hown : s.vm.findClass RX1 = some m.cls := hown
  have hSx : CallFix p m c cX1_save 1 s ([.ref (a 0)] : List Value).toArray wsX1_save RX1 := ⟨hx, hb, hml, hown, hts⟩
  have inRX1 : ∀ w ∈ u_ws RX1 TX1 6, w ∈ wsX1_save := by decide +kernel
  have qf13 := hts (.fieldLink RX1 13 "VaultMovements" "saved" "[I") (by decide +kernel)
  have qf16 := hts (.fieldLink RX1 16 "VaultMovements" "savedStates" "I") (by decide +kernel)
  have qf9 := hts (.fieldLink RX1 9 "VaultMovements" "now" "[I") (by decide +kernel)
  have qm163 := hts (.methodLink RX1 163 arraycopyName) (by decide +kernel)
  have qmI := hts (.initialized "java/lang/System") (by decide +kernel)
  have qmN := hts (.native arraycopyName) (by decide +kernel)
  have qmS := hts (.static arraycopyName) (by decide +kernel)
  obtain ⟨z, hz⟩ : ∃ z, z = (s_X1_save f g n) := ⟨_, rfl⟩
  rw [← hz]
  unfold s_X1_save at hz
  refine lv_aload_n hx hb dX1_save_0 rfl (lv_at hl 0 rfl) ?_
  refine va_get (D := D) (ci := 1) (v := .int (jI (n : Int))) (C := RX1) (T := TX1) (N := 6) hx hb hts inRX1 hown hK hP 0 rfl rfl 2 (by decide) qf16 (fun _ h9 => h9) rfl dX1_save_1 ?_
  refine lv_bipush (v := jI 6) hx hb dX1_save_4 (by decide) ?_
  refine x_icmp_lt (tgt := 31) hx hb dX1_save_6 (by decide) ⟨(by omega), (by decide)⟩ (fun c6 => ?_) (fun c6 => ?_)
  · rw [if_pos c6] at hz
    refine lv_aload_n hx hb dX1_save_31 rfl (lv_at hl 0 rfl) ?_
    refine va_get (D := D) (ci := 1) (v := .ref (a 1)) (C := RX1) (T := TX1) (N := 6) hx hb hts inRX1 hown hK hP 0 rfl rfl 0 (by decide) qf9 (fun _ h9 => h9) rfl dX1_save_32 ?_
    refine lv_iconst (v := jI 0) hx hb dX1_save_35 rfl ?_
    refine lv_aload_n hx hb dX1_save_36 rfl (lv_at hl 0 rfl) ?_
    refine va_get (D := D) (ci := 1) (v := .ref (a 2)) (C := RX1) (T := TX1) (N := 6) hx hb hts inRX1 hown hK hP 0 rfl rfl 1 (by decide) qf13 (fun _ h9 => h9) rfl dX1_save_37 ?_
    refine lv_aload_n hx hb dX1_save_40 rfl (lv_at hl 0 rfl) ?_
    refine va_get (D := D) (ci := 1) (v := .int (jI (n : Int))) (C := RX1) (T := TX1) (N := 6) hx hb hts inRX1 hown hK hP 0 rfl rfl 2 (by decide) qf16 (fun _ h9 => h9) rfl dX1_save_41 ?_
    refine lv_bipush (v := jI 33) hx hb dX1_save_44 (by decide) ?_
    refine x_imul hx hb dX1_save_46 ?_
    refine lv_bipush (v := jI 33) hx hb dX1_save_47 (by decide) ?_
    refine x_copy (w1 := (w1 cI a f (va_cpy f g 0 (n * 33) 33) n b len kd sg nb pt)) hx hb (hml.trans hl.1.symm) hown qm163 qmN qmS qmI hK hP hD hS 1 2 0 rfl rfl rfl 0 (n * 33) 33 (by omega) (by omega) (by omega) (by omega) (by omega) (Nat.le_of_ble_eq_true rfl) (Nat.le_of_ble_eq_true rfl) dX1_save_49 rfl (fun H locs hP hD hS => ?_)
    refine lv_aload_n hx hb dX1_save_52 rfl (lv_at hl 0 rfl) ?_
    refine lv_dup hx hb dX1_save_53 rfl ?_
    refine va_get (D := D) (ci := 1) (v := .int (jI (n : Int))) (C := RX1) (T := TX1) (N := 6) hx hb hts inRX1 hown hK hP 0 rfl rfl 2 (by decide) qf16 (fun _ h9 => h9) rfl dX1_save_54 ?_
    refine lv_iconst (v := jI 1) hx hb dX1_save_57 rfl ?_
    refine x_iadd hx hb dX1_save_58 ?_
    refine va_put (D := D) (ci := 1) (v := .int (jI ((n : Int) + 1))) (ty := .int) (C := RX1) (T := TX1) (N := 6) hx hb hts inRX1 tyX1 tyX1_ok nmX1 hown hK hP hD hS 0 rfl rfl 2 (by decide) qf16 (fun _ h9 => h9) rfl (by decide +kernel) rfl rfl (Nat.le_of_ble_eq_true rfl) dX1_save_59 (fun H locs hP hD hS => ?_)
    have hP : va_P D vwCl (w1 cI a f (va_cpy f g 0 (n * 33) 33) (n + 1) b len kd sg nb pt) H := hP
    have hD : va_D A (w1 cI a f (va_cpy f g 0 (n * 33) 33) (n + 1) b len kd sg nb pt) := hD
    subst hz
    exact xi_v hx hb hr hlocks hK hP hD hS rfl dX1_save_62
  · rw [if_neg c6] at hz
    refine lv_aload_n hx hb dX1_save_9 rfl (lv_at hl 0 rfl) ?_
    refine va_get (D := D) (ci := 1) (v := .ref (a 2)) (C := RX1) (T := TX1) (N := 6) hx hb hts inRX1 hown hK hP 0 rfl rfl 1 (by decide) qf13 (fun _ h9 => h9) rfl dX1_save_10 ?_
    refine lv_bipush (v := jI 33) hx hb dX1_save_13 (by decide) ?_
    refine lv_aload_n hx hb dX1_save_15 rfl (lv_at hl 0 rfl) ?_
    refine va_get (D := D) (ci := 1) (v := .ref (a 2)) (C := RX1) (T := TX1) (N := 6) hx hb hts inRX1 hown hK hP 0 rfl rfl 1 (by decide) qf13 (fun _ h9 => h9) rfl dX1_save_16 ?_
    refine lv_iconst (v := jI 0) hx hb dX1_save_19 rfl ?_
    refine lv_sipush (v := jI 165) hx hb dX1_save_20 (by decide) ?_
    refine x_copy (w1 := (w1 cI a f (va_cpy g g 33 0 165) n b len kd sg nb pt)) hx hb (hml.trans hl.1.symm) hown qm163 qmN qmS qmI hK hP hD hS 2 2 0 rfl rfl rfl 33 0 165 (by omega) (by omega) (by omega) (by omega) (by omega) (Nat.le_of_ble_eq_true rfl) (Nat.le_of_ble_eq_true rfl) dX1_save_23 rfl (fun H locs hP hD hS => ?_)
    refine lv_aload_n hx hb dX1_save_26 rfl (lv_at hl 0 rfl) ?_
    refine lv_iconst (v := jI 5) hx hb dX1_save_27 rfl ?_
    refine va_put (D := D) (ci := 1) (v := .int (jI 5)) (ty := .int) (C := RX1) (T := TX1) (N := 6) hx hb hts inRX1 tyX1 tyX1_ok nmX1 hown hK hP hD hS 0 rfl rfl 2 (by decide) qf16 (fun _ h9 => h9) rfl (by decide +kernel) rfl rfl (Nat.le_of_ble_eq_true rfl) dX1_save_28 (fun H locs hP hD hS => ?_)
    have hP : va_P D vwCl (w1 cI a f (va_cpy g g 33 0 165) 5 b len kd sg nb pt) H := hP
    have hD : va_D A (w1 cI a f (va_cpy g g 33 0 165) 5 b len kd sg nb pt) := hD
    refine lv_aload_n hx hb dX1_save_31 rfl (lv_at hl 0 rfl) ?_
    refine va_get (D := D) (ci := 1) (v := .ref (a 1)) (C := RX1) (T := TX1) (N := 6) hx hb hts inRX1 hown hK hP 0 rfl rfl 0 (by decide) qf9 (fun _ h9 => h9) rfl dX1_save_32 ?_
    refine lv_iconst (v := jI 0) hx hb dX1_save_35 rfl ?_
    refine lv_aload_n hx hb dX1_save_36 rfl (lv_at hl 0 rfl) ?_
    refine va_get (D := D) (ci := 1) (v := .ref (a 2)) (C := RX1) (T := TX1) (N := 6) hx hb hts inRX1 hown hK hP 0 rfl rfl 1 (by decide) qf13 (fun _ h9 => h9) rfl dX1_save_37 ?_
    refine lv_aload_n hx hb dX1_save_40 rfl (lv_at hl 0 rfl) ?_
    refine va_get (D := D) (ci := 1) (v := .int (jI 5)) (C := RX1) (T := TX1) (N := 6) hx hb hts inRX1 hown hK hP 0 rfl rfl 2 (by decide) qf16 (fun _ h9 => h9) rfl dX1_save_41 ?_
    refine lv_bipush (v := jI 33) hx hb dX1_save_44 (by decide) ?_
    refine x_imul hx hb dX1_save_46 ?_
    refine lv_bipush (v := jI 33) hx hb dX1_save_47 (by decide) ?_
    refine x_copy (w1 := (w1 cI a f (va_cpy f (va_cpy g g 33 0 165) 0 (5 * 33) 33) 5 b len kd sg nb pt)) hx hb (hml.trans hl.1.symm) hown qm163 qmN qmS qmI hK hP hD hS 1 2 0 rfl rfl rfl 0 (5 * 33) 33 (by omega) (by omega) (by omega) (by omega) (by omega) (Nat.le_of_ble_eq_true rfl) (Nat.le_of_ble_eq_true rfl) dX1_save_49 rfl (fun H locs hP hD hS => ?_)
    refine lv_aload_n hx hb dX1_save_52 rfl (lv_at hl 0 rfl) ?_
    refine lv_dup hx hb dX1_save_53 rfl ?_
    refine va_get (D := D) (ci := 1) (v := .int (jI 5)) (C := RX1) (T := TX1) (N := 6) hx hb hts inRX1 hown hK hP 0 rfl rfl 2 (by decide) qf16 (fun _ h9 => h9) rfl dX1_save_54 ?_
    refine lv_iconst (v := jI 1) hx hb dX1_save_57 rfl ?_
    refine x_iadd hx hb dX1_save_58 ?_
    refine va_put (D := D) (ci := 1) (v := .int (jI (5 + 1))) (ty := .int) (C := RX1) (T := TX1) (N := 6) hx hb hts inRX1 tyX1 tyX1_ok nmX1 hown hK hP hD hS 0 rfl rfl 2 (by decide) qf16 (fun _ h9 => h9) rfl (by decide +kernel) rfl rfl (Nat.le_of_ble_eq_true rfl) dX1_save_59 (fun H locs hP hD hS => ?_)
    have hP : va_P D vwCl (w1 cI a f (va_cpy f (va_cpy g g 33 0 165) 0 (5 * 33) 33) (5 + 1) b len kd sg nb pt) H := hP
    have hD : va_D A (w1 cI a f (va_cpy f (va_cpy g g 33 0 165) 0 (5 * 33) 33) (5 + 1) b len kd sg nb pt) := hD
    subst hz
    exact xi_v hx hb hr hlocks hK hP hD hS rfl dX1_save_62
theorem n_X1_save (f g : Nat → Int) (n : Nat) (h : n ≤ 6) : (s_X1_save f g n).2 ≤ 6 := by
  unfold s_X1_save
  split <;> (dsimp only; omega)
def s_X1_change (f : Nat → Int) (g : Nat → Int) (n : Nat) (p0 : Nat) (x2 : Int) : Int × (Nat → Int) × (Nat → Int) × Nat := ((f p0), (upz f p0 x2), (s_X1_save f g n).1, (s_X1_save f g n).2)
abbrev rm_X1_change : Room := { frames := 2, cells := 0, slots := 0, locals := 80 }
set_option maxHeartbeats 4000000 in
set_option maxRecDepth 100000 in
theorem m_X1_change (l : Launch) (D : va_G) (cI : ClassId) (a : Nat → Nat) (f : Nat → Int) (g : Nat → Int) (n : Nat) (b : Nat → Int) (len : Nat) (kd : Nat → Int) (sg : Nat → Int) (nb : Nat → Int) (pt : Nat) (p0 : Nat) (x2 : Int) (hn : n ≤ 6) (hp0 : p0 < 33) : MetI l yX1_change wsX1_change rm_X1_change D cI [.ref (a 0), .int (jI (p0 : Int)), .int (jI x2)] (w1 cI a f g n b len kd sg nb pt) (w1 cI a ((s_X1_change f g n p0 x2).2.1) ((s_X1_change f g n p0 x2).2.2.1) ((s_X1_change f g n p0 x2).2.2.2) b len kd sg nb pt) ((s_X1_change f g n p0 x2).1) := by
  refine xe_I (cc := cX1_change) (maxL := 4) (ret := (some .int)) (by decide) rfl (Nat.le_of_ble_eq_true rfl) ?_
  intro p e s m below meth c hx hb hr hml hts hown hlocks hP hK A hA hD hS ls hl
  have hl : lv_has ls 4 [(0, .ref (a 0)), (1, .int (jI (p0 : Int))), (2, .int (jI x2))] := hl
  have hown : s.vm.findClass RX1 = some m.cls := hown
  have hSx : CallFix p m c cX1_change 4 s ([.ref (a 0), .int (jI (p0 : Int)), .int (jI x2)] : List Value).toArray wsX1_change RX1 := ⟨hx, hb, hml, hown, hts⟩
  have inRX1 : ∀ w ∈ u_ws RX1 TX1 6, w ∈ wsX1_change := by decide +kernel
  have qf9 := hts (.fieldLink RX1 9 "VaultMovements" "now" "[I") (by decide +kernel)
  obtain ⟨z, hz⟩ : ∃ z, z = (s_X1_change f g n p0 x2) := ⟨_, rfl⟩
  rw [← hz]
  unfold s_X1_change at hz
  refine lv_aload_n hx hb dX1_change_0 rfl (lv_at hl 0 rfl) ?_
  refine xc_V (As := []) (rest := []) hSx (m_X1_save l D cI a f g n b len kd sg nb pt  (by omega)) (cwV 0 hts gX1_change_X1_save rfl rfl rfl (by decide +kernel) ⟨Nat.le_of_ble_eq_true rfl, Nat.le_of_ble_eq_true rfl⟩) hP hD hS hA hK 0 rfl rfl rfl rfl hl.1 rfl (Nat.le_of_ble_eq_true rfl) dX1_change_1 ⟨Nat.zero_le _, Nat.zero_le _⟩ (fun H locs hP hD hS => ?_)
  refine lv_aload_n hx hb dX1_change_4 rfl (lv_at hl 0 rfl) ?_
  refine va_get (D := D) (ci := 1) (v := .ref (a 1)) (C := RX1) (T := TX1) (N := 6) hx hb hts inRX1 hown hK hP 0 rfl rfl 0 (by decide) qf9 (fun _ h9 => h9) rfl dX1_change_5 ?_
  refine lv_iload_n hx hb dX1_change_8 rfl (lv_at hl 1 rfl) ?_
  refine x_iald hx hb hK hP 1 0 rfl rfl p0 (by omega) (by omega) (by decide) dX1_change_9 ?_
  refine lv_istore_n (lv' := [(3, .int (jI (f p0))), (0, .ref (a 0)), (1, .int (jI (p0 : Int))), (2, .int (jI x2))]) hx hb dX1_change_10 rfl hl (by decide) rfl (fun ls hl => ?_)
  refine lv_aload_n hx hb dX1_change_11 rfl (lv_at hl 1 rfl) ?_
  refine va_get (D := D) (ci := 1) (v := .ref (a 1)) (C := RX1) (T := TX1) (N := 6) hx hb hts inRX1 hown hK hP 0 rfl rfl 0 (by decide) qf9 (fun _ h9 => h9) rfl dX1_change_12 ?_
  refine lv_iload_n hx hb dX1_change_15 rfl (lv_at hl 2 rfl) ?_
  refine lv_iload_n hx hb dX1_change_16 rfl (lv_at hl 3 rfl) ?_
  refine x_iast (w1 := (w1 cI a (upz f p0 x2) ((s_X1_save f g n).1) ((s_X1_save f g n).2) b len kd sg nb pt)) hx hb hK hP hD hS 1 0 rfl rfl p0 (by omega) (by omega) (by decide) dX1_change_17 rfl (fun H locs hP hD hS => ?_)
  refine lv_iload_n hx hb dX1_change_18 rfl (lv_at hl 0 rfl) ?_
  subst hz
  exact xi_i hx hb hr hlocks hK hP hD hS rfl rfl dX1_change_19
def s_X1_runHour (f : Nat → Int) (j : Nat) : (Nat → Int) := if (s_X1_goes f j) = 0 then f else (if (f ((21 + (j * 4)) + 0)) = 0 then f else (if (s_X1_isLostHour ((f ((21 + (j * 4)) + 3)) + 1) (f ((21 + (j * 4)) + 2))) = 0 then (upz (upz f ((21 + (j * 4)) + 3) ((f ((21 + (j * 4)) + 3)) + 1)) ((21 + (j * 4)) + 0) ((f ((21 + (j * 4)) + 0)) - 1)) else (upz f ((21 + (j * 4)) + 3) ((f ((21 + (j * 4)) + 3)) + 1))))
abbrev rm_X1_runHour : Room := { frames := 2, cells := 0, slots := 0, locals := 42 }
set_option maxHeartbeats 4000000 in
set_option maxRecDepth 100000 in
theorem m_X1_runHour (l : Launch) (D : va_G) (cI : ClassId) (a : Nat → Nat) (f : Nat → Int) (g : Nat → Int) (n : Nat) (b : Nat → Int) (len : Nat) (kd : Nat → Int) (sg : Nat → Int) (nb : Nat → Int) (pt : Nat) (j : Nat) (hj : j < 3) (hrf : rng f) (hm : mvs f) : MetV l yX1_runHour wsX1_runHour rm_X1_runHour D cI [.ref (a 0), .int (jI (j : Int))] (w1 cI a f g n b len kd sg nb pt) (w1 cI a (s_X1_runHour f j) g n b len kd sg nb pt) := by
  refine xe_V (cc := cX1_runHour) (maxL := 2) (ret := none) (by decide) rfl (Nat.le_of_ble_eq_true rfl) ?_
  intro p e s m below meth c hx hb hr hml hts hown hlocks hP hK A hA hD hS ls hl
  have hl : lv_has ls 2 [(0, .ref (a 0)), (1, .int (jI (j : Int)))] := hl
  have hown : s.vm.findClass RX1 = some m.cls := hown
  have hSx : CallFix p m c cX1_runHour 2 s ([.ref (a 0), .int (jI (j : Int))] : List Value).toArray wsX1_runHour RX1 := ⟨hx, hb, hml, hown, hts⟩
  have inRX1 : ∀ w ∈ u_ws RX1 TX1 6, w ∈ wsX1_runHour := by decide +kernel
  have qf9 := hts (.fieldLink RX1 9 "VaultMovements" "now" "[I") (by decide +kernel)
  have hm1 := hm j hj
  obtain ⟨z, hz⟩ : ∃ z, z = (s_X1_runHour f j) := ⟨_, rfl⟩
  rw [← hz]
  unfold s_X1_runHour at hz
  refine lv_aload_n hx hb dX1_runHour_0 rfl (lv_at hl 0 rfl) ?_
  refine lv_iload_n hx hb dX1_runHour_1 rfl (lv_at hl 1 rfl) ?_
  refine xc_R (As := [.int (jI (j : Int))]) (rest := []) hSx (m_X1_goes l D cI a f g n b len kd sg nb pt j (by omega) (by omega)) (cwV 1 hts gX1_runHour_X1_goes rfl rfl rfl (by decide +kernel) ⟨Nat.le_of_ble_eq_true rfl, Nat.le_of_ble_eq_true rfl⟩) hP hK 0 rfl rfl rfl rfl hl.1 rfl (Nat.le_of_ble_eq_true rfl) dX1_runHour_2 ⟨Nat.zero_le _, Nat.zero_le _⟩ ?_
  refine x_if_eq (tgt := 21) hx hb dX1_runHour_5 (by decide) (b01 (b_X1_goes f j)) (fun c5 => ?_) (fun c5 => ?_)
  · rw [if_pos c5] at hz
    subst hz
    exact xi_v hx hb hr hlocks hK hP hD hS rfl dX1_runHour_21
  · rw [if_neg c5] at hz
    refine lv_aload_n hx hb dX1_runHour_8 rfl (lv_at hl 0 rfl) ?_
    refine va_get (D := D) (ci := 1) (v := .ref (a 1)) (C := RX1) (T := TX1) (N := 6) hx hb hts inRX1 hown hK hP 0 rfl rfl 0 (by decide) qf9 (fun _ h9 => h9) rfl dX1_runHour_9 ?_
    refine lv_iload_n hx hb dX1_runHour_12 rfl (lv_at hl 1 rfl) ?_
    refine lv_iconst (v := jI 0) hx hb dX1_runHour_13 rfl ?_
    refine xc_P (As := [.int (jI (j : Int)), .int (jI 0)]) (rest := [.ref (a 1)]) hSx (m_X1_place l (j : Int) 0 ) (va_cwS 2 hts gX1_runHour_X1_place rfl rfl rfl (by decide +kernel) ⟨Nat.le_of_ble_eq_true rfl, Nat.le_of_ble_eq_true rfl⟩) rfl hl.1 rfl (Nat.le_of_ble_eq_true rfl) dX1_runHour_14 ⟨Nat.zero_le _, Nat.zero_le _⟩ ?_
    refine x_iald hx hb hK hP 1 0 rfl rfl ((21 + (j * 4)) + 0) (by omega) (by omega) (by decide) dX1_runHour_17 ?_
    refine x_if_ne (tgt := 22) hx hb dX1_runHour_18 (by decide) (hrf _) (fun c18 => ?_) (fun c18 => ?_)
    · rw [if_neg c18] at hz
      refine lv_aload_n hx hb dX1_runHour_22 rfl (lv_at hl 0 rfl) ?_
      refine va_get (D := D) (ci := 1) (v := .ref (a 1)) (C := RX1) (T := TX1) (N := 6) hx hb hts inRX1 hown hK hP 0 rfl rfl 0 (by decide) qf9 (fun _ h9 => h9) rfl dX1_runHour_23 ?_
      refine lv_iload_n hx hb dX1_runHour_26 rfl (lv_at hl 1 rfl) ?_
      refine lv_iconst (v := jI 3) hx hb dX1_runHour_27 rfl ?_
      refine xc_P (As := [.int (jI (j : Int)), .int (jI 3)]) (rest := [.ref (a 1)]) hSx (m_X1_place l (j : Int) 3 ) (va_cwS 2 hts gX1_runHour_X1_place rfl rfl rfl (by decide +kernel) ⟨Nat.le_of_ble_eq_true rfl, Nat.le_of_ble_eq_true rfl⟩) rfl hl.1 rfl (Nat.le_of_ble_eq_true rfl) dX1_runHour_28 ⟨Nat.zero_le _, Nat.zero_le _⟩ ?_
      refine lv_dup2_11 hx hb dX1_runHour_31 rfl rfl ?_
      refine x_iald hx hb hK hP 1 0 rfl rfl ((21 + (j * 4)) + 3) (by omega) (by omega) (by decide) dX1_runHour_32 ?_
      refine lv_iconst (v := jI 1) hx hb dX1_runHour_33 rfl ?_
      refine x_iadd hx hb dX1_runHour_34 ?_
      refine x_iast (w1 := (w1 cI a (upz f ((21 + (j * 4)) + 3) ((f ((21 + (j * 4)) + 3)) + 1)) g n b len kd sg nb pt)) hx hb hK hP hD hS 1 0 rfl rfl ((21 + (j * 4)) + 3) (by omega) (by omega) (by decide) dX1_runHour_35 rfl (fun H locs hP hD hS => ?_)
      refine lv_aload_n hx hb dX1_runHour_36 rfl (lv_at hl 0 rfl) ?_
      refine va_get (D := D) (ci := 1) (v := .ref (a 1)) (C := RX1) (T := TX1) (N := 6) hx hb hts inRX1 hown hK hP 0 rfl rfl 0 (by decide) qf9 (fun _ h9 => h9) rfl dX1_runHour_37 ?_
      refine lv_iload_n hx hb dX1_runHour_40 rfl (lv_at hl 1 rfl) ?_
      refine lv_iconst (v := jI 3) hx hb dX1_runHour_41 rfl ?_
      refine xc_P (As := [.int (jI (j : Int)), .int (jI 3)]) (rest := [.ref (a 1)]) hSx (m_X1_place l (j : Int) 3 ) (va_cwS 2 hts gX1_runHour_X1_place rfl rfl rfl (by decide +kernel) ⟨Nat.le_of_ble_eq_true rfl, Nat.le_of_ble_eq_true rfl⟩) rfl hl.1 rfl (Nat.le_of_ble_eq_true rfl) dX1_runHour_42 ⟨Nat.zero_le _, Nat.zero_le _⟩ ?_
      refine x_iald hx hb hK hP 1 0 rfl rfl ((21 + (j * 4)) + 3) (by omega) (by omega) (by decide) dX1_runHour_45 ?_
      rw [show (upz f ((21 + (j * 4)) + 3) ((f ((21 + (j * 4)) + 3)) + 1)) ((21 + (j * 4)) + 3) = ((f ((21 + (j * 4)) + 3)) + 1) from upz_s]
      refine lv_aload_n hx hb dX1_runHour_46 rfl (lv_at hl 0 rfl) ?_
      refine va_get (D := D) (ci := 1) (v := .ref (a 1)) (C := RX1) (T := TX1) (N := 6) hx hb hts inRX1 hown hK hP 0 rfl rfl 0 (by decide) qf9 (fun _ h9 => h9) rfl dX1_runHour_47 ?_
      refine lv_iload_n hx hb dX1_runHour_50 rfl (lv_at hl 1 rfl) ?_
      refine lv_iconst (v := jI 2) hx hb dX1_runHour_51 rfl ?_
      refine xc_P (As := [.int (jI (j : Int)), .int (jI 2)]) (rest := [.ref (a 1), .int (jI ((f ((21 + (j * 4)) + 3)) + 1))]) hSx (m_X1_place l (j : Int) 2 ) (va_cwS 2 hts gX1_runHour_X1_place rfl rfl rfl (by decide +kernel) ⟨Nat.le_of_ble_eq_true rfl, Nat.le_of_ble_eq_true rfl⟩) rfl hl.1 rfl (Nat.le_of_ble_eq_true rfl) dX1_runHour_52 ⟨Nat.zero_le _, Nat.zero_le _⟩ ?_
      refine x_iald hx hb hK hP 1 0 rfl rfl ((21 + (j * 4)) + 2) (by omega) (by omega) (by decide) dX1_runHour_55 ?_
      rw [show (upz f ((21 + (j * 4)) + 3) ((f ((21 + (j * 4)) + 3)) + 1)) ((21 + (j * 4)) + 2) = f ((21 + (j * 4)) + 2) from upz_n (by omega)]
      refine xc_P (As := [.int (jI ((f ((21 + (j * 4)) + 3)) + 1)), .int (jI (f ((21 + (j * 4)) + 2)))]) (rest := []) hSx (m_X1_isLostHour l ((f ((21 + (j * 4)) + 3)) + 1) (f ((21 + (j * 4)) + 2)) (by omega) (hrf _)) (va_cwS 2 hts gX1_runHour_X1_isLostHour rfl rfl rfl (by decide +kernel) ⟨Nat.le_of_ble_eq_true rfl, Nat.le_of_ble_eq_true rfl⟩) rfl hl.1 rfl (Nat.le_of_ble_eq_true rfl) dX1_runHour_56 ⟨Nat.zero_le _, Nat.zero_le _⟩ ?_
      refine x_if_ne (tgt := 76) hx hb dX1_runHour_59 (by decide) (b01 (b_X1_isLostHour ((f ((21 + (j * 4)) + 3)) + 1) (f ((21 + (j * 4)) + 2)))) (fun c59 => ?_) (fun c59 => ?_)
      · rw [if_neg c59] at hz
        subst hz
        exact xi_v hx hb hr hlocks hK hP hD hS rfl dX1_runHour_76
      · rw [if_pos c59] at hz
        refine lv_aload_n hx hb dX1_runHour_62 rfl (lv_at hl 0 rfl) ?_
        refine va_get (D := D) (ci := 1) (v := .ref (a 1)) (C := RX1) (T := TX1) (N := 6) hx hb hts inRX1 hown hK hP 0 rfl rfl 0 (by decide) qf9 (fun _ h9 => h9) rfl dX1_runHour_63 ?_
        refine lv_iload_n hx hb dX1_runHour_66 rfl (lv_at hl 1 rfl) ?_
        refine lv_iconst (v := jI 0) hx hb dX1_runHour_67 rfl ?_
        refine xc_P (As := [.int (jI (j : Int)), .int (jI 0)]) (rest := [.ref (a 1)]) hSx (m_X1_place l (j : Int) 0 ) (va_cwS 2 hts gX1_runHour_X1_place rfl rfl rfl (by decide +kernel) ⟨Nat.le_of_ble_eq_true rfl, Nat.le_of_ble_eq_true rfl⟩) rfl hl.1 rfl (Nat.le_of_ble_eq_true rfl) dX1_runHour_68 ⟨Nat.zero_le _, Nat.zero_le _⟩ ?_
        refine lv_dup2_11 hx hb dX1_runHour_71 rfl rfl ?_
        refine x_iald hx hb hK hP 1 0 rfl rfl ((21 + (j * 4)) + 0) (by omega) (by omega) (by decide) dX1_runHour_72 ?_
        rw [show (upz f ((21 + (j * 4)) + 3) ((f ((21 + (j * 4)) + 3)) + 1)) ((21 + (j * 4)) + 0) = f ((21 + (j * 4)) + 0) from upz_n (by omega)]
        refine lv_iconst (v := jI 1) hx hb dX1_runHour_73 rfl ?_
        refine x_isub hx hb dX1_runHour_74 ?_
        refine x_iast (w1 := (w1 cI a (upz (upz f ((21 + (j * 4)) + 3) ((f ((21 + (j * 4)) + 3)) + 1)) ((21 + (j * 4)) + 0) ((f ((21 + (j * 4)) + 0)) - 1)) g n b len kd sg nb pt)) hx hb hK hP hD hS 1 0 rfl rfl ((21 + (j * 4)) + 0) (by omega) (by omega) (by decide) dX1_runHour_75 rfl (fun H locs hP hD hS => ?_)
        subst hz
        exact xi_v hx hb hr hlocks hK hP hD hS rfl dX1_runHour_76
    · rw [if_pos c18] at hz
      subst hz
      exact xi_v hx hb hr hlocks hK hP hD hS rfl dX1_runHour_21
theorem ok_X1_runHour (f : Nat → Int) (j : Nat) (B : Int) (hj : j < 3) (hf : rng f) (hm : mvB f B) (hB : B ≤ 1000000) : rng (s_X1_runHour f j) ∧ mvB (s_X1_runHour f j) (B + 1) := by
  have hm1 := hm j hj
  unfold s_X1_runHour
  split
  · exact ⟨hf, mvB_mono hm (by omega)⟩
  split
  · refine ⟨?_, ?_⟩
    · (repeat' split) <;> (repeat' apply rng_upz) <;> first | exact hf | omega
    · intro j2 hj2
      have hm2 := hm j2 hj2
      (repeat' split) <;> (try dsimp only [upz]) <;> ((repeat' split) <;> omega)
  · refine ⟨?_, ?_⟩
    · (repeat' split) <;> (repeat' apply rng_upz) <;> first | exact hf | omega
    · intro j2 hj2
      have hm2 := hm j2 hj2
      (repeat' split) <;> (try dsimp only [upz]) <;> ((repeat' split) <;> omega)
def s_X1_passHour_lp19  : Nat → Nat → (Nat → Int) → (Nat → Int)
  | 0, _, _ => default
  | k + 1, i, f => if 3 ≤ (i : Int) then f else (s_X1_passHour_lp19 k (i + 1) (s_X1_runHour f i))
def s_X1_passHour (f : Nat → Int) : (Nat → Int) := if (s_X1_isLocked (upz f 0 ((f 0) + 1))) = 0 then (upz f 0 ((f 0) + 1)) else (s_X1_passHour_lp19 (3 + 1 - 0) 0 (upz f 0 ((f 0) + 1)))
abbrev rm_X1_passHour : Room := { frames := 3, cells := 0, slots := 0, locals := 63 }
set_option maxHeartbeats 4000000 in
set_option maxRecDepth 100000 in
theorem m_X1_passHour (l : Launch) (D : va_G) (cI : ClassId) (a : Nat → Nat) (f : Nat → Int) (g : Nat → Int) (n : Nat) (b : Nat → Int) (len : Nat) (kd : Nat → Int) (sg : Nat → Int) (nb : Nat → Int) (pt : Nat) (hrf : rng f) (hh : 0 ≤ f 0 ∧ f 0 ≤ 99999) (hm : mvB f 900000) : MetV l yX1_passHour wsX1_passHour rm_X1_passHour D cI [.ref (a 0)] (w1 cI a f g n b len kd sg nb pt) (w1 cI a (s_X1_passHour f) g n b len kd sg nb pt) := by
  refine xe_V (cc := cX1_passHour) (maxL := 2) (ret := none) (by decide) rfl (Nat.le_of_ble_eq_true rfl) ?_
  intro p e s m below meth c hx hb hr hml hts hown hlocks hP hK A hA hD hS ls hl
  have hl : lv_has ls 2 [(0, .ref (a 0))] := hl
  have hown : s.vm.findClass RX1 = some m.cls := hown
  have hSx : CallFix p m c cX1_passHour 2 s ([.ref (a 0)] : List Value).toArray wsX1_passHour RX1 := ⟨hx, hb, hml, hown, hts⟩
  have inRX1 : ∀ w ∈ u_ws RX1 TX1 6, w ∈ wsX1_passHour := by decide +kernel
  have qf9 := hts (.fieldLink RX1 9 "VaultMovements" "now" "[I") (by decide +kernel)
  obtain ⟨z, hz⟩ : ∃ z, z = (s_X1_passHour f) := ⟨_, rfl⟩
  rw [← hz]
  unfold s_X1_passHour at hz
  refine lv_aload_n hx hb dX1_passHour_0 rfl (lv_at hl 0 rfl) ?_
  refine va_get (D := D) (ci := 1) (v := .ref (a 1)) (C := RX1) (T := TX1) (N := 6) hx hb hts inRX1 hown hK hP 0 rfl rfl 0 (by decide) qf9 (fun _ h9 => h9) rfl dX1_passHour_1 ?_
  refine lv_iconst (v := jI 0) hx hb dX1_passHour_4 rfl ?_
  refine lv_dup2_11 hx hb dX1_passHour_5 rfl rfl ?_
  refine x_iald hx hb hK hP 1 0 rfl rfl 0 rfl (by decide) (by decide) dX1_passHour_6 ?_
  refine lv_iconst (v := jI 1) hx hb dX1_passHour_7 rfl ?_
  refine x_iadd hx hb dX1_passHour_8 ?_
  refine x_iast (w1 := (w1 cI a (upz f 0 ((f 0) + 1)) g n b len kd sg nb pt)) hx hb hK hP hD hS 1 0 rfl rfl 0 rfl (by decide) (by decide) dX1_passHour_9 rfl (fun H locs hP hD hS => ?_)
  have hrf1 := rng_upz (k := 0) (v := f 0 + 1) hrf (by omega)
  refine lv_aload_n hx hb dX1_passHour_10 rfl (lv_at hl 0 rfl) ?_
  refine xc_R (As := []) (rest := []) hSx (m_X1_isLocked l D cI a (upz f 0 ((f 0) + 1)) g n b len kd sg nb pt  hrf1) (cwV 0 hts gX1_passHour_X1_isLocked rfl rfl rfl (by decide +kernel) ⟨Nat.le_of_ble_eq_true rfl, Nat.le_of_ble_eq_true rfl⟩) hP hK 0 rfl rfl rfl rfl hl.1 rfl (Nat.le_of_ble_eq_true rfl) dX1_passHour_11 ⟨Nat.zero_le _, Nat.zero_le _⟩ ?_
  refine x_if_eq (tgt := 35) hx hb dX1_passHour_14 (by decide) (b01 (b_X1_isLocked (upz f 0 ((f 0) + 1)))) (fun c14 => ?_) (fun c14 => ?_)
  · rw [if_pos c14] at hz
    subst hz
    exact xi_v hx hb hr hlocks hK hP hD hS rfl dX1_passHour_35
  · rw [if_neg c14] at hz
    refine lv_iconst (v := jI 0) hx hb dX1_passHour_17 rfl ?_
    refine lv_istore_n (lv' := [(1, .int (jI 0)), (0, .ref (a 0))]) hx hb dX1_passHour_18 rfl hl (by decide) rfl (fun ls hl => ?_)
    have LP19 : ∀ (k i : Nat) (f : Nat → Int) (H : Heap) (locs : List Loc) (ls : Array Slot), i ≤ 3 → i + k = 3 + 1 → z = s_X1_passHour_lp19 k i f → (rng f ∧ mvB f (900000 + i)) → va_P D vwCl (w1 cI a f g n b len kd sg nb pt) H → va_D A (w1 cI a f g n b len kd sg nb pt) → va_S A s.heap H locs → lv_has ls 2 [(0, .ref (a 0)), (1, .int (jI (i : Int)))] → W p l e rm_X1_passHour s m ([.ref (a 0)] : List Value).toArray below meth c H locs 0 0 (MQ below (va_Qv (fun (_ : Unit) => True) (xq_B D cI A (w1 cI a z g n b len kd sg nb pt)) A) ([.ref (a 0)] : List Value).toArray s 0 0 A) (F0 m 19 ls []) := by
      intro k
      induction k with
      | zero => intro i f _ _ ls h1 h2; exact absurd h2 (by omega)
      | succ k ih =>
        intro i f H locs ls h1 h2 hz hi2 hP hD hS hl
        rw [s_X1_passHour_lp19] at hz
        refine lv_iload_n hx hb dX1_passHour_19 rfl (lv_at hl 1 rfl) ?_
        refine lv_iconst (v := jI 3) hx hb dX1_passHour_20 rfl ?_
        refine x_icmp_ge (tgt := 35) hx hb dX1_passHour_21 (by decide) ⟨(by omega), (by decide)⟩ (fun c21 => ?_) (fun c21 => ?_)
        · rw [if_pos c21] at hz
          subst hz
          exact xi_v hx hb hr hlocks hK hP hD hS rfl dX1_passHour_35
        · rw [if_neg c21] at hz
          refine lv_aload_n hx hb dX1_passHour_24 rfl (lv_at hl 0 rfl) ?_
          refine lv_iload_n hx hb dX1_passHour_25 rfl (lv_at hl 1 rfl) ?_
          refine xc_V (As := [.int (jI (i : Int))]) (rest := []) hSx (m_X1_runHour l D cI a f g n b len kd sg nb pt i (by omega) hi2.1 (mvB_mono hi2.2 (by omega))) (cwV 1 hts gX1_passHour_X1_runHour rfl rfl rfl (by decide +kernel) ⟨Nat.le_of_ble_eq_true rfl, Nat.le_of_ble_eq_true rfl⟩) hP hD hS hA hK 0 rfl rfl rfl rfl hl.1 rfl (Nat.le_of_ble_eq_true rfl) dX1_passHour_26 ⟨Nat.zero_le _, Nat.zero_le _⟩ (fun H locs hP hD hS => ?_)
          have hok0 := ok_X1_runHour f i (900000 + i) (by omega) hi2.1 hi2.2 (by omega)
          have hok : rng (s_X1_runHour f i) ∧ mvB (s_X1_runHour f i) (900000 + ((i + 1 : Nat) : Int)) := ⟨hok0.1, mvB_mono hok0.2 (by omega)⟩
          refine lv_iinc (v := jI ((i + 1 : Nat) : Int)) (lv' := [(1, .int (jI ((i + 1 : Nat) : Int))), (0, .ref (a 0))]) hx hb dX1_passHour_29 hl (k := 1) rfl (jI_inc _ 1) (by decide) rfl (fun ls hl => ?_)
          refine lv_goto (tgt := 19) hx hb dX1_passHour_32 (by decide) ?_
          exact ih (i + 1) (s_X1_runHour f i) _ _ ls (by omega) (by omega) hz hok hP hD hS (lv_sub hl [1, 0] rfl)
    exact LP19 (3 + 1 - 0) 0 (upz f 0 ((f 0) + 1)) _ _ ls (by omega) (by omega) hz ⟨rng_upz hrf (by omega), mvB_mono (mvB_upz hm (by decide)) (by omega)⟩ hP hD hS (lv_sub hl [1, 0] rfl)
def s_X1_countEarlyTry (f : Nat → Int) : (Nat → Int) := if ((f 3) + 1) < (f 11) then (upz (upz f 5 ((f 5) + 1)) 3 ((f 3) + 1)) else (upz (upz (upz (upz f 5 ((f 5) + 1)) 3 ((f 3) + 1)) 4 ((f 0) + (f 12))) 3 0)
abbrev rm_X1_countEarlyTry : Room := { frames := 0, cells := 0, slots := 0, locals := 0 }
set_option maxHeartbeats 4000000 in
set_option maxRecDepth 100000 in
theorem m_X1_countEarlyTry (l : Launch) (D : va_G) (cI : ClassId) (a : Nat → Nat) (f : Nat → Int) (g : Nat → Int) (n : Nat) (b : Nat → Int) (len : Nat) (kd : Nat → Int) (sg : Nat → Int) (nb : Nat → Int) (pt : Nat) (hrf : rng f) (hh : 0 ≤ f 0 ∧ f 0 ≤ 99999) (h3 : 0 ≤ f 3 ∧ f 3 ≤ 8) (h11 : 1 ≤ f 11 ∧ f 11 ≤ 9) : MetV l yX1_countEarlyTry wsX1_countEarlyTry rm_X1_countEarlyTry D cI [.ref (a 0)] (w1 cI a f g n b len kd sg nb pt) (w1 cI a (s_X1_countEarlyTry f) g n b len kd sg nb pt) := by
  refine xe_V (cc := cX1_countEarlyTry) (maxL := 1) (ret := none) (by decide) rfl (Nat.le_of_ble_eq_true rfl) ?_
  intro p e s m below meth c hx hb hr hml hts hown hlocks hP hK A hA hD hS ls hl
  have hl : lv_has ls 1 [(0, .ref (a 0))] := hl
  have hown : s.vm.findClass RX1 = some m.cls := hown
  have hSx : CallFix p m c cX1_countEarlyTry 1 s ([.ref (a 0)] : List Value).toArray wsX1_countEarlyTry RX1 := ⟨hx, hb, hml, hown, hts⟩
  have inRX1 : ∀ w ∈ u_ws RX1 TX1 6, w ∈ wsX1_countEarlyTry := by decide +kernel
  have qf9 := hts (.fieldLink RX1 9 "VaultMovements" "now" "[I") (by decide +kernel)
  obtain ⟨z, hz⟩ : ∃ z, z = (s_X1_countEarlyTry f) := ⟨_, rfl⟩
  rw [← hz]
  unfold s_X1_countEarlyTry at hz
  refine lv_aload_n hx hb dX1_countEarlyTry_0 rfl (lv_at hl 0 rfl) ?_
  refine va_get (D := D) (ci := 1) (v := .ref (a 1)) (C := RX1) (T := TX1) (N := 6) hx hb hts inRX1 hown hK hP 0 rfl rfl 0 (by decide) qf9 (fun _ h9 => h9) rfl dX1_countEarlyTry_1 ?_
  refine lv_iconst (v := jI 5) hx hb dX1_countEarlyTry_4 rfl ?_
  refine lv_dup2_11 hx hb dX1_countEarlyTry_5 rfl rfl ?_
  refine x_iald hx hb hK hP 1 0 rfl rfl 5 rfl (by decide) (by decide) dX1_countEarlyTry_6 ?_
  refine lv_iconst (v := jI 1) hx hb dX1_countEarlyTry_7 rfl ?_
  refine x_iadd hx hb dX1_countEarlyTry_8 ?_
  refine x_iast (w1 := (w1 cI a (upz f 5 ((f 5) + 1)) g n b len kd sg nb pt)) hx hb hK hP hD hS 1 0 rfl rfl 5 rfl (by decide) (by decide) dX1_countEarlyTry_9 rfl (fun H locs hP hD hS => ?_)
  refine lv_aload_n hx hb dX1_countEarlyTry_10 rfl (lv_at hl 0 rfl) ?_
  refine va_get (D := D) (ci := 1) (v := .ref (a 1)) (C := RX1) (T := TX1) (N := 6) hx hb hts inRX1 hown hK hP 0 rfl rfl 0 (by decide) qf9 (fun _ h9 => h9) rfl dX1_countEarlyTry_11 ?_
  refine lv_iconst (v := jI 3) hx hb dX1_countEarlyTry_14 rfl ?_
  refine lv_dup2_11 hx hb dX1_countEarlyTry_15 rfl rfl ?_
  refine x_iald hx hb hK hP 1 0 rfl rfl 3 rfl (by decide) (by decide) dX1_countEarlyTry_16 ?_
  rw [show (upz f 5 ((f 5) + 1)) 3 = f 3 from upz_n (by omega)]
  refine lv_iconst (v := jI 1) hx hb dX1_countEarlyTry_17 rfl ?_
  refine x_iadd hx hb dX1_countEarlyTry_18 ?_
  refine x_iast (w1 := (w1 cI a (upz (upz f 5 ((f 5) + 1)) 3 ((f 3) + 1)) g n b len kd sg nb pt)) hx hb hK hP hD hS 1 0 rfl rfl 3 rfl (by decide) (by decide) dX1_countEarlyTry_19 rfl (fun H locs hP hD hS => ?_)
  refine lv_aload_n hx hb dX1_countEarlyTry_20 rfl (lv_at hl 0 rfl) ?_
  refine va_get (D := D) (ci := 1) (v := .ref (a 1)) (C := RX1) (T := TX1) (N := 6) hx hb hts inRX1 hown hK hP 0 rfl rfl 0 (by decide) qf9 (fun _ h9 => h9) rfl dX1_countEarlyTry_21 ?_
  refine lv_iconst (v := jI 3) hx hb dX1_countEarlyTry_24 rfl ?_
  refine x_iald hx hb hK hP 1 0 rfl rfl 3 rfl (by decide) (by decide) dX1_countEarlyTry_25 ?_
  rw [show (upz (upz f 5 ((f 5) + 1)) 3 ((f 3) + 1)) 3 = ((f 3) + 1) from upz_s]
  refine lv_aload_n hx hb dX1_countEarlyTry_26 rfl (lv_at hl 0 rfl) ?_
  refine va_get (D := D) (ci := 1) (v := .ref (a 1)) (C := RX1) (T := TX1) (N := 6) hx hb hts inRX1 hown hK hP 0 rfl rfl 0 (by decide) qf9 (fun _ h9 => h9) rfl dX1_countEarlyTry_27 ?_
  refine lv_bipush (v := jI 11) hx hb dX1_countEarlyTry_30 (by decide) ?_
  refine x_iald hx hb hK hP 1 0 rfl rfl 11 rfl (by decide) (by decide) dX1_countEarlyTry_32 ?_
  rw [show (upz (upz f 5 ((f 5) + 1)) 3 ((f 3) + 1)) 11 = (upz f 5 ((f 5) + 1)) 11 from upz_n (by omega)]
  rw [show (upz f 5 ((f 5) + 1)) 11 = f 11 from upz_n (by omega)]
  refine x_icmp_lt (tgt := 63) hx hb dX1_countEarlyTry_33 (by decide) ⟨(by omega), (hrf _)⟩ (fun c33 => ?_) (fun c33 => ?_)
  · rw [if_pos c33] at hz
    subst hz
    exact xi_v hx hb hr hlocks hK hP hD hS rfl dX1_countEarlyTry_63
  · rw [if_neg c33] at hz
    refine lv_aload_n hx hb dX1_countEarlyTry_36 rfl (lv_at hl 0 rfl) ?_
    refine va_get (D := D) (ci := 1) (v := .ref (a 1)) (C := RX1) (T := TX1) (N := 6) hx hb hts inRX1 hown hK hP 0 rfl rfl 0 (by decide) qf9 (fun _ h9 => h9) rfl dX1_countEarlyTry_37 ?_
    refine lv_iconst (v := jI 4) hx hb dX1_countEarlyTry_40 rfl ?_
    refine lv_aload_n hx hb dX1_countEarlyTry_41 rfl (lv_at hl 0 rfl) ?_
    refine va_get (D := D) (ci := 1) (v := .ref (a 1)) (C := RX1) (T := TX1) (N := 6) hx hb hts inRX1 hown hK hP 0 rfl rfl 0 (by decide) qf9 (fun _ h9 => h9) rfl dX1_countEarlyTry_42 ?_
    refine lv_iconst (v := jI 0) hx hb dX1_countEarlyTry_45 rfl ?_
    refine x_iald hx hb hK hP 1 0 rfl rfl 0 rfl (by decide) (by decide) dX1_countEarlyTry_46 ?_
    rw [show (upz (upz f 5 ((f 5) + 1)) 3 ((f 3) + 1)) 0 = (upz f 5 ((f 5) + 1)) 0 from upz_n (by omega)]
    rw [show (upz f 5 ((f 5) + 1)) 0 = f 0 from upz_n (by omega)]
    refine lv_aload_n hx hb dX1_countEarlyTry_47 rfl (lv_at hl 0 rfl) ?_
    refine va_get (D := D) (ci := 1) (v := .ref (a 1)) (C := RX1) (T := TX1) (N := 6) hx hb hts inRX1 hown hK hP 0 rfl rfl 0 (by decide) qf9 (fun _ h9 => h9) rfl dX1_countEarlyTry_48 ?_
    refine lv_bipush (v := jI 12) hx hb dX1_countEarlyTry_51 (by decide) ?_
    refine x_iald hx hb hK hP 1 0 rfl rfl 12 rfl (by decide) (by decide) dX1_countEarlyTry_53 ?_
    rw [show (upz (upz f 5 ((f 5) + 1)) 3 ((f 3) + 1)) 12 = (upz f 5 ((f 5) + 1)) 12 from upz_n (by omega)]
    rw [show (upz f 5 ((f 5) + 1)) 12 = f 12 from upz_n (by omega)]
    refine x_iadd hx hb dX1_countEarlyTry_54 ?_
    refine x_iast (w1 := (w1 cI a (upz (upz (upz f 5 ((f 5) + 1)) 3 ((f 3) + 1)) 4 ((f 0) + (f 12))) g n b len kd sg nb pt)) hx hb hK hP hD hS 1 0 rfl rfl 4 rfl (by decide) (by decide) dX1_countEarlyTry_55 rfl (fun H locs hP hD hS => ?_)
    refine lv_aload_n hx hb dX1_countEarlyTry_56 rfl (lv_at hl 0 rfl) ?_
    refine va_get (D := D) (ci := 1) (v := .ref (a 1)) (C := RX1) (T := TX1) (N := 6) hx hb hts inRX1 hown hK hP 0 rfl rfl 0 (by decide) qf9 (fun _ h9 => h9) rfl dX1_countEarlyTry_57 ?_
    refine lv_iconst (v := jI 3) hx hb dX1_countEarlyTry_60 rfl ?_
    refine lv_iconst (v := jI 0) hx hb dX1_countEarlyTry_61 rfl ?_
    refine x_iast (w1 := (w1 cI a (upz (upz (upz (upz f 5 ((f 5) + 1)) 3 ((f 3) + 1)) 4 ((f 0) + (f 12))) 3 0) g n b len kd sg nb pt)) hx hb hK hP hD hS 1 0 rfl rfl 3 rfl (by decide) (by decide) dX1_countEarlyTry_62 rfl (fun H locs hP hD hS => ?_)
    subst hz
    exact xi_v hx hb hr hlocks hK hP hD hS rfl dX1_countEarlyTry_63
def s_X1_countOpening (f : Nat → Int) (x1 : Int) : (Nat → Int) := if x1 ≤ 0 then (if 0 ≤ x1 then (upz (upz f 6 ((f 6) + 1)) 7 ((f 7) + 1)) else (upz (upz f 6 ((f 6) + 1)) 9 ((f 9) + 1))) else (upz (upz f 6 ((f 6) + 1)) 8 ((f 8) + 1))
abbrev rm_X1_countOpening : Room := { frames := 0, cells := 0, slots := 0, locals := 0 }
set_option maxHeartbeats 4000000 in
set_option maxRecDepth 100000 in
theorem m_X1_countOpening (l : Launch) (D : va_G) (cI : ClassId) (a : Nat → Nat) (f : Nat → Int) (g : Nat → Int) (n : Nat) (b : Nat → Int) (len : Nat) (kd : Nat → Int) (sg : Nat → Int) (nb : Nat → Int) (pt : Nat) (x1 : Int) (hx1 : -2147483648 ≤ x1 ∧ x1 < 2147483648) : MetV l yX1_countOpening wsX1_countOpening rm_X1_countOpening D cI [.ref (a 0), .int (jI x1)] (w1 cI a f g n b len kd sg nb pt) (w1 cI a (s_X1_countOpening f x1) g n b len kd sg nb pt) := by
  refine xe_V (cc := cX1_countOpening) (maxL := 2) (ret := none) (by decide) rfl (Nat.le_of_ble_eq_true rfl) ?_
  intro p e s m below meth c hx hb hr hml hts hown hlocks hP hK A hA hD hS ls hl
  have hl : lv_has ls 2 [(0, .ref (a 0)), (1, .int (jI x1))] := hl
  have hown : s.vm.findClass RX1 = some m.cls := hown
  have hSx : CallFix p m c cX1_countOpening 2 s ([.ref (a 0), .int (jI x1)] : List Value).toArray wsX1_countOpening RX1 := ⟨hx, hb, hml, hown, hts⟩
  have inRX1 : ∀ w ∈ u_ws RX1 TX1 6, w ∈ wsX1_countOpening := by decide +kernel
  have qf9 := hts (.fieldLink RX1 9 "VaultMovements" "now" "[I") (by decide +kernel)
  obtain ⟨z, hz⟩ : ∃ z, z = (s_X1_countOpening f x1) := ⟨_, rfl⟩
  rw [← hz]
  unfold s_X1_countOpening at hz
  refine lv_aload_n hx hb dX1_countOpening_0 rfl (lv_at hl 0 rfl) ?_
  refine va_get (D := D) (ci := 1) (v := .ref (a 1)) (C := RX1) (T := TX1) (N := 6) hx hb hts inRX1 hown hK hP 0 rfl rfl 0 (by decide) qf9 (fun _ h9 => h9) rfl dX1_countOpening_1 ?_
  refine lv_bipush (v := jI 6) hx hb dX1_countOpening_4 (by decide) ?_
  refine lv_dup2_11 hx hb dX1_countOpening_6 rfl rfl ?_
  refine x_iald hx hb hK hP 1 0 rfl rfl 6 rfl (by decide) (by decide) dX1_countOpening_7 ?_
  refine lv_iconst (v := jI 1) hx hb dX1_countOpening_8 rfl ?_
  refine x_iadd hx hb dX1_countOpening_9 ?_
  refine x_iast (w1 := (w1 cI a (upz f 6 ((f 6) + 1)) g n b len kd sg nb pt)) hx hb hK hP hD hS 1 0 rfl rfl 6 rfl (by decide) (by decide) dX1_countOpening_10 rfl (fun H locs hP hD hS => ?_)
  refine lv_iload_n hx hb dX1_countOpening_11 rfl (lv_at hl 1 rfl) ?_
  refine x_if_le (tgt := 29) hx hb dX1_countOpening_12 (by decide) (by omega) (fun c12 => ?_) (fun c12 => ?_)
  · rw [if_pos c12] at hz
    refine lv_iload_n hx hb dX1_countOpening_29 rfl (lv_at hl 1 rfl) ?_
    refine x_if_ge (tgt := 47) hx hb dX1_countOpening_30 (by decide) (by omega) (fun c30 => ?_) (fun c30 => ?_)
    · rw [if_pos c30] at hz
      refine lv_aload_n hx hb dX1_countOpening_47 rfl (lv_at hl 0 rfl) ?_
      refine va_get (D := D) (ci := 1) (v := .ref (a 1)) (C := RX1) (T := TX1) (N := 6) hx hb hts inRX1 hown hK hP 0 rfl rfl 0 (by decide) qf9 (fun _ h9 => h9) rfl dX1_countOpening_48 ?_
      refine lv_bipush (v := jI 7) hx hb dX1_countOpening_51 (by decide) ?_
      refine lv_dup2_11 hx hb dX1_countOpening_53 rfl rfl ?_
      refine x_iald hx hb hK hP 1 0 rfl rfl 7 rfl (by decide) (by decide) dX1_countOpening_54 ?_
      rw [show (upz f 6 ((f 6) + 1)) 7 = f 7 from upz_n (by omega)]
      refine lv_iconst (v := jI 1) hx hb dX1_countOpening_55 rfl ?_
      refine x_iadd hx hb dX1_countOpening_56 ?_
      refine x_iast (w1 := (w1 cI a (upz (upz f 6 ((f 6) + 1)) 7 ((f 7) + 1)) g n b len kd sg nb pt)) hx hb hK hP hD hS 1 0 rfl rfl 7 rfl (by decide) (by decide) dX1_countOpening_57 rfl (fun H locs hP hD hS => ?_)
      subst hz
      exact xi_v hx hb hr hlocks hK hP hD hS rfl dX1_countOpening_58
    · rw [if_neg c30] at hz
      refine lv_aload_n hx hb dX1_countOpening_33 rfl (lv_at hl 0 rfl) ?_
      refine va_get (D := D) (ci := 1) (v := .ref (a 1)) (C := RX1) (T := TX1) (N := 6) hx hb hts inRX1 hown hK hP 0 rfl rfl 0 (by decide) qf9 (fun _ h9 => h9) rfl dX1_countOpening_34 ?_
      refine lv_bipush (v := jI 9) hx hb dX1_countOpening_37 (by decide) ?_
      refine lv_dup2_11 hx hb dX1_countOpening_39 rfl rfl ?_
      refine x_iald hx hb hK hP 1 0 rfl rfl 9 rfl (by decide) (by decide) dX1_countOpening_40 ?_
      rw [show (upz f 6 ((f 6) + 1)) 9 = f 9 from upz_n (by omega)]
      refine lv_iconst (v := jI 1) hx hb dX1_countOpening_41 rfl ?_
      refine x_iadd hx hb dX1_countOpening_42 ?_
      refine x_iast (w1 := (w1 cI a (upz (upz f 6 ((f 6) + 1)) 9 ((f 9) + 1)) g n b len kd sg nb pt)) hx hb hK hP hD hS 1 0 rfl rfl 9 rfl (by decide) (by decide) dX1_countOpening_43 rfl (fun H locs hP hD hS => ?_)
      refine lv_goto (tgt := 58) hx hb dX1_countOpening_44 (by decide) ?_
      subst hz
      exact xi_v hx hb hr hlocks hK hP hD hS rfl dX1_countOpening_58
  · rw [if_neg c12] at hz
    refine lv_aload_n hx hb dX1_countOpening_15 rfl (lv_at hl 0 rfl) ?_
    refine va_get (D := D) (ci := 1) (v := .ref (a 1)) (C := RX1) (T := TX1) (N := 6) hx hb hts inRX1 hown hK hP 0 rfl rfl 0 (by decide) qf9 (fun _ h9 => h9) rfl dX1_countOpening_16 ?_
    refine lv_bipush (v := jI 8) hx hb dX1_countOpening_19 (by decide) ?_
    refine lv_dup2_11 hx hb dX1_countOpening_21 rfl rfl ?_
    refine x_iald hx hb hK hP 1 0 rfl rfl 8 rfl (by decide) (by decide) dX1_countOpening_22 ?_
    rw [show (upz f 6 ((f 6) + 1)) 8 = f 8 from upz_n (by omega)]
    refine lv_iconst (v := jI 1) hx hb dX1_countOpening_23 rfl ?_
    refine x_iadd hx hb dX1_countOpening_24 ?_
    refine x_iast (w1 := (w1 cI a (upz (upz f 6 ((f 6) + 1)) 8 ((f 8) + 1)) g n b len kd sg nb pt)) hx hb hK hP hD hS 1 0 rfl rfl 8 rfl (by decide) (by decide) dX1_countOpening_25 rfl (fun H locs hP hD hS => ?_)
    refine lv_goto (tgt := 58) hx hb dX1_countOpening_26 (by decide) ?_
    subst hz
    exact xi_v hx hb hr hlocks hK hP hD hS rfl dX1_countOpening_58
def s_X1_leaveOpen (f : Nat → Int) : (Nat → Int) := (upz (upz (upz (upz f 1 0) 2 (-1)) 3 0) 4 0)
abbrev rm_X1_leaveOpen : Room := { frames := 0, cells := 0, slots := 0, locals := 0 }
set_option maxHeartbeats 4000000 in
set_option maxRecDepth 100000 in
theorem m_X1_leaveOpen (l : Launch) (D : va_G) (cI : ClassId) (a : Nat → Nat) (f : Nat → Int) (g : Nat → Int) (n : Nat) (b : Nat → Int) (len : Nat) (kd : Nat → Int) (sg : Nat → Int) (nb : Nat → Int) (pt : Nat) : MetV l yX1_leaveOpen wsX1_leaveOpen rm_X1_leaveOpen D cI [.ref (a 0)] (w1 cI a f g n b len kd sg nb pt) (w1 cI a (s_X1_leaveOpen f) g n b len kd sg nb pt) := by
  refine xe_V (cc := cX1_leaveOpen) (maxL := 1) (ret := none) (by decide) rfl (Nat.le_of_ble_eq_true rfl) ?_
  intro p e s m below meth c hx hb hr hml hts hown hlocks hP hK A hA hD hS ls hl
  have hl : lv_has ls 1 [(0, .ref (a 0))] := hl
  have hown : s.vm.findClass RX1 = some m.cls := hown
  have hSx : CallFix p m c cX1_leaveOpen 1 s ([.ref (a 0)] : List Value).toArray wsX1_leaveOpen RX1 := ⟨hx, hb, hml, hown, hts⟩
  have inRX1 : ∀ w ∈ u_ws RX1 TX1 6, w ∈ wsX1_leaveOpen := by decide +kernel
  have qf9 := hts (.fieldLink RX1 9 "VaultMovements" "now" "[I") (by decide +kernel)
  obtain ⟨z, hz⟩ : ∃ z, z = (s_X1_leaveOpen f) := ⟨_, rfl⟩
  rw [← hz]
  unfold s_X1_leaveOpen at hz
  refine lv_aload_n hx hb dX1_leaveOpen_0 rfl (lv_at hl 0 rfl) ?_
  refine va_get (D := D) (ci := 1) (v := .ref (a 1)) (C := RX1) (T := TX1) (N := 6) hx hb hts inRX1 hown hK hP 0 rfl rfl 0 (by decide) qf9 (fun _ h9 => h9) rfl dX1_leaveOpen_1 ?_
  refine lv_iconst (v := jI 1) hx hb dX1_leaveOpen_4 rfl ?_
  refine lv_iconst (v := jI 0) hx hb dX1_leaveOpen_5 rfl ?_
  refine x_iast (w1 := (w1 cI a (upz f 1 0) g n b len kd sg nb pt)) hx hb hK hP hD hS 1 0 rfl rfl 1 rfl (by decide) (by decide) dX1_leaveOpen_6 rfl (fun H locs hP hD hS => ?_)
  refine lv_aload_n hx hb dX1_leaveOpen_7 rfl (lv_at hl 0 rfl) ?_
  refine va_get (D := D) (ci := 1) (v := .ref (a 1)) (C := RX1) (T := TX1) (N := 6) hx hb hts inRX1 hown hK hP 0 rfl rfl 0 (by decide) qf9 (fun _ h9 => h9) rfl dX1_leaveOpen_8 ?_
  refine lv_iconst (v := jI 2) hx hb dX1_leaveOpen_11 rfl ?_
  refine lv_iconst (v := jI (-1)) hx hb dX1_leaveOpen_12 rfl ?_
  refine x_iast (w1 := (w1 cI a (upz (upz f 1 0) 2 (-1)) g n b len kd sg nb pt)) hx hb hK hP hD hS 1 0 rfl rfl 2 rfl (by decide) (by decide) dX1_leaveOpen_13 rfl (fun H locs hP hD hS => ?_)
  refine lv_aload_n hx hb dX1_leaveOpen_14 rfl (lv_at hl 0 rfl) ?_
  refine va_get (D := D) (ci := 1) (v := .ref (a 1)) (C := RX1) (T := TX1) (N := 6) hx hb hts inRX1 hown hK hP 0 rfl rfl 0 (by decide) qf9 (fun _ h9 => h9) rfl dX1_leaveOpen_15 ?_
  refine lv_iconst (v := jI 3) hx hb dX1_leaveOpen_18 rfl ?_
  refine lv_iconst (v := jI 0) hx hb dX1_leaveOpen_19 rfl ?_
  refine x_iast (w1 := (w1 cI a (upz (upz (upz f 1 0) 2 (-1)) 3 0) g n b len kd sg nb pt)) hx hb hK hP hD hS 1 0 rfl rfl 3 rfl (by decide) (by decide) dX1_leaveOpen_20 rfl (fun H locs hP hD hS => ?_)
  refine lv_aload_n hx hb dX1_leaveOpen_21 rfl (lv_at hl 0 rfl) ?_
  refine va_get (D := D) (ci := 1) (v := .ref (a 1)) (C := RX1) (T := TX1) (N := 6) hx hb hts inRX1 hown hK hP 0 rfl rfl 0 (by decide) qf9 (fun _ h9 => h9) rfl dX1_leaveOpen_22 ?_
  refine lv_iconst (v := jI 4) hx hb dX1_leaveOpen_25 rfl ?_
  refine lv_iconst (v := jI 0) hx hb dX1_leaveOpen_26 rfl ?_
  refine x_iast (w1 := (w1 cI a (upz (upz (upz (upz f 1 0) 2 (-1)) 3 0) 4 0) g n b len kd sg nb pt)) hx hb hK hP hD hS 1 0 rfl rfl 4 rfl (by decide) (by decide) dX1_leaveOpen_27 rfl (fun H locs hP hD hS => ?_)
  subst hz
  exact xi_v hx hb hr hlocks hK hP hD hS rfl dX1_leaveOpen_28
def s_X1_clearBuffer (len : Nat) : Int × Nat := ((len : Int), 0)
abbrev rm_X1_clearBuffer : Room := { frames := 0, cells := 0, slots := 0, locals := 0 }
abbrev rm_X1_firstError : Room := { frames := 4, cells := 0, slots := 0, locals := 82 }
