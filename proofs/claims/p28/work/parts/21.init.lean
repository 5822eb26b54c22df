/-! the constructors -/
abbrev rm_X0_init : Room := { frames := 1, cells := 3, slots := 9, locals := 12 }
set_option maxHeartbeats 8000000 in
set_option maxRecDepth 100000 in
theorem m_X0_init (l : Launch) (D : va_G) (cI : ClassId) (h0 : Nat) : MetN noenv l yX0_init wsX0_init rm_X0_init D cI h0 [(h0, .inr (0, [.null, .null, .null, .int (jI 0)]))] (fun a => [(a 0, .inr (0, [.ref (a 1), .ref (a 2), .ref (a 3), .int (jI 0)])), (a 1, .inl (cI, 3, .inl (jA (fun _ => 0)))), (a 2, .inl (cI, 3, .inl (jA (fun _ => 0)))), (a 3, .inl (cI, 3, .inl (jA (fun _ => 0))))]) 3 9 := by
  refine xe_N (cc := cX0_init) (maxL := 1) (ret := none) (by decide) rfl (by decide) rfl ?_
  intro p e s m below meth c hx hb hr hml hts hown hlocks hin hP hK A hA hD hS hE ls hl
  have hown : s.vm.findClass RX0 = some m.cls := hown
  have inRX0 : ∀ w ∈ u_ws RX0 TX0 4, w ∈ wsX0_init := by decide +kernel
  have qarr := hts (.arrayClass .int) (by decide +kernel)
  have qoL := hts (.methodLink RX0 3 objectInit) (by decide +kernel)
  have qoI := hts (.instanceMethod objectInit) (by decide +kernel)
  have qf9 := hts (.fieldLink RX0 9 "VaultMovements$Windings" "kinds" "[I") (by decide +kernel)
  have qf15 := hts (.fieldLink RX0 15 "VaultMovements$Windings" "signs" "[I") (by decide +kernel)
  have qf18 := hts (.fieldLink RX0 18 "VaultMovements$Windings" "numbers" "[I") (by decide +kernel)
  have qf21 := hts (.fieldLink RX0 21 "VaultMovements$Windings" "part" "I") (by decide +kernel)
  refine lv_aload_n hx hb dX0_init_0 rfl (lv_at hl 0 rfl) ?_
  refine W.objInit hx hb hown qoL qoI (hts _ (List.mem_cons_of_mem _ (List.mem_append_left _ (List.mem_of_getElem? (i := 2) rfl)))) rfl (by rw [hml]; exact hl.1) rfl dX0_init_1 (Nat.le_of_ble_eq_true rfl) (Nat.le_of_ble_eq_true rfl) ?_
  refine W.eq (g2 := F0 m 4 ls []) rfl ?_
  refine lv_aload_n hx hb dX0_init_4 rfl (lv_at hl 0 rfl) ?_
  refine lv_iconst (v := jI 3) hx hb dX0_init_5 rfl ?_
  refine x_newa hx hb qarr hK hP hD hS hA 3 rfl (by decide) (Nat.le_of_ble_eq_true rfl) (Nat.le_of_ble_eq_true rfl) dX0_init_6 (fun q1 H hP hD hS => ?_)
  have hP : va_P D vwCl [(h0, .inr (0, [.null, .null, .null, .int (jI 0)])), (q1, .inl (cI, 3, .inl (jA (fun _ => 0))))] H := hP
  have hD : va_D A [(h0, .inr (0, [.null, .null, .null, .int (jI 0)])), (q1, .inl (cI, 3, .inl (jA (fun _ => 0))))] := hD
  refine va_putF (D := D) (ci := 0) (v := .ref q1) (ty := tyX0 0) (C := RX0) (T := TX0) (N := 4) hx hb hts inRX0 tyX0 tyX0_ok nmX0 hown hK hP hD hS 0 rfl rfl 0 (by decide) qf9 (fun _ h9 => h9) rfl hin rfl (tyX0_ok 0 (by decide)) rfl rfl (Nat.le_of_ble_eq_true rfl) dX0_init_8 (fun H locs hP hD hS => ?_)
  have hP : va_P D vwCl [(h0, .inr (0, [.ref q1, .null, .null, .int (jI 0)])), (q1, .inl (cI, 3, .inl (jA (fun _ => 0))))] H := hP
  have hD : va_D A [(h0, .inr (0, [.ref q1, .null, .null, .int (jI 0)])), (q1, .inl (cI, 3, .inl (jA (fun _ => 0))))] := hD
  refine lv_aload_n hx hb dX0_init_11 rfl (lv_at hl 0 rfl) ?_
  refine lv_iconst (v := jI 3) hx hb dX0_init_12 rfl ?_
  refine x_newa hx hb qarr hK hP hD hS hA 3 rfl (by decide) (Nat.le_of_ble_eq_true rfl) (Nat.le_of_ble_eq_true rfl) dX0_init_13 (fun q2 H hP hD hS => ?_)
  have hP : va_P D vwCl [(h0, .inr (0, [.ref q1, .null, .null, .int (jI 0)])), (q1, .inl (cI, 3, .inl (jA (fun _ => 0)))), (q2, .inl (cI, 3, .inl (jA (fun _ => 0))))] H := hP
  have hD : va_D A [(h0, .inr (0, [.ref q1, .null, .null, .int (jI 0)])), (q1, .inl (cI, 3, .inl (jA (fun _ => 0)))), (q2, .inl (cI, 3, .inl (jA (fun _ => 0))))] := hD
  refine va_putF (D := D) (ci := 0) (v := .ref q2) (ty := tyX0 1) (C := RX0) (T := TX0) (N := 4) hx hb hts inRX0 tyX0 tyX0_ok nmX0 hown hK hP hD hS 0 rfl rfl 1 (by decide) qf15 (fun _ h9 => h9) rfl hin rfl (tyX0_ok 1 (by decide)) rfl rfl (Nat.le_of_ble_eq_true rfl) dX0_init_15 (fun H locs hP hD hS => ?_)
  have hP : va_P D vwCl [(h0, .inr (0, [.ref q1, .ref q2, .null, .int (jI 0)])), (q1, .inl (cI, 3, .inl (jA (fun _ => 0)))), (q2, .inl (cI, 3, .inl (jA (fun _ => 0))))] H := hP
  have hD : va_D A [(h0, .inr (0, [.ref q1, .ref q2, .null, .int (jI 0)])), (q1, .inl (cI, 3, .inl (jA (fun _ => 0)))), (q2, .inl (cI, 3, .inl (jA (fun _ => 0))))] := hD
  refine lv_aload_n hx hb dX0_init_18 rfl (lv_at hl 0 rfl) ?_
  refine lv_iconst (v := jI 3) hx hb dX0_init_19 rfl ?_
  refine x_newa hx hb qarr hK hP hD hS hA 3 rfl (by decide) (Nat.le_of_ble_eq_true rfl) (Nat.le_of_ble_eq_true rfl) dX0_init_20 (fun q3 H hP hD hS => ?_)
  have hP : va_P D vwCl [(h0, .inr (0, [.ref q1, .ref q2, .null, .int (jI 0)])), (q1, .inl (cI, 3, .inl (jA (fun _ => 0)))), (q2, .inl (cI, 3, .inl (jA (fun _ => 0)))), (q3, .inl (cI, 3, .inl (jA (fun _ => 0))))] H := hP
  have hD : va_D A [(h0, .inr (0, [.ref q1, .ref q2, .null, .int (jI 0)])), (q1, .inl (cI, 3, .inl (jA (fun _ => 0)))), (q2, .inl (cI, 3, .inl (jA (fun _ => 0)))), (q3, .inl (cI, 3, .inl (jA (fun _ => 0))))] := hD
  refine va_putF (D := D) (ci := 0) (v := .ref q3) (ty := tyX0 2) (C := RX0) (T := TX0) (N := 4) hx hb hts inRX0 tyX0 tyX0_ok nmX0 hown hK hP hD hS 0 rfl rfl 2 (by decide) qf18 (fun _ h9 => h9) rfl hin rfl (tyX0_ok 2 (by decide)) rfl rfl (Nat.le_of_ble_eq_true rfl) dX0_init_22 (fun H locs hP hD hS => ?_)
  have hP : va_P D vwCl [(h0, .inr (0, [.ref q1, .ref q2, .ref q3, .int (jI 0)])), (q1, .inl (cI, 3, .inl (jA (fun _ => 0)))), (q2, .inl (cI, 3, .inl (jA (fun _ => 0)))), (q3, .inl (cI, 3, .inl (jA (fun _ => 0))))] H := hP
  have hD : va_D A [(h0, .inr (0, [.ref q1, .ref q2, .ref q3, .int (jI 0)])), (q1, .inl (cI, 3, .inl (jA (fun _ => 0)))), (q2, .inl (cI, 3, .inl (jA (fun _ => 0)))), (q3, .inl (cI, 3, .inl (jA (fun _ => 0))))] := hD
  refine lv_aload_n hx hb dX0_init_25 rfl (lv_at hl 0 rfl) ?_
  refine lv_iconst (v := jI 0) hx hb dX0_init_26 rfl ?_
  refine va_put (D := D) (ci := 0) (v := .int (jI 0)) (ty := .int) (C := RX0) (T := TX0) (N := 4) hx hb hts inRX0 tyX0 tyX0_ok nmX0 hown hK hP hD hS 0 rfl rfl 3 (by decide) qf21 (fun _ h9 => h9) rfl (by decide +kernel) rfl rfl (Nat.le_of_ble_eq_true rfl) dX0_init_27 (fun H locs hP hD hS => ?_)
  have hP : va_P D vwCl [(h0, .inr (0, [.ref q1, .ref q2, .ref q3, .int (jI 0)])), (q1, .inl (cI, 3, .inl (jA (fun _ => 0)))), (q2, .inl (cI, 3, .inl (jA (fun _ => 0)))), (q3, .inl (cI, 3, .inl (jA (fun _ => 0))))] H := hP
  have hD : va_D A [(h0, .inr (0, [.ref q1, .ref q2, .ref q3, .int (jI 0)])), (q1, .inl (cI, 3, .inl (jA (fun _ => 0)))), (q2, .inl (cI, 3, .inl (jA (fun _ => 0)))), (q3, .inl (cI, 3, .inl (jA (fun _ => 0))))] := hD
  exact xn_v (fun k => [h0, q1, q2, q3].getD k 0) hx hb hr hlocks hP hD hS rfl rfl dX0_init_30
abbrev F1_0 : Nat → Int := (upz (upz (upz (upz (upz (upz (upz (upz (upz (upz (upz (upz (upz (upz (fun _ => 0) 2 (-1)) 11 (xfirst 0)) 12 (xfirst 1)) 13 (xfirst 2)) 14 8) 15 8) 16 8) 17 8) 18 8) 19 (-1)) 20 (-1)) 22 1) 26 1) 30 1)
abbrev F2_0 : Nat → Int := (upz (upz (upz (upz (upz (upz (upz (upz (upz (upz (upz (upz (upz (upz (fun _ => 0) 1 8) 2 8) 3 8) 4 8) 5 8) 6 (-1)) 7 (-1)) 8 3) 9 2) 10 500) 12 (-1)) 22 1) 26 1) 30 1)
abbrev rm_X1_init : Room := { frames := 2, cells := 7, slots := 304, locals := 32 }
set_option maxHeartbeats 8000000 in
set_option maxRecDepth 100000 in
theorem m_X1_init (l : Launch) (D : va_G) (cI : ClassId) (h0 : Nat) : MetN yenv l yX1_init wsX1_init rm_X1_init D cI h0 [(h0, .inr (1, [.null, .null, .int (jI 0), .null, .int (jI 0), .null]))] (fun a => w1 cI a F1_0 (fun _ => 0) 0 (fun _ => 0) 0 (fun _ => 0) (fun _ => 0) (fun _ => 0) 0) 7 304 := by
  refine xe_N (cc := cX1_init) (maxL := 2) (ret := none) (by decide) rfl (by decide) rfl ?_
  intro p e s m below meth c hx hb hr hml hts hown hlocks hin hP hK A hA hD hS hE ls hl
  have hown : s.vm.findClass RX1 = some m.cls := hown
  have inRX1 : ∀ w ∈ u_ws RX1 TX1 6, w ∈ wsX1_init := by decide +kernel
  have inRX0 : ∀ w ∈ u_ws RX0 TX0 4, w ∈ wsX1_init := by decide +kernel
  obtain ⟨tl, hZ, hT⟩ := hE.2
  have qarr := hts (.arrayClass .int) (by decide +kernel)
  have qoL := hts (.methodLink RX1 3 objectInit) (by decide +kernel)
  have qoI := hts (.instanceMethod objectInit) (by decide +kernel)
  have qf9 := hts (.fieldLink RX1 9 "VaultMovements" "now" "[I") (by decide +kernel)
  have qf13 := hts (.fieldLink RX1 13 "VaultMovements" "saved" "[I") (by decide +kernel)
  have qf16 := hts (.fieldLink RX1 16 "VaultMovements" "savedStates" "I") (by decide +kernel)
  have qf20 := hts (.fieldLink RX1 20 "VaultMovements" "buffer" "[I") (by decide +kernel)
  have qf23 := hts (.fieldLink RX1 23 "VaultMovements" "length" "I") (by decide +kernel)
  have qc26 := hts (.classLink RX1 26 RX0) (by decide +kernel)
  have qi26 := hts (.instantiable RX0 4) (by decide +kernel)
  have qn26 := hts (.initialized RX0) (by decide +kernel)
  have qyI := hts (.instanceMethod yX0_init) (by decide +kernel)
  have qf29 := hts (.fieldLink RX1 29 "VaultMovements" "windings" "LVaultMovements$Windings;") (by decide +kernel)
  have qf33 := hts (.fieldLink RX1 33 "VaultMovements" "SETTING_AT_FIRST" "[I") (by decide +kernel)
  refine lv_aload_n hx hb dX1_init_0 rfl (lv_at hl 0 rfl) ?_
  refine W.objInit hx hb hown qoL qoI (hts _ (List.mem_cons_of_mem _ (List.mem_append_left _ (List.mem_append_left _ (List.mem_of_getElem? (i := 2) rfl))))) rfl (by rw [hml]; exact hl.1) rfl dX1_init_1 (Nat.le_of_ble_eq_true rfl) (Nat.le_of_ble_eq_true rfl) ?_
  refine W.eq (g2 := F0 m 4 ls []) rfl ?_
  refine lv_aload_n hx hb dX1_init_4 rfl (lv_at hl 0 rfl) ?_
  refine lv_bipush (v := jI 33) hx hb dX1_init_5 (by decide) ?_
  refine x_newa hx hb qarr hK hP hD hS hA 33 rfl (by decide) (Nat.le_of_ble_eq_true rfl) (Nat.le_of_ble_eq_true rfl) dX1_init_7 (fun q1 H hP hD hS => ?_)
  have hP : va_P D vwCl [(h0, .inr (1, [.null, .null, .int (jI 0), .null, .int (jI 0), .null])), (q1, .inl (cI, 33, .inl (jA (fun _ => 0))))] H := hP
  have hD : va_D A [(h0, .inr (1, [.null, .null, .int (jI 0), .null, .int (jI 0), .null])), (q1, .inl (cI, 33, .inl (jA (fun _ => 0))))] := hD
  refine va_putF (D := D) (ci := 1) (v := .ref q1) (ty := tyX1 0) (C := RX1) (T := TX1) (N := 6) hx hb hts inRX1 tyX1 tyX1_ok nmX1 hown hK hP hD hS 0 rfl rfl 0 (by decide) qf9 (fun _ h9 => h9) rfl hin rfl (tyX1_ok 0 (by decide)) rfl rfl (Nat.le_of_ble_eq_true rfl) dX1_init_9 (fun H locs hP hD hS => ?_)
  have hP : va_P D vwCl [(h0, .inr (1, [.ref q1, .null, .int (jI 0), .null, .int (jI 0), .null])), (q1, .inl (cI, 33, .inl (jA (fun _ => 0))))] H := hP
  have hD : va_D A [(h0, .inr (1, [.ref q1, .null, .int (jI 0), .null, .int (jI 0), .null])), (q1, .inl (cI, 33, .inl (jA (fun _ => 0))))] := hD
  refine lv_aload_n hx hb dX1_init_12 rfl (lv_at hl 0 rfl) ?_
  refine lv_sipush (v := jI 198) hx hb dX1_init_13 (by decide) ?_
  refine x_newa hx hb qarr hK hP hD hS hA 198 rfl (by decide) (Nat.le_of_ble_eq_true rfl) (Nat.le_of_ble_eq_true rfl) dX1_init_16 (fun q2 H hP hD hS => ?_)
  have hP : va_P D vwCl [(h0, .inr (1, [.ref q1, .null, .int (jI 0), .null, .int (jI 0), .null])), (q1, .inl (cI, 33, .inl (jA (fun _ => 0)))), (q2, .inl (cI, 198, .inl (jA (fun _ => 0))))] H := hP
  have hD : va_D A [(h0, .inr (1, [.ref q1, .null, .int (jI 0), .null, .int (jI 0), .null])), (q1, .inl (cI, 33, .inl (jA (fun _ => 0)))), (q2, .inl (cI, 198, .inl (jA (fun _ => 0))))] := hD
  refine va_putF (D := D) (ci := 1) (v := .ref q2) (ty := tyX1 1) (C := RX1) (T := TX1) (N := 6) hx hb hts inRX1 tyX1 tyX1_ok nmX1 hown hK hP hD hS 0 rfl rfl 1 (by decide) qf13 (fun _ h9 => h9) rfl hin rfl (tyX1_ok 1 (by decide)) rfl rfl (Nat.le_of_ble_eq_true rfl) dX1_init_18 (fun H locs hP hD hS => ?_)
  have hP : va_P D vwCl [(h0, .inr (1, [.ref q1, .ref q2, .int (jI 0), .null, .int (jI 0), .null])), (q1, .inl (cI, 33, .inl (jA (fun _ => 0)))), (q2, .inl (cI, 198, .inl (jA (fun _ => 0))))] H := hP
  have hD : va_D A [(h0, .inr (1, [.ref q1, .ref q2, .int (jI 0), .null, .int (jI 0), .null])), (q1, .inl (cI, 33, .inl (jA (fun _ => 0)))), (q2, .inl (cI, 198, .inl (jA (fun _ => 0))))] := hD
  refine lv_aload_n hx hb dX1_init_21 rfl (lv_at hl 0 rfl) ?_
  refine lv_iconst (v := jI 0) hx hb dX1_init_22 rfl ?_
  refine va_put (D := D) (ci := 1) (v := .int (jI 0)) (ty := .int) (C := RX1) (T := TX1) (N := 6) hx hb hts inRX1 tyX1 tyX1_ok nmX1 hown hK hP hD hS 0 rfl rfl 2 (by decide) qf16 (fun _ h9 => h9) rfl (by decide +kernel) rfl rfl (Nat.le_of_ble_eq_true rfl) dX1_init_23 (fun H locs hP hD hS => ?_)
  have hP : va_P D vwCl [(h0, .inr (1, [.ref q1, .ref q2, .int (jI 0), .null, .int (jI 0), .null])), (q1, .inl (cI, 33, .inl (jA (fun _ => 0)))), (q2, .inl (cI, 198, .inl (jA (fun _ => 0))))] H := hP
  have hD : va_D A [(h0, .inr (1, [.ref q1, .ref q2, .int (jI 0), .null, .int (jI 0), .null])), (q1, .inl (cI, 33, .inl (jA (fun _ => 0)))), (q2, .inl (cI, 198, .inl (jA (fun _ => 0))))] := hD
  refine lv_aload_n hx hb dX1_init_26 rfl (lv_at hl 0 rfl) ?_
  refine lv_bipush (v := jI 60) hx hb dX1_init_27 (by decide) ?_
  refine x_newa hx hb qarr hK hP hD hS hA 60 rfl (by decide) (Nat.le_of_ble_eq_true rfl) (Nat.le_of_ble_eq_true rfl) dX1_init_29 (fun q3 H hP hD hS => ?_)
  have hP : va_P D vwCl [(h0, .inr (1, [.ref q1, .ref q2, .int (jI 0), .null, .int (jI 0), .null])), (q1, .inl (cI, 33, .inl (jA (fun _ => 0)))), (q2, .inl (cI, 198, .inl (jA (fun _ => 0)))), (q3, .inl (cI, 60, .inl (jA (fun _ => 0))))] H := hP
  have hD : va_D A [(h0, .inr (1, [.ref q1, .ref q2, .int (jI 0), .null, .int (jI 0), .null])), (q1, .inl (cI, 33, .inl (jA (fun _ => 0)))), (q2, .inl (cI, 198, .inl (jA (fun _ => 0)))), (q3, .inl (cI, 60, .inl (jA (fun _ => 0))))] := hD
  refine va_putF (D := D) (ci := 1) (v := .ref q3) (ty := tyX1 3) (C := RX1) (T := TX1) (N := 6) hx hb hts inRX1 tyX1 tyX1_ok nmX1 hown hK hP hD hS 0 rfl rfl 3 (by decide) qf20 (fun _ h9 => h9) rfl hin rfl (tyX1_ok 3 (by decide)) rfl rfl (Nat.le_of_ble_eq_true rfl) dX1_init_31 (fun H locs hP hD hS => ?_)
  have hP : va_P D vwCl [(h0, .inr (1, [.ref q1, .ref q2, .int (jI 0), .ref q3, .int (jI 0), .null])), (q1, .inl (cI, 33, .inl (jA (fun _ => 0)))), (q2, .inl (cI, 198, .inl (jA (fun _ => 0)))), (q3, .inl (cI, 60, .inl (jA (fun _ => 0))))] H := hP
  have hD : va_D A [(h0, .inr (1, [.ref q1, .ref q2, .int (jI 0), .ref q3, .int (jI 0), .null])), (q1, .inl (cI, 33, .inl (jA (fun _ => 0)))), (q2, .inl (cI, 198, .inl (jA (fun _ => 0)))), (q3, .inl (cI, 60, .inl (jA (fun _ => 0))))] := hD
  refine lv_aload_n hx hb dX1_init_34 rfl (lv_at hl 0 rfl) ?_
  refine lv_iconst (v := jI 0) hx hb dX1_init_35 rfl ?_
  refine va_put (D := D) (ci := 1) (v := .int (jI 0)) (ty := .int) (C := RX1) (T := TX1) (N := 6) hx hb hts inRX1 tyX1 tyX1_ok nmX1 hown hK hP hD hS 0 rfl rfl 4 (by decide) qf23 (fun _ h9 => h9) rfl (by decide +kernel) rfl rfl (Nat.le_of_ble_eq_true rfl) dX1_init_36 (fun H locs hP hD hS => ?_)
  have hP : va_P D vwCl [(h0, .inr (1, [.ref q1, .ref q2, .int (jI 0), .ref q3, .int (jI 0), .null])), (q1, .inl (cI, 33, .inl (jA (fun _ => 0)))), (q2, .inl (cI, 198, .inl (jA (fun _ => 0)))), (q3, .inl (cI, 60, .inl (jA (fun _ => 0))))] H := hP
  have hD : va_D A [(h0, .inr (1, [.ref q1, .ref q2, .int (jI 0), .ref q3, .int (jI 0), .null])), (q1, .inl (cI, 33, .inl (jA (fun _ => 0)))), (q2, .inl (cI, 198, .inl (jA (fun _ => 0)))), (q3, .inl (cI, 60, .inl (jA (fun _ => 0))))] := hD
  refine lv_aload_n hx hb dX1_init_39 rfl (lv_at hl 0 rfl) ?_
  refine va_new (ci := 0) (fs := [.null, .null, .null, .int (jI 0)]) (C := RX0) (T := TX0) (N := 4) hx hb hts inRX0 tyX0 tyX0_ok hown qc26 qi26 qn26 hK hP hD hS hA rfl (fun j hj => by rcases (show j = 0 ∨ j = 1 ∨ j = 2 ∨ j = 3 by omega) with rfl | rfl | rfl | rfl <;> rfl) (Nat.le_of_ble_eq_true rfl) (Nat.le_of_ble_eq_true rfl) dX1_init_40 (fun q4 H hP hD hS => ?_)
  have hP : va_P D vwCl [(h0, .inr (1, [.ref q1, .ref q2, .int (jI 0), .ref q3, .int (jI 0), .null])), (q1, .inl (cI, 33, .inl (jA (fun _ => 0)))), (q2, .inl (cI, 198, .inl (jA (fun _ => 0)))), (q3, .inl (cI, 60, .inl (jA (fun _ => 0)))), (q4, .inr (0, [.null, .null, .null, .int (jI 0)]))] H := hP
  have hD : va_D A [(h0, .inr (1, [.ref q1, .ref q2, .int (jI 0), .ref q3, .int (jI 0), .null])), (q1, .inl (cI, 33, .inl (jA (fun _ => 0)))), (q2, .inl (cI, 198, .inl (jA (fun _ => 0)))), (q3, .inl (cI, 60, .inl (jA (fun _ => 0)))), (q4, .inr (0, [.null, .null, .null, .int (jI 0)]))] := hD
  refine lv_dup hx hb dX1_init_43 rfl ?_
  have hPc := hP.sub (ws' := [(q4, .inr (0, [.null, .null, .null, .int (jI 0)]))]) [4] rfl
  have hDc := hD.sub (ws' := [(q4, .inr (0, [.null, .null, .null, .int (jI 0)]))]) [4] (by decide) rfl
  have hFc := va_free (wc := [(q4, .inr (0, [.null, .null, .null, .int (jI 0)]))]) hD hS hA [4] rfl
  refine va_callv (va_runIN (As := []) (rest := [.ref q4, .ref h0]) ⟨hx, hb, hml, hown, hts⟩ (m_X0_init l D cI q4 H.size) ⟨va_cnB 0 hts gX1_init_X0_init_n28 rfl rfl rfl hE.1 qn26 (by decide +kernel) ⟨Nat.le_of_ble_eq_true rfl, Nat.le_of_ble_eq_true rfl⟩, rfl, qyI⟩ ⟨xq_Nbl noenv_ok, fun U hU hW => ⟨rfl, by rw [hU], by rw [hU]; exact hPc, va_K.moved hW.alike hK, hDc.weaken (fun _ _ _ _ => trivial), trivial⟩⟩ rfl rfl hl.1 rfl (lv_room (Nat.le_of_ble_eq_true rfl)) dX1_init_44 ⟨Nat.le_of_ble_eq_true rfl, Nat.le_of_ble_eq_true rfl⟩) hS (fun q _ h => hFc q h) hFc (fun u t H1 locs ht hvm hw hB hz1 hk1 hS => ?_)
  obtain ⟨hP1, hD1⟩ := hB
  rw [ht] at hP1
  have hw : u 0 = q4 := hw
  subst hw
  obtain ⟨hP, hD⟩ := va_join (wr := [(h0, .inr (1, [.ref q1, .ref q2, .int (jI 0), .ref q3, .int (jI 0), .null])), (q1, .inl (cI, 33, .inl (jA (fun _ => 0)))), (q2, .inl (cI, 198, .inl (jA (fun _ => 0)))), (q3, .inl (cI, 60, .inl (jA (fun _ => 0))))]) (w1 := [(u 0, .inr (0, [.ref (u 1), .ref (u 2), .ref (u 3), .int (jI 0)])), (u 1, .inl (cI, 3, .inl (jA (fun _ => 0)))), (u 2, .inl (cI, 3, .inl (jA (fun _ => 0)))), (u 3, .inl (cI, 3, .inl (jA (fun _ => 0))))]) hP hD [4] [0, 1, 2, 3] rfl rfl (by decide) (by decide) hk1 hFc hP1 hD1
  generalize H1 = H at hP hS ⊢
  have hP : va_P D vwCl [(h0, .inr (1, [.ref q1, .ref q2, .int (jI 0), .ref q3, .int (jI 0), .null])), (q1, .inl (cI, 33, .inl (jA (fun _ => 0)))), (q2, .inl (cI, 198, .inl (jA (fun _ => 0)))), (q3, .inl (cI, 60, .inl (jA (fun _ => 0)))), (u 0, .inr (0, [.ref (u 1), .ref (u 2), .ref (u 3), .int (jI 0)])), (u 1, .inl (cI, 3, .inl (jA (fun _ => 0)))), (u 2, .inl (cI, 3, .inl (jA (fun _ => 0)))), (u 3, .inl (cI, 3, .inl (jA (fun _ => 0))))] H := hP
  have hD : va_D A [(h0, .inr (1, [.ref q1, .ref q2, .int (jI 0), .ref q3, .int (jI 0), .null])), (q1, .inl (cI, 33, .inl (jA (fun _ => 0)))), (q2, .inl (cI, 198, .inl (jA (fun _ => 0)))), (q3, .inl (cI, 60, .inl (jA (fun _ => 0)))), (u 0, .inr (0, [.ref (u 1), .ref (u 2), .ref (u 3), .int (jI 0)])), (u 1, .inl (cI, 3, .inl (jA (fun _ => 0)))), (u 2, .inl (cI, 3, .inl (jA (fun _ => 0)))), (u 3, .inl (cI, 3, .inl (jA (fun _ => 0))))] := hD
  refine va_putF (D := D) (ci := 1) (v := .ref (u 0)) (ty := tyX1 5) (C := RX1) (T := TX1) (N := 6) hx hb hts inRX1 tyX1 tyX1_ok nmX1 hown hK hP hD hS 0 rfl rfl 5 (by decide) qf29 (fun _ h9 => h9) rfl hin rfl (tyX1_ok 5 (by decide)) rfl rfl (Nat.le_of_ble_eq_true rfl) dX1_init_47 (fun H locs hP hD hS => ?_)
  have hP : va_P D vwCl [(h0, .inr (1, [.ref q1, .ref q2, .int (jI 0), .ref q3, .int (jI 0), .ref (u 0)])), (q1, .inl (cI, 33, .inl (jA (fun _ => 0)))), (q2, .inl (cI, 198, .inl (jA (fun _ => 0)))), (q3, .inl (cI, 60, .inl (jA (fun _ => 0)))), (u 0, .inr (0, [.ref (u 1), .ref (u 2), .ref (u 3), .int (jI 0)])), (u 1, .inl (cI, 3, .inl (jA (fun _ => 0)))), (u 2, .inl (cI, 3, .inl (jA (fun _ => 0)))), (u 3, .inl (cI, 3, .inl (jA (fun _ => 0))))] H := hP
  have hD : va_D A [(h0, .inr (1, [.ref q1, .ref q2, .int (jI 0), .ref q3, .int (jI 0), .ref (u 0)])), (q1, .inl (cI, 33, .inl (jA (fun _ => 0)))), (q2, .inl (cI, 198, .inl (jA (fun _ => 0)))), (q3, .inl (cI, 60, .inl (jA (fun _ => 0)))), (u 0, .inr (0, [.ref (u 1), .ref (u 2), .ref (u 3), .int (jI 0)])), (u 1, .inl (cI, 3, .inl (jA (fun _ => 0)))), (u 2, .inl (cI, 3, .inl (jA (fun _ => 0)))), (u 3, .inl (cI, 3, .inl (jA (fun _ => 0))))] := hD
  refine lv_aload_n hx hb dX1_init_50 rfl (lv_at hl 0 rfl) ?_
  refine va_get (D := D) (ci := 1) (v := .ref q1) (C := RX1) (T := TX1) (N := 6) hx hb hts inRX1 hown hK hP 0 rfl rfl 0 (by decide) qf9 (fun _ h9 => h9) rfl dX1_init_51 ?_
  refine lv_iconst (v := jI 2) hx hb dX1_init_54 rfl ?_
  refine lv_iconst (v := jI (-1)) hx hb dX1_init_55 rfl ?_
  refine x_iast (w1 := [(h0, .inr (1, [.ref q1, .ref q2, .int (jI 0), .ref q3, .int (jI 0), .ref (u 0)])), (q1, .inl (cI, 33, .inl (jA (upz (fun _ => 0) 2 (-1))))), (q2, .inl (cI, 198, .inl (jA (fun _ => 0)))), (q3, .inl (cI, 60, .inl (jA (fun _ => 0)))), (u 0, .inr (0, [.ref (u 1), .ref (u 2), .ref (u 3), .int (jI 0)])), (u 1, .inl (cI, 3, .inl (jA (fun _ => 0)))), (u 2, .inl (cI, 3, .inl (jA (fun _ => 0)))), (u 3, .inl (cI, 3, .inl (jA (fun _ => 0))))]) hx hb hK hP hD hS 1 0 rfl rfl 2 (by decide) (by decide) (by decide) dX1_init_56 rfl (fun H locs hP hD hS => ?_)
  refine lv_iconst (v := jI 0) hx hb dX1_init_57 rfl ?_
  refine lv_istore_n (lv' := [(1, .int (jI 0)), (0, .ref h0)]) hx hb dX1_init_58 rfl hl (by decide) rfl (fun ls hl => ?_)
  refine lv_iload_n hx hb dX1_init_59 rfl (lv_at hl 0 rfl) ?_
  refine lv_iconst (v := jI 3) hx hb dX1_init_60 rfl ?_
  refine x_icmp_ge (tgt := 84) hx hb dX1_init_61 (by decide) ⟨by decide, by decide⟩ (fun c9 => absurd c9 (by decide)) (fun _ => ?_)
  refine lv_aload_n hx hb dX1_init_64 rfl (lv_at hl 1 rfl) ?_
  refine va_get (D := D) (ci := 1) (v := .ref q1) (C := RX1) (T := TX1) (N := 6) hx hb hts inRX1 hown hK hP 0 rfl rfl 0 (by decide) qf9 (fun _ h9 => h9) rfl dX1_init_65 ?_
  refine lv_bipush (v := jI 11) hx hb dX1_init_68 (by decide) ?_
  refine lv_iload_n hx hb dX1_init_70 rfl (lv_at hl 0 rfl) ?_
  refine x_iadd hx hb dX1_init_71 ?_
  refine va_gets (v := .ref tl) hx hb hZ hS hown qf33 (fun _ h9 => h9) dX1_init_72 ?_
  refine lv_iload_n hx hb dX1_init_75 rfl (lv_at hl 0 rfl) ?_
  refine va_ti (v := .int (jI (xfirst 0))) hx hb hT hS (by rw [show jI 0 = nI 0 from jI_nat 0]; exact vp_in_nI (by decide) (by decide)) (by rw [show jI 0 = nI 0 from jI_nat 0, nI_clamp (by decide)]) dX1_init_76 ?_
  refine x_iast (w1 := [(h0, .inr (1, [.ref q1, .ref q2, .int (jI 0), .ref q3, .int (jI 0), .ref (u 0)])), (q1, .inl (cI, 33, .inl (jA (upz (upz (fun _ => 0) 2 (-1)) 11 (xfirst 0))))), (q2, .inl (cI, 198, .inl (jA (fun _ => 0)))), (q3, .inl (cI, 60, .inl (jA (fun _ => 0)))), (u 0, .inr (0, [.ref (u 1), .ref (u 2), .ref (u 3), .int (jI 0)])), (u 1, .inl (cI, 3, .inl (jA (fun _ => 0)))), (u 2, .inl (cI, 3, .inl (jA (fun _ => 0)))), (u 3, .inl (cI, 3, .inl (jA (fun _ => 0))))]) hx hb hK hP hD hS 1 0 rfl rfl 11 (by decide) (by decide) (by decide) dX1_init_77 rfl (fun H locs hP hD hS => ?_)
  refine lv_iinc (v := jI 1) (lv' := [(1, .int (jI 1)), (0, .ref h0)]) hx hb dX1_init_78 hl (k := 0) rfl (by decide) (by decide) rfl (fun ls hl => ?_)
  refine lv_goto (tgt := 59) hx hb dX1_init_81 (by decide) ?_
  refine lv_iload_n hx hb dX1_init_59 rfl (lv_at hl 0 rfl) ?_
  refine lv_iconst (v := jI 3) hx hb dX1_init_60 rfl ?_
  refine x_icmp_ge (tgt := 84) hx hb dX1_init_61 (by decide) ⟨by decide, by decide⟩ (fun c9 => absurd c9 (by decide)) (fun _ => ?_)
  refine lv_aload_n hx hb dX1_init_64 rfl (lv_at hl 1 rfl) ?_
  refine va_get (D := D) (ci := 1) (v := .ref q1) (C := RX1) (T := TX1) (N := 6) hx hb hts inRX1 hown hK hP 0 rfl rfl 0 (by decide) qf9 (fun _ h9 => h9) rfl dX1_init_65 ?_
  refine lv_bipush (v := jI 11) hx hb dX1_init_68 (by decide) ?_
  refine lv_iload_n hx hb dX1_init_70 rfl (lv_at hl 0 rfl) ?_
  refine x_iadd hx hb dX1_init_71 ?_
  refine va_gets (v := .ref tl) hx hb hZ hS hown qf33 (fun _ h9 => h9) dX1_init_72 ?_
  refine lv_iload_n hx hb dX1_init_75 rfl (lv_at hl 0 rfl) ?_
  refine va_ti (v := .int (jI (xfirst 1))) hx hb hT hS (by rw [show jI 1 = nI 1 from jI_nat 1]; exact vp_in_nI (by decide) (by decide)) (by rw [show jI 1 = nI 1 from jI_nat 1, nI_clamp (by decide)]) dX1_init_76 ?_
  refine x_iast (w1 := [(h0, .inr (1, [.ref q1, .ref q2, .int (jI 0), .ref q3, .int (jI 0), .ref (u 0)])), (q1, .inl (cI, 33, .inl (jA (upz (upz (upz (fun _ => 0) 2 (-1)) 11 (xfirst 0)) 12 (xfirst 1))))), (q2, .inl (cI, 198, .inl (jA (fun _ => 0)))), (q3, .inl (cI, 60, .inl (jA (fun _ => 0)))), (u 0, .inr (0, [.ref (u 1), .ref (u 2), .ref (u 3), .int (jI 0)])), (u 1, .inl (cI, 3, .inl (jA (fun _ => 0)))), (u 2, .inl (cI, 3, .inl (jA (fun _ => 0)))), (u 3, .inl (cI, 3, .inl (jA (fun _ => 0))))]) hx hb hK hP hD hS 1 0 rfl rfl 12 (by decide) (by decide) (by decide) dX1_init_77 rfl (fun H locs hP hD hS => ?_)
  refine lv_iinc (v := jI 2) (lv' := [(1, .int (jI 2)), (0, .ref h0)]) hx hb dX1_init_78 hl (k := 0) rfl (by decide) (by decide) rfl (fun ls hl => ?_)
  refine lv_goto (tgt := 59) hx hb dX1_init_81 (by decide) ?_
  refine lv_iload_n hx hb dX1_init_59 rfl (lv_at hl 0 rfl) ?_
  refine lv_iconst (v := jI 3) hx hb dX1_init_60 rfl ?_
  refine x_icmp_ge (tgt := 84) hx hb dX1_init_61 (by decide) ⟨by decide, by decide⟩ (fun c9 => absurd c9 (by decide)) (fun _ => ?_)
  refine lv_aload_n hx hb dX1_init_64 rfl (lv_at hl 1 rfl) ?_
  refine va_get (D := D) (ci := 1) (v := .ref q1) (C := RX1) (T := TX1) (N := 6) hx hb hts inRX1 hown hK hP 0 rfl rfl 0 (by decide) qf9 (fun _ h9 => h9) rfl dX1_init_65 ?_
  refine lv_bipush (v := jI 11) hx hb dX1_init_68 (by decide) ?_
  refine lv_iload_n hx hb dX1_init_70 rfl (lv_at hl 0 rfl) ?_
  refine x_iadd hx hb dX1_init_71 ?_
  refine va_gets (v := .ref tl) hx hb hZ hS hown qf33 (fun _ h9 => h9) dX1_init_72 ?_
  refine lv_iload_n hx hb dX1_init_75 rfl (lv_at hl 0 rfl) ?_
  refine va_ti (v := .int (jI (xfirst 2))) hx hb hT hS (by rw [show jI 2 = nI 2 from jI_nat 2]; exact vp_in_nI (by decide) (by decide)) (by rw [show jI 2 = nI 2 from jI_nat 2, nI_clamp (by decide)]) dX1_init_76 ?_
  refine x_iast (w1 := [(h0, .inr (1, [.ref q1, .ref q2, .int (jI 0), .ref q3, .int (jI 0), .ref (u 0)])), (q1, .inl (cI, 33, .inl (jA (upz (upz (upz (upz (fun _ => 0) 2 (-1)) 11 (xfirst 0)) 12 (xfirst 1)) 13 (xfirst 2))))), (q2, .inl (cI, 198, .inl (jA (fun _ => 0)))), (q3, .inl (cI, 60, .inl (jA (fun _ => 0)))), (u 0, .inr (0, [.ref (u 1), .ref (u 2), .ref (u 3), .int (jI 0)])), (u 1, .inl (cI, 3, .inl (jA (fun _ => 0)))), (u 2, .inl (cI, 3, .inl (jA (fun _ => 0)))), (u 3, .inl (cI, 3, .inl (jA (fun _ => 0))))]) hx hb hK hP hD hS 1 0 rfl rfl 13 (by decide) (by decide) (by decide) dX1_init_77 rfl (fun H locs hP hD hS => ?_)
  refine lv_iinc (v := jI 3) (lv' := [(1, .int (jI 3)), (0, .ref h0)]) hx hb dX1_init_78 hl (k := 0) rfl (by decide) (by decide) rfl (fun ls hl => ?_)
  refine lv_goto (tgt := 59) hx hb dX1_init_81 (by decide) ?_
  refine lv_iload_n hx hb dX1_init_59 rfl (lv_at hl 0 rfl) ?_
  refine lv_iconst (v := jI 3) hx hb dX1_init_60 rfl ?_
  refine x_icmp_ge (tgt := 84) hx hb dX1_init_61 (by decide) ⟨by decide, by decide⟩ (fun _ => ?_) (fun c9 => absurd c9 (by decide))
  refine lv_iconst (v := jI 0) hx hb dX1_init_84 rfl ?_
  refine lv_istore_n (lv' := [(1, .int (jI 0)), (0, .ref h0)]) hx hb dX1_init_85 rfl hl (by decide) rfl (fun ls hl => ?_)
  refine lv_iload_n hx hb dX1_init_86 rfl (lv_at hl 0 rfl) ?_
  refine lv_bipush (v := jI 7) hx hb dX1_init_87 (by decide) ?_
  refine x_icmp_ge (tgt := 118) hx hb dX1_init_89 (by decide) ⟨by decide, by decide⟩ (fun c9 => absurd c9 (by decide)) (fun _ => ?_)
  refine lv_aload_n hx hb dX1_init_92 rfl (lv_at hl 1 rfl) ?_
  refine va_get (D := D) (ci := 1) (v := .ref q1) (C := RX1) (T := TX1) (N := 6) hx hb hts inRX1 hown hK hP 0 rfl rfl 0 (by decide) qf9 (fun _ h9 => h9) rfl dX1_init_93 ?_
  refine lv_bipush (v := jI 14) hx hb dX1_init_96 (by decide) ?_
  refine lv_iload_n hx hb dX1_init_98 rfl (lv_at hl 0 rfl) ?_
  refine x_iadd hx hb dX1_init_99 ?_
  refine lv_iload_n hx hb dX1_init_100 rfl (lv_at hl 0 rfl) ?_
  refine lv_iconst (v := jI 5) hx hb dX1_init_101 rfl ?_
  refine x_icmp_ge (tgt := 110) hx hb dX1_init_102 (by decide) ⟨by decide, by decide⟩ (fun c9 => absurd c9 (by decide)) (fun _ => ?_)
  refine lv_bipush (v := jI 8) hx hb dX1_init_105 (by decide) ?_
  refine lv_goto (tgt := 111) hx hb dX1_init_107 (by decide) ?_
  refine x_iast (w1 := [(h0, .inr (1, [.ref q1, .ref q2, .int (jI 0), .ref q3, .int (jI 0), .ref (u 0)])), (q1, .inl (cI, 33, .inl (jA (upz (upz (upz (upz (upz (fun _ => 0) 2 (-1)) 11 (xfirst 0)) 12 (xfirst 1)) 13 (xfirst 2)) 14 8)))), (q2, .inl (cI, 198, .inl (jA (fun _ => 0)))), (q3, .inl (cI, 60, .inl (jA (fun _ => 0)))), (u 0, .inr (0, [.ref (u 1), .ref (u 2), .ref (u 3), .int (jI 0)])), (u 1, .inl (cI, 3, .inl (jA (fun _ => 0)))), (u 2, .inl (cI, 3, .inl (jA (fun _ => 0)))), (u 3, .inl (cI, 3, .inl (jA (fun _ => 0))))]) hx hb hK hP hD hS 1 0 rfl rfl 14 (by decide) (by decide) (by decide) dX1_init_111 rfl (fun H locs hP hD hS => ?_)
  refine lv_iinc (v := jI 1) (lv' := [(1, .int (jI 1)), (0, .ref h0)]) hx hb dX1_init_112 hl (k := 0) rfl (by decide) (by decide) rfl (fun ls hl => ?_)
  refine lv_goto (tgt := 86) hx hb dX1_init_115 (by decide) ?_
  refine lv_iload_n hx hb dX1_init_86 rfl (lv_at hl 0 rfl) ?_
  refine lv_bipush (v := jI 7) hx hb dX1_init_87 (by decide) ?_
  refine x_icmp_ge (tgt := 118) hx hb dX1_init_89 (by decide) ⟨by decide, by decide⟩ (fun c9 => absurd c9 (by decide)) (fun _ => ?_)
  refine lv_aload_n hx hb dX1_init_92 rfl (lv_at hl 1 rfl) ?_
  refine va_get (D := D) (ci := 1) (v := .ref q1) (C := RX1) (T := TX1) (N := 6) hx hb hts inRX1 hown hK hP 0 rfl rfl 0 (by decide) qf9 (fun _ h9 => h9) rfl dX1_init_93 ?_
  refine lv_bipush (v := jI 14) hx hb dX1_init_96 (by decide) ?_
  refine lv_iload_n hx hb dX1_init_98 rfl (lv_at hl 0 rfl) ?_
  refine x_iadd hx hb dX1_init_99 ?_
  refine lv_iload_n hx hb dX1_init_100 rfl (lv_at hl 0 rfl) ?_
  refine lv_iconst (v := jI 5) hx hb dX1_init_101 rfl ?_
  refine x_icmp_ge (tgt := 110) hx hb dX1_init_102 (by decide) ⟨by decide, by decide⟩ (fun c9 => absurd c9 (by decide)) (fun _ => ?_)
  refine lv_bipush (v := jI 8) hx hb dX1_init_105 (by decide) ?_
  refine lv_goto (tgt := 111) hx hb dX1_init_107 (by decide) ?_
  refine x_iast (w1 := [(h0, .inr (1, [.ref q1, .ref q2, .int (jI 0), .ref q3, .int (jI 0), .ref (u 0)])), (q1, .inl (cI, 33, .inl (jA (upz (upz (upz (upz (upz (upz (fun _ => 0) 2 (-1)) 11 (xfirst 0)) 12 (xfirst 1)) 13 (xfirst 2)) 14 8) 15 8)))), (q2, .inl (cI, 198, .inl (jA (fun _ => 0)))), (q3, .inl (cI, 60, .inl (jA (fun _ => 0)))), (u 0, .inr (0, [.ref (u 1), .ref (u 2), .ref (u 3), .int (jI 0)])), (u 1, .inl (cI, 3, .inl (jA (fun _ => 0)))), (u 2, .inl (cI, 3, .inl (jA (fun _ => 0)))), (u 3, .inl (cI, 3, .inl (jA (fun _ => 0))))]) hx hb hK hP hD hS 1 0 rfl rfl 15 (by decide) (by decide) (by decide) dX1_init_111 rfl (fun H locs hP hD hS => ?_)
  refine lv_iinc (v := jI 2) (lv' := [(1, .int (jI 2)), (0, .ref h0)]) hx hb dX1_init_112 hl (k := 0) rfl (by decide) (by decide) rfl (fun ls hl => ?_)
  refine lv_goto (tgt := 86) hx hb dX1_init_115 (by decide) ?_
  refine lv_iload_n hx hb dX1_init_86 rfl (lv_at hl 0 rfl) ?_
  refine lv_bipush (v := jI 7) hx hb dX1_init_87 (by decide) ?_
  refine x_icmp_ge (tgt := 118) hx hb dX1_init_89 (by decide) ⟨by decide, by decide⟩ (fun c9 => absurd c9 (by decide)) (fun _ => ?_)
  refine lv_aload_n hx hb dX1_init_92 rfl (lv_at hl 1 rfl) ?_
  refine va_get (D := D) (ci := 1) (v := .ref q1) (C := RX1) (T := TX1) (N := 6) hx hb hts inRX1 hown hK hP 0 rfl rfl 0 (by decide) qf9 (fun _ h9 => h9) rfl dX1_init_93 ?_
  refine lv_bipush (v := jI 14) hx hb dX1_init_96 (by decide) ?_
  refine lv_iload_n hx hb dX1_init_98 rfl (lv_at hl 0 rfl) ?_
  refine x_iadd hx hb dX1_init_99 ?_
  refine lv_iload_n hx hb dX1_init_100 rfl (lv_at hl 0 rfl) ?_
  refine lv_iconst (v := jI 5) hx hb dX1_init_101 rfl ?_
  refine x_icmp_ge (tgt := 110) hx hb dX1_init_102 (by decide) ⟨by decide, by decide⟩ (fun c9 => absurd c9 (by decide)) (fun _ => ?_)
  refine lv_bipush (v := jI 8) hx hb dX1_init_105 (by decide) ?_
  refine lv_goto (tgt := 111) hx hb dX1_init_107 (by decide) ?_
  refine x_iast (w1 := [(h0, .inr (1, [.ref q1, .ref q2, .int (jI 0), .ref q3, .int (jI 0), .ref (u 0)])), (q1, .inl (cI, 33, .inl (jA (upz (upz (upz (upz (upz (upz (upz (fun _ => 0) 2 (-1)) 11 (xfirst 0)) 12 (xfirst 1)) 13 (xfirst 2)) 14 8) 15 8) 16 8)))), (q2, .inl (cI, 198, .inl (jA (fun _ => 0)))), (q3, .inl (cI, 60, .inl (jA (fun _ => 0)))), (u 0, .inr (0, [.ref (u 1), .ref (u 2), .ref (u 3), .int (jI 0)])), (u 1, .inl (cI, 3, .inl (jA (fun _ => 0)))), (u 2, .inl (cI, 3, .inl (jA (fun _ => 0)))), (u 3, .inl (cI, 3, .inl (jA (fun _ => 0))))]) hx hb hK hP hD hS 1 0 rfl rfl 16 (by decide) (by decide) (by decide) dX1_init_111 rfl (fun H locs hP hD hS => ?_)
  refine lv_iinc (v := jI 3) (lv' := [(1, .int (jI 3)), (0, .ref h0)]) hx hb dX1_init_112 hl (k := 0) rfl (by decide) (by decide) rfl (fun ls hl => ?_)
  refine lv_goto (tgt := 86) hx hb dX1_init_115 (by decide) ?_
  refine lv_iload_n hx hb dX1_init_86 rfl (lv_at hl 0 rfl) ?_
  refine lv_bipush (v := jI 7) hx hb dX1_init_87 (by decide) ?_
  refine x_icmp_ge (tgt := 118) hx hb dX1_init_89 (by decide) ⟨by decide, by decide⟩ (fun c9 => absurd c9 (by decide)) (fun _ => ?_)
  refine lv_aload_n hx hb dX1_init_92 rfl (lv_at hl 1 rfl) ?_
  refine va_get (D := D) (ci := 1) (v := .ref q1) (C := RX1) (T := TX1) (N := 6) hx hb hts inRX1 hown hK hP 0 rfl rfl 0 (by decide) qf9 (fun _ h9 => h9) rfl dX1_init_93 ?_
  refine lv_bipush (v := jI 14) hx hb dX1_init_96 (by decide) ?_
  refine lv_iload_n hx hb dX1_init_98 rfl (lv_at hl 0 rfl) ?_
  refine x_iadd hx hb dX1_init_99 ?_
  refine lv_iload_n hx hb dX1_init_100 rfl (lv_at hl 0 rfl) ?_
  refine lv_iconst (v := jI 5) hx hb dX1_init_101 rfl ?_
  refine x_icmp_ge (tgt := 110) hx hb dX1_init_102 (by decide) ⟨by decide, by decide⟩ (fun c9 => absurd c9 (by decide)) (fun _ => ?_)
  refine lv_bipush (v := jI 8) hx hb dX1_init_105 (by decide) ?_
  refine lv_goto (tgt := 111) hx hb dX1_init_107 (by decide) ?_
  refine x_iast (w1 := [(h0, .inr (1, [.ref q1, .ref q2, .int (jI 0), .ref q3, .int (jI 0), .ref (u 0)])), (q1, .inl (cI, 33, .inl (jA (upz (upz (upz (upz (upz (upz (upz (upz (fun _ => 0) 2 (-1)) 11 (xfirst 0)) 12 (xfirst 1)) 13 (xfirst 2)) 14 8) 15 8) 16 8) 17 8)))), (q2, .inl (cI, 198, .inl (jA (fun _ => 0)))), (q3, .inl (cI, 60, .inl (jA (fun _ => 0)))), (u 0, .inr (0, [.ref (u 1), .ref (u 2), .ref (u 3), .int (jI 0)])), (u 1, .inl (cI, 3, .inl (jA (fun _ => 0)))), (u 2, .inl (cI, 3, .inl (jA (fun _ => 0)))), (u 3, .inl (cI, 3, .inl (jA (fun _ => 0))))]) hx hb hK hP hD hS 1 0 rfl rfl 17 (by decide) (by decide) (by decide) dX1_init_111 rfl (fun H locs hP hD hS => ?_)
  refine lv_iinc (v := jI 4) (lv' := [(1, .int (jI 4)), (0, .ref h0)]) hx hb dX1_init_112 hl (k := 0) rfl (by decide) (by decide) rfl (fun ls hl => ?_)
  refine lv_goto (tgt := 86) hx hb dX1_init_115 (by decide) ?_
  refine lv_iload_n hx hb dX1_init_86 rfl (lv_at hl 0 rfl) ?_
  refine lv_bipush (v := jI 7) hx hb dX1_init_87 (by decide) ?_
  refine x_icmp_ge (tgt := 118) hx hb dX1_init_89 (by decide) ⟨by decide, by decide⟩ (fun c9 => absurd c9 (by decide)) (fun _ => ?_)
  refine lv_aload_n hx hb dX1_init_92 rfl (lv_at hl 1 rfl) ?_
  refine va_get (D := D) (ci := 1) (v := .ref q1) (C := RX1) (T := TX1) (N := 6) hx hb hts inRX1 hown hK hP 0 rfl rfl 0 (by decide) qf9 (fun _ h9 => h9) rfl dX1_init_93 ?_
  refine lv_bipush (v := jI 14) hx hb dX1_init_96 (by decide) ?_
  refine lv_iload_n hx hb dX1_init_98 rfl (lv_at hl 0 rfl) ?_
  refine x_iadd hx hb dX1_init_99 ?_
  refine lv_iload_n hx hb dX1_init_100 rfl (lv_at hl 0 rfl) ?_
  refine lv_iconst (v := jI 5) hx hb dX1_init_101 rfl ?_
  refine x_icmp_ge (tgt := 110) hx hb dX1_init_102 (by decide) ⟨by decide, by decide⟩ (fun c9 => absurd c9 (by decide)) (fun _ => ?_)
  refine lv_bipush (v := jI 8) hx hb dX1_init_105 (by decide) ?_
  refine lv_goto (tgt := 111) hx hb dX1_init_107 (by decide) ?_
  refine x_iast (w1 := [(h0, .inr (1, [.ref q1, .ref q2, .int (jI 0), .ref q3, .int (jI 0), .ref (u 0)])), (q1, .inl (cI, 33, .inl (jA (upz (upz (upz (upz (upz (upz (upz (upz (upz (fun _ => 0) 2 (-1)) 11 (xfirst 0)) 12 (xfirst 1)) 13 (xfirst 2)) 14 8) 15 8) 16 8) 17 8) 18 8)))), (q2, .inl (cI, 198, .inl (jA (fun _ => 0)))), (q3, .inl (cI, 60, .inl (jA (fun _ => 0)))), (u 0, .inr (0, [.ref (u 1), .ref (u 2), .ref (u 3), .int (jI 0)])), (u 1, .inl (cI, 3, .inl (jA (fun _ => 0)))), (u 2, .inl (cI, 3, .inl (jA (fun _ => 0)))), (u 3, .inl (cI, 3, .inl (jA (fun _ => 0))))]) hx hb hK hP hD hS 1 0 rfl rfl 18 (by decide) (by decide) (by decide) dX1_init_111 rfl (fun H locs hP hD hS => ?_)
  refine lv_iinc (v := jI 5) (lv' := [(1, .int (jI 5)), (0, .ref h0)]) hx hb dX1_init_112 hl (k := 0) rfl (by decide) (by decide) rfl (fun ls hl => ?_)
  refine lv_goto (tgt := 86) hx hb dX1_init_115 (by decide) ?_
  refine lv_iload_n hx hb dX1_init_86 rfl (lv_at hl 0 rfl) ?_
  refine lv_bipush (v := jI 7) hx hb dX1_init_87 (by decide) ?_
  refine x_icmp_ge (tgt := 118) hx hb dX1_init_89 (by decide) ⟨by decide, by decide⟩ (fun c9 => absurd c9 (by decide)) (fun _ => ?_)
  refine lv_aload_n hx hb dX1_init_92 rfl (lv_at hl 1 rfl) ?_
  refine va_get (D := D) (ci := 1) (v := .ref q1) (C := RX1) (T := TX1) (N := 6) hx hb hts inRX1 hown hK hP 0 rfl rfl 0 (by decide) qf9 (fun _ h9 => h9) rfl dX1_init_93 ?_
  refine lv_bipush (v := jI 14) hx hb dX1_init_96 (by decide) ?_
  refine lv_iload_n hx hb dX1_init_98 rfl (lv_at hl 0 rfl) ?_
  refine x_iadd hx hb dX1_init_99 ?_
  refine lv_iload_n hx hb dX1_init_100 rfl (lv_at hl 0 rfl) ?_
  refine lv_iconst (v := jI 5) hx hb dX1_init_101 rfl ?_
  refine x_icmp_ge (tgt := 110) hx hb dX1_init_102 (by decide) ⟨by decide, by decide⟩ (fun _ => ?_) (fun c9 => absurd c9 (by decide))
  refine lv_iconst (v := jI (-1)) hx hb dX1_init_110 rfl ?_
  refine x_iast (w1 := [(h0, .inr (1, [.ref q1, .ref q2, .int (jI 0), .ref q3, .int (jI 0), .ref (u 0)])), (q1, .inl (cI, 33, .inl (jA (upz (upz (upz (upz (upz (upz (upz (upz (upz (upz (fun _ => 0) 2 (-1)) 11 (xfirst 0)) 12 (xfirst 1)) 13 (xfirst 2)) 14 8) 15 8) 16 8) 17 8) 18 8) 19 (-1))))), (q2, .inl (cI, 198, .inl (jA (fun _ => 0)))), (q3, .inl (cI, 60, .inl (jA (fun _ => 0)))), (u 0, .inr (0, [.ref (u 1), .ref (u 2), .ref (u 3), .int (jI 0)])), (u 1, .inl (cI, 3, .inl (jA (fun _ => 0)))), (u 2, .inl (cI, 3, .inl (jA (fun _ => 0)))), (u 3, .inl (cI, 3, .inl (jA (fun _ => 0))))]) hx hb hK hP hD hS 1 0 rfl rfl 19 (by decide) (by decide) (by decide) dX1_init_111 rfl (fun H locs hP hD hS => ?_)
  refine lv_iinc (v := jI 6) (lv' := [(1, .int (jI 6)), (0, .ref h0)]) hx hb dX1_init_112 hl (k := 0) rfl (by decide) (by decide) rfl (fun ls hl => ?_)
  refine lv_goto (tgt := 86) hx hb dX1_init_115 (by decide) ?_
  refine lv_iload_n hx hb dX1_init_86 rfl (lv_at hl 0 rfl) ?_
  refine lv_bipush (v := jI 7) hx hb dX1_init_87 (by decide) ?_
  refine x_icmp_ge (tgt := 118) hx hb dX1_init_89 (by decide) ⟨by decide, by decide⟩ (fun c9 => absurd c9 (by decide)) (fun _ => ?_)
  refine lv_aload_n hx hb dX1_init_92 rfl (lv_at hl 1 rfl) ?_
  refine va_get (D := D) (ci := 1) (v := .ref q1) (C := RX1) (T := TX1) (N := 6) hx hb hts inRX1 hown hK hP 0 rfl rfl 0 (by decide) qf9 (fun _ h9 => h9) rfl dX1_init_93 ?_
  refine lv_bipush (v := jI 14) hx hb dX1_init_96 (by decide) ?_
  refine lv_iload_n hx hb dX1_init_98 rfl (lv_at hl 0 rfl) ?_
  refine x_iadd hx hb dX1_init_99 ?_
  refine lv_iload_n hx hb dX1_init_100 rfl (lv_at hl 0 rfl) ?_
  refine lv_iconst (v := jI 5) hx hb dX1_init_101 rfl ?_
  refine x_icmp_ge (tgt := 110) hx hb dX1_init_102 (by decide) ⟨by decide, by decide⟩ (fun _ => ?_) (fun c9 => absurd c9 (by decide))
  refine lv_iconst (v := jI (-1)) hx hb dX1_init_110 rfl ?_
  refine x_iast (w1 := [(h0, .inr (1, [.ref q1, .ref q2, .int (jI 0), .ref q3, .int (jI 0), .ref (u 0)])), (q1, .inl (cI, 33, .inl (jA (upz (upz (upz (upz (upz (upz (upz (upz (upz (upz (upz (fun _ => 0) 2 (-1)) 11 (xfirst 0)) 12 (xfirst 1)) 13 (xfirst 2)) 14 8) 15 8) 16 8) 17 8) 18 8) 19 (-1)) 20 (-1))))), (q2, .inl (cI, 198, .inl (jA (fun _ => 0)))), (q3, .inl (cI, 60, .inl (jA (fun _ => 0)))), (u 0, .inr (0, [.ref (u 1), .ref (u 2), .ref (u 3), .int (jI 0)])), (u 1, .inl (cI, 3, .inl (jA (fun _ => 0)))), (u 2, .inl (cI, 3, .inl (jA (fun _ => 0)))), (u 3, .inl (cI, 3, .inl (jA (fun _ => 0))))]) hx hb hK hP hD hS 1 0 rfl rfl 20 (by decide) (by decide) (by decide) dX1_init_111 rfl (fun H locs hP hD hS => ?_)
  refine lv_iinc (v := jI 7) (lv' := [(1, .int (jI 7)), (0, .ref h0)]) hx hb dX1_init_112 hl (k := 0) rfl (by decide) (by decide) rfl (fun ls hl => ?_)
  refine lv_goto (tgt := 86) hx hb dX1_init_115 (by decide) ?_
  refine lv_iload_n hx hb dX1_init_86 rfl (lv_at hl 0 rfl) ?_
  refine lv_bipush (v := jI 7) hx hb dX1_init_87 (by decide) ?_
  refine x_icmp_ge (tgt := 118) hx hb dX1_init_89 (by decide) ⟨by decide, by decide⟩ (fun _ => ?_) (fun c9 => absurd c9 (by decide))
  refine lv_iconst (v := jI 0) hx hb dX1_init_118 rfl ?_
  refine lv_istore_n (lv' := [(1, .int (jI 0)), (0, .ref h0)]) hx hb dX1_init_119 rfl hl (by decide) rfl (fun ls hl => ?_)
  refine lv_iload_n hx hb dX1_init_120 rfl (lv_at hl 0 rfl) ?_
  refine lv_iconst (v := jI 3) hx hb dX1_init_121 rfl ?_
  refine x_icmp_ge (tgt := 145) hx hb dX1_init_122 (by decide) ⟨by decide, by decide⟩ (fun c9 => absurd c9 (by decide)) (fun _ => ?_)
  refine lv_aload_n hx hb dX1_init_125 rfl (lv_at hl 1 rfl) ?_
  refine va_get (D := D) (ci := 1) (v := .ref q1) (C := RX1) (T := TX1) (N := 6) hx hb hts inRX1 hown hK hP 0 rfl rfl 0 (by decide) qf9 (fun _ h9 => h9) rfl dX1_init_126 ?_
  refine lv_bipush (v := jI 21) hx hb dX1_init_129 (by decide) ?_
  refine lv_iload_n hx hb dX1_init_131 rfl (lv_at hl 0 rfl) ?_
  refine lv_iconst (v := jI 4) hx hb dX1_init_132 rfl ?_
  refine x_imul hx hb dX1_init_133 ?_
  refine x_iadd hx hb dX1_init_134 ?_
  refine lv_iconst (v := jI 1) hx hb dX1_init_135 rfl ?_
  refine x_iadd hx hb dX1_init_136 ?_
  refine lv_iconst (v := jI 1) hx hb dX1_init_137 rfl ?_
  refine x_iast (w1 := [(h0, .inr (1, [.ref q1, .ref q2, .int (jI 0), .ref q3, .int (jI 0), .ref (u 0)])), (q1, .inl (cI, 33, .inl (jA (upz (upz (upz (upz (upz (upz (upz (upz (upz (upz (upz (upz (fun _ => 0) 2 (-1)) 11 (xfirst 0)) 12 (xfirst 1)) 13 (xfirst 2)) 14 8) 15 8) 16 8) 17 8) 18 8) 19 (-1)) 20 (-1)) 22 1)))), (q2, .inl (cI, 198, .inl (jA (fun _ => 0)))), (q3, .inl (cI, 60, .inl (jA (fun _ => 0)))), (u 0, .inr (0, [.ref (u 1), .ref (u 2), .ref (u 3), .int (jI 0)])), (u 1, .inl (cI, 3, .inl (jA (fun _ => 0)))), (u 2, .inl (cI, 3, .inl (jA (fun _ => 0)))), (u 3, .inl (cI, 3, .inl (jA (fun _ => 0))))]) hx hb hK hP hD hS 1 0 rfl rfl 22 (by decide) (by decide) (by decide) dX1_init_138 rfl (fun H locs hP hD hS => ?_)
  refine lv_iinc (v := jI 1) (lv' := [(1, .int (jI 1)), (0, .ref h0)]) hx hb dX1_init_139 hl (k := 0) rfl (by decide) (by decide) rfl (fun ls hl => ?_)
  refine lv_goto (tgt := 120) hx hb dX1_init_142 (by decide) ?_
  refine lv_iload_n hx hb dX1_init_120 rfl (lv_at hl 0 rfl) ?_
  refine lv_iconst (v := jI 3) hx hb dX1_init_121 rfl ?_
  refine x_icmp_ge (tgt := 145) hx hb dX1_init_122 (by decide) ⟨by decide, by decide⟩ (fun c9 => absurd c9 (by decide)) (fun _ => ?_)
  refine lv_aload_n hx hb dX1_init_125 rfl (lv_at hl 1 rfl) ?_
  refine va_get (D := D) (ci := 1) (v := .ref q1) (C := RX1) (T := TX1) (N := 6) hx hb hts inRX1 hown hK hP 0 rfl rfl 0 (by decide) qf9 (fun _ h9 => h9) rfl dX1_init_126 ?_
  refine lv_bipush (v := jI 21) hx hb dX1_init_129 (by decide) ?_
  refine lv_iload_n hx hb dX1_init_131 rfl (lv_at hl 0 rfl) ?_
  refine lv_iconst (v := jI 4) hx hb dX1_init_132 rfl ?_
  refine x_imul hx hb dX1_init_133 ?_
  refine x_iadd hx hb dX1_init_134 ?_
  refine lv_iconst (v := jI 1) hx hb dX1_init_135 rfl ?_
  refine x_iadd hx hb dX1_init_136 ?_
  refine lv_iconst (v := jI 1) hx hb dX1_init_137 rfl ?_
  refine x_iast (w1 := [(h0, .inr (1, [.ref q1, .ref q2, .int (jI 0), .ref q3, .int (jI 0), .ref (u 0)])), (q1, .inl (cI, 33, .inl (jA (upz (upz (upz (upz (upz (upz (upz (upz (upz (upz (upz (upz (upz (fun _ => 0) 2 (-1)) 11 (xfirst 0)) 12 (xfirst 1)) 13 (xfirst 2)) 14 8) 15 8) 16 8) 17 8) 18 8) 19 (-1)) 20 (-1)) 22 1) 26 1)))), (q2, .inl (cI, 198, .inl (jA (fun _ => 0)))), (q3, .inl (cI, 60, .inl (jA (fun _ => 0)))), (u 0, .inr (0, [.ref (u 1), .ref (u 2), .ref (u 3), .int (jI 0)])), (u 1, .inl (cI, 3, .inl (jA (fun _ => 0)))), (u 2, .inl (cI, 3, .inl (jA (fun _ => 0)))), (u 3, .inl (cI, 3, .inl (jA (fun _ => 0))))]) hx hb hK hP hD hS 1 0 rfl rfl 26 (by decide) (by decide) (by decide) dX1_init_138 rfl (fun H locs hP hD hS => ?_)
  refine lv_iinc (v := jI 2) (lv' := [(1, .int (jI 2)), (0, .ref h0)]) hx hb dX1_init_139 hl (k := 0) rfl (by decide) (by decide) rfl (fun ls hl => ?_)
  refine lv_goto (tgt := 120) hx hb dX1_init_142 (by decide) ?_
  refine lv_iload_n hx hb dX1_init_120 rfl (lv_at hl 0 rfl) ?_
  refine lv_iconst (v := jI 3) hx hb dX1_init_121 rfl ?_
  refine x_icmp_ge (tgt := 145) hx hb dX1_init_122 (by decide) ⟨by decide, by decide⟩ (fun c9 => absurd c9 (by decide)) (fun _ => ?_)
  refine lv_aload_n hx hb dX1_init_125 rfl (lv_at hl 1 rfl) ?_
  refine va_get (D := D) (ci := 1) (v := .ref q1) (C := RX1) (T := TX1) (N := 6) hx hb hts inRX1 hown hK hP 0 rfl rfl 0 (by decide) qf9 (fun _ h9 => h9) rfl dX1_init_126 ?_
  refine lv_bipush (v := jI 21) hx hb dX1_init_129 (by decide) ?_
  refine lv_iload_n hx hb dX1_init_131 rfl (lv_at hl 0 rfl) ?_
  refine lv_iconst (v := jI 4) hx hb dX1_init_132 rfl ?_
  refine x_imul hx hb dX1_init_133 ?_
  refine x_iadd hx hb dX1_init_134 ?_
  refine lv_iconst (v := jI 1) hx hb dX1_init_135 rfl ?_
  refine x_iadd hx hb dX1_init_136 ?_
  refine lv_iconst (v := jI 1) hx hb dX1_init_137 rfl ?_
  refine x_iast (w1 := [(h0, .inr (1, [.ref q1, .ref q2, .int (jI 0), .ref q3, .int (jI 0), .ref (u 0)])), (q1, .inl (cI, 33, .inl (jA (upz (upz (upz (upz (upz (upz (upz (upz (upz (upz (upz (upz (upz (upz (fun _ => 0) 2 (-1)) 11 (xfirst 0)) 12 (xfirst 1)) 13 (xfirst 2)) 14 8) 15 8) 16 8) 17 8) 18 8) 19 (-1)) 20 (-1)) 22 1) 26 1) 30 1)))), (q2, .inl (cI, 198, .inl (jA (fun _ => 0)))), (q3, .inl (cI, 60, .inl (jA (fun _ => 0)))), (u 0, .inr (0, [.ref (u 1), .ref (u 2), .ref (u 3), .int (jI 0)])), (u 1, .inl (cI, 3, .inl (jA (fun _ => 0)))), (u 2, .inl (cI, 3, .inl (jA (fun _ => 0)))), (u 3, .inl (cI, 3, .inl (jA (fun _ => 0))))]) hx hb hK hP hD hS 1 0 rfl rfl 30 (by decide) (by decide) (by decide) dX1_init_138 rfl (fun H locs hP hD hS => ?_)
  refine lv_iinc (v := jI 3) (lv' := [(1, .int (jI 3)), (0, .ref h0)]) hx hb dX1_init_139 hl (k := 0) rfl (by decide) (by decide) rfl (fun ls hl => ?_)
  refine lv_goto (tgt := 120) hx hb dX1_init_142 (by decide) ?_
  refine lv_iload_n hx hb dX1_init_120 rfl (lv_at hl 0 rfl) ?_
  refine lv_iconst (v := jI 3) hx hb dX1_init_121 rfl ?_
  refine x_icmp_ge (tgt := 145) hx hb dX1_init_122 (by decide) ⟨by decide, by decide⟩ (fun _ => ?_) (fun c9 => absurd c9 (by decide))
  exact xn_v (fun k => [h0, q1, q2, q3, u 0, u 1, u 2, u 3].getD k 0) hx hb hr hlocks hP hD hS rfl rfl dX1_init_145
