def s_X1_punctuality (f : Nat → Int) : UInt64 := if ((f 6) + (f 10)) = 0 then FP.dconst1 else (FP.ddiv (FP.i2d (jI (f 7))) (FP.i2d (jI ((f 6) + (f 10)))))
abbrev rm_X1_punctuality : Room := { frames := 0, cells := 0, slots := 0, locals := 0 }
set_option maxHeartbeats 4000000 in
set_option maxRecDepth 100000 in
theorem m_X1_punctuality (l : Launch) (D : va_G) (cI : ClassId) (a : Nat → Nat) (f : Nat → Int) (g : Nat → Int) (n : Nat) (b : Nat → Int) (len : Nat) (kd : Nat → Int) (sg : Nat → Int) (nb : Nat → Int) (pt : Nat) (hs1 : 0 ≤ f 7 ∧ f 7 ≤ f 6) (hs2 : 0 ≤ f 10 ∧ f 6 + f 10 ≤ 512) : MetRd l yX1_punctuality wsX1_punctuality rm_X1_punctuality D cI [.ref (a 0)] (w1 cI a f g n b len kd sg nb pt) (s_X1_punctuality f) := by
  refine xe_Rd (cc := cX1_punctuality) (maxL := 2) (ret := (some .double)) (by decide) rfl (Nat.le_of_ble_eq_true rfl) ?_
  intro p e s m below meth c hx hb hr hml hts hown hlocks hP hK ls hl
  have hl : lv_has ls 2 [(0, .ref (a 0))] := hl
  have hown : s.vm.findClass RX1 = some m.cls := hown
  have hSx : CallFix p m c cX1_punctuality 2 s ([.ref (a 0)] : List Value).toArray wsX1_punctuality RX1 := ⟨hx, hb, hml, hown, hts⟩
  have inRX1 : ∀ w ∈ u_ws RX1 TX1 6, w ∈ wsX1_punctuality := by decide +kernel
  have qf9 := hts (.fieldLink RX1 9 "VaultMovements" "now" "[I") (by decide +kernel)
  obtain ⟨z, hz⟩ : ∃ z, z = (s_X1_punctuality f) := ⟨_, rfl⟩
  rw [← hz]
  unfold s_X1_punctuality at hz
  refine lv_aload_n hx hb dX1_punctuality_0 rfl (lv_at hl 0 rfl) ?_
  refine va_get (D := D) (ci := 1) (v := .ref (a 1)) (C := RX1) (T := TX1) (N := 6) hx hb hts inRX1 hown hK hP 0 rfl rfl 0 (by decide) qf9 (fun _ h9 => h9) rfl dX1_punctuality_1 ?_
  refine lv_bipush (v := jI 6) hx hb dX1_punctuality_4 (by decide) ?_
  refine x_iald hx hb hK hP 1 0 rfl rfl 6 rfl (by decide) (by decide) dX1_punctuality_6 ?_
  refine lv_aload_n hx hb dX1_punctuality_7 rfl (lv_at hl 0 rfl) ?_
  refine va_get (D := D) (ci := 1) (v := .ref (a 1)) (C := RX1) (T := TX1) (N := 6) hx hb hts inRX1 hown hK hP 0 rfl rfl 0 (by decide) qf9 (fun _ h9 => h9) rfl dX1_punctuality_8 ?_
  refine lv_bipush (v := jI 10) hx hb dX1_punctuality_11 (by decide) ?_
  refine x_iald hx hb hK hP 1 0 rfl rfl 10 rfl (by decide) (by decide) dX1_punctuality_13 ?_
  refine x_iadd hx hb dX1_punctuality_14 ?_
  refine lv_istore_n (lv' := [(1, .int (jI ((f 6) + (f 10)))), (0, .ref (a 0))]) hx hb dX1_punctuality_15 rfl hl (by decide) rfl (fun ls hl => ?_)
  refine lv_iload_n hx hb dX1_punctuality_16 rfl (lv_at hl 0 rfl) ?_
  refine x_if_ne (tgt := 24) hx hb dX1_punctuality_17 (by decide) (by omega) (fun c17 => ?_) (fun c17 => ?_)
  · rw [if_neg c17] at hz
    refine lv_aload_n hx hb dX1_punctuality_24 rfl (lv_at hl 1 rfl) ?_
    refine va_get (D := D) (ci := 1) (v := .ref (a 1)) (C := RX1) (T := TX1) (N := 6) hx hb hts inRX1 hown hK hP 0 rfl rfl 0 (by decide) qf9 (fun _ h9 => h9) rfl dX1_punctuality_25 ?_
    refine lv_bipush (v := jI 7) hx hb dX1_punctuality_28 (by decide) ?_
    refine x_iald hx hb hK hP 1 0 rfl rfl 7 rfl (by decide) (by decide) dX1_punctuality_30 ?_
    refine lv_i2d hx hb dX1_punctuality_31 ?_
    refine lv_iload_n hx hb dX1_punctuality_32 rfl (lv_at hl 0 rfl) ?_
    refine lv_i2d hx hb dX1_punctuality_33 ?_
    refine lv_ddiv hx hb dX1_punctuality_34 (shr_n64 (shr_of _ _ (by omega) (by omega) (by omega) (by omega))) ?_
    subst hz
    exact xr_d hx hb hr hlocks rfl dX1_punctuality_35
  · rw [if_pos c17] at hz
    refine lv_dconst1 hx hb dX1_punctuality_20 ?_
    refine lv_goto (tgt := 35) hx hb dX1_punctuality_21 (by decide) ?_
    subst hz
    exact xr_d hx hb hr hlocks rfl dX1_punctuality_35
theorem shr_X1 (f : Nat → Int) (hs1 : 0 ≤ f 7 ∧ f 7 ≤ f 6) (hs2 : 0 ≤ f 10 ∧ f 6 + f 10 ≤ 512) : shr (s_X1_punctuality f) := by
  unfold s_X1_punctuality
  split
  · exact shr_1
  · exact shr_of _ _ (by omega) (by omega) (by omega) (by omega)
