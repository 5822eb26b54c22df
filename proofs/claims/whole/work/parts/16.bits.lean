theorem shr_self {x : UInt64} (h : shr x) : Op.cmpValue (FP.dcmp x x) .l = jI 0 := by
  rcases h with rfl | ⟨E, T, h1, h2, h3, rfl⟩
  · decide
  · rw [dcmp_order, mk_val E T h1 (by omega) h3]
    unfold FP.Core.order
    dsimp only
    have e : ∀ z : Int, compare z z = .eq := fun z => by
      show compareOfLessAndEq z z = .eq
      unfold compareOfLessAndEq
      rw [if_neg (by omega), if_pos rfl]
    rw [e]
    rfl
abbrev rm_isNaN : Room := { frames := 0, cells := 0, slots := 0, locals := 0 }
set_option maxHeartbeats 4000000 in
set_option maxRecDepth 100000 in
theorem m_isNaN (l : Launch) (x : UInt64) (h : shr x) : MetP l yJxe99ae_isNaN_b9ae7 wsJxe99ae_isNaN_b9ae7 rm_isNaN [.double x] 0 := by
  refine xe_P (cc := cJxe99ae_isNaN_b9ae7) (maxL := 2) (ret := (some .boolean)) (by decide) rfl (Nat.le_of_ble_eq_true rfl) ?_
  intro p e s m below meth c hx hb hr hml hts hown hlocks ls hl
  have hl : lv_has ls 2 [(0, .double x)] := hl
  refine lv_dload_n hx hb dJxe99ae_isNaN_b9ae7_0 rfl (lv_at hl 0 rfl) ?_
  refine lv_dload_n hx hb dJxe99ae_isNaN_b9ae7_1 rfl (lv_at hl 0 rfl) ?_
  refine lv_dcmp hx hb dJxe99ae_isNaN_b9ae7_2 ?_
  rw [shr_self h]
  refine x_if_eq (tgt := 10) hx hb dJxe99ae_isNaN_b9ae7_3 (by decide) (by decide) (fun _ => ?_) (fun c3 => absurd rfl c3)
  refine lv_iconst (v := jI 0) hx hb dJxe99ae_isNaN_b9ae7_10 rfl ?_
  exact xr_z hx hb hr hlocks (Or.inl rfl) rfl dJxe99ae_isNaN_b9ae7_11
abbrev rm_d2lb : Room := { frames := 1, cells := 0, slots := 0, locals := 40 }
set_option maxHeartbeats 4000000 in
set_option maxRecDepth 100000 in
theorem m_d2lb (l : Launch) (x : UInt64) (h : shr x) : MetPl l yJxe99ae_doubleToLongBits_ccdee wsJxe99ae_doubleToLongBits_ccdee rm_d2lb [.double x] x.toInt64 := by
  refine xe_Pl (cc := cJxe99ae_doubleToLongBits_ccdee) (maxL := 2) (ret := (some .long)) (by decide) rfl (Nat.le_of_ble_eq_true rfl) ?_
  intro p e s m below meth c hx hb hr hml hts hown hlocks ls hl
  have hl : lv_has ls 2 [(0, .double x)] := hl
  have hown : s.vm.findClass RJxe99ae = some m.cls := hown
  have hSx : CallFix p m c cJxe99ae_doubleToLongBits_ccdee 2 s ([.double x] : List Value).toArray wsJxe99ae_doubleToLongBits_ccdee RJxe99ae := ⟨hx, hb, hml, hown, hts⟩
  have q1 := hts (.methodLink RJxe99ae 134 ⟨"java/lang/Double", "doubleToRawLongBits", "(D)J"⟩) (by decide +kernel)
  have q2 := hts (.native ⟨"java/lang/Double", "doubleToRawLongBits", "(D)J"⟩) (by decide +kernel)
  have q3 := hts (.static ⟨"java/lang/Double", "doubleToRawLongBits", "(D)J"⟩) (by decide +kernel)
  have q4 := hts (.initialized "java/lang/Double") (by decide +kernel)
  refine lv_dload_n hx hb dJxe99ae_doubleToLongBits_ccdee_0 rfl (lv_at hl 0 rfl) ?_
  refine xc_P (As := [.double x]) (rest := []) hSx (m_isNaN l x h) (va_cwS 1 hts gJxe99ae_doubleToLongBits_ccdee_Jxe99ae_isNaN_b9ae7 rfl rfl rfl (by decide +kernel) ⟨Nat.le_of_ble_eq_true rfl, Nat.le_of_ble_eq_true rfl⟩) rfl hl.1 rfl (Nat.le_of_ble_eq_true rfl) dJxe99ae_doubleToLongBits_ccdee_1 ⟨Nat.zero_le _, Nat.zero_le _⟩ ?_
  refine x_if_ne (tgt := 12) hx hb dJxe99ae_doubleToLongBits_ccdee_4 (by decide) (by decide) (fun c4 => absurd rfl c4) (fun _ => ?_)
  refine lv_dload_n hx hb dJxe99ae_doubleToLongBits_ccdee_7 rfl (lv_at hl 0 rfl) ?_
  refine vn_d2l hx hb (hml.trans hl.1.symm) hown q1 q2 q3 q4 (Nat.le_of_ble_eq_true rfl) (Nat.le_of_ble_eq_true rfl) dJxe99ae_doubleToLongBits_ccdee_8 ?_
  exact xr_l hx hb hr hlocks rfl dJxe99ae_doubleToLongBits_ccdee_11
abbrev rm_X1_bitsOfShare : Room := { frames := 0, cells := 0, slots := 0, locals := 0 }
set_option maxHeartbeats 4000000 in
set_option maxRecDepth 100000 in
theorem m_X1_bitsOfShare (l : Launch) (x : UInt64) (h : shr x) : MetPl l yX1_bitsOfShare wsX1_bitsOfShare rm_X1_bitsOfShare [.double x] x.toInt64 := by
  refine xe_Pl (cc := cX1_bitsOfShare) (maxL := 8) (ret := (some .long)) (by decide) rfl (Nat.le_of_ble_eq_true rfl) ?_
  intro p e s m below meth c hx hb hr hml hts hown hlocks ls hl
  have hl : lv_has ls 8 [(0, .double x)] := hl
  have hown : s.vm.findClass RX1 = some m.cls := hown
  have q208 := hts (.constantLong RX1 208 (1023)) (by decide +kernel)
  have q210 := hts (.constantDouble RX1 210 (4611686018427387904)) (by decide +kernel)
  have q212 := hts (.constantDouble RX1 212 (4841369599423283200)) (by decide +kernel)
  refine lv_dload_n hx hb dX1_bitsOfShare_0 rfl (lv_at hl 0 rfl) ?_
  refine lv_dconst0 hx hb dX1_bitsOfShare_1 ?_
  refine lv_dcmp hx hb dX1_bitsOfShare_2 ?_
  rcases h with rfl | ⟨E, T, h1, h2, h3, rfl⟩
  · rw [zero_cmp]
    refine x_if_gt (tgt := 8) hx hb dX1_bitsOfShare_3 (by decide) (by decide) (fun c3 => absurd c3 (by decide)) (fun _ => ?_)
    refine lv_lconst (v := 0) hx hb dX1_bitsOfShare_6 rfl ?_
    exact xr_l hx hb hr hlocks (by decide) dX1_bitsOfShare_7
  · rw [mk_gt0 E T h1 (by omega) h3]
    refine x_if_gt (tgt := 8) hx hb dX1_bitsOfShare_3 (by decide) (by decide) (fun _ => ?_) (fun c3 => absurd (by decide) c3)
    have K50 : ∀ ls : Array Slot, lv_has ls 8 [(0, .double (mk64 E T)), (2, .double (mk64 1023 T)), (4, .long (Int64.ofInt (E : Int)))] → W p l e rm_X1_bitsOfShare s m ([.double (mk64 E T)] : List Value).toArray below meth c s.heap [] 0 0 (MQ below (vp_Sl (fun x => x = (mk64 E T).toInt64)) ([.double (mk64 E T)] : List Value).toArray s 0 0 (fun _ => False)) (F0 m 50 ls []) := by
      intro ls hl
      refine lv_dload_n hx hb dX1_bitsOfShare_50 rfl (lv_at hl 1 rfl) ?_
      refine lv_dconst1 hx hb dX1_bitsOfShare_51 ?_
      refine lv_dsub hx hb dX1_bitsOfShare_52 (n64_sub T h3) ?_
      refine lv_ldc2d hx hb hown q212 dX1_bitsOfShare_53 ?_
      refine lv_dmul hx hb dX1_bitsOfShare_56 (n64_frac T h3) ?_
      refine lv_d2l hx hb dX1_bitsOfShare_57 ?_
      rw [mk_frac T h3]
      refine lv_lstore (lv' := [(6, .long (Int64.ofInt (T : Int))), (0, .double (mk64 E T)), (2, .double (mk64 1023 T)), (4, .long (Int64.ofInt (E : Int)))]) hx hb dX1_bitsOfShare_58 hl (by decide) rfl (fun ls hl => ?_)
      refine lv_lload hx hb dX1_bitsOfShare_60 (lv_at hl 3 rfl) ?_
      refine lv_bipush (v := jI 52) hx hb dX1_bitsOfShare_62 (by decide) ?_
      refine lv_lshl hx hb dX1_bitsOfShare_64 rfl ?_
      refine lv_lload hx hb dX1_bitsOfShare_65 (lv_at hl 0 rfl) ?_
      refine lv_ladd hx hb dX1_bitsOfShare_67 ?_
      exact xr_l hx hb hr hlocks (mk_bits E T h2 h3) dX1_bitsOfShare_68
    have LP : ∀ (d q : Nat) (ls : Array Slot), q + d = 1023 → E ≤ q → lv_has ls 8 [(0, .double (mk64 E T)), (2, .double (mk64 q T)), (4, .long (Int64.ofInt (1023 - ((q : Int) - E)))), (6, .int (jI (1 + ((q : Int) - E))))] → W p l e rm_X1_bitsOfShare s m ([.double (mk64 E T)] : List Value).toArray below meth c s.heap [] 0 0 (MQ below (vp_Sl (fun x => x = (mk64 E T).toInt64)) ([.double (mk64 E T)] : List Value).toArray s 0 0 (fun _ => False)) (F0 m 18 ls []) := by
      intro d
      induction d with
      | zero =>
        intro q ls hq hE hl
        obtain rfl : q = 1023 := by omega
        have hl4 : lv_has ls 8 [(0, .double (mk64 E T)), (2, .double (mk64 1023 T)), (4, .long (Int64.ofInt (E : Int)))] := by
          have e : (1023 : Int) - (((1023 : Nat) : Int) - (E : Int)) = (E : Int) := by omega
          rw [e] at hl
          exact lv_sub hl [0, 1, 2] rfl
        refine lv_iload hx hb dX1_bitsOfShare_18 (lv_at hl 3 rfl) ?_
        refine lv_sipush (v := jI 1023) hx hb dX1_bitsOfShare_20 (by decide) ?_
        refine x_icmp_ge (tgt := 50) hx hb dX1_bitsOfShare_23 (by decide) ⟨by omega, by omega⟩ (fun _ => ?_) (fun _ => ?_)
        · exact K50 ls hl4
        · refine lv_dload_n hx hb dX1_bitsOfShare_26 rfl (lv_at hl 1 rfl) ?_
          refine lv_dconst1 hx hb dX1_bitsOfShare_27 ?_
          refine lv_dcmp hx hb dX1_bitsOfShare_28 ?_
          rcases mk_ge1 T h3 with hg | hg
          · rw [hg]
            refine x_if_ge (tgt := 50) hx hb dX1_bitsOfShare_29 (by decide) (by decide) (fun _ => ?_) (fun c => absurd (by decide) c)
            exact K50 ls hl4
          · rw [hg]
            refine x_if_ge (tgt := 50) hx hb dX1_bitsOfShare_29 (by decide) (by decide) (fun _ => ?_) (fun c => absurd (by decide) c)
            exact K50 ls hl4
      | succ d ih =>
        intro q ls hq hE hl
        refine lv_iload hx hb dX1_bitsOfShare_18 (lv_at hl 3 rfl) ?_
        refine lv_sipush (v := jI 1023) hx hb dX1_bitsOfShare_20 (by decide) ?_
        refine x_icmp_ge (tgt := 50) hx hb dX1_bitsOfShare_23 (by decide) ⟨by omega, by omega⟩ (fun hc => absurd hc (by omega)) (fun _ => ?_)
        refine lv_dload_n hx hb dX1_bitsOfShare_26 rfl (lv_at hl 1 rfl) ?_
        refine lv_dconst1 hx hb dX1_bitsOfShare_27 ?_
        refine lv_dcmp hx hb dX1_bitsOfShare_28 ?_
        rw [mk_lt1 q T (by omega) (by omega) h3]
        refine x_if_ge (tgt := 50) hx hb dX1_bitsOfShare_29 (by decide) (by decide) (fun hc => absurd hc (by decide)) (fun _ => ?_)
        refine lv_dload_n hx hb dX1_bitsOfShare_32 rfl (lv_at hl 1 rfl) ?_
        refine lv_ldc2d hx hb hown q210 dX1_bitsOfShare_33 ?_
        refine lv_dmul hx hb dX1_bitsOfShare_36 (by rw [mk_mul2 q T (by omega) (by omega) h3]; exact n64_mk (q + 1) T (by omega) (by omega) h3) ?_
        rw [mk_mul2 q T (by omega) (by omega) h3]
        refine lv_dstore_n (lv' := [(2, .double (mk64 (q + 1) T)), (0, .double (mk64 E T)), (4, .long (Int64.ofInt (1023 - ((q : Int) - E)))), (6, .int (jI (1 + ((q : Int) - E))))]) hx hb dX1_bitsOfShare_37 rfl hl (by decide) rfl (fun ls hl => ?_)
        refine lv_lload hx hb dX1_bitsOfShare_38 (lv_at hl 2 rfl) ?_
        refine lv_lconst (v := Int64.ofInt 1) hx hb dX1_bitsOfShare_40 rfl ?_
        refine lv_lsub hx hb dX1_bitsOfShare_41 ?_
        rw [← Int64.ofInt_sub]
        refine lv_lstore (lv' := [(4, .long (Int64.ofInt (1023 - ((q : Int) - E) - 1))), (2, .double (mk64 (q + 1) T)), (0, .double (mk64 E T)), (6, .int (jI (1 + ((q : Int) - E))))]) hx hb dX1_bitsOfShare_42 hl (by decide) rfl (fun ls hl => ?_)
        refine lv_iinc (v := jI (1 + ((q : Int) - E) + 1)) (lv' := [(6, .int (jI (1 + ((q : Int) - E) + 1))), (4, .long (Int64.ofInt (1023 - ((q : Int) - E) - 1))), (2, .double (mk64 (q + 1) T)), (0, .double (mk64 E T))]) hx hb dX1_bitsOfShare_44 hl (k := 3) rfl (jI_add _ 1) (by decide) rfl (fun ls hl => ?_)
        refine lv_goto (tgt := 18) hx hb dX1_bitsOfShare_47 (by decide) ?_
        refine ih (q + 1) ls (by omega) (by omega) ?_
        have e1 : (1 : Int) + ((q : Int) - E) + 1 = 1 + (((q + 1 : Nat) : Int) - E) := by omega
        have e2 : (1023 : Int) - ((q : Int) - E) - 1 = 1023 - (((q + 1 : Nat) : Int) - E) := by omega
        rw [e1, e2] at hl
        exact lv_sub hl [3, 2, 1, 0] rfl
    refine lv_dload_n hx hb dX1_bitsOfShare_8 rfl (lv_at hl 0 rfl) ?_
    refine lv_dstore_n (lv' := [(2, .double (mk64 E T)), (0, .double (mk64 E T))]) hx hb dX1_bitsOfShare_9 rfl hl (by decide) rfl (fun ls hl => ?_)
    refine lv_ldc2 hx hb hown q208 dX1_bitsOfShare_10 ?_
    refine lv_lstore (lv' := [(4, .long 1023), (2, .double (mk64 E T)), (0, .double (mk64 E T))]) hx hb dX1_bitsOfShare_13 hl (by decide) rfl (fun ls hl => ?_)
    refine lv_iconst (v := jI 1) hx hb dX1_bitsOfShare_15 rfl ?_
    refine lv_istore (lv' := [(6, .int (jI 1)), (4, .long 1023), (2, .double (mk64 E T)), (0, .double (mk64 E T))]) hx hb dX1_bitsOfShare_16 hl (by decide) rfl (fun ls hl => ?_)
    refine LP (1023 - E) E ls (by omega) (Nat.le_refl _) ?_
    have e1 : (1023 : Int) - ((E : Int) - E) = 1023 := by omega
    have e2 : (1 : Int) + ((E : Int) - E) = 1 := by omega
    rw [e1, e2]
    exact lv_sub hl [3, 2, 1, 0] rfl
