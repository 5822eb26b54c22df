/-! the law's clock -/
abbrev rm_L_clock : Room := { frames := 4, cells := 0, slots := 0, locals := 106 }
set_option maxHeartbeats 8000000 in
set_option maxRecDepth 100000 in
theorem m_L_clock (l : Launch) (D : va_G) (cI : ClassId) (a0 : Nat) (w : va_W) (C : Nat → Int) (M : Nat → Nat → Int) (S Dy RW : Nat → Int) (OI LA KM : Int) (PU : UInt64) {fs : List Value} (he : w[0]? = some (a0, .inr (1, fs)))
  (kC : ∀ k : Nat, k ≤ 14 → MetR l yX1_count wsX1_count rm_X1_count_R D cI [.ref a0, .int (jI (k : Int))] w (C k))
  (kM : ∀ j k : Nat, j < 3 → k ≤ 5 → MetR l yX1_movement wsX1_movement rm_X1_movement_R D cI [.ref a0, .int (jI (j : Int)), .int (jI (k : Int))] w (M j k))
  (kS : ∀ j : Nat, j < 3 → MetR l yX1_setting wsX1_setting rm_X1_setting_R D cI [.ref a0, .int (jI (j : Int))] w (S j))
  (kD : ∀ j : Nat, j < 7 → MetR l yX1_day wsX1_day rm_X1_day_R D cI [.ref a0, .int (jI (j : Int))] w (Dy j))
  (kW : ∀ j : Nat, j < 3 → MetR l yX1_rightWinding wsX1_rightWinding rm_X1_rightWinding_R D cI [.ref a0, .int (jI (j : Int))] w (RW j))
  (kO : MetR l yX1_opensIn wsX1_opensIn rm_X1_opensIn D cI [.ref a0] w OI) (kL : MetR l yX1_lateness wsX1_lateness rm_X1_lateness D cI [.ref a0] w LA) (kK : MetR l yX1_keyMovement wsX1_keyMovement rm_X1_keyMovement D cI [.ref a0] w KM) (kP : MetRd l yX1_punctuality wsX1_punctuality rm_X1_punctuality D cI [.ref a0] w PU)
  (h1 : CFc C) (h2 : ∀ d : Nat, d < 7 → -1 ≤ Dy d ∧ Dy d ≤ 23) (h3 : ∀ i : Nat, i < 3 → CFm M S RW i) (h4 : CFd C OI LA KM (zr M 3)) (h5 : CFn C (nr Dy 7)) (h6 : CFk M KM) (h7 : CFp C PU) (hS2 : 10 ≤ S 2 ∧ S 2 ≤ 5000) : MetR l yL_clock wsL_clock rm_L_clock D cI [.ref a0] w 1 := by
  refine xe_R (cc := cL_clock) (maxL := 7) (ret := (some .boolean)) (by decide) rfl (Nat.le_of_ble_eq_true rfl) ?_
  intro p e s m below meth c hx hb hr hml hts hown hlocks hP hK ls hl
  have hl : lv_has ls 7 [(0, .ref a0)] := hl
  have hown : s.vm.findClass RL = some m.cls := hown
  have hSx : CallFix p m c cL_clock 7 s ([.ref a0] : List Value).toArray wsL_clock RL := ⟨hx, hb, hml, hown, hts⟩
  unfold CFc at h1
  unfold CFd at h4
  unfold CFn at h5
  unfold CFk at h6
  obtain ⟨hp1, hp2, hp3⟩ := h7
  have hz3 := zr_01 M 3
  have hn7 := nr_01 Dy 7
  have K630 : ∀ (ls : Array Slot), lv_has ls 7 [(0, .ref a0)] → W p l e rm_L_clock s m ([.ref a0] : List Value).toArray below meth c s.heap [] 0 0 (MQ below (vp_Si (fun x => x = jI 1)) ([.ref a0] : List Value).toArray s 0 0 (fun _ => False)) (F0 m 630 ls []) := by
    intro ls hl
    refine lv_iconst (v := jI 1) hx hb dL_clock_630 rfl ?_
    refine lv_goto (tgt := 635) hx hb dL_clock_631 (by decide) ?_
    exact xr_z hx hb hr hlocks (Or.inr rfl) rfl dL_clock_635
  have K591 : ∀ (ls : Array Slot), lv_has ls 7 [(0, .ref a0)] → W p l e rm_L_clock s m ([.ref a0] : List Value).toArray below meth c s.heap [] 0 0 (MQ below (vp_Si (fun x => x = jI 1)) ([.ref a0] : List Value).toArray s 0 0 (fun _ => False)) (F0 m 591 ls []) := by
    intro ls hl
    refine lv_aload_n hx hb dL_clock_591 rfl (lv_at hl 0 rfl) ?_
    refine xc_Rd (As := []) (rest := []) hSx kP (cwV 0 hts gL_clock_X1_punctuality rfl rfl rfl (by decide +kernel) ⟨Nat.le_of_ble_eq_true rfl, Nat.le_of_ble_eq_true rfl⟩) hP hK 0 he rfl rfl rfl hl.1 rfl (Nat.le_of_ble_eq_true rfl) dL_clock_592 ⟨Nat.zero_le _, Nat.zero_le _⟩ ?_
    refine lv_dconst0 hx hb dL_clock_595 ?_
    refine lv_dcmp hx hb dL_clock_596 ?_
    refine lv_if_lt (tgt := 634) hx hb dL_clock_597 (by decide) (fun c597 => absurd c597 (hp2)) (fun c597 => ?_)
    refine lv_aload_n hx hb dL_clock_600 rfl (lv_at hl 0 rfl) ?_
    refine xc_Rd (As := []) (rest := []) hSx kP (cwV 0 hts gL_clock_X1_punctuality rfl rfl rfl (by decide +kernel) ⟨Nat.le_of_ble_eq_true rfl, Nat.le_of_ble_eq_true rfl⟩) hP hK 0 he rfl rfl rfl hl.1 rfl (Nat.le_of_ble_eq_true rfl) dL_clock_601 ⟨Nat.zero_le _, Nat.zero_le _⟩ ?_
    refine lv_dconst1 hx hb dL_clock_604 ?_
    refine lv_dcmp hx hb dL_clock_605 ?_
    refine lv_if_gt (tgt := 634) hx hb dL_clock_606 (by decide) (fun c606 => absurd c606 (hp3)) (fun c606 => ?_)
    refine lv_aload_n hx hb dL_clock_609 rfl (lv_at hl 0 rfl) ?_
    refine xc_R (As := []) (rest := []) hSx kK (cwV 0 hts gL_clock_X1_keyMovement rfl rfl rfl (by decide +kernel) ⟨Nat.le_of_ble_eq_true rfl, Nat.le_of_ble_eq_true rfl⟩) hP hK 0 he rfl rfl rfl hl.1 rfl (Nat.le_of_ble_eq_true rfl) dL_clock_610 ⟨Nat.zero_le _, Nat.zero_le _⟩ ?_
    refine lv_iconst (v := jI (-1)) hx hb dL_clock_613 rfl ?_
    refine x_icmp_eq (tgt := 630) hx hb dL_clock_614 (by decide) ⟨(by omega), (by decide)⟩ (fun c614 => ?_) (fun c614 => ?_)
    · skip
      exact K630 ls (lv_sub hl [0] rfl)
    · skip
      have hk6 : M KM.toNat 1 = 1 := h6.resolve_left c614
      refine lv_aload_n hx hb dL_clock_617 rfl (lv_at hl 0 rfl) ?_
      refine lv_aload_n hx hb dL_clock_618 rfl (lv_at hl 0 rfl) ?_
      refine xc_R (As := []) (rest := [.ref a0]) hSx kK (cwV 0 hts gL_clock_X1_keyMovement rfl rfl rfl (by decide +kernel) ⟨Nat.le_of_ble_eq_true rfl, Nat.le_of_ble_eq_true rfl⟩) hP hK 0 he rfl rfl rfl hl.1 rfl (Nat.le_of_ble_eq_true rfl) dL_clock_619 ⟨Nat.zero_le _, Nat.zero_le _⟩ ?_
      refine lv_iconst (v := jI 1) hx hb dL_clock_622 rfl ?_
      rw [show KM = ((KM.toNat : Nat) : Int) by omega]
      refine xc_R (As := [.int (jI ((KM.toNat : Nat) : Int)), .int (jI 1)]) (rest := []) hSx (kM KM.toNat 1 (by omega) (by decide)) (cwV 2 hts gL_clock_X1_movement rfl rfl rfl (by decide +kernel) ⟨Nat.le_of_ble_eq_true rfl, Nat.le_of_ble_eq_true rfl⟩) hP hK 0 he rfl rfl rfl hl.1 rfl (Nat.le_of_ble_eq_true rfl) dL_clock_623 ⟨Nat.zero_le _, Nat.zero_le _⟩ ?_
      refine lv_iconst (v := jI 1) hx hb dL_clock_626 rfl ?_
      refine x_icmp_ne (tgt := 634) hx hb dL_clock_627 (by decide) ⟨(by omega), (by decide)⟩ (fun c627 => (by omega)) (fun c627 => ?_)
      exact K630 ls (lv_sub hl [0] rfl)
  have K550 : ∀ (ls : Array Slot), lv_has ls 7 [(0, .ref a0), (1, .int (jI (C 3))), (2, .int (jI (nr Dy 7))), (3, .int (jI (zr M 3))), (4, .int (jI 1))] → W p l e rm_L_clock s m ([.ref a0] : List Value).toArray below meth c s.heap [] 0 0 (MQ below (vp_Si (fun x => x = jI 1)) ([.ref a0] : List Value).toArray s 0 0 (fun _ => False)) (F0 m 550 ls []) := by
    intro ls hl
    refine lv_iconst (v := jI 1) hx hb dL_clock_550 rfl ?_
    refine lv_goto (tgt := 555) hx hb dL_clock_551 (by decide) ?_
    refine lv_istore (lv' := [(4, .int (jI 1)), (0, .ref a0), (1, .int (jI (C 3))), (2, .int (jI (nr Dy 7))), (3, .int (jI (zr M 3)))]) hx hb dL_clock_555 hl (by decide) rfl (fun ls hl => ?_)
    refine lv_aload_n hx hb dL_clock_557 rfl (lv_at hl 1 rfl) ?_
    refine lv_bipush (v := jI 9) hx hb dL_clock_558 (by decide) ?_
    refine xc_R (As := [.int (jI 9)]) (rest := []) hSx (kC 9 (by decide)) (cwV 1 hts gL_clock_X1_count rfl rfl rfl (by decide +kernel) ⟨Nat.le_of_ble_eq_true rfl, Nat.le_of_ble_eq_true rfl⟩) hP hK 0 he rfl rfl rfl hl.1 rfl (Nat.le_of_ble_eq_true rfl) dL_clock_560 ⟨Nat.zero_le _, Nat.zero_le _⟩ ?_
    refine lv_aload_n hx hb dL_clock_563 rfl (lv_at hl 1 rfl) ?_
    refine lv_bipush (v := jI 13) hx hb dL_clock_564 (by decide) ?_
    refine xc_R (As := [.int (jI 13)]) (rest := [.int (jI (C 9))]) hSx (kC 13 (by decide)) (cwV 1 hts gL_clock_X1_count rfl rfl rfl (by decide +kernel) ⟨Nat.le_of_ble_eq_true rfl, Nat.le_of_ble_eq_true rfl⟩) hP hK 0 he rfl rfl rfl hl.1 rfl (Nat.le_of_ble_eq_true rfl) dL_clock_566 ⟨Nat.zero_le _, Nat.zero_le _⟩ ?_
    refine x_iadd hx hb dL_clock_569 ?_
    refine lv_istore (lv' := [(5, .int (jI ((C 9) + (C 13)))), (4, .int (jI 1)), (0, .ref a0), (1, .int (jI (C 3))), (2, .int (jI (nr Dy 7))), (3, .int (jI (zr M 3)))]) hx hb dL_clock_570 hl (by decide) rfl (fun ls hl => ?_)
    refine lv_iload hx hb dL_clock_572 (lv_at hl 1 rfl) ?_
    refine x_if_eq (tgt := 634) hx hb dL_clock_574 (by decide) (by decide) (fun c574 => absurd c574 (by decide)) (fun c574 => ?_)
    refine lv_iload hx hb dL_clock_577 (lv_at hl 0 rfl) ?_
    refine x_if_gt (tgt := 591) hx hb dL_clock_579 (by decide) (by omega) (fun c579 => ?_) (fun c579 => ?_)
    · skip
      exact K591 ls (lv_sub hl [2] rfl)
    · skip
      refine lv_aload_n hx hb dL_clock_582 rfl (lv_at hl 2 rfl) ?_
      refine xc_Rd (As := []) (rest := []) hSx kP (cwV 0 hts gL_clock_X1_punctuality rfl rfl rfl (by decide +kernel) ⟨Nat.le_of_ble_eq_true rfl, Nat.le_of_ble_eq_true rfl⟩) hP hK 0 he rfl rfl rfl hl.1 rfl (Nat.le_of_ble_eq_true rfl) dL_clock_583 ⟨Nat.zero_le _, Nat.zero_le _⟩ ?_
      refine lv_dconst1 hx hb dL_clock_586 ?_
      refine lv_dcmp hx hb dL_clock_587 ?_
      refine lv_if_ne (tgt := 634) hx hb dL_clock_588 (by decide) (fun c588 => absurd c588 (fun q => q (hp1 (by omega)))) (fun c588 => ?_)
      exact K591 ls (lv_sub hl [2] rfl)
  have K463 : ∀ (ls : Array Slot), lv_has ls 7 [(0, .ref a0), (1, .int (jI (C 3))), (2, .int (jI (nr Dy 7))), (3, .int (jI (zr M 3))), (4, .int (jI 1))] → W p l e rm_L_clock s m ([.ref a0] : List Value).toArray below meth c s.heap [] 0 0 (MQ below (vp_Si (fun x => x = jI 1)) ([.ref a0] : List Value).toArray s 0 0 (fun _ => False)) (F0 m 463 ls []) := by
    intro ls hl
    have h4f := h4
    refine lv_iconst (v := jI 1) hx hb dL_clock_463 rfl ?_
    refine lv_goto (tgt := 468) hx hb dL_clock_464 (by decide) ?_
    refine lv_istore (lv' := [(4, .int (jI 1)), (0, .ref a0), (1, .int (jI (C 3))), (2, .int (jI (nr Dy 7))), (3, .int (jI (zr M 3)))]) hx hb dL_clock_468 hl (by decide) rfl (fun ls hl => ?_)
    refine lv_iload hx hb dL_clock_470 (lv_at hl 0 rfl) ?_
    refine x_if_eq (tgt := 554) hx hb dL_clock_472 (by decide) (by decide) (fun c472 => absurd c472 (by decide)) (fun c472 => ?_)
    refine lv_iload_n hx hb dL_clock_475 rfl (lv_at hl 2 rfl) ?_
    refine x_if_eq (tgt := 550) hx hb dL_clock_476 (by decide) (by omega) (fun c476 => ?_) (fun c476 => ?_)
    · exact K550 ls (lv_sub hl [1, 2, 3, 4, 0] rfl)
    have hd4 := h4.2.2.2.2 c476
    have K529 : ∀ (ls : Array Slot), lv_has ls 7 [(0, .ref a0), (1, .int (jI (C 3))), (2, .int (jI (nr Dy 7))), (3, .int (jI (zr M 3))), (4, .int (jI 1))] → W p l e rm_L_clock s m ([.ref a0] : List Value).toArray below meth c s.heap [] 0 0 (MQ below (vp_Si (fun x => x = jI 1)) ([.ref a0] : List Value).toArray s 0 0 (fun _ => False)) (F0 m 529 ls []) := by
      intro ls hl
      refine lv_aload_n hx hb dL_clock_529 rfl (lv_at hl 0 rfl) ?_
      refine xc_R (As := []) (rest := []) hSx kO (cwV 0 hts gL_clock_X1_opensIn rfl rfl rfl (by decide +kernel) ⟨Nat.le_of_ble_eq_true rfl, Nat.le_of_ble_eq_true rfl⟩) hP hK 0 he rfl rfl rfl hl.1 rfl (Nat.le_of_ble_eq_true rfl) dL_clock_530 ⟨Nat.zero_le _, Nat.zero_le _⟩ ?_
      refine lv_iconst (v := jI (-1)) hx hb dL_clock_533 rfl ?_
      refine x_icmp_eq (tgt := 550) hx hb dL_clock_534 (by decide) ⟨(by omega), (by decide)⟩ (fun c534 => ?_) (fun c534 => ?_)
      · skip
        exact K550 ls (lv_sub hl [0, 1, 2, 3, 4] rfl)
      · skip
        refine lv_aload_n hx hb dL_clock_537 rfl (lv_at hl 0 rfl) ?_
        refine xc_R (As := []) (rest := []) hSx kO (cwV 0 hts gL_clock_X1_opensIn rfl rfl rfl (by decide +kernel) ⟨Nat.le_of_ble_eq_true rfl, Nat.le_of_ble_eq_true rfl⟩) hP hK 0 he rfl rfl rfl hl.1 rfl (Nat.le_of_ble_eq_true rfl) dL_clock_538 ⟨Nat.zero_le _, Nat.zero_le _⟩ ?_
        refine lv_aload_n hx hb dL_clock_541 rfl (lv_at hl 0 rfl) ?_
        refine lv_bipush (v := jI 7) hx hb dL_clock_542 (by decide) ?_
        refine xc_R (As := [.int (jI 7)]) (rest := [.int (jI OI)]) hSx (kC 7 (by decide)) (cwV 1 hts gL_clock_X1_count rfl rfl rfl (by decide +kernel) ⟨Nat.le_of_ble_eq_true rfl, Nat.le_of_ble_eq_true rfl⟩) hP hK 0 he rfl rfl rfl hl.1 rfl (Nat.le_of_ble_eq_true rfl) dL_clock_544 ⟨Nat.zero_le _, Nat.zero_le _⟩ ?_
        refine x_icmp_lt (tgt := 554) hx hb dL_clock_547 (by decide) ⟨(by omega), (by omega)⟩ (fun c547 => (by omega)) (fun c547 => ?_)
        exact K550 ls (lv_sub hl [0, 1, 2, 3, 4] rfl)
    have K512 : ∀ (ls : Array Slot), lv_has ls 7 [(0, .ref a0), (1, .int (jI (C 3))), (2, .int (jI (nr Dy 7))), (3, .int (jI (zr M 3))), (4, .int (jI 1))] → W p l e rm_L_clock s m ([.ref a0] : List Value).toArray below meth c s.heap [] 0 0 (MQ below (vp_Si (fun x => x = jI 1)) ([.ref a0] : List Value).toArray s 0 0 (fun _ => False)) (F0 m 512 ls []) := by
      intro ls hl
      refine lv_aload_n hx hb dL_clock_512 rfl (lv_at hl 0 rfl) ?_
      refine xc_R (As := []) (rest := []) hSx kO (cwV 0 hts gL_clock_X1_opensIn rfl rfl rfl (by decide +kernel) ⟨Nat.le_of_ble_eq_true rfl, Nat.le_of_ble_eq_true rfl⟩) hP hK 0 he rfl rfl rfl hl.1 rfl (Nat.le_of_ble_eq_true rfl) dL_clock_513 ⟨Nat.zero_le _, Nat.zero_le _⟩ ?_
      refine x_if_ge (tgt := 529) hx hb dL_clock_516 (by decide) (by omega) (fun c516 => ?_) (fun c516 => ?_)
      · skip
        exact K529 ls (lv_sub hl [0, 1, 2, 3, 4] rfl)
      · skip
        refine lv_aload_n hx hb dL_clock_519 rfl (lv_at hl 0 rfl) ?_
        refine xc_R (As := []) (rest := []) hSx kL (cwV 0 hts gL_clock_X1_lateness rfl rfl rfl (by decide +kernel) ⟨Nat.le_of_ble_eq_true rfl, Nat.le_of_ble_eq_true rfl⟩) hP hK 0 he rfl rfl rfl hl.1 rfl (Nat.le_of_ble_eq_true rfl) dL_clock_520 ⟨Nat.zero_le _, Nat.zero_le _⟩ ?_
        refine lv_sipush (v := jI 1000) hx hb dL_clock_523 (by decide) ?_
        refine x_icmp_ne (tgt := 554) hx hb dL_clock_526 (by decide) ⟨(by omega), (by decide)⟩ (fun c526 => (by omega)) (fun c526 => ?_)
        exact K529 ls (lv_sub hl [0, 1, 2, 3, 4] rfl)
    refine lv_aload_n hx hb dL_clock_479 rfl (lv_at hl 1 rfl) ?_
    refine xc_R (As := []) (rest := []) hSx kO (cwV 0 hts gL_clock_X1_opensIn rfl rfl rfl (by decide +kernel) ⟨Nat.le_of_ble_eq_true rfl, Nat.le_of_ble_eq_true rfl⟩) hP hK 0 he rfl rfl rfl hl.1 rfl (Nat.le_of_ble_eq_true rfl) dL_clock_480 ⟨Nat.zero_le _, Nat.zero_le _⟩ ?_
    refine x_if_ne (tgt := 490) hx hb dL_clock_483 (by decide) (by omega) (fun c483 => ?_) (fun c483 => ?_)
    · skip
      refine lv_iconst (v := jI 0) hx hb dL_clock_490 rfl ?_
      refine lv_iload_n hx hb dL_clock_491 rfl (lv_at hl 4 rfl) ?_
      refine x_if_eq (tgt := 508) hx hb dL_clock_492 (by decide) (by omega) (fun c492 => ?_) (fun c492 => ?_)
      · skip
        refine lv_iconst (v := jI 0) hx hb dL_clock_508 rfl ?_
        refine x_icmp_ne (tgt := 554) hx hb dL_clock_509 (by decide) ⟨(by decide), (by decide)⟩ (fun c509 => absurd c509 (by decide)) (fun c509 => ?_)
        exact K512 ls (lv_sub hl [1, 2, 3, 4, 0] rfl)
      · skip
        refine lv_aload_n hx hb dL_clock_495 rfl (lv_at hl 1 rfl) ?_
        refine lv_bipush (v := jI 7) hx hb dL_clock_496 (by decide) ?_
        refine xc_R (As := [.int (jI 7)]) (rest := [.int (jI 0)]) hSx (kC 7 (by decide)) (cwV 1 hts gL_clock_X1_count rfl rfl rfl (by decide +kernel) ⟨Nat.le_of_ble_eq_true rfl, Nat.le_of_ble_eq_true rfl⟩) hP hK 0 he rfl rfl rfl hl.1 rfl (Nat.le_of_ble_eq_true rfl) dL_clock_498 ⟨Nat.zero_le _, Nat.zero_le _⟩ ?_
        refine x_if_ne (tgt := 508) hx hb dL_clock_501 (by decide) (by omega) (fun c501 => ?_) (fun c501 => ?_)
        · skip
          refine lv_iconst (v := jI 0) hx hb dL_clock_508 rfl ?_
          refine x_icmp_ne (tgt := 554) hx hb dL_clock_509 (by decide) ⟨(by decide), (by decide)⟩ (fun c509 => absurd c509 (by decide)) (fun c509 => ?_)
          exact K512 ls (lv_sub hl [1, 2, 3, 4, 0] rfl)
        · skip
          refine lv_iconst (v := jI 1) hx hb dL_clock_504 rfl ?_
          refine lv_goto (tgt := 509) hx hb dL_clock_505 (by decide) ?_
          exact (by omega)
    · skip
      refine lv_iconst (v := jI 1) hx hb dL_clock_486 rfl ?_
      refine lv_goto (tgt := 491) hx hb dL_clock_487 (by decide) ?_
      refine lv_iload_n hx hb dL_clock_491 rfl (lv_at hl 4 rfl) ?_
      refine x_if_eq (tgt := 508) hx hb dL_clock_492 (by decide) (by omega) (fun c492 => ?_) (fun c492 => ?_)
      · skip
        refine lv_iconst (v := jI 0) hx hb dL_clock_508 rfl ?_
        exact (by omega)
      · skip
        refine lv_aload_n hx hb dL_clock_495 rfl (lv_at hl 1 rfl) ?_
        refine lv_bipush (v := jI 7) hx hb dL_clock_496 (by decide) ?_
        refine xc_R (As := [.int (jI 7)]) (rest := [.int (jI 1)]) hSx (kC 7 (by decide)) (cwV 1 hts gL_clock_X1_count rfl rfl rfl (by decide +kernel) ⟨Nat.le_of_ble_eq_true rfl, Nat.le_of_ble_eq_true rfl⟩) hP hK 0 he rfl rfl rfl hl.1 rfl (Nat.le_of_ble_eq_true rfl) dL_clock_498 ⟨Nat.zero_le _, Nat.zero_le _⟩ ?_
        refine x_if_ne (tgt := 508) hx hb dL_clock_501 (by decide) (by omega) (fun c501 => ?_) (fun c501 => ?_)
        · skip
          refine lv_iconst (v := jI 0) hx hb dL_clock_508 rfl ?_
          exact (by omega)
        · skip
          refine lv_iconst (v := jI 1) hx hb dL_clock_504 rfl ?_
          refine lv_goto (tgt := 509) hx hb dL_clock_505 (by decide) ?_
          refine x_icmp_ne (tgt := 554) hx hb dL_clock_509 (by decide) ⟨(by decide), (by decide)⟩ (fun c509 => absurd c509 (by decide)) (fun c509 => ?_)
          exact K512 ls (lv_sub hl [1, 2, 3, 4, 0] rfl)
  have K342 : ∀ (ls : Array Slot), lv_has ls 7 [(0, .ref a0), (1, .int (jI (C 3))), (2, .int (jI (nr Dy 7))), (3, .int (jI (zr M 3))), (4, .int (jI 1))] → W p l e rm_L_clock s m ([.ref a0] : List Value).toArray below meth c s.heap [] 0 0 (MQ below (vp_Si (fun x => x = jI 1)) ([.ref a0] : List Value).toArray s 0 0 (fun _ => False)) (F0 m 342 ls []) := by
    intro ls hl
    refine lv_aload_n hx hb dL_clock_342 rfl (lv_at hl 0 rfl) ?_
    refine lv_bipush (v := jI 9) hx hb dL_clock_343 (by decide) ?_
    refine xc_R (As := [.int (jI 9)]) (rest := []) hSx (kC 9 (by decide)) (cwV 1 hts gL_clock_X1_count rfl rfl rfl (by decide +kernel) ⟨Nat.le_of_ble_eq_true rfl, Nat.le_of_ble_eq_true rfl⟩) hP hK 0 he rfl rfl rfl hl.1 rfl (Nat.le_of_ble_eq_true rfl) dL_clock_345 ⟨Nat.zero_le _, Nat.zero_le _⟩ ?_
    refine lv_aload_n hx hb dL_clock_348 rfl (lv_at hl 0 rfl) ?_
    refine lv_bipush (v := jI 10) hx hb dL_clock_349 (by decide) ?_
    refine xc_R (As := [.int (jI 10)]) (rest := [.int (jI (C 9))]) hSx (kC 10 (by decide)) (cwV 1 hts gL_clock_X1_count rfl rfl rfl (by decide +kernel) ⟨Nat.le_of_ble_eq_true rfl, Nat.le_of_ble_eq_true rfl⟩) hP hK 0 he rfl rfl rfl hl.1 rfl (Nat.le_of_ble_eq_true rfl) dL_clock_351 ⟨Nat.zero_le _, Nat.zero_le _⟩ ?_
    refine lv_aload_n hx hb dL_clock_354 rfl (lv_at hl 0 rfl) ?_
    refine lv_bipush (v := jI 11) hx hb dL_clock_355 (by decide) ?_
    refine xc_R (As := [.int (jI 11)]) (rest := [.int (jI (C 10)), .int (jI (C 9))]) hSx (kC 11 (by decide)) (cwV 1 hts gL_clock_X1_count rfl rfl rfl (by decide +kernel) ⟨Nat.le_of_ble_eq_true rfl, Nat.le_of_ble_eq_true rfl⟩) hP hK 0 he rfl rfl rfl hl.1 rfl (Nat.le_of_ble_eq_true rfl) dL_clock_357 ⟨Nat.zero_le _, Nat.zero_le _⟩ ?_
    refine x_iadd hx hb dL_clock_360 ?_
    refine lv_aload_n hx hb dL_clock_361 rfl (lv_at hl 0 rfl) ?_
    refine lv_bipush (v := jI 12) hx hb dL_clock_362 (by decide) ?_
    refine xc_R (As := [.int (jI 12)]) (rest := [.int (jI ((C 10) + (C 11))), .int (jI (C 9))]) hSx (kC 12 (by decide)) (cwV 1 hts gL_clock_X1_count rfl rfl rfl (by decide +kernel) ⟨Nat.le_of_ble_eq_true rfl, Nat.le_of_ble_eq_true rfl⟩) hP hK 0 he rfl rfl rfl hl.1 rfl (Nat.le_of_ble_eq_true rfl) dL_clock_364 ⟨Nat.zero_le _, Nat.zero_le _⟩ ?_
    refine x_iadd hx hb dL_clock_367 ?_
    refine x_icmp_ne (tgt := 401) hx hb dL_clock_368 (by decide) ⟨(by omega), (by omega)⟩ (fun c368 => (by omega)) (fun c368 => ?_)
    refine lv_aload_n hx hb dL_clock_371 rfl (lv_at hl 0 rfl) ?_
    refine lv_bipush (v := jI 8) hx hb dL_clock_372 (by decide) ?_
    refine xc_R (As := [.int (jI 8)]) (rest := []) hSx (kC 8 (by decide)) (cwV 1 hts gL_clock_X1_count rfl rfl rfl (by decide +kernel) ⟨Nat.le_of_ble_eq_true rfl, Nat.le_of_ble_eq_true rfl⟩) hP hK 0 he rfl rfl rfl hl.1 rfl (Nat.le_of_ble_eq_true rfl) dL_clock_374 ⟨Nat.zero_le _, Nat.zero_le _⟩ ?_
    refine lv_aload_n hx hb dL_clock_377 rfl (lv_at hl 0 rfl) ?_
    refine lv_bipush (v := jI 6) hx hb dL_clock_378 (by decide) ?_
    refine xc_R (As := [.int (jI 6)]) (rest := [.int (jI (C 8))]) hSx (kC 6 (by decide)) (cwV 1 hts gL_clock_X1_count rfl rfl rfl (by decide +kernel) ⟨Nat.le_of_ble_eq_true rfl, Nat.le_of_ble_eq_true rfl⟩) hP hK 0 he rfl rfl rfl hl.1 rfl (Nat.le_of_ble_eq_true rfl) dL_clock_380 ⟨Nat.zero_le _, Nat.zero_le _⟩ ?_
    refine x_icmp_lt (tgt := 401) hx hb dL_clock_383 (by decide) ⟨(by omega), (by omega)⟩ (fun c383 => (by omega)) (fun c383 => ?_)
    refine lv_aload_n hx hb dL_clock_386 rfl (lv_at hl 0 rfl) ?_
    refine lv_bipush (v := jI 7) hx hb dL_clock_387 (by decide) ?_
    refine xc_R (As := [.int (jI 7)]) (rest := []) hSx (kC 7 (by decide)) (cwV 1 hts gL_clock_X1_count rfl rfl rfl (by decide +kernel) ⟨Nat.le_of_ble_eq_true rfl, Nat.le_of_ble_eq_true rfl⟩) hP hK 0 he rfl rfl rfl hl.1 rfl (Nat.le_of_ble_eq_true rfl) dL_clock_389 ⟨Nat.zero_le _, Nat.zero_le _⟩ ?_
    refine lv_bipush (v := jI 24) hx hb dL_clock_392 (by decide) ?_
    refine x_icmp_gt (tgt := 401) hx hb dL_clock_394 (by decide) ⟨(by omega), (by decide)⟩ (fun c394 => (by omega)) (fun c394 => ?_)
    refine lv_iconst (v := jI 1) hx hb dL_clock_397 rfl ?_
    refine lv_goto (tgt := 402) hx hb dL_clock_398 (by decide) ?_
    refine lv_istore (lv' := [(4, .int (jI 1)), (0, .ref a0), (1, .int (jI (C 3))), (2, .int (jI (nr Dy 7))), (3, .int (jI (zr M 3)))]) hx hb dL_clock_402 hl (by decide) rfl (fun ls hl => ?_)
    refine lv_iload hx hb dL_clock_404 (lv_at hl 0 rfl) ?_
    refine x_if_eq (tgt := 467) hx hb dL_clock_406 (by decide) (by decide) (fun c406 => absurd c406 (by decide)) (fun c406 => ?_)
    refine lv_iload_n hx hb dL_clock_409 rfl (lv_at hl 2 rfl) ?_
    refine x_if_ne (tgt := 463) hx hb dL_clock_410 (by decide) (by omega) (fun c410 => ?_) (fun c410 => ?_)
    · skip
      exact K463 ls (lv_sub hl [1, 2, 3, 4, 0] rfl)
    · skip
      refine lv_aload_n hx hb dL_clock_413 rfl (lv_at hl 1 rfl) ?_
      refine lv_iconst (v := jI 5) hx hb dL_clock_414 rfl ?_
      refine xc_R (As := [.int (jI 5)]) (rest := []) hSx (kC 5 (by decide)) (cwV 1 hts gL_clock_X1_count rfl rfl rfl (by decide +kernel) ⟨Nat.le_of_ble_eq_true rfl, Nat.le_of_ble_eq_true rfl⟩) hP hK 0 he rfl rfl rfl hl.1 rfl (Nat.le_of_ble_eq_true rfl) dL_clock_415 ⟨Nat.zero_le _, Nat.zero_le _⟩ ?_
      refine lv_iconst (v := jI (-1)) hx hb dL_clock_418 rfl ?_
      refine x_icmp_ne (tgt := 467) hx hb dL_clock_419 (by decide) ⟨(by omega), (by decide)⟩ (fun c419 => (by omega)) (fun c419 => ?_)
      refine lv_aload_n hx hb dL_clock_422 rfl (lv_at hl 1 rfl) ?_
      refine lv_bipush (v := jI 6) hx hb dL_clock_423 (by decide) ?_
      refine xc_R (As := [.int (jI 6)]) (rest := []) hSx (kC 6 (by decide)) (cwV 1 hts gL_clock_X1_count rfl rfl rfl (by decide +kernel) ⟨Nat.le_of_ble_eq_true rfl, Nat.le_of_ble_eq_true rfl⟩) hP hK 0 he rfl rfl rfl hl.1 rfl (Nat.le_of_ble_eq_true rfl) dL_clock_425 ⟨Nat.zero_le _, Nat.zero_le _⟩ ?_
      refine x_if_ne (tgt := 467) hx hb dL_clock_428 (by decide) (by omega) (fun c428 => (by omega)) (fun c428 => ?_)
      refine lv_aload_n hx hb dL_clock_431 rfl (lv_at hl 1 rfl) ?_
      refine lv_bipush (v := jI 7) hx hb dL_clock_432 (by decide) ?_
      refine xc_R (As := [.int (jI 7)]) (rest := []) hSx (kC 7 (by decide)) (cwV 1 hts gL_clock_X1_count rfl rfl rfl (by decide +kernel) ⟨Nat.le_of_ble_eq_true rfl, Nat.le_of_ble_eq_true rfl⟩) hP hK 0 he rfl rfl rfl hl.1 rfl (Nat.le_of_ble_eq_true rfl) dL_clock_434 ⟨Nat.zero_le _, Nat.zero_le _⟩ ?_
      refine x_if_ne (tgt := 467) hx hb dL_clock_437 (by decide) (by omega) (fun c437 => (by omega)) (fun c437 => ?_)
      refine lv_aload_n hx hb dL_clock_440 rfl (lv_at hl 1 rfl) ?_
      refine xc_R (As := []) (rest := []) hSx kO (cwV 0 hts gL_clock_X1_opensIn rfl rfl rfl (by decide +kernel) ⟨Nat.le_of_ble_eq_true rfl, Nat.le_of_ble_eq_true rfl⟩) hP hK 0 he rfl rfl rfl hl.1 rfl (Nat.le_of_ble_eq_true rfl) dL_clock_441 ⟨Nat.zero_le _, Nat.zero_le _⟩ ?_
      refine lv_iconst (v := jI (-1)) hx hb dL_clock_444 rfl ?_
      refine x_icmp_ne (tgt := 467) hx hb dL_clock_445 (by decide) ⟨(by omega), (by decide)⟩ (fun c445 => (by omega)) (fun c445 => ?_)
      refine lv_aload_n hx hb dL_clock_448 rfl (lv_at hl 1 rfl) ?_
      refine xc_R (As := []) (rest := []) hSx kL (cwV 0 hts gL_clock_X1_lateness rfl rfl rfl (by decide +kernel) ⟨Nat.le_of_ble_eq_true rfl, Nat.le_of_ble_eq_true rfl⟩) hP hK 0 he rfl rfl rfl hl.1 rfl (Nat.le_of_ble_eq_true rfl) dL_clock_449 ⟨Nat.zero_le _, Nat.zero_le _⟩ ?_
      refine x_if_ne (tgt := 467) hx hb dL_clock_452 (by decide) (by omega) (fun c452 => (by omega)) (fun c452 => ?_)
      refine lv_aload_n hx hb dL_clock_455 rfl (lv_at hl 1 rfl) ?_
      refine xc_R (As := []) (rest := []) hSx kK (cwV 0 hts gL_clock_X1_keyMovement rfl rfl rfl (by decide +kernel) ⟨Nat.le_of_ble_eq_true rfl, Nat.le_of_ble_eq_true rfl⟩) hP hK 0 he rfl rfl rfl hl.1 rfl (Nat.le_of_ble_eq_true rfl) dL_clock_456 ⟨Nat.zero_le _, Nat.zero_le _⟩ ?_
      refine lv_iconst (v := jI (-1)) hx hb dL_clock_459 rfl ?_
      refine x_icmp_ne (tgt := 467) hx hb dL_clock_460 (by decide) ⟨(by omega), (by decide)⟩ (fun c460 => (by omega)) (fun c460 => ?_)
      exact K463 ls (lv_sub hl [1, 2, 3, 4, 0] rfl)
  have K301 : ∀ (ls : Array Slot), lv_has ls 7 [(0, .ref a0), (1, .int (jI (C 3))), (2, .int (jI (nr Dy 7))), (3, .int (jI (zr M 3))), (4, .int (jI 1))] → W p l e rm_L_clock s m ([.ref a0] : List Value).toArray below meth c s.heap [] 0 0 (MQ below (vp_Si (fun x => x = jI 1)) ([.ref a0] : List Value).toArray s 0 0 (fun _ => False)) (F0 m 301 ls []) := by
    intro ls hl
    refine lv_iload hx hb dL_clock_301 (lv_at hl 4 rfl) ?_
    refine x_if_eq (tgt := 401) hx hb dL_clock_303 (by decide) (by decide) (fun c303 => absurd c303 (by decide)) (fun c303 => ?_)
    refine lv_iload_n hx hb dL_clock_306 rfl (lv_at hl 2 rfl) ?_
    refine x_if_eq (tgt := 322) hx hb dL_clock_307 (by decide) (by omega) (fun c307 => ?_) (fun c307 => ?_)
    · skip
      refine lv_aload_n hx hb dL_clock_322 rfl (lv_at hl 0 rfl) ?_
      refine lv_iconst (v := jI 4) hx hb dL_clock_323 rfl ?_
      refine xc_R (As := [.int (jI 4)]) (rest := []) hSx (kC 4 (by decide)) (cwV 1 hts gL_clock_X1_count rfl rfl rfl (by decide +kernel) ⟨Nat.le_of_ble_eq_true rfl, Nat.le_of_ble_eq_true rfl⟩) hP hK 0 he rfl rfl rfl hl.1 rfl (Nat.le_of_ble_eq_true rfl) dL_clock_324 ⟨Nat.zero_le _, Nat.zero_le _⟩ ?_
      refine lv_iconst (v := jI 1) hx hb dL_clock_327 rfl ?_
      refine x_icmp_lt (tgt := 401) hx hb dL_clock_328 (by decide) ⟨(by omega), (by decide)⟩ (fun c328 => (by omega)) (fun c328 => ?_)
      refine lv_aload_n hx hb dL_clock_331 rfl (lv_at hl 0 rfl) ?_
      refine lv_iconst (v := jI 4) hx hb dL_clock_332 rfl ?_
      refine xc_R (As := [.int (jI 4)]) (rest := []) hSx (kC 4 (by decide)) (cwV 1 hts gL_clock_X1_count rfl rfl rfl (by decide +kernel) ⟨Nat.le_of_ble_eq_true rfl, Nat.le_of_ble_eq_true rfl⟩) hP hK 0 he rfl rfl rfl hl.1 rfl (Nat.le_of_ble_eq_true rfl) dL_clock_333 ⟨Nat.zero_le _, Nat.zero_le _⟩ ?_
      refine lv_sipush (v := jI 168) hx hb dL_clock_336 (by decide) ?_
      refine x_icmp_gt (tgt := 401) hx hb dL_clock_339 (by decide) ⟨(by omega), (by decide)⟩ (fun c339 => (by omega)) (fun c339 => ?_)
      exact K342 ls (lv_sub hl [0, 1, 2, 3, 4] rfl)
    · skip
      refine lv_aload_n hx hb dL_clock_310 rfl (lv_at hl 0 rfl) ?_
      refine lv_iconst (v := jI 4) hx hb dL_clock_311 rfl ?_
      refine xc_R (As := [.int (jI 4)]) (rest := []) hSx (kC 4 (by decide)) (cwV 1 hts gL_clock_X1_count rfl rfl rfl (by decide +kernel) ⟨Nat.le_of_ble_eq_true rfl, Nat.le_of_ble_eq_true rfl⟩) hP hK 0 he rfl rfl rfl hl.1 rfl (Nat.le_of_ble_eq_true rfl) dL_clock_312 ⟨Nat.zero_le _, Nat.zero_le _⟩ ?_
      refine lv_iconst (v := jI (-1)) hx hb dL_clock_315 rfl ?_
      refine x_icmp_ne (tgt := 401) hx hb dL_clock_316 (by decide) ⟨(by omega), (by decide)⟩ (fun c316 => (by omega)) (fun c316 => ?_)
      refine lv_goto (tgt := 342) hx hb dL_clock_319 (by decide) ?_
      exact K342 ls (lv_sub hl [0, 1, 2, 3, 4] rfl)
  have LM : ∀ (k i : Nat) (ls : Array Slot), i ≤ 3 → i + k = 4 → lv_has ls 7 [(0, .ref a0), (1, .int (jI (C 3))), (2, .int (jI (nr Dy 7))), (3, .int (jI (zr M i))), (4, .int (jI 1)), (5, .int (jI (i : Int)))] → W p l e rm_L_clock s m ([.ref a0] : List Value).toArray below meth c s.heap [] 0 0 (MQ below (vp_Si (fun x => x = jI 1)) ([.ref a0] : List Value).toArray s 0 0 (fun _ => False)) (F0 m 100 ls []) := by
    intro k
    induction k with
    | zero => intro i ls g1 g2; exact absurd g2 (by omega)
    | succ k ih =>
      intro i ls g1 g2 hl
      have hzi := zr_01 M i
      refine lv_iload hx hb dL_clock_100 (lv_at hl 5 rfl) ?_
      refine lv_iconst (v := jI 3) hx hb dL_clock_102 rfl ?_
      refine x_icmp_ge (tgt := 301) hx hb dL_clock_103 (by decide) ⟨(by omega), (by decide)⟩ (fun c103 => ?_) (fun c103 => ?_)
      · obtain rfl : i = 3 := by omega
        exact K301 ls (lv_sub hl [0, 1, 2, 3, 4] rfl)
      have hm := h3 i (by omega)
      unfold CFm at hm
      have K288 : ∀ (ls : Array Slot), lv_has ls 7 [(0, .ref a0), (1, .int (jI (C 3))), (2, .int (jI (nr Dy 7))), (3, .int (jI (zr M (i + 1)))), (4, .int (jI 1)), (5, .int (jI (i : Int))), (6, .int (jI (M i 5)))] → W p l e rm_L_clock s m ([.ref a0] : List Value).toArray below meth c s.heap [] 0 0 (MQ below (vp_Si (fun x => x = jI 1)) ([.ref a0] : List Value).toArray s 0 0 (fun _ => False)) (F0 m 288 ls []) := by
        intro ls hl
        refine lv_iconst (v := jI 1) hx hb dL_clock_288 rfl ?_
        refine lv_goto (tgt := 293) hx hb dL_clock_289 (by decide) ?_
        refine lv_istore (lv' := [(4, .int (jI 1)), (0, .ref a0), (1, .int (jI (C 3))), (2, .int (jI (nr Dy 7))), (3, .int (jI (zr M (i + 1)))), (5, .int (jI (i : Int))), (6, .int (jI (M i 5)))]) hx hb dL_clock_293 hl (by decide) rfl (fun ls hl => ?_)
        refine lv_iinc (v := jI ((i + 1 : Nat) : Int)) (lv' := [(5, .int (jI ((i + 1 : Nat) : Int))), (4, .int (jI 1)), (0, .ref a0), (1, .int (jI (C 3))), (2, .int (jI (nr Dy 7))), (3, .int (jI (zr M (i + 1)))), (6, .int (jI (M i 5)))]) hx hb dL_clock_295 hl (k := 5) rfl (jI_inc _ 1) (by decide) rfl (fun ls hl => ?_)
        refine lv_goto (tgt := 100) hx hb dL_clock_298 (by decide) ?_
        exact ih (i + 1) ls (by omega) (by omega) (lv_sub hl [2, 3, 4, 5, 1, 0] rfl)
      have K267 : ∀ (ls : Array Slot), lv_has ls 7 [(0, .ref a0), (1, .int (jI (C 3))), (2, .int (jI (nr Dy 7))), (3, .int (jI (zr M (i + 1)))), (4, .int (jI 1)), (5, .int (jI (i : Int))), (6, .int (jI (M i 5)))] → W p l e rm_L_clock s m ([.ref a0] : List Value).toArray below meth c s.heap [] 0 0 (MQ below (vp_Si (fun x => x = jI 1)) ([.ref a0] : List Value).toArray s 0 0 (fun _ => False)) (F0 m 267 ls []) := by
        intro ls hl
        refine lv_aload_n hx hb dL_clock_267 rfl (lv_at hl 0 rfl) ?_
        refine lv_iload hx hb dL_clock_268 (lv_at hl 5 rfl) ?_
        refine lv_iconst (v := jI 1) hx hb dL_clock_270 rfl ?_
        refine xc_R (As := [.int (jI (i : Int)), .int (jI 1)]) (rest := []) hSx (kM i 1 (by omega) (by decide)) (cwV 2 hts gL_clock_X1_movement rfl rfl rfl (by decide +kernel) ⟨Nat.le_of_ble_eq_true rfl, Nat.le_of_ble_eq_true rfl⟩) hP hK 0 he rfl rfl rfl hl.1 rfl (Nat.le_of_ble_eq_true rfl) dL_clock_271 ⟨Nat.zero_le _, Nat.zero_le _⟩ ?_
        refine lv_iconst (v := jI 1) hx hb dL_clock_274 rfl ?_
        refine x_icmp_eq (tgt := 288) hx hb dL_clock_275 (by decide) ⟨(by omega), (by decide)⟩ (fun c275 => ?_) (fun c275 => ?_)
        · skip
          exact K288 ls (lv_sub hl [0, 1, 2, 3, 4, 5, 6] rfl)
        · skip
          refine lv_aload_n hx hb dL_clock_278 rfl (lv_at hl 0 rfl) ?_
          refine lv_iload hx hb dL_clock_279 (lv_at hl 5 rfl) ?_
          refine xc_R (As := [.int (jI (i : Int))]) (rest := []) hSx (kW i (by omega)) (cwV 1 hts gL_clock_X1_rightWinding rfl rfl rfl (by decide +kernel) ⟨Nat.le_of_ble_eq_true rfl, Nat.le_of_ble_eq_true rfl⟩) hP hK 0 he rfl rfl rfl hl.1 rfl (Nat.le_of_ble_eq_true rfl) dL_clock_281 ⟨Nat.zero_le _, Nat.zero_le _⟩ ?_
          refine lv_iconst (v := jI (-1)) hx hb dL_clock_284 rfl ?_
          refine x_icmp_ne (tgt := 292) hx hb dL_clock_285 (by decide) ⟨(by omega), (by decide)⟩ (fun c285 => (by omega)) (fun c285 => ?_)
          exact K288 ls (lv_sub hl [0, 1, 2, 3, 4, 5, 6] rfl)
      have K239 : ∀ (ls : Array Slot), lv_has ls 7 [(0, .ref a0), (1, .int (jI (C 3))), (2, .int (jI (nr Dy 7))), (3, .int (jI (zr M (i + 1)))), (4, .int (jI 1)), (5, .int (jI (i : Int))), (6, .int (jI (M i 5)))] → W p l e rm_L_clock s m ([.ref a0] : List Value).toArray below meth c s.heap [] 0 0 (MQ below (vp_Si (fun x => x = jI 1)) ([.ref a0] : List Value).toArray s 0 0 (fun _ => False)) (F0 m 239 ls []) := by
        intro ls hl
        refine lv_iconst (v := jI 1) hx hb dL_clock_239 rfl ?_
        refine lv_goto (tgt := 244) hx hb dL_clock_240 (by decide) ?_
        refine lv_istore (lv' := [(4, .int (jI 1)), (0, .ref a0), (1, .int (jI (C 3))), (2, .int (jI (nr Dy 7))), (3, .int (jI (zr M (i + 1)))), (5, .int (jI (i : Int))), (6, .int (jI (M i 5)))]) hx hb dL_clock_244 hl (by decide) rfl (fun ls hl => ?_)
        refine lv_iload hx hb dL_clock_246 (lv_at hl 0 rfl) ?_
        refine x_if_eq (tgt := 292) hx hb dL_clock_248 (by decide) (by decide) (fun c248 => absurd c248 (by decide)) (fun c248 => ?_)
        refine lv_aload_n hx hb dL_clock_251 rfl (lv_at hl 1 rfl) ?_
        refine lv_iload hx hb dL_clock_252 (lv_at hl 5 rfl) ?_
        refine lv_iconst (v := jI 1) hx hb dL_clock_254 rfl ?_
        refine xc_R (As := [.int (jI (i : Int)), .int (jI 1)]) (rest := []) hSx (kM i 1 (by omega) (by decide)) (cwV 2 hts gL_clock_X1_movement rfl rfl rfl (by decide +kernel) ⟨Nat.le_of_ble_eq_true rfl, Nat.le_of_ble_eq_true rfl⟩) hP hK 0 he rfl rfl rfl hl.1 rfl (Nat.le_of_ble_eq_true rfl) dL_clock_255 ⟨Nat.zero_le _, Nat.zero_le _⟩ ?_
        refine lv_iconst (v := jI 1) hx hb dL_clock_258 rfl ?_
        refine x_icmp_eq (tgt := 267) hx hb dL_clock_259 (by decide) ⟨(by omega), (by decide)⟩ (fun c259 => ?_) (fun c259 => ?_)
        · skip
          exact K267 ls (lv_sub hl [1, 2, 3, 4, 0, 5, 6] rfl)
        · skip
          refine lv_iload hx hb dL_clock_262 (lv_at hl 6 rfl) ?_
          refine x_if_gt (tgt := 292) hx hb dL_clock_264 (by decide) (by omega) (fun c264 => (by omega)) (fun c264 => ?_)
          exact K267 ls (lv_sub hl [1, 2, 3, 4, 0, 5, 6] rfl)
      have K209 : ∀ (ls : Array Slot), lv_has ls 7 [(0, .ref a0), (1, .int (jI (C 3))), (2, .int (jI (nr Dy 7))), (3, .int (jI (zr M (i + 1)))), (4, .int (jI 1)), (5, .int (jI (i : Int))), (6, .int (jI (M i 5)))] → W p l e rm_L_clock s m ([.ref a0] : List Value).toArray below meth c s.heap [] 0 0 (MQ below (vp_Si (fun x => x = jI 1)) ([.ref a0] : List Value).toArray s 0 0 (fun _ => False)) (F0 m 209 ls []) := by
        intro ls hl
        refine lv_aload_n hx hb dL_clock_209 rfl (lv_at hl 0 rfl) ?_
        refine lv_iload hx hb dL_clock_210 (lv_at hl 5 rfl) ?_
        refine lv_iconst (v := jI 4) hx hb dL_clock_212 rfl ?_
        refine xc_R (As := [.int (jI (i : Int)), .int (jI 4)]) (rest := []) hSx (kM i 4 (by omega) (by decide)) (cwV 2 hts gL_clock_X1_movement rfl rfl rfl (by decide +kernel) ⟨Nat.le_of_ble_eq_true rfl, Nat.le_of_ble_eq_true rfl⟩) hP hK 0 he rfl rfl rfl hl.1 rfl (Nat.le_of_ble_eq_true rfl) dL_clock_213 ⟨Nat.zero_le _, Nat.zero_le _⟩ ?_
        refine lv_aload_n hx hb dL_clock_216 rfl (lv_at hl 0 rfl) ?_
        refine lv_iload hx hb dL_clock_217 (lv_at hl 5 rfl) ?_
        refine lv_iconst (v := jI 3) hx hb dL_clock_219 rfl ?_
        refine xc_R (As := [.int (jI (i : Int)), .int (jI 3)]) (rest := [.int (jI (M i 4))]) hSx (kM i 3 (by omega) (by decide)) (cwV 2 hts gL_clock_X1_movement rfl rfl rfl (by decide +kernel) ⟨Nat.le_of_ble_eq_true rfl, Nat.le_of_ble_eq_true rfl⟩) hP hK 0 he rfl rfl rfl hl.1 rfl (Nat.le_of_ble_eq_true rfl) dL_clock_220 ⟨Nat.zero_le _, Nat.zero_le _⟩ ?_
        refine lv_aload_n hx hb dL_clock_223 rfl (lv_at hl 0 rfl) ?_
        refine lv_iconst (v := jI 2) hx hb dL_clock_224 rfl ?_
        refine xc_R (As := [.int (jI 2)]) (rest := [.int (jI (M i 3)), .int (jI (M i 4))]) hSx (kS 2 (by decide)) (cwV 1 hts gL_clock_X1_setting rfl rfl rfl (by decide +kernel) ⟨Nat.le_of_ble_eq_true rfl, Nat.le_of_ble_eq_true rfl⟩) hP hK 0 he rfl rfl rfl hl.1 rfl (Nat.le_of_ble_eq_true rfl) dL_clock_225 ⟨Nat.zero_le _, Nat.zero_le _⟩ ?_
        refine x_icmp_lt (tgt := 235) hx hb dL_clock_228 (by decide) ⟨(by omega), (by omega)⟩ (fun c228 => ?_) (fun c228 => ?_)
        · skip
          refine lv_iconst (v := jI 0) hx hb dL_clock_235 rfl ?_
          refine x_icmp_ne (tgt := 243) hx hb dL_clock_236 (by decide) ⟨(by omega), (by decide)⟩ (fun c236 => (by omega)) (fun c236 => ?_)
          exact K239 ls (lv_sub hl [0, 1, 2, 3, 4, 5, 6] rfl)
        · skip
          refine lv_iconst (v := jI 1) hx hb dL_clock_231 rfl ?_
          refine lv_goto (tgt := 236) hx hb dL_clock_232 (by decide) ?_
          refine x_icmp_ne (tgt := 243) hx hb dL_clock_236 (by decide) ⟨(by omega), (by decide)⟩ (fun c236 => (by omega)) (fun c236 => ?_)
          exact K239 ls (lv_sub hl [0, 1, 2, 3, 4, 5, 6] rfl)
      have K181 : ∀ (ls : Array Slot), lv_has ls 7 [(0, .ref a0), (1, .int (jI (C 3))), (2, .int (jI (nr Dy 7))), (3, .int (jI (zr M (i + 1)))), (4, .int (jI 1)), (5, .int (jI (i : Int))), (6, .int (jI (M i 5)))] → W p l e rm_L_clock s m ([.ref a0] : List Value).toArray below meth c s.heap [] 0 0 (MQ below (vp_Si (fun x => x = jI 1)) ([.ref a0] : List Value).toArray s 0 0 (fun _ => False)) (F0 m 181 ls []) := by
        intro ls hl
        refine lv_iload hx hb dL_clock_181 (lv_at hl 6 rfl) ?_
        refine x_if_ne (tgt := 190) hx hb dL_clock_183 (by decide) (by omega) (fun c183 => ?_) (fun c183 => ?_)
        · skip
          refine lv_iconst (v := jI 0) hx hb dL_clock_190 rfl ?_
          refine lv_aload_n hx hb dL_clock_191 rfl (lv_at hl 0 rfl) ?_
          refine lv_iload hx hb dL_clock_192 (lv_at hl 5 rfl) ?_
          refine lv_iconst (v := jI 0) hx hb dL_clock_194 rfl ?_
          refine xc_R (As := [.int (jI (i : Int)), .int (jI 0)]) (rest := [.int (jI 0)]) hSx (kM i 0 (by omega) (by decide)) (cwV 2 hts gL_clock_X1_movement rfl rfl rfl (by decide +kernel) ⟨Nat.le_of_ble_eq_true rfl, Nat.le_of_ble_eq_true rfl⟩) hP hK 0 he rfl rfl rfl hl.1 rfl (Nat.le_of_ble_eq_true rfl) dL_clock_195 ⟨Nat.zero_le _, Nat.zero_le _⟩ ?_
          refine x_if_ne (tgt := 205) hx hb dL_clock_198 (by decide) (by omega) (fun c198 => ?_) (fun c198 => ?_)
          · skip
            refine lv_iconst (v := jI 0) hx hb dL_clock_205 rfl ?_
            refine x_icmp_ne (tgt := 243) hx hb dL_clock_206 (by decide) ⟨(by decide), (by decide)⟩ (fun c206 => absurd c206 (by decide)) (fun c206 => ?_)
            exact K209 ls (lv_sub hl [0, 1, 2, 3, 4, 5, 6] rfl)
          · skip
            refine lv_iconst (v := jI 1) hx hb dL_clock_201 rfl ?_
            refine lv_goto (tgt := 206) hx hb dL_clock_202 (by decide) ?_
            exact (by omega)
        · skip
          refine lv_iconst (v := jI 1) hx hb dL_clock_186 rfl ?_
          refine lv_goto (tgt := 191) hx hb dL_clock_187 (by decide) ?_
          refine lv_aload_n hx hb dL_clock_191 rfl (lv_at hl 0 rfl) ?_
          refine lv_iload hx hb dL_clock_192 (lv_at hl 5 rfl) ?_
          refine lv_iconst (v := jI 0) hx hb dL_clock_194 rfl ?_
          refine xc_R (As := [.int (jI (i : Int)), .int (jI 0)]) (rest := [.int (jI 1)]) hSx (kM i 0 (by omega) (by decide)) (cwV 2 hts gL_clock_X1_movement rfl rfl rfl (by decide +kernel) ⟨Nat.le_of_ble_eq_true rfl, Nat.le_of_ble_eq_true rfl⟩) hP hK 0 he rfl rfl rfl hl.1 rfl (Nat.le_of_ble_eq_true rfl) dL_clock_195 ⟨Nat.zero_le _, Nat.zero_le _⟩ ?_
          refine x_if_ne (tgt := 205) hx hb dL_clock_198 (by decide) (by omega) (fun c198 => ?_) (fun c198 => ?_)
          · skip
            refine lv_iconst (v := jI 0) hx hb dL_clock_205 rfl ?_
            exact (by omega)
          · skip
            refine lv_iconst (v := jI 1) hx hb dL_clock_201 rfl ?_
            refine lv_goto (tgt := 206) hx hb dL_clock_202 (by decide) ?_
            refine x_icmp_ne (tgt := 243) hx hb dL_clock_206 (by decide) ⟨(by decide), (by decide)⟩ (fun c206 => absurd c206 (by decide)) (fun c206 => ?_)
            exact K209 ls (lv_sub hl [0, 1, 2, 3, 4, 5, 6] rfl)
      have K139 : ∀ (v : Int) (ls : Array Slot), v = zr M (i + 1) → lv_has ls 7 [(0, .ref a0), (1, .int (jI (C 3))), (2, .int (jI (nr Dy 7))), (4, .int (jI 1)), (5, .int (jI (i : Int))), (6, .int (jI (M i 5)))] → W p l e rm_L_clock s m ([.ref a0] : List Value).toArray below meth c s.heap [] 0 0 (MQ below (vp_Si (fun x => x = jI 1)) ([.ref a0] : List Value).toArray s 0 0 (fun _ => False)) (F0 m 139 ls [.int (jI v)]) := by
        intro v ls hv hl
        subst hv
        refine lv_istore_n (lv' := [(3, .int (jI (zr M (i + 1)))), (0, .ref a0), (1, .int (jI (C 3))), (2, .int (jI (nr Dy 7))), (4, .int (jI 1)), (5, .int (jI (i : Int))), (6, .int (jI (M i 5)))]) hx hb dL_clock_139 rfl hl (by decide) rfl (fun ls hl => ?_)
        refine lv_aload_n hx hb dL_clock_140 rfl (lv_at hl 1 rfl) ?_
        refine lv_iload hx hb dL_clock_141 (lv_at hl 5 rfl) ?_
        refine lv_iconst (v := jI 0) hx hb dL_clock_143 rfl ?_
        refine xc_R (As := [.int (jI (i : Int)), .int (jI 0)]) (rest := []) hSx (kM i 0 (by omega) (by decide)) (cwV 2 hts gL_clock_X1_movement rfl rfl rfl (by decide +kernel) ⟨Nat.le_of_ble_eq_true rfl, Nat.le_of_ble_eq_true rfl⟩) hP hK 0 he rfl rfl rfl hl.1 rfl (Nat.le_of_ble_eq_true rfl) dL_clock_144 ⟨Nat.zero_le _, Nat.zero_le _⟩ ?_
        refine x_if_lt (tgt := 243) hx hb dL_clock_147 (by decide) (by omega) (fun c147 => (by omega)) (fun c147 => ?_)
        refine lv_aload_n hx hb dL_clock_150 rfl (lv_at hl 1 rfl) ?_
        refine lv_iload hx hb dL_clock_151 (lv_at hl 5 rfl) ?_
        refine lv_iconst (v := jI 0) hx hb dL_clock_153 rfl ?_
        refine xc_R (As := [.int (jI (i : Int)), .int (jI 0)]) (rest := []) hSx (kM i 0 (by omega) (by decide)) (cwV 2 hts gL_clock_X1_movement rfl rfl rfl (by decide +kernel) ⟨Nat.le_of_ble_eq_true rfl, Nat.le_of_ble_eq_true rfl⟩) hP hK 0 he rfl rfl rfl hl.1 rfl (Nat.le_of_ble_eq_true rfl) dL_clock_154 ⟨Nat.zero_le _, Nat.zero_le _⟩ ?_
        refine lv_sipush (v := jI 200) hx hb dL_clock_157 (by decide) ?_
        refine x_icmp_gt (tgt := 243) hx hb dL_clock_160 (by decide) ⟨(by omega), (by decide)⟩ (fun c160 => (by omega)) (fun c160 => ?_)
        refine lv_iload hx hb dL_clock_163 (lv_at hl 6 rfl) ?_
        refine lv_iconst (v := jI (-1)) hx hb dL_clock_165 rfl ?_
        refine x_icmp_eq (tgt := 181) hx hb dL_clock_166 (by decide) ⟨(by omega), (by decide)⟩ (fun c166 => ?_) (fun c166 => ?_)
        · skip
          exact K181 ls (lv_sub hl [1, 2, 3, 0, 4, 5, 6] rfl)
        · skip
          refine lv_iload hx hb dL_clock_169 (lv_at hl 6 rfl) ?_
          refine lv_aload_n hx hb dL_clock_171 rfl (lv_at hl 1 rfl) ?_
          refine lv_iload hx hb dL_clock_172 (lv_at hl 5 rfl) ?_
          refine lv_iconst (v := jI 0) hx hb dL_clock_174 rfl ?_
          refine xc_R (As := [.int (jI (i : Int)), .int (jI 0)]) (rest := [.int (jI (M i 5))]) hSx (kM i 0 (by omega) (by decide)) (cwV 2 hts gL_clock_X1_movement rfl rfl rfl (by decide +kernel) ⟨Nat.le_of_ble_eq_true rfl, Nat.le_of_ble_eq_true rfl⟩) hP hK 0 he rfl rfl rfl hl.1 rfl (Nat.le_of_ble_eq_true rfl) dL_clock_175 ⟨Nat.zero_le _, Nat.zero_le _⟩ ?_
          refine x_icmp_lt (tgt := 243) hx hb dL_clock_178 (by decide) ⟨(by omega), (by omega)⟩ (fun c178 => (by omega)) (fun c178 => ?_)
          exact K181 ls (lv_sub hl [1, 2, 3, 0, 4, 5, 6] rfl)
      refine lv_iload hx hb dL_clock_106 (lv_at hl 4 rfl) ?_
      refine x_if_eq (tgt := 301) hx hb dL_clock_108 (by decide) (by decide) (fun c108 => absurd c108 (by decide)) (fun c108 => ?_)
      refine lv_aload_n hx hb dL_clock_111 rfl (lv_at hl 0 rfl) ?_
      refine lv_iload hx hb dL_clock_112 (lv_at hl 5 rfl) ?_
      refine lv_iconst (v := jI 5) hx hb dL_clock_114 rfl ?_
      refine xc_R (As := [.int (jI (i : Int)), .int (jI 5)]) (rest := []) hSx (kM i 5 (by omega) (by decide)) (cwV 2 hts gL_clock_X1_movement rfl rfl rfl (by decide +kernel) ⟨Nat.le_of_ble_eq_true rfl, Nat.le_of_ble_eq_true rfl⟩) hP hK 0 he rfl rfl rfl hl.1 rfl (Nat.le_of_ble_eq_true rfl) dL_clock_115 ⟨Nat.zero_le _, Nat.zero_le _⟩ ?_
      refine lv_istore (lv' := [(6, .int (jI (M i 5))), (0, .ref a0), (1, .int (jI (C 3))), (2, .int (jI (nr Dy 7))), (3, .int (jI (zr M i))), (4, .int (jI 1)), (5, .int (jI (i : Int)))]) hx hb dL_clock_118 hl (by decide) rfl (fun ls hl => ?_)
      refine lv_iload_n hx hb dL_clock_120 rfl (lv_at hl 4 rfl) ?_
      refine x_if_ne (tgt := 134) hx hb dL_clock_121 (by decide) (by omega) (fun c121 => ?_) (fun c121 => ?_)
      · skip
        refine lv_iconst (v := jI 1) hx hb dL_clock_134 rfl ?_
        refine lv_goto (tgt := 139) hx hb dL_clock_135 (by decide) ?_
        exact K139 1 ls (by show (1 : Int) = (if zr M i = 0 then (if M i 0 = 0 then 1 else 0) else 1); (repeat' split) <;> omega) (lv_sub hl [1, 2, 3, 5, 6, 0] rfl)
      · skip
        refine lv_aload_n hx hb dL_clock_124 rfl (lv_at hl 1 rfl) ?_
        refine lv_iload hx hb dL_clock_125 (lv_at hl 6 rfl) ?_
        refine lv_iconst (v := jI 0) hx hb dL_clock_127 rfl ?_
        refine xc_R (As := [.int (jI (i : Int)), .int (jI 0)]) (rest := []) hSx (kM i 0 (by omega) (by decide)) (cwV 2 hts gL_clock_X1_movement rfl rfl rfl (by decide +kernel) ⟨Nat.le_of_ble_eq_true rfl, Nat.le_of_ble_eq_true rfl⟩) hP hK 0 he rfl rfl rfl hl.1 rfl (Nat.le_of_ble_eq_true rfl) dL_clock_128 ⟨Nat.zero_le _, Nat.zero_le _⟩ ?_
        refine x_if_ne (tgt := 138) hx hb dL_clock_131 (by decide) (by omega) (fun c131 => ?_) (fun c131 => ?_)
        · skip
          refine lv_iconst (v := jI 0) hx hb dL_clock_138 rfl ?_
          exact K139 0 ls (by show (0 : Int) = (if zr M i = 0 then (if M i 0 = 0 then 1 else 0) else 1); (repeat' split) <;> omega) (lv_sub hl [1, 2, 3, 5, 6, 0] rfl)
        · skip
          refine lv_iconst (v := jI 1) hx hb dL_clock_134 rfl ?_
          refine lv_goto (tgt := 139) hx hb dL_clock_135 (by decide) ?_
          exact K139 1 ls (by show (1 : Int) = (if zr M i = 0 then (if M i 0 = 0 then 1 else 0) else 1); (repeat' split) <;> omega) (lv_sub hl [1, 2, 3, 5, 6, 0] rfl)
  have K97 : ∀ (ls : Array Slot), lv_has ls 7 [(0, .ref a0), (1, .int (jI (C 3))), (2, .int (jI (nr Dy 7))), (3, .int (jI 0)), (4, .int (jI 1))] → W p l e rm_L_clock s m ([.ref a0] : List Value).toArray below meth c s.heap [] 0 0 (MQ below (vp_Si (fun x => x = jI 1)) ([.ref a0] : List Value).toArray s 0 0 (fun _ => False)) (F0 m 97 ls []) := by
    intro ls hl
    refine lv_iconst (v := jI 0) hx hb dL_clock_97 rfl ?_
    refine lv_istore (lv' := [(5, .int (jI 0)), (0, .ref a0), (1, .int (jI (C 3))), (2, .int (jI (nr Dy 7))), (3, .int (jI 0)), (4, .int (jI 1))]) hx hb dL_clock_98 hl (by decide) rfl (fun ls hl => ?_)
    exact LM 4 0 ls (by decide) (by decide) (lv_sub hl [1, 2, 3, 4, 5, 0] rfl)
  have LY : ∀ (k i : Nat) (ls : Array Slot), i ≤ 7 → i + k = 8 → lv_has ls 7 [(0, .ref a0), (1, .int (jI (C 3))), (2, .int (jI (nr Dy i))), (3, .int (jI 0)), (4, .int (jI 1)), (5, .int (jI (i : Int)))] → W p l e rm_L_clock s m ([.ref a0] : List Value).toArray below meth c s.heap [] 0 0 (MQ below (vp_Si (fun x => x = jI 1)) ([.ref a0] : List Value).toArray s 0 0 (fun _ => False)) (F0 m 64 ls []) := by
    intro k
    induction k with
    | zero => intro i ls g1 g2; exact absurd g2 (by omega)
    | succ k ih =>
      intro i ls g1 g2 hl
      have hni := nr_01 Dy i
      refine lv_iload hx hb dL_clock_64 (lv_at hl 5 rfl) ?_
      refine lv_bipush (v := jI 7) hx hb dL_clock_66 (by decide) ?_
      refine x_icmp_ge (tgt := 97) hx hb dL_clock_68 (by decide) ⟨(by omega), (by decide)⟩ (fun c68 => ?_) (fun c68 => ?_)
      · obtain rfl : i = 7 := by omega
        exact K97 ls (lv_sub hl [0, 1, 2, 3, 4] rfl)
      have hd2 := h2 i (by omega)
      have K90 : ∀ (v : Int) (ls : Array Slot), v = nr Dy (i + 1) → lv_has ls 7 [(0, .ref a0), (1, .int (jI (C 3))), (3, .int (jI 0)), (4, .int (jI 1)), (5, .int (jI (i : Int)))] → W p l e rm_L_clock s m ([.ref a0] : List Value).toArray below meth c s.heap [] 0 0 (MQ below (vp_Si (fun x => x = jI 1)) ([.ref a0] : List Value).toArray s 0 0 (fun _ => False)) (F0 m 90 ls [.int (jI v)]) := by
        intro v ls hv hl
        subst hv
        refine lv_istore_n (lv' := [(2, .int (jI (nr Dy (i + 1)))), (0, .ref a0), (1, .int (jI (C 3))), (3, .int (jI 0)), (4, .int (jI 1)), (5, .int (jI (i : Int)))]) hx hb dL_clock_90 rfl hl (by decide) rfl (fun ls hl => ?_)
        refine lv_iinc (v := jI ((i + 1 : Nat) : Int)) (lv' := [(5, .int (jI ((i + 1 : Nat) : Int))), (2, .int (jI (nr Dy (i + 1)))), (0, .ref a0), (1, .int (jI (C 3))), (3, .int (jI 0)), (4, .int (jI 1))]) hx hb dL_clock_91 hl (k := 5) rfl (jI_inc _ 1) (by decide) rfl (fun ls hl => ?_)
        refine lv_goto (tgt := 64) hx hb dL_clock_94 (by decide) ?_
        exact ih (i + 1) ls (by omega) (by omega) (lv_sub hl [2, 3, 1, 4, 5, 0] rfl)
      refine lv_iload_n hx hb dL_clock_71 rfl (lv_at hl 2 rfl) ?_
      refine x_if_eq (tgt := 89) hx hb dL_clock_72 (by decide) (by omega) (fun c72 => ?_) (fun c72 => ?_)
      · skip
        refine lv_iconst (v := jI 0) hx hb dL_clock_89 rfl ?_
        exact K90 0 ls (by show (0 : Int) = (if nr Dy i = 0 then 0 else if Dy i = -1 then 1 else 0); (repeat' split) <;> omega) (lv_sub hl [0, 1, 3, 4, 5] rfl)
      · skip
        refine lv_aload_n hx hb dL_clock_75 rfl (lv_at hl 0 rfl) ?_
        refine lv_iload hx hb dL_clock_76 (lv_at hl 5 rfl) ?_
        refine xc_R (As := [.int (jI (i : Int))]) (rest := []) hSx (kD i (by omega)) (cwV 1 hts gL_clock_X1_day rfl rfl rfl (by decide +kernel) ⟨Nat.le_of_ble_eq_true rfl, Nat.le_of_ble_eq_true rfl⟩) hP hK 0 he rfl rfl rfl hl.1 rfl (Nat.le_of_ble_eq_true rfl) dL_clock_78 ⟨Nat.zero_le _, Nat.zero_le _⟩ ?_
        refine lv_iconst (v := jI (-1)) hx hb dL_clock_81 rfl ?_
        refine x_icmp_ne (tgt := 89) hx hb dL_clock_82 (by decide) ⟨(by omega), (by decide)⟩ (fun c82 => ?_) (fun c82 => ?_)
        · skip
          refine lv_iconst (v := jI 0) hx hb dL_clock_89 rfl ?_
          exact K90 0 ls (by show (0 : Int) = (if nr Dy i = 0 then 0 else if Dy i = -1 then 1 else 0); (repeat' split) <;> omega) (lv_sub hl [0, 1, 3, 4, 5] rfl)
        · skip
          refine lv_iconst (v := jI 1) hx hb dL_clock_85 rfl ?_
          refine lv_goto (tgt := 90) hx hb dL_clock_86 (by decide) ?_
          exact K90 1 ls (by show (1 : Int) = (if nr Dy i = 0 then 0 else if Dy i = -1 then 1 else 0); (repeat' split) <;> omega) (lv_sub hl [0, 1, 3, 4, 5] rfl)
  have K14 : ∀ (v : Int) (ls : Array Slot), v = C 3 → lv_has ls 7 [(0, .ref a0)] → W p l e rm_L_clock s m ([.ref a0] : List Value).toArray below meth c s.heap [] 0 0 (MQ below (vp_Si (fun x => x = jI 1)) ([.ref a0] : List Value).toArray s 0 0 (fun _ => False)) (F0 m 14 ls [.int (jI v)]) := by
    intro v ls hv hl
    subst hv
    refine lv_istore_n (lv' := [(1, .int (jI (C 3))), (0, .ref a0)]) hx hb dL_clock_14 rfl hl (by decide) rfl (fun ls hl => ?_)
    refine lv_iconst (v := jI 1) hx hb dL_clock_15 rfl ?_
    refine lv_istore_n (lv' := [(2, .int (jI 1)), (1, .int (jI (C 3))), (0, .ref a0)]) hx hb dL_clock_16 rfl hl (by decide) rfl (fun ls hl => ?_)
    refine lv_iconst (v := jI 0) hx hb dL_clock_17 rfl ?_
    refine lv_istore_n (lv' := [(3, .int (jI 0)), (2, .int (jI 1)), (1, .int (jI (C 3))), (0, .ref a0)]) hx hb dL_clock_18 rfl hl (by decide) rfl (fun ls hl => ?_)
    refine lv_aload_n hx hb dL_clock_19 rfl (lv_at hl 3 rfl) ?_
    refine lv_iconst (v := jI 1) hx hb dL_clock_20 rfl ?_
    refine xc_R (As := [.int (jI 1)]) (rest := []) hSx (kC 1 (by decide)) (cwV 1 hts gL_clock_X1_count rfl rfl rfl (by decide +kernel) ⟨Nat.le_of_ble_eq_true rfl, Nat.le_of_ble_eq_true rfl⟩) hP hK 0 he rfl rfl rfl hl.1 rfl (Nat.le_of_ble_eq_true rfl) dL_clock_21 ⟨Nat.zero_le _, Nat.zero_le _⟩ ?_
    refine lv_aload_n hx hb dL_clock_24 rfl (lv_at hl 3 rfl) ?_
    refine lv_iconst (v := jI 0) hx hb dL_clock_25 rfl ?_
    refine xc_R (As := [.int (jI 0)]) (rest := [.int (jI (C 1))]) hSx (kC 0 (by decide)) (cwV 1 hts gL_clock_X1_count rfl rfl rfl (by decide +kernel) ⟨Nat.le_of_ble_eq_true rfl, Nat.le_of_ble_eq_true rfl⟩) hP hK 0 he rfl rfl rfl hl.1 rfl (Nat.le_of_ble_eq_true rfl) dL_clock_26 ⟨Nat.zero_le _, Nat.zero_le _⟩ ?_
    refine lv_bipush (v := jI 24) hx hb dL_clock_29 (by decide) ?_
    refine x_idiv hx hb dL_clock_31 (by omega) ?_
    refine lv_bipush (v := jI 7) hx hb dL_clock_32 (by decide) ?_
    refine x_irem hx hb dL_clock_34 (by omega) ?_
    refine x_icmp_ne (tgt := 58) hx hb dL_clock_35 (by decide) ⟨(by omega), (by omega)⟩ (fun c35 => (by omega)) (fun c35 => ?_)
    refine lv_aload_n hx hb dL_clock_38 rfl (lv_at hl 3 rfl) ?_
    refine lv_iconst (v := jI 2) hx hb dL_clock_39 rfl ?_
    refine xc_R (As := [.int (jI 2)]) (rest := []) hSx (kC 2 (by decide)) (cwV 1 hts gL_clock_X1_count rfl rfl rfl (by decide +kernel) ⟨Nat.le_of_ble_eq_true rfl, Nat.le_of_ble_eq_true rfl⟩) hP hK 0 he rfl rfl rfl hl.1 rfl (Nat.le_of_ble_eq_true rfl) dL_clock_40 ⟨Nat.zero_le _, Nat.zero_le _⟩ ?_
    refine lv_aload_n hx hb dL_clock_43 rfl (lv_at hl 3 rfl) ?_
    refine lv_iconst (v := jI 0) hx hb dL_clock_44 rfl ?_
    refine xc_R (As := [.int (jI 0)]) (rest := [.int (jI (C 2))]) hSx (kC 0 (by decide)) (cwV 1 hts gL_clock_X1_count rfl rfl rfl (by decide +kernel) ⟨Nat.le_of_ble_eq_true rfl, Nat.le_of_ble_eq_true rfl⟩) hP hK 0 he rfl rfl rfl hl.1 rfl (Nat.le_of_ble_eq_true rfl) dL_clock_45 ⟨Nat.zero_le _, Nat.zero_le _⟩ ?_
    refine lv_bipush (v := jI 24) hx hb dL_clock_48 (by decide) ?_
    refine x_irem hx hb dL_clock_50 (by omega) ?_
    refine x_icmp_ne (tgt := 58) hx hb dL_clock_51 (by decide) ⟨(by omega), (by omega)⟩ (fun c51 => (by omega)) (fun c51 => ?_)
    refine lv_iconst (v := jI 1) hx hb dL_clock_54 rfl ?_
    refine lv_goto (tgt := 59) hx hb dL_clock_55 (by decide) ?_
    refine lv_istore (lv' := [(4, .int (jI 1)), (3, .int (jI 0)), (2, .int (jI 1)), (1, .int (jI (C 3))), (0, .ref a0)]) hx hb dL_clock_59 hl (by decide) rfl (fun ls hl => ?_)
    refine lv_iconst (v := jI 0) hx hb dL_clock_61 rfl ?_
    refine lv_istore (lv' := [(5, .int (jI 0)), (4, .int (jI 1)), (3, .int (jI 0)), (2, .int (jI 1)), (1, .int (jI (C 3))), (0, .ref a0)]) hx hb dL_clock_62 hl (by decide) rfl (fun ls hl => ?_)
    exact LY 8 0 ls (by decide) (by decide) (lv_sub hl [5, 4, 3, 2, 1, 0] rfl)
  refine lv_aload_n hx hb dL_clock_0 rfl (lv_at hl 0 rfl) ?_
  refine lv_iconst (v := jI 3) hx hb dL_clock_1 rfl ?_
  refine xc_R (As := [.int (jI 3)]) (rest := []) hSx (kC 3 (by decide)) (cwV 1 hts gL_clock_X1_count rfl rfl rfl (by decide +kernel) ⟨Nat.le_of_ble_eq_true rfl, Nat.le_of_ble_eq_true rfl⟩) hP hK 0 he rfl rfl rfl hl.1 rfl (Nat.le_of_ble_eq_true rfl) dL_clock_2 ⟨Nat.zero_le _, Nat.zero_le _⟩ ?_
  refine lv_iconst (v := jI 1) hx hb dL_clock_5 rfl ?_
  refine x_icmp_ne (tgt := 13) hx hb dL_clock_6 (by decide) ⟨(by omega), (by decide)⟩ (fun c6 => ?_) (fun c6 => ?_)
  · skip
    refine lv_iconst (v := jI 0) hx hb dL_clock_13 rfl ?_
    exact K14 0 ls (by omega) (lv_sub hl [0] rfl)
  · skip
    refine lv_iconst (v := jI 1) hx hb dL_clock_9 rfl ?_
    refine lv_goto (tgt := 14) hx hb dL_clock_10 (by decide) ?_
    exact K14 1 ls (by omega) (lv_sub hl [0] rfl)
