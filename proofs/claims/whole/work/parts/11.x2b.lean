theorem hg2_step (f f9 : Nat → Int) (i : Nat) (d : Int) (hi : i < 3) (h : rng f9 ∧ mv2B f9 (900000 + i) ∧ f9 0 = f 0) (hd : 0 ≤ d ∧ d ≤ 1) (ht : 0 < f9 (21 + 4 * i)) : rng (upz (upz f9 (21 + 4 * i + 3) (f9 (21 + 4 * i + 3) + 1)) (21 + 4 * i) (f9 (21 + 4 * i) - d)) ∧ mv2B (upz (upz f9 (21 + 4 * i + 3) (f9 (21 + 4 * i + 3) + 1)) (21 + 4 * i) (f9 (21 + 4 * i) - d)) (900000 + ((i + 1 : Nat) : Int)) ∧ (upz (upz f9 (21 + 4 * i + 3) (f9 (21 + 4 * i + 3) + 1)) (21 + 4 * i) (f9 (21 + 4 * i) - d)) 0 = f 0 := by
  obtain ⟨h1, h2, h3⟩ := h
  have h4 := h2 i hi
  refine ⟨rng_upz (rng_upz h1 (by omega)) (by omega), ?_, ?_⟩
  · intro j hj
    have h5 := h2 j hj
    dsimp only [upz]
    (repeat' split) <;> omega
  · rw [upz_n (by omega), upz_n (by omega), h3]
def s_X2_saves_lp51 (f : Nat → Int) : Nat → Nat → (Nat → Int) → Nat → (Nat → Int) × Nat
  | 0, _, _, _ => default
  | k + 1, i, g8, n9 => if 33 ≤ (i : Int) then (g8, (n9 + 1)) else (s_X2_saves_lp51 f k (i + 1) (upz g8 ((33 * n9) + i) (f i)) n9)
def s_X2_saves_lp11 (f : Nat → Int) (n : Nat) : Nat → Nat → (Nat → Int) → (Nat → Int) × Nat
  | 0, _, _ => default
  | k + 1, i, g9 => if 165 ≤ (i : Int) then (s_X2_saves_lp51 f (33 + 1 - 0) 0 g9 (n - 1)) else (s_X2_saves_lp11 f n k (i + 1) (upz g9 i (g9 (i + 33))))
def s_X2_saves (f : Nat → Int) (g : Nat → Int) (n : Nat) : (Nat → Int) × Nat := if (n : Int) = 6 then (s_X2_saves_lp11 f n (165 + 1 - 0) 0 g) else (s_X2_saves_lp51 f (33 + 1 - 0) 0 g n)
abbrev rm_X2_saves : Room := { frames := 0, cells := 0, slots := 0, locals := 0 }
set_option maxHeartbeats 4000000 in
set_option maxRecDepth 100000 in
theorem m_X2_saves (l : Launch) (D : va_G) (cI : ClassId) (a : Nat → Nat) (f : Nat → Int) (g : Nat → Int) (n : Nat) (b : Nat → Int) (len : Nat) (th : Int) (at_ : Nat) (fl : Int) (va : Int) (so : Nat → Int) (ma : Nat → Int) (hn : n ≤ 6) : MetV l yX2_saves wsX2_saves rm_X2_saves D cI [.ref (a 0)] (w2 cI a f g n b len th at_ fl va so ma) (w2 cI a f ((s_X2_saves f g n).1) ((s_X2_saves f g n).2) b len th at_ fl va so ma) := by
  refine xe_V (cc := cX2_saves) (maxL := 2) (ret := none) (by decide) rfl (Nat.le_of_ble_eq_true rfl) ?_
  intro p e s m below meth c hx hb hr hml hts hown hlocks hP hK A hA hD hS ls hl
  have hl : lv_has ls 2 [(0, .ref (a 0))] := hl
  have hown : s.vm.findClass RX2 = some m.cls := hown
  have hSx : CallFix p m c cX2_saves 2 s ([.ref (a 0)] : List Value).toArray wsX2_saves RX2 := ⟨hx, hb, hml, hown, hts⟩
  have inRX2 : ∀ w ∈ u_ws RX2 TX2 11, w ∈ wsX2_saves := by decide +kernel
  have qf13 := hts (.fieldLink RX2 13 "VaultMovementsModel" "past" "[I") (by decide +kernel)
  have qf33 := hts (.fieldLink RX2 33 "VaultMovementsModel" "kept" "I") (by decide +kernel)
  have qf7 := hts (.fieldLink RX2 7 "VaultMovementsModel" "now" "[I") (by decide +kernel)
  obtain ⟨z, hz⟩ : ∃ z, z = (s_X2_saves f g n) := ⟨_, rfl⟩
  rw [← hz]
  unfold s_X2_saves at hz
  refine lv_aload_n hx hb dX2_saves_0 rfl (lv_at hl 0 rfl) ?_
  refine va_get (D := D) (ci := 2) (v := .int (jI (n : Int))) (C := RX2) (T := TX2) (N := 11) hx hb hts inRX2 hown hK hP 0 rfl rfl 2 (by decide) qf33 (fun _ h9 => h9) rfl dX2_saves_1 ?_
  refine lv_bipush (v := jI 6) hx hb dX2_saves_4 (by decide) ?_
  refine x_icmp_ne (tgt := 49) hx hb dX2_saves_6 (by decide) ⟨(by omega), (by decide)⟩ (fun c6 => ?_) (fun c6 => ?_)
  · rw [if_neg c6] at hz
    refine lv_iconst (v := jI 0) hx hb dX2_saves_49 rfl ?_
    refine lv_istore_n (lv' := [(1, .int (jI 0)), (0, .ref (a 0))]) hx hb dX2_saves_50 rfl hl (by decide) rfl (fun ls hl => ?_)
    have LP51 : ∀ (k i : Nat) (g8 : Nat → Int) (n9 : Nat) (H : Heap) (locs : List Loc) (ls : Array Slot), i ≤ 33 → i + k = 33 + 1 → z = (s_X2_saves_lp51 f) k i g8 n9 → (n9 ≤ 5) → va_P D vwCl (w2 cI a f g8 n9 b len th at_ fl va so ma) H → va_D A (w2 cI a f g8 n9 b len th at_ fl va so ma) → va_S A s.heap H locs → lv_has ls 2 [(0, .ref (a 0)), (1, .int (jI (i : Int)))] → W p l e rm_X2_saves s m ([.ref (a 0)] : List Value).toArray below meth c H locs 0 0 (MQ below (va_Qv (fun (_ : Unit) => True) (xq_B D cI A (w2 cI a f z.1 z.2 b len th at_ fl va so ma)) A) ([.ref (a 0)] : List Value).toArray s 0 0 A) (F0 m 51 ls []) := by
      intro k
      induction k with
      | zero => intro i g8 n9 _ _ ls h1 h2; exact absurd h2 (by omega)
      | succ k ih =>
        intro i g8 n9 H locs ls h1 h2 hz hn9 hP hD hS hl
        rw [s_X2_saves_lp51] at hz
        refine lv_iload_n hx hb dX2_saves_51 rfl (lv_at hl 1 rfl) ?_
        refine lv_bipush (v := jI 33) hx hb dX2_saves_52 (by decide) ?_
        refine x_icmp_ge (tgt := 83) hx hb dX2_saves_54 (by decide) ⟨(by omega), (by decide)⟩ (fun c54 => ?_) (fun c54 => ?_)
        · rw [if_pos c54] at hz
          refine lv_aload_n hx hb dX2_saves_83 rfl (lv_at hl 0 rfl) ?_
          refine lv_dup hx hb dX2_saves_84 rfl ?_
          refine va_get (D := D) (ci := 2) (v := .int (jI (n9 : Int))) (C := RX2) (T := TX2) (N := 11) hx hb hts inRX2 hown hK hP 0 rfl rfl 2 (by decide) qf33 (fun _ h9 => h9) rfl dX2_saves_85 ?_
          refine lv_iconst (v := jI 1) hx hb dX2_saves_88 rfl ?_
          refine x_iadd hx hb dX2_saves_89 ?_
          refine va_put (D := D) (ci := 2) (v := .int (jI ((n9 : Int) + 1))) (ty := .int) (C := RX2) (T := TX2) (N := 11) hx hb hts inRX2 tyX2 tyX2_ok nmX2 hown hK hP hD hS 0 rfl rfl 2 (by decide) qf33 (fun _ h9 => h9) rfl (by decide +kernel) rfl rfl (Nat.le_of_ble_eq_true rfl) dX2_saves_90 (fun H locs hP hD hS => ?_)
          have hP : va_P D vwCl (w2 cI a f g8 (n9 + 1) b len th at_ fl va so ma) H := hP
          have hD : va_D A (w2 cI a f g8 (n9 + 1) b len th at_ fl va so ma) := hD
          subst hz
          exact xi_v hx hb hr hlocks hK hP hD hS rfl dX2_saves_93
        · rw [if_neg c54] at hz
          refine lv_aload_n hx hb dX2_saves_57 rfl (lv_at hl 0 rfl) ?_
          refine va_get (D := D) (ci := 2) (v := .ref (a 2)) (C := RX2) (T := TX2) (N := 11) hx hb hts inRX2 hown hK hP 0 rfl rfl 1 (by decide) qf13 (fun _ h9 => h9) rfl dX2_saves_58 ?_
          refine lv_bipush (v := jI 33) hx hb dX2_saves_61 (by decide) ?_
          refine lv_aload_n hx hb dX2_saves_63 rfl (lv_at hl 0 rfl) ?_
          refine va_get (D := D) (ci := 2) (v := .int (jI (n9 : Int))) (C := RX2) (T := TX2) (N := 11) hx hb hts inRX2 hown hK hP 0 rfl rfl 2 (by decide) qf33 (fun _ h9 => h9) rfl dX2_saves_64 ?_
          refine x_imul hx hb dX2_saves_67 ?_
          refine lv_iload_n hx hb dX2_saves_68 rfl (lv_at hl 1 rfl) ?_
          refine x_iadd hx hb dX2_saves_69 ?_
          refine lv_aload_n hx hb dX2_saves_70 rfl (lv_at hl 0 rfl) ?_
          refine va_get (D := D) (ci := 2) (v := .ref (a 1)) (C := RX2) (T := TX2) (N := 11) hx hb hts inRX2 hown hK hP 0 rfl rfl 0 (by decide) qf7 (fun _ h9 => h9) rfl dX2_saves_71 ?_
          refine lv_iload_n hx hb dX2_saves_74 rfl (lv_at hl 1 rfl) ?_
          refine x_iald hx hb hK hP 1 0 rfl rfl i (by omega) (by omega) (by decide) dX2_saves_75 ?_
          refine x_iast (w1 := (w2 cI a f (upz g8 ((33 * n9) + i) (f i)) n9 b len th at_ fl va so ma)) hx hb hK hP hD hS 2 0 rfl rfl ((33 * n9) + i) (by omega) (by omega) (by decide) dX2_saves_76 rfl (fun H locs hP hD hS => ?_)
          refine lv_iinc (v := jI ((i + 1 : Nat) : Int)) (lv' := [(1, .int (jI ((i + 1 : Nat) : Int))), (0, .ref (a 0))]) hx hb dX2_saves_77 hl (k := 1) rfl (jI_inc _ 1) (by decide) rfl (fun ls hl => ?_)
          refine lv_goto (tgt := 51) hx hb dX2_saves_80 (by decide) ?_
          exact ih (i + 1) (upz g8 ((33 * n9) + i) (f i)) n9 _ _ ls (by omega) (by omega) hz (by omega) hP hD hS (lv_sub hl [1, 0] rfl)
    exact LP51 (33 + 1 - 0) 0 g n _ _ ls (by omega) (by omega) hz (by omega) hP hD hS (lv_sub hl [1, 0] rfl)
  · rw [if_pos c6] at hz
    refine lv_iconst (v := jI 0) hx hb dX2_saves_9 rfl ?_
    refine lv_istore_n (lv' := [(1, .int (jI 0)), (0, .ref (a 0))]) hx hb dX2_saves_10 rfl hl (by decide) rfl (fun ls hl => ?_)
    have LP11 : ∀ (k i : Nat) (g9 : Nat → Int) (H : Heap) (locs : List Loc) (ls : Array Slot), i ≤ 165 → i + k = 165 + 1 → z = (s_X2_saves_lp11 f n) k i g9 → va_P D vwCl (w2 cI a f g9 n b len th at_ fl va so ma) H → va_D A (w2 cI a f g9 n b len th at_ fl va so ma) → va_S A s.heap H locs → lv_has ls 2 [(0, .ref (a 0)), (1, .int (jI (i : Int)))] → W p l e rm_X2_saves s m ([.ref (a 0)] : List Value).toArray below meth c H locs 0 0 (MQ below (va_Qv (fun (_ : Unit) => True) (xq_B D cI A (w2 cI a f z.1 z.2 b len th at_ fl va so ma)) A) ([.ref (a 0)] : List Value).toArray s 0 0 A) (F0 m 11 ls []) := by
      intro k
      induction k with
      | zero => intro i g9 _ _ ls h1 h2; exact absurd h2 (by omega)
      | succ k ih =>
        intro i g9 H locs ls h1 h2 hz hP hD hS hl
        rw [s_X2_saves_lp11] at hz
        refine lv_iload_n hx hb dX2_saves_11 rfl (lv_at hl 1 rfl) ?_
        refine lv_sipush (v := jI 165) hx hb dX2_saves_12 (by decide) ?_
        refine x_icmp_ge (tgt := 39) hx hb dX2_saves_15 (by decide) ⟨(by omega), (by decide)⟩ (fun c15 => ?_) (fun c15 => ?_)
        · rw [if_pos c15] at hz
          refine lv_aload_n hx hb dX2_saves_39 rfl (lv_at hl 0 rfl) ?_
          refine lv_dup hx hb dX2_saves_40 rfl ?_
          refine va_get (D := D) (ci := 2) (v := .int (jI (n : Int))) (C := RX2) (T := TX2) (N := 11) hx hb hts inRX2 hown hK hP 0 rfl rfl 2 (by decide) qf33 (fun _ h9 => h9) rfl dX2_saves_41 ?_
          refine lv_iconst (v := jI 1) hx hb dX2_saves_44 rfl ?_
          refine x_isub hx hb dX2_saves_45 ?_
          refine lv_topi (fun y9 ey9 => ?_)
          obtain rfl : y9 = jI ((n - 1 : Nat) : Int) := ey9.trans (congrArg jI (by omega))
          refine va_put (D := D) (ci := 2) (v := .int (jI ((n - 1 : Nat) : Int))) (ty := .int) (C := RX2) (T := TX2) (N := 11) hx hb hts inRX2 tyX2 tyX2_ok nmX2 hown hK hP hD hS 0 rfl rfl 2 (by decide) qf33 (fun _ h9 => h9) rfl (by decide +kernel) rfl rfl (Nat.le_of_ble_eq_true rfl) dX2_saves_46 (fun H locs hP hD hS => ?_)
          have hP : va_P D vwCl (w2 cI a f g9 (n - 1) b len th at_ fl va so ma) H := hP
          have hD : va_D A (w2 cI a f g9 (n - 1) b len th at_ fl va so ma) := hD
          refine lv_iconst (v := jI 0) hx hb dX2_saves_49 rfl ?_
          refine lv_istore_n (lv' := [(1, .int (jI 0)), (0, .ref (a 0))]) hx hb dX2_saves_50 rfl hl (by decide) rfl (fun ls hl => ?_)
          have LP51 : ∀ (k i : Nat) (g8 : Nat → Int) (n9 : Nat) (H : Heap) (locs : List Loc) (ls : Array Slot), i ≤ 33 → i + k = 33 + 1 → z = (s_X2_saves_lp51 f) k i g8 n9 → (n9 ≤ 5) → va_P D vwCl (w2 cI a f g8 n9 b len th at_ fl va so ma) H → va_D A (w2 cI a f g8 n9 b len th at_ fl va so ma) → va_S A s.heap H locs → lv_has ls 2 [(0, .ref (a 0)), (1, .int (jI (i : Int)))] → W p l e rm_X2_saves s m ([.ref (a 0)] : List Value).toArray below meth c H locs 0 0 (MQ below (va_Qv (fun (_ : Unit) => True) (xq_B D cI A (w2 cI a f z.1 z.2 b len th at_ fl va so ma)) A) ([.ref (a 0)] : List Value).toArray s 0 0 A) (F0 m 51 ls []) := by
            intro k
            induction k with
            | zero => intro i g8 n9 _ _ ls h1 h2; exact absurd h2 (by omega)
            | succ k ih =>
              intro i g8 n9 H locs ls h1 h2 hz hn9 hP hD hS hl
              rw [s_X2_saves_lp51] at hz
              refine lv_iload_n hx hb dX2_saves_51 rfl (lv_at hl 1 rfl) ?_
              refine lv_bipush (v := jI 33) hx hb dX2_saves_52 (by decide) ?_
              refine x_icmp_ge (tgt := 83) hx hb dX2_saves_54 (by decide) ⟨(by omega), (by decide)⟩ (fun c54 => ?_) (fun c54 => ?_)
              · rw [if_pos c54] at hz
                refine lv_aload_n hx hb dX2_saves_83 rfl (lv_at hl 0 rfl) ?_
                refine lv_dup hx hb dX2_saves_84 rfl ?_
                refine va_get (D := D) (ci := 2) (v := .int (jI (n9 : Int))) (C := RX2) (T := TX2) (N := 11) hx hb hts inRX2 hown hK hP 0 rfl rfl 2 (by decide) qf33 (fun _ h9 => h9) rfl dX2_saves_85 ?_
                refine lv_iconst (v := jI 1) hx hb dX2_saves_88 rfl ?_
                refine x_iadd hx hb dX2_saves_89 ?_
                refine va_put (D := D) (ci := 2) (v := .int (jI ((n9 : Int) + 1))) (ty := .int) (C := RX2) (T := TX2) (N := 11) hx hb hts inRX2 tyX2 tyX2_ok nmX2 hown hK hP hD hS 0 rfl rfl 2 (by decide) qf33 (fun _ h9 => h9) rfl (by decide +kernel) rfl rfl (Nat.le_of_ble_eq_true rfl) dX2_saves_90 (fun H locs hP hD hS => ?_)
                have hP : va_P D vwCl (w2 cI a f g8 (n9 + 1) b len th at_ fl va so ma) H := hP
                have hD : va_D A (w2 cI a f g8 (n9 + 1) b len th at_ fl va so ma) := hD
                subst hz
                exact xi_v hx hb hr hlocks hK hP hD hS rfl dX2_saves_93
              · rw [if_neg c54] at hz
                refine lv_aload_n hx hb dX2_saves_57 rfl (lv_at hl 0 rfl) ?_
                refine va_get (D := D) (ci := 2) (v := .ref (a 2)) (C := RX2) (T := TX2) (N := 11) hx hb hts inRX2 hown hK hP 0 rfl rfl 1 (by decide) qf13 (fun _ h9 => h9) rfl dX2_saves_58 ?_
                refine lv_bipush (v := jI 33) hx hb dX2_saves_61 (by decide) ?_
                refine lv_aload_n hx hb dX2_saves_63 rfl (lv_at hl 0 rfl) ?_
                refine va_get (D := D) (ci := 2) (v := .int (jI (n9 : Int))) (C := RX2) (T := TX2) (N := 11) hx hb hts inRX2 hown hK hP 0 rfl rfl 2 (by decide) qf33 (fun _ h9 => h9) rfl dX2_saves_64 ?_
                refine x_imul hx hb dX2_saves_67 ?_
                refine lv_iload_n hx hb dX2_saves_68 rfl (lv_at hl 1 rfl) ?_
                refine x_iadd hx hb dX2_saves_69 ?_
                refine lv_aload_n hx hb dX2_saves_70 rfl (lv_at hl 0 rfl) ?_
                refine va_get (D := D) (ci := 2) (v := .ref (a 1)) (C := RX2) (T := TX2) (N := 11) hx hb hts inRX2 hown hK hP 0 rfl rfl 0 (by decide) qf7 (fun _ h9 => h9) rfl dX2_saves_71 ?_
                refine lv_iload_n hx hb dX2_saves_74 rfl (lv_at hl 1 rfl) ?_
                refine x_iald hx hb hK hP 1 0 rfl rfl i (by omega) (by omega) (by decide) dX2_saves_75 ?_
                refine x_iast (w1 := (w2 cI a f (upz g8 ((33 * n9) + i) (f i)) n9 b len th at_ fl va so ma)) hx hb hK hP hD hS 2 0 rfl rfl ((33 * n9) + i) (by omega) (by omega) (by decide) dX2_saves_76 rfl (fun H locs hP hD hS => ?_)
                refine lv_iinc (v := jI ((i + 1 : Nat) : Int)) (lv' := [(1, .int (jI ((i + 1 : Nat) : Int))), (0, .ref (a 0))]) hx hb dX2_saves_77 hl (k := 1) rfl (jI_inc _ 1) (by decide) rfl (fun ls hl => ?_)
                refine lv_goto (tgt := 51) hx hb dX2_saves_80 (by decide) ?_
                exact ih (i + 1) (upz g8 ((33 * n9) + i) (f i)) n9 _ _ ls (by omega) (by omega) hz (by omega) hP hD hS (lv_sub hl [1, 0] rfl)
          exact LP51 (33 + 1 - 0) 0 g9 (n - 1) _ _ ls (by omega) (by omega) hz (by omega) hP hD hS (lv_sub hl [1, 0] rfl)
        · rw [if_neg c15] at hz
          refine lv_aload_n hx hb dX2_saves_18 rfl (lv_at hl 0 rfl) ?_
          refine va_get (D := D) (ci := 2) (v := .ref (a 2)) (C := RX2) (T := TX2) (N := 11) hx hb hts inRX2 hown hK hP 0 rfl rfl 1 (by decide) qf13 (fun _ h9 => h9) rfl dX2_saves_19 ?_
          refine lv_iload_n hx hb dX2_saves_22 rfl (lv_at hl 1 rfl) ?_
          refine lv_aload_n hx hb dX2_saves_23 rfl (lv_at hl 0 rfl) ?_
          refine va_get (D := D) (ci := 2) (v := .ref (a 2)) (C := RX2) (T := TX2) (N := 11) hx hb hts inRX2 hown hK hP 0 rfl rfl 1 (by decide) qf13 (fun _ h9 => h9) rfl dX2_saves_24 ?_
          refine lv_iload_n hx hb dX2_saves_27 rfl (lv_at hl 1 rfl) ?_
          refine lv_bipush (v := jI 33) hx hb dX2_saves_28 (by decide) ?_
          refine x_iadd hx hb dX2_saves_30 ?_
          refine x_iald hx hb hK hP 2 0 rfl rfl (i + 33) (by omega) (by omega) (by decide) dX2_saves_31 ?_
          refine x_iast (w1 := (w2 cI a f (upz g9 i (g9 (i + 33))) n b len th at_ fl va so ma)) hx hb hK hP hD hS 2 0 rfl rfl i (by omega) (by omega) (by decide) dX2_saves_32 rfl (fun H locs hP hD hS => ?_)
          refine lv_iinc (v := jI ((i + 1 : Nat) : Int)) (lv' := [(1, .int (jI ((i + 1 : Nat) : Int))), (0, .ref (a 0))]) hx hb dX2_saves_33 hl (k := 1) rfl (jI_inc _ 1) (by decide) rfl (fun ls hl => ?_)
          refine lv_goto (tgt := 11) hx hb dX2_saves_36 (by decide) ?_
          exact ih (i + 1) (upz g9 i (g9 (i + 33))) _ _ ls (by omega) (by omega) hz hP hD hS (lv_sub hl [1, 0] rfl)
    exact LP11 (165 + 1 - 0) 0 g _ _ ls (by omega) (by omega) hz hP hD hS (lv_sub hl [1, 0] rfl)
def s_X2_changes (f : Nat → Int) (p0 : Nat) (x2 : Int) : Int × (Nat → Int) := ((f p0), (upz f p0 x2))
abbrev rm_X2_changes : Room := { frames := 0, cells := 0, slots := 0, locals := 0 }
set_option maxHeartbeats 4000000 in
set_option maxRecDepth 100000 in
theorem m_X2_changes (l : Launch) (D : va_G) (cI : ClassId) (a : Nat → Nat) (f : Nat → Int) (g : Nat → Int) (n : Nat) (b : Nat → Int) (len : Nat) (th : Int) (at_ : Nat) (fl : Int) (va : Int) (so : Nat → Int) (ma : Nat → Int) (p0 : Nat) (x2 : Int) (hp0 : p0 < 33) : MetI l yX2_changes wsX2_changes rm_X2_changes D cI [.ref (a 0), .int (jI (p0 : Int)), .int (jI x2)] (w2 cI a f g n b len th at_ fl va so ma) (w2 cI a ((s_X2_changes f p0 x2).2) g n b len th at_ fl va so ma) ((s_X2_changes f p0 x2).1) := by
  refine xe_I (cc := cX2_changes) (maxL := 4) (ret := (some .int)) (by decide) rfl (Nat.le_of_ble_eq_true rfl) ?_
  intro p e s m below meth c hx hb hr hml hts hown hlocks hP hK A hA hD hS ls hl
  have hl : lv_has ls 4 [(0, .ref (a 0)), (1, .int (jI (p0 : Int))), (2, .int (jI x2))] := hl
  have hown : s.vm.findClass RX2 = some m.cls := hown
  have hSx : CallFix p m c cX2_changes 4 s ([.ref (a 0), .int (jI (p0 : Int)), .int (jI x2)] : List Value).toArray wsX2_changes RX2 := ⟨hx, hb, hml, hown, hts⟩
  have inRX2 : ∀ w ∈ u_ws RX2 TX2 11, w ∈ wsX2_changes := by decide +kernel
  have qf7 := hts (.fieldLink RX2 7 "VaultMovementsModel" "now" "[I") (by decide +kernel)
  obtain ⟨z, hz⟩ : ∃ z, z = (s_X2_changes f p0 x2) := ⟨_, rfl⟩
  rw [← hz]
  unfold s_X2_changes at hz
  refine lv_aload_n hx hb dX2_changes_0 rfl (lv_at hl 0 rfl) ?_
  refine va_get (D := D) (ci := 2) (v := .ref (a 1)) (C := RX2) (T := TX2) (N := 11) hx hb hts inRX2 hown hK hP 0 rfl rfl 0 (by decide) qf7 (fun _ h9 => h9) rfl dX2_changes_1 ?_
  refine lv_iload_n hx hb dX2_changes_4 rfl (lv_at hl 1 rfl) ?_
  refine x_iald hx hb hK hP 1 0 rfl rfl p0 (by omega) (by omega) (by decide) dX2_changes_5 ?_
  refine lv_istore_n (lv' := [(3, .int (jI (f p0))), (0, .ref (a 0)), (1, .int (jI (p0 : Int))), (2, .int (jI x2))]) hx hb dX2_changes_6 rfl hl (by decide) rfl (fun ls hl => ?_)
  refine lv_aload_n hx hb dX2_changes_7 rfl (lv_at hl 1 rfl) ?_
  refine va_get (D := D) (ci := 2) (v := .ref (a 1)) (C := RX2) (T := TX2) (N := 11) hx hb hts inRX2 hown hK hP 0 rfl rfl 0 (by decide) qf7 (fun _ h9 => h9) rfl dX2_changes_8 ?_
  refine lv_iload_n hx hb dX2_changes_11 rfl (lv_at hl 2 rfl) ?_
  refine lv_iload_n hx hb dX2_changes_12 rfl (lv_at hl 3 rfl) ?_
  refine x_iast (w1 := (w2 cI a (upz f p0 x2) g n b len th at_ fl va so ma)) hx hb hK hP hD hS 1 0 rfl rfl p0 (by omega) (by omega) (by decide) dX2_changes_13 rfl (fun H locs hP hD hS => ?_)
  refine lv_iload_n hx hb dX2_changes_14 rfl (lv_at hl 0 rfl) ?_
  subst hz
  exact xi_i hx hb hr hlocks hK hP hD hS rfl rfl dX2_changes_15
def s_X2_unlocks (f : Nat → Int) : (Nat → Int) := (upz (upz (upz (upz f 11 0) 12 (-1)) 13 0) 14 0)
abbrev rm_X2_unlocks : Room := { frames := 0, cells := 0, slots := 0, locals := 0 }
set_option maxHeartbeats 4000000 in
set_option maxRecDepth 100000 in
theorem m_X2_unlocks (l : Launch) (D : va_G) (cI : ClassId) (a : Nat → Nat) (f : Nat → Int) (g : Nat → Int) (n : Nat) (b : Nat → Int) (len : Nat) (th : Int) (at_ : Nat) (fl : Int) (va : Int) (so : Nat → Int) (ma : Nat → Int) : MetV l yX2_unlocks wsX2_unlocks rm_X2_unlocks D cI [.ref (a 0)] (w2 cI a f g n b len th at_ fl va so ma) (w2 cI a (s_X2_unlocks f) g n b len th at_ fl va so ma) := by
  refine xe_V (cc := cX2_unlocks) (maxL := 1) (ret := none) (by decide) rfl (Nat.le_of_ble_eq_true rfl) ?_
  intro p e s m below meth c hx hb hr hml hts hown hlocks hP hK A hA hD hS ls hl
  have hl : lv_has ls 1 [(0, .ref (a 0))] := hl
  have hown : s.vm.findClass RX2 = some m.cls := hown
  have hSx : CallFix p m c cX2_unlocks 1 s ([.ref (a 0)] : List Value).toArray wsX2_unlocks RX2 := ⟨hx, hb, hml, hown, hts⟩
  have inRX2 : ∀ w ∈ u_ws RX2 TX2 11, w ∈ wsX2_unlocks := by decide +kernel
  have qf7 := hts (.fieldLink RX2 7 "VaultMovementsModel" "now" "[I") (by decide +kernel)
  obtain ⟨z, hz⟩ : ∃ z, z = (s_X2_unlocks f) := ⟨_, rfl⟩
  rw [← hz]
  unfold s_X2_unlocks at hz
  refine lv_aload_n hx hb dX2_unlocks_0 rfl (lv_at hl 0 rfl) ?_
  refine va_get (D := D) (ci := 2) (v := .ref (a 1)) (C := RX2) (T := TX2) (N := 11) hx hb hts inRX2 hown hK hP 0 rfl rfl 0 (by decide) qf7 (fun _ h9 => h9) rfl dX2_unlocks_1 ?_
  refine lv_bipush (v := jI 11) hx hb dX2_unlocks_4 (by decide) ?_
  refine lv_iconst (v := jI 0) hx hb dX2_unlocks_6 rfl ?_
  refine x_iast (w1 := (w2 cI a (upz f 11 0) g n b len th at_ fl va so ma)) hx hb hK hP hD hS 1 0 rfl rfl 11 rfl (by decide) (by decide) dX2_unlocks_7 rfl (fun H locs hP hD hS => ?_)
  refine lv_aload_n hx hb dX2_unlocks_8 rfl (lv_at hl 0 rfl) ?_
  refine va_get (D := D) (ci := 2) (v := .ref (a 1)) (C := RX2) (T := TX2) (N := 11) hx hb hts inRX2 hown hK hP 0 rfl rfl 0 (by decide) qf7 (fun _ h9 => h9) rfl dX2_unlocks_9 ?_
  refine lv_bipush (v := jI 12) hx hb dX2_unlocks_12 (by decide) ?_
  refine lv_iconst (v := jI (-1)) hx hb dX2_unlocks_14 rfl ?_
  refine x_iast (w1 := (w2 cI a (upz (upz f 11 0) 12 (-1)) g n b len th at_ fl va so ma)) hx hb hK hP hD hS 1 0 rfl rfl 12 rfl (by decide) (by decide) dX2_unlocks_15 rfl (fun H locs hP hD hS => ?_)
  refine lv_aload_n hx hb dX2_unlocks_16 rfl (lv_at hl 0 rfl) ?_
  refine va_get (D := D) (ci := 2) (v := .ref (a 1)) (C := RX2) (T := TX2) (N := 11) hx hb hts inRX2 hown hK hP 0 rfl rfl 0 (by decide) qf7 (fun _ h9 => h9) rfl dX2_unlocks_17 ?_
  refine lv_bipush (v := jI 13) hx hb dX2_unlocks_20 (by decide) ?_
  refine lv_iconst (v := jI 0) hx hb dX2_unlocks_22 rfl ?_
  refine x_iast (w1 := (w2 cI a (upz (upz (upz f 11 0) 12 (-1)) 13 0) g n b len th at_ fl va so ma)) hx hb hK hP hD hS 1 0 rfl rfl 13 rfl (by decide) (by decide) dX2_unlocks_23 rfl (fun H locs hP hD hS => ?_)
  refine lv_aload_n hx hb dX2_unlocks_24 rfl (lv_at hl 0 rfl) ?_
  refine va_get (D := D) (ci := 2) (v := .ref (a 1)) (C := RX2) (T := TX2) (N := 11) hx hb hts inRX2 hown hK hP 0 rfl rfl 0 (by decide) qf7 (fun _ h9 => h9) rfl dX2_unlocks_25 ?_
  refine lv_bipush (v := jI 14) hx hb dX2_unlocks_28 (by decide) ?_
  refine lv_iconst (v := jI 0) hx hb dX2_unlocks_30 rfl ?_
  refine x_iast (w1 := (w2 cI a (upz (upz (upz (upz f 11 0) 12 (-1)) 13 0) 14 0) g n b len th at_ fl va so ma)) hx hb hK hP hD hS 1 0 rfl rfl 14 rfl (by decide) (by decide) dX2_unlocks_31 rfl (fun H locs hP hD hS => ?_)
  subst hz
  exact xi_v hx hb hr hlocks hK hP hD hS rfl dX2_unlocks_32
def s_X2_hourGoes_lp2  : Nat → Nat → (Nat → Int) → (Nat → Int)
  | 0, _, _ => default
  | k + 1, i, f9 => if 3 ≤ (i : Int) then (upz f9 0 ((f9 0) + 1)) else (if (f9 11) = 1 then (if (s_X2_goes f9 i) = 0 then (s_X2_hourGoes_lp2 k (i + 1) f9) else (if (f9 (21 + (4 * i))) ≤ 0 then (s_X2_hourGoes_lp2 k (i + 1) f9) else (if (f9 ((21 + (4 * i)) + 2)) ≤ 0 then (s_X2_hourGoes_lp2 k (i + 1) (upz (upz f9 ((21 + (4 * i)) + 3) ((f9 ((21 + (4 * i)) + 3)) + 1)) (21 + (4 * i)) ((f9 (21 + (4 * i))) - 1))) else (if (((f9 ((21 + (4 * i)) + 3)) + 1) % (f9 ((21 + (4 * i)) + 2))) = 0 then (s_X2_hourGoes_lp2 k (i + 1) (upz (upz f9 ((21 + (4 * i)) + 3) ((f9 ((21 + (4 * i)) + 3)) + 1)) (21 + (4 * i)) ((f9 (21 + (4 * i))) - 0))) else (s_X2_hourGoes_lp2 k (i + 1) (upz (upz f9 ((21 + (4 * i)) + 3) ((f9 ((21 + (4 * i)) + 3)) + 1)) (21 + (4 * i)) ((f9 (21 + (4 * i))) - 1))))))) else (upz f9 0 ((f9 0) + 1)))
def s_X2_hourGoes (f : Nat → Int) : (Nat → Int) := s_X2_hourGoes_lp2 (3 + 1 - 0) 0 f
abbrev rm_X2_hourGoes : Room := { frames := 1, cells := 0, slots := 0, locals := 21 }
set_option maxHeartbeats 4000000 in
set_option maxRecDepth 100000 in
theorem m_X2_hourGoes (l : Launch) (D : va_G) (cI : ClassId) (a : Nat → Nat) (f : Nat → Int) (g : Nat → Int) (n : Nat) (b : Nat → Int) (len : Nat) (th : Int) (at_ : Nat) (fl : Int) (va : Int) (so : Nat → Int) (ma : Nat → Int) (hrf : rng f) (hh : 0 ≤ f 0 ∧ f 0 ≤ 99999) (hm : mv2B f 900000) : MetV l yX2_hourGoes wsX2_hourGoes rm_X2_hourGoes D cI [.ref (a 0)] (w2 cI a f g n b len th at_ fl va so ma) (w2 cI a (s_X2_hourGoes f) g n b len th at_ fl va so ma) := by
  refine xe_V (cc := cX2_hourGoes) (maxL := 3) (ret := none) (by decide) rfl (Nat.le_of_ble_eq_true rfl) ?_
  intro p e s m below meth c hx hb hr hml hts hown hlocks hP hK A hA hD hS ls hl
  have hl : lv_has ls 3 [(0, .ref (a 0))] := hl
  have hown : s.vm.findClass RX2 = some m.cls := hown
  have hSx : CallFix p m c cX2_hourGoes 3 s ([.ref (a 0)] : List Value).toArray wsX2_hourGoes RX2 := ⟨hx, hb, hml, hown, hts⟩
  have inRX2 : ∀ w ∈ u_ws RX2 TX2 11, w ∈ wsX2_hourGoes := by decide +kernel
  have qf7 := hts (.fieldLink RX2 7 "VaultMovementsModel" "now" "[I") (by decide +kernel)
  obtain ⟨z, hz⟩ : ∃ z, z = (s_X2_hourGoes f) := ⟨_, rfl⟩
  rw [← hz]
  unfold s_X2_hourGoes at hz
  refine lv_iconst (v := jI 0) hx hb dX2_hourGoes_0 rfl ?_
  refine lv_istore_n (lv' := [(1, .int (jI 0)), (0, .ref (a 0))]) hx hb dX2_hourGoes_1 rfl hl (by decide) rfl (fun ls hl => ?_)
  have LP2 : ∀ (k i : Nat) (f9 : Nat → Int) (H : Heap) (locs : List Loc) (ls : Array Slot), i ≤ 3 → i + k = 3 + 1 → z = s_X2_hourGoes_lp2 k i f9 → (rng f9 ∧ mv2B f9 (900000 + i) ∧ f9 0 = f 0) → va_P D vwCl (w2 cI a f9 g n b len th at_ fl va so ma) H → va_D A (w2 cI a f9 g n b len th at_ fl va so ma) → va_S A s.heap H locs → lv_has ls 3 [(0, .ref (a 0)), (1, .int (jI (i : Int)))] → W p l e rm_X2_hourGoes s m ([.ref (a 0)] : List Value).toArray below meth c H locs 0 0 (MQ below (va_Qv (fun (_ : Unit) => True) (xq_B D cI A (w2 cI a z g n b len th at_ fl va so ma)) A) ([.ref (a 0)] : List Value).toArray s 0 0 A) (F0 m 2 ls []) := by
    intro k
    induction k with
    | zero => intro i f9 _ _ ls h1 h2; exact absurd h2 (by omega)
    | succ k ih =>
      intro i f9 H locs ls h1 h2 hz hi2 hP hD hS hl
      rw [s_X2_hourGoes_lp2] at hz
      refine lv_iload_n hx hb dX2_hourGoes_2 rfl (lv_at hl 1 rfl) ?_
      refine lv_iconst (v := jI 3) hx hb dX2_hourGoes_3 rfl ?_
      refine x_icmp_ge (tgt := 108) hx hb dX2_hourGoes_4 (by decide) ⟨(by omega), (by decide)⟩ (fun c4 => ?_) (fun c4 => ?_)
      · rw [if_pos c4] at hz
        refine lv_aload_n hx hb dX2_hourGoes_108 rfl (lv_at hl 0 rfl) ?_
        refine va_get (D := D) (ci := 2) (v := .ref (a 1)) (C := RX2) (T := TX2) (N := 11) hx hb hts inRX2 hown hK hP 0 rfl rfl 0 (by decide) qf7 (fun _ h9 => h9) rfl dX2_hourGoes_109 ?_
        refine lv_iconst (v := jI 0) hx hb dX2_hourGoes_112 rfl ?_
        refine lv_dup2_11 hx hb dX2_hourGoes_113 rfl rfl ?_
        refine x_iald hx hb hK hP 1 0 rfl rfl 0 rfl (by decide) (by decide) dX2_hourGoes_114 ?_
        refine lv_iconst (v := jI 1) hx hb dX2_hourGoes_115 rfl ?_
        refine x_iadd hx hb dX2_hourGoes_116 ?_
        refine x_iast (w1 := (w2 cI a (upz f9 0 ((f9 0) + 1)) g n b len th at_ fl va so ma)) hx hb hK hP hD hS 1 0 rfl rfl 0 rfl (by decide) (by decide) dX2_hourGoes_117 rfl (fun H locs hP hD hS => ?_)
        subst hz
        exact xi_v hx hb hr hlocks hK hP hD hS rfl dX2_hourGoes_118
      · rw [if_neg c4] at hz
        have hlt : i < 3 := by omega
        have hm1 := hi2.2.1 i hlt
        refine lv_aload_n hx hb dX2_hourGoes_7 rfl (lv_at hl 0 rfl) ?_
        refine va_get (D := D) (ci := 2) (v := .ref (a 1)) (C := RX2) (T := TX2) (N := 11) hx hb hts inRX2 hown hK hP 0 rfl rfl 0 (by decide) qf7 (fun _ h9 => h9) rfl dX2_hourGoes_8 ?_
        refine lv_bipush (v := jI 11) hx hb dX2_hourGoes_11 (by decide) ?_
        refine x_iald hx hb hK hP 1 0 rfl rfl 11 rfl (by decide) (by decide) dX2_hourGoes_13 ?_
        refine lv_iconst (v := jI 1) hx hb dX2_hourGoes_14 rfl ?_
        refine x_icmp_ne (tgt := 108) hx hb dX2_hourGoes_15 (by decide) ⟨(hi2.1 _), (by decide)⟩ (fun c15 => ?_) (fun c15 => ?_)
        · rw [if_neg c15] at hz
          refine lv_aload_n hx hb dX2_hourGoes_108 rfl (lv_at hl 0 rfl) ?_
          refine va_get (D := D) (ci := 2) (v := .ref (a 1)) (C := RX2) (T := TX2) (N := 11) hx hb hts inRX2 hown hK hP 0 rfl rfl 0 (by decide) qf7 (fun _ h9 => h9) rfl dX2_hourGoes_109 ?_
          refine lv_iconst (v := jI 0) hx hb dX2_hourGoes_112 rfl ?_
          refine lv_dup2_11 hx hb dX2_hourGoes_113 rfl rfl ?_
          refine x_iald hx hb hK hP 1 0 rfl rfl 0 rfl (by decide) (by decide) dX2_hourGoes_114 ?_
          refine lv_iconst (v := jI 1) hx hb dX2_hourGoes_115 rfl ?_
          refine x_iadd hx hb dX2_hourGoes_116 ?_
          refine x_iast (w1 := (w2 cI a (upz f9 0 ((f9 0) + 1)) g n b len th at_ fl va so ma)) hx hb hK hP hD hS 1 0 rfl rfl 0 rfl (by decide) (by decide) dX2_hourGoes_117 rfl (fun H locs hP hD hS => ?_)
          subst hz
          exact xi_v hx hb hr hlocks hK hP hD hS rfl dX2_hourGoes_118
        · rw [if_pos c15] at hz
          refine lv_aload_n hx hb dX2_hourGoes_18 rfl (lv_at hl 0 rfl) ?_
          refine lv_iload_n hx hb dX2_hourGoes_19 rfl (lv_at hl 1 rfl) ?_
          refine xc_R (As := [.int (jI (i : Int))]) (rest := []) hSx (m_X2_goes l D cI a f9 g n b len th at_ fl va so ma i (by omega) hi2.1) (cwV 1 hts gX2_hourGoes_X2_goes rfl rfl rfl (by decide +kernel) ⟨Nat.le_of_ble_eq_true rfl, Nat.le_of_ble_eq_true rfl⟩) hP hK 0 rfl rfl rfl rfl hl.1 rfl (Nat.le_of_ble_eq_true rfl) dX2_hourGoes_20 ⟨Nat.zero_le _, Nat.zero_le _⟩ ?_
          refine x_if_eq (tgt := 102) hx hb dX2_hourGoes_23 (by decide) (b01 (b_X2_goes f9 i)) (fun c23 => ?_) (fun c23 => ?_)
          · rw [if_pos c23] at hz
            refine lv_iinc (v := jI ((i + 1 : Nat) : Int)) (lv' := [(1, .int (jI ((i + 1 : Nat) : Int))), (0, .ref (a 0))]) hx hb dX2_hourGoes_102 hl (k := 1) rfl (jI_inc _ 1) (by decide) rfl (fun ls hl => ?_)
            refine lv_goto (tgt := 2) hx hb dX2_hourGoes_105 (by decide) ?_
            exact ih (i + 1) f9 _ _ ls (by omega) (by omega) hz ⟨hi2.1, mv2B_mono hi2.2.1 (by omega), hi2.2.2⟩ hP hD hS (lv_sub hl [1, 0] rfl)
          · rw [if_neg c23] at hz
            refine lv_aload_n hx hb dX2_hourGoes_26 rfl (lv_at hl 0 rfl) ?_
            refine lv_iload_n hx hb dX2_hourGoes_27 rfl (lv_at hl 1 rfl) ?_
            refine xc_R (As := [.int (jI (i : Int))]) (rest := []) hSx (m_X2_hours l D cI a f9 g n b len th at_ fl va so ma i (by omega)) (cwV 1 hts gX2_hourGoes_X2_hours rfl rfl rfl (by decide +kernel) ⟨Nat.le_of_ble_eq_true rfl, Nat.le_of_ble_eq_true rfl⟩) hP hK 0 rfl rfl rfl rfl hl.1 rfl (Nat.le_of_ble_eq_true rfl) dX2_hourGoes_28 ⟨Nat.zero_le _, Nat.zero_le _⟩ ?_
            refine x_if_le (tgt := 102) hx hb dX2_hourGoes_31 (by decide) (hi2.1 _) (fun c31 => ?_) (fun c31 => ?_)
            · rw [if_pos c31] at hz
              refine lv_iinc (v := jI ((i + 1 : Nat) : Int)) (lv' := [(1, .int (jI ((i + 1 : Nat) : Int))), (0, .ref (a 0))]) hx hb dX2_hourGoes_102 hl (k := 1) rfl (jI_inc _ 1) (by decide) rfl (fun ls hl => ?_)
              refine lv_goto (tgt := 2) hx hb dX2_hourGoes_105 (by decide) ?_
              exact ih (i + 1) f9 _ _ ls (by omega) (by omega) hz ⟨hi2.1, mv2B_mono hi2.2.1 (by omega), hi2.2.2⟩ hP hD hS (lv_sub hl [1, 0] rfl)
            · rw [if_neg c31] at hz
              refine lv_aload_n hx hb dX2_hourGoes_34 rfl (lv_at hl 0 rfl) ?_
              refine va_get (D := D) (ci := 2) (v := .ref (a 1)) (C := RX2) (T := TX2) (N := 11) hx hb hts inRX2 hown hK hP 0 rfl rfl 0 (by decide) qf7 (fun _ h9 => h9) rfl dX2_hourGoes_35 ?_
              refine lv_bipush (v := jI 21) hx hb dX2_hourGoes_38 (by decide) ?_
              refine lv_iconst (v := jI 4) hx hb dX2_hourGoes_40 rfl ?_
              refine lv_iload_n hx hb dX2_hourGoes_41 rfl (lv_at hl 1 rfl) ?_
              refine x_imul hx hb dX2_hourGoes_42 ?_
              refine x_iadd hx hb dX2_hourGoes_43 ?_
              refine lv_iconst (v := jI 3) hx hb dX2_hourGoes_44 rfl ?_
              refine x_iadd hx hb dX2_hourGoes_45 ?_
              refine lv_dup2_11 hx hb dX2_hourGoes_46 rfl rfl ?_
              refine x_iald hx hb hK hP 1 0 rfl rfl ((21 + (4 * i)) + 3) (by omega) (by omega) (by decide) dX2_hourGoes_47 ?_
              refine lv_iconst (v := jI 1) hx hb dX2_hourGoes_48 rfl ?_
              refine x_iadd hx hb dX2_hourGoes_49 ?_
              refine x_iast (w1 := (w2 cI a (upz f9 ((21 + (4 * i)) + 3) ((f9 ((21 + (4 * i)) + 3)) + 1)) g n b len th at_ fl va so ma)) hx hb hK hP hD hS 1 0 rfl rfl ((21 + (4 * i)) + 3) (by omega) (by omega) (by decide) dX2_hourGoes_50 rfl (fun H locs hP hD hS => ?_)
              refine lv_aload_n hx hb dX2_hourGoes_51 rfl (lv_at hl 0 rfl) ?_
              refine lv_iload_n hx hb dX2_hourGoes_52 rfl (lv_at hl 1 rfl) ?_
              refine xc_R (As := [.int (jI (i : Int))]) (rest := []) hSx (m_X2_lossOf l D cI a (upz f9 ((21 + (4 * i)) + 3) ((f9 ((21 + (4 * i)) + 3)) + 1)) g n b len th at_ fl va so ma i (by omega)) (cwV 1 hts gX2_hourGoes_X2_lossOf rfl rfl rfl (by decide +kernel) ⟨Nat.le_of_ble_eq_true rfl, Nat.le_of_ble_eq_true rfl⟩) hP hK 0 rfl rfl rfl rfl hl.1 rfl (Nat.le_of_ble_eq_true rfl) dX2_hourGoes_53 ⟨Nat.zero_le _, Nat.zero_le _⟩ ?_
              rw [show (upz f9 ((21 + (4 * i)) + 3) ((f9 ((21 + (4 * i)) + 3)) + 1)) ((21 + (4 * i)) + 2) = f9 ((21 + (4 * i)) + 2) from upz_n (by omega)]
              refine x_if_le (tgt := 77) hx hb dX2_hourGoes_56 (by decide) (hi2.1 _) (fun c56 => ?_) (fun c56 => ?_)
              · rw [if_pos c56] at hz
                refine lv_iconst (v := jI 0) hx hb dX2_hourGoes_77 rfl ?_
                refine lv_istore_n (lv' := [(2, .int (jI 0)), (0, .ref (a 0)), (1, .int (jI (i : Int)))]) hx hb dX2_hourGoes_78 rfl hl (by decide) rfl (fun ls hl => ?_)
                refine lv_aload_n hx hb dX2_hourGoes_79 rfl (lv_at hl 1 rfl) ?_
                refine va_get (D := D) (ci := 2) (v := .ref (a 1)) (C := RX2) (T := TX2) (N := 11) hx hb hts inRX2 hown hK hP 0 rfl rfl 0 (by decide) qf7 (fun _ h9 => h9) rfl dX2_hourGoes_80 ?_
                refine lv_bipush (v := jI 21) hx hb dX2_hourGoes_83 (by decide) ?_
                refine lv_iconst (v := jI 4) hx hb dX2_hourGoes_85 rfl ?_
                refine lv_iload_n hx hb dX2_hourGoes_86 rfl (lv_at hl 2 rfl) ?_
                refine x_imul hx hb dX2_hourGoes_87 ?_
                refine x_iadd hx hb dX2_hourGoes_88 ?_
                refine lv_dup2_11 hx hb dX2_hourGoes_89 rfl rfl ?_
                refine x_iald hx hb hK hP 1 0 rfl rfl (21 + (4 * i)) (by omega) (by omega) (by decide) dX2_hourGoes_90 ?_
                rw [show (upz f9 ((21 + (4 * i)) + 3) ((f9 ((21 + (4 * i)) + 3)) + 1)) (21 + (4 * i)) = f9 (21 + (4 * i)) from upz_n (by omega)]
                refine lv_iload_n hx hb dX2_hourGoes_91 rfl (lv_at hl 0 rfl) ?_
                refine x_if_eq (tgt := 99) hx hb dX2_hourGoes_92 (by decide) (by decide) (fun c92 => ?_) (fun c92 => absurd c92 (by decide))
                refine lv_iconst (v := jI 1) hx hb dX2_hourGoes_99 rfl ?_
                refine x_isub hx hb dX2_hourGoes_100 ?_
                refine x_iast (w1 := (w2 cI a (upz (upz f9 ((21 + (4 * i)) + 3) ((f9 ((21 + (4 * i)) + 3)) + 1)) (21 + (4 * i)) ((f9 (21 + (4 * i))) - 1)) g n b len th at_ fl va so ma)) hx hb hK hP hD hS 1 0 rfl rfl (21 + (4 * i)) (by omega) (by omega) (by decide) dX2_hourGoes_101 rfl (fun H locs hP hD hS => ?_)
                refine lv_iinc (v := jI ((i + 1 : Nat) : Int)) (lv' := [(1, .int (jI ((i + 1 : Nat) : Int))), (2, .int (jI 0)), (0, .ref (a 0))]) hx hb dX2_hourGoes_102 hl (k := 2) rfl (jI_inc _ 1) (by decide) rfl (fun ls hl => ?_)
                refine lv_goto (tgt := 2) hx hb dX2_hourGoes_105 (by decide) ?_
                exact ih (i + 1) (upz (upz f9 ((21 + (4 * i)) + 3) ((f9 ((21 + (4 * i)) + 3)) + 1)) (21 + (4 * i)) ((f9 (21 + (4 * i))) - 1)) _ _ ls (by omega) (by omega) hz (hg2_step f f9 i 1 hlt hi2 (by omega) (by omega)) hP hD hS (lv_sub hl [2, 0] rfl)
              · rw [if_neg c56] at hz
                refine lv_aload_n hx hb dX2_hourGoes_59 rfl (lv_at hl 0 rfl) ?_
                refine lv_iload_n hx hb dX2_hourGoes_60 rfl (lv_at hl 1 rfl) ?_
                refine xc_R (As := [.int (jI (i : Int))]) (rest := []) hSx (m_X2_ran l D cI a (upz f9 ((21 + (4 * i)) + 3) ((f9 ((21 + (4 * i)) + 3)) + 1)) g n b len th at_ fl va so ma i (by omega)) (cwV 1 hts gX2_hourGoes_X2_ran rfl rfl rfl (by decide +kernel) ⟨Nat.le_of_ble_eq_true rfl, Nat.le_of_ble_eq_true rfl⟩) hP hK 0 rfl rfl rfl rfl hl.1 rfl (Nat.le_of_ble_eq_true rfl) dX2_hourGoes_61 ⟨Nat.zero_le _, Nat.zero_le _⟩ ?_
                rw [show (upz f9 ((21 + (4 * i)) + 3) ((f9 ((21 + (4 * i)) + 3)) + 1)) ((21 + (4 * i)) + 3) = ((f9 ((21 + (4 * i)) + 3)) + 1) from upz_s]
                refine lv_aload_n hx hb dX2_hourGoes_64 rfl (lv_at hl 0 rfl) ?_
                refine lv_iload_n hx hb dX2_hourGoes_65 rfl (lv_at hl 1 rfl) ?_
                refine xc_R (As := [.int (jI (i : Int))]) (rest := [.int (jI ((f9 ((21 + (4 * i)) + 3)) + 1))]) hSx (m_X2_lossOf l D cI a (upz f9 ((21 + (4 * i)) + 3) ((f9 ((21 + (4 * i)) + 3)) + 1)) g n b len th at_ fl va so ma i (by omega)) (cwV 1 hts gX2_hourGoes_X2_lossOf rfl rfl rfl (by decide +kernel) ⟨Nat.le_of_ble_eq_true rfl, Nat.le_of_ble_eq_true rfl⟩) hP hK 0 rfl rfl rfl rfl hl.1 rfl (Nat.le_of_ble_eq_true rfl) dX2_hourGoes_66 ⟨Nat.zero_le _, Nat.zero_le _⟩ ?_
                rw [show (upz f9 ((21 + (4 * i)) + 3) ((f9 ((21 + (4 * i)) + 3)) + 1)) ((21 + (4 * i)) + 2) = f9 ((21 + (4 * i)) + 2) from upz_n (by omega)]
                refine x_irem hx hb dX2_hourGoes_69 (by omega) ?_
                refine x_if_ne (tgt := 77) hx hb dX2_hourGoes_70 (by decide) (rem_rng (by omega) (by omega)) (fun c70 => ?_) (fun c70 => ?_)
                · rw [if_neg c70] at hz
                  refine lv_iconst (v := jI 0) hx hb dX2_hourGoes_77 rfl ?_
                  refine lv_istore_n (lv' := [(2, .int (jI 0)), (0, .ref (a 0)), (1, .int (jI (i : Int)))]) hx hb dX2_hourGoes_78 rfl hl (by decide) rfl (fun ls hl => ?_)
                  refine lv_aload_n hx hb dX2_hourGoes_79 rfl (lv_at hl 1 rfl) ?_
                  refine va_get (D := D) (ci := 2) (v := .ref (a 1)) (C := RX2) (T := TX2) (N := 11) hx hb hts inRX2 hown hK hP 0 rfl rfl 0 (by decide) qf7 (fun _ h9 => h9) rfl dX2_hourGoes_80 ?_
                  refine lv_bipush (v := jI 21) hx hb dX2_hourGoes_83 (by decide) ?_
                  refine lv_iconst (v := jI 4) hx hb dX2_hourGoes_85 rfl ?_
                  refine lv_iload_n hx hb dX2_hourGoes_86 rfl (lv_at hl 2 rfl) ?_
                  refine x_imul hx hb dX2_hourGoes_87 ?_
                  refine x_iadd hx hb dX2_hourGoes_88 ?_
                  refine lv_dup2_11 hx hb dX2_hourGoes_89 rfl rfl ?_
                  refine x_iald hx hb hK hP 1 0 rfl rfl (21 + (4 * i)) (by omega) (by omega) (by decide) dX2_hourGoes_90 ?_
                  rw [show (upz f9 ((21 + (4 * i)) + 3) ((f9 ((21 + (4 * i)) + 3)) + 1)) (21 + (4 * i)) = f9 (21 + (4 * i)) from upz_n (by omega)]
                  refine lv_iload_n hx hb dX2_hourGoes_91 rfl (lv_at hl 0 rfl) ?_
                  refine x_if_eq (tgt := 99) hx hb dX2_hourGoes_92 (by decide) (by decide) (fun c92 => ?_) (fun c92 => absurd c92 (by decide))
                  refine lv_iconst (v := jI 1) hx hb dX2_hourGoes_99 rfl ?_
                  refine x_isub hx hb dX2_hourGoes_100 ?_
                  refine x_iast (w1 := (w2 cI a (upz (upz f9 ((21 + (4 * i)) + 3) ((f9 ((21 + (4 * i)) + 3)) + 1)) (21 + (4 * i)) ((f9 (21 + (4 * i))) - 1)) g n b len th at_ fl va so ma)) hx hb hK hP hD hS 1 0 rfl rfl (21 + (4 * i)) (by omega) (by omega) (by decide) dX2_hourGoes_101 rfl (fun H locs hP hD hS => ?_)
                  refine lv_iinc (v := jI ((i + 1 : Nat) : Int)) (lv' := [(1, .int (jI ((i + 1 : Nat) : Int))), (2, .int (jI 0)), (0, .ref (a 0))]) hx hb dX2_hourGoes_102 hl (k := 2) rfl (jI_inc _ 1) (by decide) rfl (fun ls hl => ?_)
                  refine lv_goto (tgt := 2) hx hb dX2_hourGoes_105 (by decide) ?_
                  exact ih (i + 1) (upz (upz f9 ((21 + (4 * i)) + 3) ((f9 ((21 + (4 * i)) + 3)) + 1)) (21 + (4 * i)) ((f9 (21 + (4 * i))) - 1)) _ _ ls (by omega) (by omega) hz (hg2_step f f9 i 1 hlt hi2 (by omega) (by omega)) hP hD hS (lv_sub hl [2, 0] rfl)
                · rw [if_pos c70] at hz
                  refine lv_iconst (v := jI 1) hx hb dX2_hourGoes_73 rfl ?_
                  refine lv_goto (tgt := 78) hx hb dX2_hourGoes_74 (by decide) ?_
                  refine lv_istore_n (lv' := [(2, .int (jI 1)), (0, .ref (a 0)), (1, .int (jI (i : Int)))]) hx hb dX2_hourGoes_78 rfl hl (by decide) rfl (fun ls hl => ?_)
                  refine lv_aload_n hx hb dX2_hourGoes_79 rfl (lv_at hl 1 rfl) ?_
                  refine va_get (D := D) (ci := 2) (v := .ref (a 1)) (C := RX2) (T := TX2) (N := 11) hx hb hts inRX2 hown hK hP 0 rfl rfl 0 (by decide) qf7 (fun _ h9 => h9) rfl dX2_hourGoes_80 ?_
                  refine lv_bipush (v := jI 21) hx hb dX2_hourGoes_83 (by decide) ?_
                  refine lv_iconst (v := jI 4) hx hb dX2_hourGoes_85 rfl ?_
                  refine lv_iload_n hx hb dX2_hourGoes_86 rfl (lv_at hl 2 rfl) ?_
                  refine x_imul hx hb dX2_hourGoes_87 ?_
                  refine x_iadd hx hb dX2_hourGoes_88 ?_
                  refine lv_dup2_11 hx hb dX2_hourGoes_89 rfl rfl ?_
                  refine x_iald hx hb hK hP 1 0 rfl rfl (21 + (4 * i)) (by omega) (by omega) (by decide) dX2_hourGoes_90 ?_
                  rw [show (upz f9 ((21 + (4 * i)) + 3) ((f9 ((21 + (4 * i)) + 3)) + 1)) (21 + (4 * i)) = f9 (21 + (4 * i)) from upz_n (by omega)]
                  refine lv_iload_n hx hb dX2_hourGoes_91 rfl (lv_at hl 0 rfl) ?_
                  refine x_if_eq (tgt := 99) hx hb dX2_hourGoes_92 (by decide) (by decide) (fun c92 => absurd c92 (by decide)) (fun c92 => ?_)
                  refine lv_iconst (v := jI 0) hx hb dX2_hourGoes_95 rfl ?_
                  refine lv_goto (tgt := 100) hx hb dX2_hourGoes_96 (by decide) ?_
                  refine x_isub hx hb dX2_hourGoes_100 ?_
                  refine x_iast (w1 := (w2 cI a (upz (upz f9 ((21 + (4 * i)) + 3) ((f9 ((21 + (4 * i)) + 3)) + 1)) (21 + (4 * i)) ((f9 (21 + (4 * i))) - 0)) g n b len th at_ fl va so ma)) hx hb hK hP hD hS 1 0 rfl rfl (21 + (4 * i)) (by omega) (by omega) (by decide) dX2_hourGoes_101 rfl (fun H locs hP hD hS => ?_)
                  refine lv_iinc (v := jI ((i + 1 : Nat) : Int)) (lv' := [(1, .int (jI ((i + 1 : Nat) : Int))), (2, .int (jI 1)), (0, .ref (a 0))]) hx hb dX2_hourGoes_102 hl (k := 2) rfl (jI_inc _ 1) (by decide) rfl (fun ls hl => ?_)
                  refine lv_goto (tgt := 2) hx hb dX2_hourGoes_105 (by decide) ?_
                  exact ih (i + 1) (upz (upz f9 ((21 + (4 * i)) + 3) ((f9 ((21 + (4 * i)) + 3)) + 1)) (21 + (4 * i)) ((f9 (21 + (4 * i))) - 0)) _ _ ls (by omega) (by omega) hz (hg2_step f f9 i 0 hlt hi2 (by omega) (by omega)) hP hD hS (lv_sub hl [2, 0] rfl)
  exact LP2 (3 + 1 - 0) 0 f _ _ ls (by omega) (by omega) hz ⟨hrf, mv2B_mono hm (by omega), rfl⟩ hP hD hS (lv_sub hl [1, 0] rfl)
theorem hg_step (f9 : Nat → Int) (i : Nat) (B d : Int) (hi : i < 3) (h1 : rng f9) (h2 : mv2B f9 B) (hB : B ≤ 1000000) (hd : 0 ≤ d ∧ d ≤ 1) (ht : 0 < f9 (21 + 4 * i)) : rng (upz (upz f9 (21 + 4 * i + 3) (f9 (21 + 4 * i + 3) + 1)) (21 + 4 * i) (f9 (21 + 4 * i) - d)) ∧ mv2B (upz (upz f9 (21 + 4 * i + 3) (f9 (21 + 4 * i + 3) + 1)) (21 + 4 * i) (f9 (21 + 4 * i) - d)) (B + 1) ∧ (upz (upz f9 (21 + 4 * i + 3) (f9 (21 + 4 * i + 3) + 1)) (21 + 4 * i) (f9 (21 + 4 * i) - d)) 0 = f9 0 := by
  have h4 := h2 i hi
  refine ⟨rng_upz (rng_upz h1 (by omega)) (by omega), ?_, ?_⟩
  · intro j hj
    have h5 := h2 j hj
    dsimp only [upz]
    (repeat' split) <;> omega
  · rw [upz_n (by omega), upz_n (by omega)]
theorem ok_hg_lp (B : Int) (hB : B ≤ 900000) : ∀ (k i : Nat) (f : Nat → Int), i ≤ 3 → i + k = 4 → rng f → mv2B f (B + i) → 0 ≤ f 0 ∧ f 0 ≤ 99999 → rng (s_X2_hourGoes_lp2 k i f) ∧ mv2B (s_X2_hourGoes_lp2 k i f) (B + 3) ∧ s_X2_hourGoes_lp2 k i f 0 = f 0 + 1 := by
  intro k
  induction k with
  | zero => intro i f h0 h; exact absurd h (by omega)
  | succ k ih =>
    intro i f h0 h hf hm hh
    have hex : rng (upz f 0 (f 0 + 1)) ∧ mv2B (upz f 0 (f 0 + 1)) (B + 3) ∧ (upz f 0 (f 0 + 1)) 0 = f 0 + 1 := ⟨rng_upz hf (by omega), mv2B_mono (mv2B_upz hm (by decide)) (by omega), upz_s⟩
    rw [s_X2_hourGoes_lp2]
    split
    · exact hex
    split
    · have hst : rng f → mv2B f (B + ((i + 1 : Nat) : Int)) → rng (s_X2_hourGoes_lp2 k (i + 1) f) ∧ mv2B (s_X2_hourGoes_lp2 k (i + 1) f) (B + 3) ∧ s_X2_hourGoes_lp2 k (i + 1) f 0 = f 0 + 1 := fun h1 h2 => ih (i + 1) f (by omega) (by omega) h1 h2 hh
      have hgo : ∀ d : Int, 0 ≤ d ∧ d ≤ 1 → 0 < f (21 + 4 * i) → rng (s_X2_hourGoes_lp2 k (i + 1) (upz (upz f (21 + 4 * i + 3) (f (21 + 4 * i + 3) + 1)) (21 + 4 * i) (f (21 + 4 * i) - d))) ∧ mv2B (s_X2_hourGoes_lp2 k (i + 1) (upz (upz f (21 + 4 * i + 3) (f (21 + 4 * i + 3) + 1)) (21 + 4 * i) (f (21 + 4 * i) - d))) (B + 3) ∧ s_X2_hourGoes_lp2 k (i + 1) (upz (upz f (21 + 4 * i + 3) (f (21 + 4 * i + 3) + 1)) (21 + 4 * i) (f (21 + 4 * i) - d)) 0 = f 0 + 1 := by
        intro d hd ht
        have hs := hg_step f i (B + i) d (by omega) hf hm (by omega) hd ht
        have h9 := ih (i + 1) _ (by omega) (by omega) hs.1 (mv2B_mono hs.2.1 (by omega)) (by rw [hs.2.2]; exact hh)
        rw [hs.2.2] at h9
        exact h9
      (repeat' split) <;> first
        | exact hst hf (mv2B_mono hm (by omega))
        | exact hgo 0 (by decide) (by omega)
        | exact hgo 1 (by decide) (by omega)
    · exact hex
theorem ok_X2_hourGoes (f : Nat → Int) (B : Int) (hf : rng f) (hm : mv2B f B) (hB : B ≤ 900000) (hh : 0 ≤ f 0 ∧ f 0 ≤ 99999) : rng (s_X2_hourGoes f) ∧ mv2B (s_X2_hourGoes f) (B + 3) ∧ s_X2_hourGoes f 0 = f 0 + 1 :=
  ok_hg_lp B hB (3 + 1 - 0) 0 f (by decide) (by decide) hf (mv2B_mono hm (by omega)) hh
def s_X2_opening (f : Nat → Int) (g : Nat → Int) (n : Nat) (x0 : Int) (x1 : Int) : Int × Int × (Nat → Int) × (Nat → Int) × Nat := if (s_X2_in x0 0 6) = 0 then ((s_X2_fails 1).1, (s_X2_fails 1).2, f, g, n) else (if (s_X2_in x1 (-1) 23) = 0 then ((s_X2_fails 2).1, (s_X2_fails 2).2, f, g, n) else ((s_X2_changes f (1 + (x0.toNat)) x1).1, 0, (s_X2_changes f (1 + (x0.toNat)) x1).2, (s_X2_saves f g n).1, (s_X2_saves f g n).2))
abbrev rm_X2_opening : Room := { frames := 2, cells := 0, slots := 0, locals := 42 }
set_option maxHeartbeats 4000000 in
set_option maxRecDepth 100000 in
theorem m_X2_opening (l : Launch) (D : va_G) (cI : ClassId) (a : Nat → Nat) (f : Nat → Int) (g : Nat → Int) (n : Nat) (b : Nat → Int) (len : Nat) (th : Int) (at_ : Nat) (fl : Int) (va : Int) (so : Nat → Int) (ma : Nat → Int) (x0 : Int) (x1 : Int) (hn : n ≤ 6) (hx0 : -2147483648 ≤ x0 ∧ x0 < 2147483648) (hx1 : -2147483648 ≤ x1 ∧ x1 < 2147483648) : MetI l yX2_opening wsX2_opening rm_X2_opening D cI [.ref (a 0), .int (jI x0), .int (jI x1)] (w2 cI a f g n b len th at_ fl va so ma) (w2 cI a ((s_X2_opening f g n x0 x1).2.2.1) ((s_X2_opening f g n x0 x1).2.2.2.1) ((s_X2_opening f g n x0 x1).2.2.2.2) b len ((s_X2_opening f g n x0 x1).2.1) at_ fl va so ma) ((s_X2_opening f g n x0 x1).1) := by
  refine xe_I (cc := cX2_opening) (maxL := 3) (ret := (some .int)) (by decide) rfl (Nat.le_of_ble_eq_true rfl) ?_
  intro p e s m below meth c hx hb hr hml hts hown hlocks hP hK A hA hD hS ls hl
  have hl : lv_has ls 3 [(0, .ref (a 0)), (1, .int (jI x0)), (2, .int (jI x1))] := hl
  have hown : s.vm.findClass RX2 = some m.cls := hown
  have hSx : CallFix p m c cX2_opening 3 s ([.ref (a 0), .int (jI x0), .int (jI x1)] : List Value).toArray wsX2_opening RX2 := ⟨hx, hb, hml, hown, hts⟩
  have inRX2 : ∀ w ∈ u_ws RX2 TX2 11, w ∈ wsX2_opening := by decide +kernel
  have qf25 := hts (.fieldLink RX2 25 "VaultMovementsModel" "thrown" "I") (by decide +kernel)
  obtain ⟨z, hz⟩ : ∃ z, z = (s_X2_opening f g n x0 x1) := ⟨_, rfl⟩
  rw [← hz]
  unfold s_X2_opening at hz
  refine lv_aload_n hx hb dX2_opening_0 rfl (lv_at hl 0 rfl) ?_
  refine lv_iconst (v := jI 0) hx hb dX2_opening_1 rfl ?_
  refine va_put (D := D) (ci := 2) (v := .int (jI 0)) (ty := .int) (C := RX2) (T := TX2) (N := 11) hx hb hts inRX2 tyX2 tyX2_ok nmX2 hown hK hP hD hS 0 rfl rfl 5 (by decide) qf25 (fun _ h9 => h9) rfl (by decide +kernel) rfl rfl (Nat.le_of_ble_eq_true rfl) dX2_opening_2 (fun H locs hP hD hS => ?_)
  have hP : va_P D vwCl (w2 cI a f g n b len 0 at_ fl va so ma) H := hP
  have hD : va_D A (w2 cI a f g n b len 0 at_ fl va so ma) := hD
  refine lv_iload_n hx hb dX2_opening_5 rfl (lv_at hl 1 rfl) ?_
  refine xc_P (As := [.int (jI x0)]) (rest := []) hSx (m_X2_isDay l x0 (by omega)) (va_cwS 1 hts gX2_opening_X2_isDay rfl rfl rfl (by decide +kernel) ⟨Nat.le_of_ble_eq_true rfl, Nat.le_of_ble_eq_true rfl⟩) rfl hl.1 rfl (Nat.le_of_ble_eq_true rfl) dX2_opening_6 ⟨Nat.zero_le _, Nat.zero_le _⟩ ?_
  refine x_if_ne (tgt := 18) hx hb dX2_opening_9 (by decide) (b01 (b_X2_in x0 0 6)) (fun c9 => ?_) (fun c9 => ?_)
  · rw [if_neg c9] at hz
    have hok := ok_X2_in c9
    obtain ⟨j, rfl⟩ : ∃ j : Nat, x0 = (j : Int) := ⟨x0.toNat, by omega⟩
    have hj : j < 7 := by omega
    try simp only [Int.toNat_natCast] at hz
    refine lv_iload_n hx hb dX2_opening_18 rfl (lv_at hl 2 rfl) ?_
    refine lv_iconst (v := jI (-1)) hx hb dX2_opening_19 rfl ?_
    refine lv_bipush (v := jI 23) hx hb dX2_opening_20 (by decide) ?_
    refine xc_P (As := [.int (jI x1), .int (jI (-1)), .int (jI 23)]) (rest := []) hSx (m_X2_in l x1 (-1) 23 (by omega) (by decide) (by decide)) (va_cwS 3 hts gX2_opening_X2_in rfl rfl rfl (by decide +kernel) ⟨Nat.le_of_ble_eq_true rfl, Nat.le_of_ble_eq_true rfl⟩) rfl hl.1 rfl (Nat.le_of_ble_eq_true rfl) dX2_opening_22 ⟨Nat.zero_le _, Nat.zero_le _⟩ ?_
    refine x_if_ne (tgt := 34) hx hb dX2_opening_25 (by decide) (b01 (b_X2_in x1 (-1) 23)) (fun c25 => ?_) (fun c25 => ?_)
    · rw [if_neg c25] at hz
      refine lv_aload_n hx hb dX2_opening_34 rfl (lv_at hl 0 rfl) ?_
      refine xc_V (As := []) (rest := []) hSx (m_X2_saves l D cI a f g n b len 0 at_ fl va so ma  (by omega)) (cwV 0 hts gX2_opening_X2_saves rfl rfl rfl (by decide +kernel) ⟨Nat.le_of_ble_eq_true rfl, Nat.le_of_ble_eq_true rfl⟩) hP hD hS hA hK 0 rfl rfl rfl rfl hl.1 rfl (Nat.le_of_ble_eq_true rfl) dX2_opening_35 ⟨Nat.zero_le _, Nat.zero_le _⟩ (fun H locs hP hD hS => ?_)
      refine lv_aload_n hx hb dX2_opening_38 rfl (lv_at hl 0 rfl) ?_
      refine lv_iconst (v := jI 1) hx hb dX2_opening_39 rfl ?_
      refine lv_iload_n hx hb dX2_opening_40 rfl (lv_at hl 1 rfl) ?_
      refine x_iadd hx hb dX2_opening_41 ?_
      refine lv_iload_n hx hb dX2_opening_42 rfl (lv_at hl 2 rfl) ?_
      refine xc_I (As := [.int (jI (1 + (j : Int))), .int (jI x1)]) (rest := []) hSx (m_X2_changes l D cI a f ((s_X2_saves f g n).1) ((s_X2_saves f g n).2) b len 0 at_ fl va so ma (1 + j) x1 (by omega)) (cwV 2 hts gX2_opening_X2_changes rfl rfl rfl (by decide +kernel) ⟨Nat.le_of_ble_eq_true rfl, Nat.le_of_ble_eq_true rfl⟩) hP hD hS hA hK 0 rfl rfl rfl rfl hl.1 rfl (Nat.le_of_ble_eq_true rfl) dX2_opening_43 ⟨Nat.zero_le _, Nat.zero_le _⟩ (fun H locs hP hD hS => ?_)
      subst hz
      exact xi_i hx hb hr hlocks hK hP hD hS rfl rfl dX2_opening_46
    · rw [if_pos c25] at hz
      refine lv_aload_n hx hb dX2_opening_28 rfl (lv_at hl 0 rfl) ?_
      refine lv_iconst (v := jI 2) hx hb dX2_opening_29 rfl ?_
      refine xc_I (As := [.int (jI 2)]) (rest := []) hSx (m_X2_fails l D cI a f g n b len 0 at_ fl va so ma 2 ) (cwV 1 hts gX2_opening_X2_fails rfl rfl rfl (by decide +kernel) ⟨Nat.le_of_ble_eq_true rfl, Nat.le_of_ble_eq_true rfl⟩) hP hD hS hA hK 0 rfl rfl rfl rfl hl.1 rfl (Nat.le_of_ble_eq_true rfl) dX2_opening_30 ⟨Nat.zero_le _, Nat.zero_le _⟩ (fun H locs hP hD hS => ?_)
      subst hz
      exact xi_i hx hb hr hlocks hK hP hD hS rfl rfl dX2_opening_33
  · rw [if_pos c9] at hz
    refine lv_aload_n hx hb dX2_opening_12 rfl (lv_at hl 0 rfl) ?_
    refine lv_iconst (v := jI 1) hx hb dX2_opening_13 rfl ?_
    refine xc_I (As := [.int (jI 1)]) (rest := []) hSx (m_X2_fails l D cI a f g n b len 0 at_ fl va so ma 1 ) (cwV 1 hts gX2_opening_X2_fails rfl rfl rfl (by decide +kernel) ⟨Nat.le_of_ble_eq_true rfl, Nat.le_of_ble_eq_true rfl⟩) hP hD hS hA hK 0 rfl rfl rfl rfl hl.1 rfl (Nat.le_of_ble_eq_true rfl) dX2_opening_14 ⟨Nat.zero_le _, Nat.zero_le _⟩ (fun H locs hP hD hS => ?_)
    subst hz
    exact xi_i hx hb hr hlocks hK hP hD hS rfl rfl dX2_opening_17
def s_X2_set (f : Nat → Int) (g : Nat → Int) (n : Nat) (x0 : Int) (x1 : Int) : Int × Int × (Nat → Int) × (Nat → Int) × Nat := if (s_X2_in x0 0 2) = 0 then ((s_X2_fails 1).1, (s_X2_fails 1).2, f, g, n) else (if (s_X2_isFor x0 x1) = 0 then ((s_X2_fails 2).1, (s_X2_fails 2).2, f, g, n) else ((s_X2_changes f (8 + (x0.toNat)) x1).1, 0, (s_X2_changes f (8 + (x0.toNat)) x1).2, (s_X2_saves f g n).1, (s_X2_saves f g n).2))
abbrev rm_X2_set : Room := { frames := 2, cells := 0, slots := 0, locals := 43 }
set_option maxHeartbeats 4000000 in
set_option maxRecDepth 100000 in
theorem m_X2_set (l : Launch) (D : va_G) (cI : ClassId) (a : Nat → Nat) (f : Nat → Int) (g : Nat → Int) (n : Nat) (b : Nat → Int) (len : Nat) (th : Int) (at_ : Nat) (fl : Int) (va : Int) (so : Nat → Int) (ma : Nat → Int) (x0 : Int) (x1 : Int) (hn : n ≤ 6) (hx0 : -2147483648 ≤ x0 ∧ x0 < 2147483648) (hx1 : -2147483648 ≤ x1 ∧ x1 < 2147483648) : MetI l yX2_set wsX2_set rm_X2_set D cI [.ref (a 0), .int (jI x0), .int (jI x1)] (w2 cI a f g n b len th at_ fl va so ma) (w2 cI a ((s_X2_set f g n x0 x1).2.2.1) ((s_X2_set f g n x0 x1).2.2.2.1) ((s_X2_set f g n x0 x1).2.2.2.2) b len ((s_X2_set f g n x0 x1).2.1) at_ fl va so ma) ((s_X2_set f g n x0 x1).1) := by
  refine xe_I (cc := cX2_set) (maxL := 3) (ret := (some .int)) (by decide) rfl (Nat.le_of_ble_eq_true rfl) ?_
  intro p e s m below meth c hx hb hr hml hts hown hlocks hP hK A hA hD hS ls hl
  have hl : lv_has ls 3 [(0, .ref (a 0)), (1, .int (jI x0)), (2, .int (jI x1))] := hl
  have hown : s.vm.findClass RX2 = some m.cls := hown
  have hSx : CallFix p m c cX2_set 3 s ([.ref (a 0), .int (jI x0), .int (jI x1)] : List Value).toArray wsX2_set RX2 := ⟨hx, hb, hml, hown, hts⟩
  have inRX2 : ∀ w ∈ u_ws RX2 TX2 11, w ∈ wsX2_set := by decide +kernel
  have qf25 := hts (.fieldLink RX2 25 "VaultMovementsModel" "thrown" "I") (by decide +kernel)
  obtain ⟨z, hz⟩ : ∃ z, z = (s_X2_set f g n x0 x1) := ⟨_, rfl⟩
  rw [← hz]
  unfold s_X2_set at hz
  refine lv_aload_n hx hb dX2_set_0 rfl (lv_at hl 0 rfl) ?_
  refine lv_iconst (v := jI 0) hx hb dX2_set_1 rfl ?_
  refine va_put (D := D) (ci := 2) (v := .int (jI 0)) (ty := .int) (C := RX2) (T := TX2) (N := 11) hx hb hts inRX2 tyX2 tyX2_ok nmX2 hown hK hP hD hS 0 rfl rfl 5 (by decide) qf25 (fun _ h9 => h9) rfl (by decide +kernel) rfl rfl (Nat.le_of_ble_eq_true rfl) dX2_set_2 (fun H locs hP hD hS => ?_)
  have hP : va_P D vwCl (w2 cI a f g n b len 0 at_ fl va so ma) H := hP
  have hD : va_D A (w2 cI a f g n b len 0 at_ fl va so ma) := hD
  refine lv_iload_n hx hb dX2_set_5 rfl (lv_at hl 1 rfl) ?_
  refine lv_iconst (v := jI 0) hx hb dX2_set_6 rfl ?_
  refine lv_iconst (v := jI 2) hx hb dX2_set_7 rfl ?_
  refine xc_P (As := [.int (jI x0), .int (jI 0), .int (jI 2)]) (rest := []) hSx (m_X2_in l x0 0 2 (by omega) (by decide) (by decide)) (va_cwS 3 hts gX2_set_X2_in rfl rfl rfl (by decide +kernel) ⟨Nat.le_of_ble_eq_true rfl, Nat.le_of_ble_eq_true rfl⟩) rfl hl.1 rfl (Nat.le_of_ble_eq_true rfl) dX2_set_8 ⟨Nat.zero_le _, Nat.zero_le _⟩ ?_
  refine x_if_ne (tgt := 20) hx hb dX2_set_11 (by decide) (b01 (b_X2_in x0 0 2)) (fun c11 => ?_) (fun c11 => ?_)
  · rw [if_neg c11] at hz
    have hok := ok_X2_in c11
    obtain ⟨j, rfl⟩ : ∃ j : Nat, x0 = (j : Int) := ⟨x0.toNat, by omega⟩
    have hj : j < 3 := by omega
    try simp only [Int.toNat_natCast] at hz
    refine lv_iload_n hx hb dX2_set_20 rfl (lv_at hl 1 rfl) ?_
    refine lv_iload_n hx hb dX2_set_21 rfl (lv_at hl 2 rfl) ?_
    refine xc_P (As := [.int (jI (j : Int)), .int (jI x1)]) (rest := []) hSx (m_X2_isFor l (j : Int) x1 (by omega) (by omega)) (va_cwS 2 hts gX2_set_X2_isFor rfl rfl rfl (by decide +kernel) ⟨Nat.le_of_ble_eq_true rfl, Nat.le_of_ble_eq_true rfl⟩) rfl hl.1 rfl (Nat.le_of_ble_eq_true rfl) dX2_set_22 ⟨Nat.zero_le _, Nat.zero_le _⟩ ?_
    refine x_if_ne (tgt := 34) hx hb dX2_set_25 (by decide) (b01 (b_X2_isFor (j : Int) x1)) (fun c25 => ?_) (fun c25 => ?_)
    · rw [if_neg c25] at hz
      refine lv_aload_n hx hb dX2_set_34 rfl (lv_at hl 0 rfl) ?_
      refine xc_V (As := []) (rest := []) hSx (m_X2_saves l D cI a f g n b len 0 at_ fl va so ma  (by omega)) (cwV 0 hts gX2_set_X2_saves rfl rfl rfl (by decide +kernel) ⟨Nat.le_of_ble_eq_true rfl, Nat.le_of_ble_eq_true rfl⟩) hP hD hS hA hK 0 rfl rfl rfl rfl hl.1 rfl (Nat.le_of_ble_eq_true rfl) dX2_set_35 ⟨Nat.zero_le _, Nat.zero_le _⟩ (fun H locs hP hD hS => ?_)
      refine lv_aload_n hx hb dX2_set_38 rfl (lv_at hl 0 rfl) ?_
      refine lv_bipush (v := jI 8) hx hb dX2_set_39 (by decide) ?_
      refine lv_iload_n hx hb dX2_set_41 rfl (lv_at hl 1 rfl) ?_
      refine x_iadd hx hb dX2_set_42 ?_
      refine lv_iload_n hx hb dX2_set_43 rfl (lv_at hl 2 rfl) ?_
      refine xc_I (As := [.int (jI (8 + (j : Int))), .int (jI x1)]) (rest := []) hSx (m_X2_changes l D cI a f ((s_X2_saves f g n).1) ((s_X2_saves f g n).2) b len 0 at_ fl va so ma (8 + j) x1 (by omega)) (cwV 2 hts gX2_set_X2_changes rfl rfl rfl (by decide +kernel) ⟨Nat.le_of_ble_eq_true rfl, Nat.le_of_ble_eq_true rfl⟩) hP hD hS hA hK 0 rfl rfl rfl rfl hl.1 rfl (Nat.le_of_ble_eq_true rfl) dX2_set_44 ⟨Nat.zero_le _, Nat.zero_le _⟩ (fun H locs hP hD hS => ?_)
      subst hz
      exact xi_i hx hb hr hlocks hK hP hD hS rfl rfl dX2_set_47
    · rw [if_pos c25] at hz
      refine lv_aload_n hx hb dX2_set_28 rfl (lv_at hl 0 rfl) ?_
      refine lv_iconst (v := jI 2) hx hb dX2_set_29 rfl ?_
      refine xc_I (As := [.int (jI 2)]) (rest := []) hSx (m_X2_fails l D cI a f g n b len 0 at_ fl va so ma 2 ) (cwV 1 hts gX2_set_X2_fails rfl rfl rfl (by decide +kernel) ⟨Nat.le_of_ble_eq_true rfl, Nat.le_of_ble_eq_true rfl⟩) hP hD hS hA hK 0 rfl rfl rfl rfl hl.1 rfl (Nat.le_of_ble_eq_true rfl) dX2_set_30 ⟨Nat.zero_le _, Nat.zero_le _⟩ (fun H locs hP hD hS => ?_)
      subst hz
      exact xi_i hx hb hr hlocks hK hP hD hS rfl rfl dX2_set_33
  · rw [if_pos c11] at hz
    refine lv_aload_n hx hb dX2_set_14 rfl (lv_at hl 0 rfl) ?_
    refine lv_iconst (v := jI 1) hx hb dX2_set_15 rfl ?_
    refine xc_I (As := [.int (jI 1)]) (rest := []) hSx (m_X2_fails l D cI a f g n b len 0 at_ fl va so ma 1 ) (cwV 1 hts gX2_set_X2_fails rfl rfl rfl (by decide +kernel) ⟨Nat.le_of_ble_eq_true rfl, Nat.le_of_ble_eq_true rfl⟩) hP hD hS hA hK 0 rfl rfl rfl rfl hl.1 rfl (Nat.le_of_ble_eq_true rfl) dX2_set_16 ⟨Nat.zero_le _, Nat.zero_le _⟩ (fun H locs hP hD hS => ?_)
    subst hz
    exact xi_i hx hb hr hlocks hK hP hD hS rfl rfl dX2_set_19
def s_X2_wind (f : Nat → Int) (g : Nat → Int) (n : Nat) (x0 : Int) (x1 : Int) : Int × Int × (Nat → Int) × (Nat → Int) × Nat := if (s_X2_in x0 0 2) = 0 then ((s_X2_fails 1).1, (s_X2_fails 1).2, f, g, n) else (if (s_X2_in x1 1 200) = 0 then ((s_X2_fails 2).1, (s_X2_fails 2).2, f, g, n) else (if (f 11) = 1 then ((s_X2_fails 3).1, (s_X2_fails 3).2, f, g, n) else (if (s_X2_goes f (x0.toNat)) = 0 then ((s_X2_fails 3).1, (s_X2_fails 3).2, f, g, n) else ((s_X2_changes f (21 + (4 * (x0.toNat))) x1).1, 0, (s_X2_changes f (21 + (4 * (x0.toNat))) x1).2, (s_X2_saves f g n).1, (s_X2_saves f g n).2))))
abbrev rm_X2_wind : Room := { frames := 2, cells := 0, slots := 0, locals := 42 }
set_option maxHeartbeats 4000000 in
set_option maxRecDepth 100000 in
theorem m_X2_wind (l : Launch) (D : va_G) (cI : ClassId) (a : Nat → Nat) (f : Nat → Int) (g : Nat → Int) (n : Nat) (b : Nat → Int) (len : Nat) (th : Int) (at_ : Nat) (fl : Int) (va : Int) (so : Nat → Int) (ma : Nat → Int) (x0 : Int) (x1 : Int) (hn : n ≤ 6) (hrf : rng f) (hx0 : -2147483648 ≤ x0 ∧ x0 < 2147483648) (hx1 : -2147483648 ≤ x1 ∧ x1 < 2147483648) : MetI l yX2_wind wsX2_wind rm_X2_wind D cI [.ref (a 0), .int (jI x0), .int (jI x1)] (w2 cI a f g n b len th at_ fl va so ma) (w2 cI a ((s_X2_wind f g n x0 x1).2.2.1) ((s_X2_wind f g n x0 x1).2.2.2.1) ((s_X2_wind f g n x0 x1).2.2.2.2) b len ((s_X2_wind f g n x0 x1).2.1) at_ fl va so ma) ((s_X2_wind f g n x0 x1).1) := by
  refine xe_I (cc := cX2_wind) (maxL := 3) (ret := (some .int)) (by decide) rfl (Nat.le_of_ble_eq_true rfl) ?_
  intro p e s m below meth c hx hb hr hml hts hown hlocks hP hK A hA hD hS ls hl
  have hl : lv_has ls 3 [(0, .ref (a 0)), (1, .int (jI x0)), (2, .int (jI x1))] := hl
  have hown : s.vm.findClass RX2 = some m.cls := hown
  have hSx : CallFix p m c cX2_wind 3 s ([.ref (a 0), .int (jI x0), .int (jI x1)] : List Value).toArray wsX2_wind RX2 := ⟨hx, hb, hml, hown, hts⟩
  have inRX2 : ∀ w ∈ u_ws RX2 TX2 11, w ∈ wsX2_wind := by decide +kernel
  have qf25 := hts (.fieldLink RX2 25 "VaultMovementsModel" "thrown" "I") (by decide +kernel)
  have qf7 := hts (.fieldLink RX2 7 "VaultMovementsModel" "now" "[I") (by decide +kernel)
  obtain ⟨z, hz⟩ : ∃ z, z = (s_X2_wind f g n x0 x1) := ⟨_, rfl⟩
  rw [← hz]
  unfold s_X2_wind at hz
  refine lv_aload_n hx hb dX2_wind_0 rfl (lv_at hl 0 rfl) ?_
  refine lv_iconst (v := jI 0) hx hb dX2_wind_1 rfl ?_
  refine va_put (D := D) (ci := 2) (v := .int (jI 0)) (ty := .int) (C := RX2) (T := TX2) (N := 11) hx hb hts inRX2 tyX2 tyX2_ok nmX2 hown hK hP hD hS 0 rfl rfl 5 (by decide) qf25 (fun _ h9 => h9) rfl (by decide +kernel) rfl rfl (Nat.le_of_ble_eq_true rfl) dX2_wind_2 (fun H locs hP hD hS => ?_)
  have hP : va_P D vwCl (w2 cI a f g n b len 0 at_ fl va so ma) H := hP
  have hD : va_D A (w2 cI a f g n b len 0 at_ fl va so ma) := hD
  refine lv_iload_n hx hb dX2_wind_5 rfl (lv_at hl 1 rfl) ?_
  refine xc_P (As := [.int (jI x0)]) (rest := []) hSx (m_X2_isMovement l x0 (by omega)) (va_cwS 1 hts gX2_wind_X2_isMovement rfl rfl rfl (by decide +kernel) ⟨Nat.le_of_ble_eq_true rfl, Nat.le_of_ble_eq_true rfl⟩) rfl hl.1 rfl (Nat.le_of_ble_eq_true rfl) dX2_wind_6 ⟨Nat.zero_le _, Nat.zero_le _⟩ ?_
  refine x_if_ne (tgt := 18) hx hb dX2_wind_9 (by decide) (b01 (b_X2_in x0 0 2)) (fun c9 => ?_) (fun c9 => ?_)
  · rw [if_neg c9] at hz
    have hok := ok_X2_in c9
    obtain ⟨j, rfl⟩ : ∃ j : Nat, x0 = (j : Int) := ⟨x0.toNat, by omega⟩
    have hj : j < 3 := by omega
    try simp only [Int.toNat_natCast] at hz
    refine lv_iload_n hx hb dX2_wind_18 rfl (lv_at hl 2 rfl) ?_
    refine lv_iconst (v := jI 1) hx hb dX2_wind_19 rfl ?_
    refine lv_sipush (v := jI 200) hx hb dX2_wind_20 (by decide) ?_
    refine xc_P (As := [.int (jI x1), .int (jI 1), .int (jI 200)]) (rest := []) hSx (m_X2_in l x1 1 200 (by omega) (by decide) (by decide)) (va_cwS 3 hts gX2_wind_X2_in rfl rfl rfl (by decide +kernel) ⟨Nat.le_of_ble_eq_true rfl, Nat.le_of_ble_eq_true rfl⟩) rfl hl.1 rfl (Nat.le_of_ble_eq_true rfl) dX2_wind_23 ⟨Nat.zero_le _, Nat.zero_le _⟩ ?_
    refine x_if_ne (tgt := 35) hx hb dX2_wind_26 (by decide) (b01 (b_X2_in x1 1 200)) (fun c26 => ?_) (fun c26 => ?_)
    · rw [if_neg c26] at hz
      refine lv_aload_n hx hb dX2_wind_35 rfl (lv_at hl 0 rfl) ?_
      refine va_get (D := D) (ci := 2) (v := .ref (a 1)) (C := RX2) (T := TX2) (N := 11) hx hb hts inRX2 hown hK hP 0 rfl rfl 0 (by decide) qf7 (fun _ h9 => h9) rfl dX2_wind_36 ?_
      refine lv_bipush (v := jI 11) hx hb dX2_wind_39 (by decide) ?_
      refine x_iald hx hb hK hP 1 0 rfl rfl 11 rfl (by decide) (by decide) dX2_wind_41 ?_
      refine lv_iconst (v := jI 1) hx hb dX2_wind_42 rfl ?_
      refine x_icmp_eq (tgt := 54) hx hb dX2_wind_43 (by decide) ⟨(hrf _), (by decide)⟩ (fun c43 => ?_) (fun c43 => ?_)
      · rw [if_pos c43] at hz
        refine lv_aload_n hx hb dX2_wind_54 rfl (lv_at hl 0 rfl) ?_
        refine lv_iconst (v := jI 3) hx hb dX2_wind_55 rfl ?_
        refine xc_I (As := [.int (jI 3)]) (rest := []) hSx (m_X2_fails l D cI a f g n b len 0 at_ fl va so ma 3 ) (cwV 1 hts gX2_wind_X2_fails rfl rfl rfl (by decide +kernel) ⟨Nat.le_of_ble_eq_true rfl, Nat.le_of_ble_eq_true rfl⟩) hP hD hS hA hK 0 rfl rfl rfl rfl hl.1 rfl (Nat.le_of_ble_eq_true rfl) dX2_wind_56 ⟨Nat.zero_le _, Nat.zero_le _⟩ (fun H locs hP hD hS => ?_)
        subst hz
        exact xi_i hx hb hr hlocks hK hP hD hS rfl rfl dX2_wind_59
      · rw [if_neg c43] at hz
        refine lv_aload_n hx hb dX2_wind_46 rfl (lv_at hl 0 rfl) ?_
        refine lv_iload_n hx hb dX2_wind_47 rfl (lv_at hl 1 rfl) ?_
        refine xc_R (As := [.int (jI (j : Int))]) (rest := []) hSx (m_X2_goes l D cI a f g n b len 0 at_ fl va so ma j (by omega) (by omega)) (cwV 1 hts gX2_wind_X2_goes rfl rfl rfl (by decide +kernel) ⟨Nat.le_of_ble_eq_true rfl, Nat.le_of_ble_eq_true rfl⟩) hP hK 0 rfl rfl rfl rfl hl.1 rfl (Nat.le_of_ble_eq_true rfl) dX2_wind_48 ⟨Nat.zero_le _, Nat.zero_le _⟩ ?_
        refine x_if_ne (tgt := 60) hx hb dX2_wind_51 (by decide) (b01 (b_X2_goes f j)) (fun c51 => ?_) (fun c51 => ?_)
        · rw [if_neg c51] at hz
          refine lv_aload_n hx hb dX2_wind_60 rfl (lv_at hl 0 rfl) ?_
          refine xc_V (As := []) (rest := []) hSx (m_X2_saves l D cI a f g n b len 0 at_ fl va so ma  (by omega)) (cwV 0 hts gX2_wind_X2_saves rfl rfl rfl (by decide +kernel) ⟨Nat.le_of_ble_eq_true rfl, Nat.le_of_ble_eq_true rfl⟩) hP hD hS hA hK 0 rfl rfl rfl rfl hl.1 rfl (Nat.le_of_ble_eq_true rfl) dX2_wind_61 ⟨Nat.zero_le _, Nat.zero_le _⟩ (fun H locs hP hD hS => ?_)
          refine lv_aload_n hx hb dX2_wind_64 rfl (lv_at hl 0 rfl) ?_
          refine lv_bipush (v := jI 21) hx hb dX2_wind_65 (by decide) ?_
          refine lv_iconst (v := jI 4) hx hb dX2_wind_67 rfl ?_
          refine lv_iload_n hx hb dX2_wind_68 rfl (lv_at hl 1 rfl) ?_
          refine x_imul hx hb dX2_wind_69 ?_
          refine x_iadd hx hb dX2_wind_70 ?_
          refine lv_iload_n hx hb dX2_wind_71 rfl (lv_at hl 2 rfl) ?_
          refine xc_I (As := [.int (jI (21 + (4 * (j : Int)))), .int (jI x1)]) (rest := []) hSx (m_X2_changes l D cI a f ((s_X2_saves f g n).1) ((s_X2_saves f g n).2) b len 0 at_ fl va so ma (21 + (4 * j)) x1 (by omega)) (cwV 2 hts gX2_wind_X2_changes rfl rfl rfl (by decide +kernel) ⟨Nat.le_of_ble_eq_true rfl, Nat.le_of_ble_eq_true rfl⟩) hP hD hS hA hK 0 rfl rfl rfl rfl hl.1 rfl (Nat.le_of_ble_eq_true rfl) dX2_wind_72 ⟨Nat.zero_le _, Nat.zero_le _⟩ (fun H locs hP hD hS => ?_)
          subst hz
          exact xi_i hx hb hr hlocks hK hP hD hS rfl rfl dX2_wind_75
        · rw [if_pos c51] at hz
          refine lv_aload_n hx hb dX2_wind_54 rfl (lv_at hl 0 rfl) ?_
          refine lv_iconst (v := jI 3) hx hb dX2_wind_55 rfl ?_
          refine xc_I (As := [.int (jI 3)]) (rest := []) hSx (m_X2_fails l D cI a f g n b len 0 at_ fl va so ma 3 ) (cwV 1 hts gX2_wind_X2_fails rfl rfl rfl (by decide +kernel) ⟨Nat.le_of_ble_eq_true rfl, Nat.le_of_ble_eq_true rfl⟩) hP hD hS hA hK 0 rfl rfl rfl rfl hl.1 rfl (Nat.le_of_ble_eq_true rfl) dX2_wind_56 ⟨Nat.zero_le _, Nat.zero_le _⟩ (fun H locs hP hD hS => ?_)
          subst hz
          exact xi_i hx hb hr hlocks hK hP hD hS rfl rfl dX2_wind_59
    · rw [if_pos c26] at hz
      refine lv_aload_n hx hb dX2_wind_29 rfl (lv_at hl 0 rfl) ?_
      refine lv_iconst (v := jI 2) hx hb dX2_wind_30 rfl ?_
      refine xc_I (As := [.int (jI 2)]) (rest := []) hSx (m_X2_fails l D cI a f g n b len 0 at_ fl va so ma 2 ) (cwV 1 hts gX2_wind_X2_fails rfl rfl rfl (by decide +kernel) ⟨Nat.le_of_ble_eq_true rfl, Nat.le_of_ble_eq_true rfl⟩) hP hD hS hA hK 0 rfl rfl rfl rfl hl.1 rfl (Nat.le_of_ble_eq_true rfl) dX2_wind_31 ⟨Nat.zero_le _, Nat.zero_le _⟩ (fun H locs hP hD hS => ?_)
      subst hz
      exact xi_i hx hb hr hlocks hK hP hD hS rfl rfl dX2_wind_34
  · rw [if_pos c9] at hz
    refine lv_aload_n hx hb dX2_wind_12 rfl (lv_at hl 0 rfl) ?_
    refine lv_iconst (v := jI 1) hx hb dX2_wind_13 rfl ?_
    refine xc_I (As := [.int (jI 1)]) (rest := []) hSx (m_X2_fails l D cI a f g n b len 0 at_ fl va so ma 1 ) (cwV 1 hts gX2_wind_X2_fails rfl rfl rfl (by decide +kernel) ⟨Nat.le_of_ble_eq_true rfl, Nat.le_of_ble_eq_true rfl⟩) hP hD hS hA hK 0 rfl rfl rfl rfl hl.1 rfl (Nat.le_of_ble_eq_true rfl) dX2_wind_14 ⟨Nat.zero_le _, Nat.zero_le _⟩ (fun H locs hP hD hS => ?_)
    subst hz
    exact xi_i hx hb hr hlocks hK hP hD hS rfl rfl dX2_wind_17
def s_X2_fault (f : Nat → Int) (g : Nat → Int) (n : Nat) (x0 : Int) (x1 : Int) : Int × Int × (Nat → Int) × (Nat → Int) × Nat := if (s_X2_in x0 0 2) = 0 then ((s_X2_fails 1).1, (s_X2_fails 1).2, f, g, n) else (if x1 = 0 then ((s_X2_changes f ((21 + (4 * (x0.toNat))) + 1) 0).1, 0, (s_X2_changes f ((21 + (4 * (x0.toNat))) + 1) 0).2, (s_X2_saves f g n).1, (s_X2_saves f g n).2) else ((s_X2_changes f ((21 + (4 * (x0.toNat))) + 1) 1).1, 0, (s_X2_changes f ((21 + (4 * (x0.toNat))) + 1) 1).2, (s_X2_saves f g n).1, (s_X2_saves f g n).2))
abbrev rm_X2_fault : Room := { frames := 2, cells := 0, slots := 0, locals := 42 }
set_option maxHeartbeats 4000000 in
set_option maxRecDepth 100000 in
theorem m_X2_fault (l : Launch) (D : va_G) (cI : ClassId) (a : Nat → Nat) (f : Nat → Int) (g : Nat → Int) (n : Nat) (b : Nat → Int) (len : Nat) (th : Int) (at_ : Nat) (fl : Int) (va : Int) (so : Nat → Int) (ma : Nat → Int) (x0 : Int) (x1 : Int) (hn : n ≤ 6) (hx0 : -2147483648 ≤ x0 ∧ x0 < 2147483648) (hx1 : x1 = 0 ∨ x1 = 1) : MetI l yX2_fault wsX2_fault rm_X2_fault D cI [.ref (a 0), .int (jI x0), .int (jI x1)] (w2 cI a f g n b len th at_ fl va so ma) (w2 cI a ((s_X2_fault f g n x0 x1).2.2.1) ((s_X2_fault f g n x0 x1).2.2.2.1) ((s_X2_fault f g n x0 x1).2.2.2.2) b len ((s_X2_fault f g n x0 x1).2.1) at_ fl va so ma) ((s_X2_fault f g n x0 x1).1) := by
  refine xe_I (cc := cX2_fault) (maxL := 3) (ret := (some .int)) (by decide) rfl (Nat.le_of_ble_eq_true rfl) ?_
  intro p e s m below meth c hx hb hr hml hts hown hlocks hP hK A hA hD hS ls hl
  have hl : lv_has ls 3 [(0, .ref (a 0)), (1, .int (jI x0)), (2, .int (jI x1))] := hl
  have hown : s.vm.findClass RX2 = some m.cls := hown
  have hSx : CallFix p m c cX2_fault 3 s ([.ref (a 0), .int (jI x0), .int (jI x1)] : List Value).toArray wsX2_fault RX2 := ⟨hx, hb, hml, hown, hts⟩
  have inRX2 : ∀ w ∈ u_ws RX2 TX2 11, w ∈ wsX2_fault := by decide +kernel
  have qf25 := hts (.fieldLink RX2 25 "VaultMovementsModel" "thrown" "I") (by decide +kernel)
  obtain ⟨z, hz⟩ : ∃ z, z = (s_X2_fault f g n x0 x1) := ⟨_, rfl⟩
  rw [← hz]
  unfold s_X2_fault at hz
  refine lv_aload_n hx hb dX2_fault_0 rfl (lv_at hl 0 rfl) ?_
  refine lv_iconst (v := jI 0) hx hb dX2_fault_1 rfl ?_
  refine va_put (D := D) (ci := 2) (v := .int (jI 0)) (ty := .int) (C := RX2) (T := TX2) (N := 11) hx hb hts inRX2 tyX2 tyX2_ok nmX2 hown hK hP hD hS 0 rfl rfl 5 (by decide) qf25 (fun _ h9 => h9) rfl (by decide +kernel) rfl rfl (Nat.le_of_ble_eq_true rfl) dX2_fault_2 (fun H locs hP hD hS => ?_)
  have hP : va_P D vwCl (w2 cI a f g n b len 0 at_ fl va so ma) H := hP
  have hD : va_D A (w2 cI a f g n b len 0 at_ fl va so ma) := hD
  refine lv_iload_n hx hb dX2_fault_5 rfl (lv_at hl 1 rfl) ?_
  refine xc_P (As := [.int (jI x0)]) (rest := []) hSx (m_X2_isMovement l x0 (by omega)) (va_cwS 1 hts gX2_fault_X2_isMovement rfl rfl rfl (by decide +kernel) ⟨Nat.le_of_ble_eq_true rfl, Nat.le_of_ble_eq_true rfl⟩) rfl hl.1 rfl (Nat.le_of_ble_eq_true rfl) dX2_fault_6 ⟨Nat.zero_le _, Nat.zero_le _⟩ ?_
  refine x_if_ne (tgt := 18) hx hb dX2_fault_9 (by decide) (b01 (b_X2_in x0 0 2)) (fun c9 => ?_) (fun c9 => ?_)
  · rw [if_neg c9] at hz
    have hok := ok_X2_in c9
    obtain ⟨j, rfl⟩ : ∃ j : Nat, x0 = (j : Int) := ⟨x0.toNat, by omega⟩
    have hj : j < 3 := by omega
    try simp only [Int.toNat_natCast] at hz
    refine lv_aload_n hx hb dX2_fault_18 rfl (lv_at hl 0 rfl) ?_
    refine xc_V (As := []) (rest := []) hSx (m_X2_saves l D cI a f g n b len 0 at_ fl va so ma  (by omega)) (cwV 0 hts gX2_fault_X2_saves rfl rfl rfl (by decide +kernel) ⟨Nat.le_of_ble_eq_true rfl, Nat.le_of_ble_eq_true rfl⟩) hP hD hS hA hK 0 rfl rfl rfl rfl hl.1 rfl (Nat.le_of_ble_eq_true rfl) dX2_fault_19 ⟨Nat.zero_le _, Nat.zero_le _⟩ (fun H locs hP hD hS => ?_)
    refine lv_aload_n hx hb dX2_fault_22 rfl (lv_at hl 0 rfl) ?_
    refine lv_bipush (v := jI 21) hx hb dX2_fault_23 (by decide) ?_
    refine lv_iconst (v := jI 4) hx hb dX2_fault_25 rfl ?_
    refine lv_iload_n hx hb dX2_fault_26 rfl (lv_at hl 1 rfl) ?_
    refine x_imul hx hb dX2_fault_27 ?_
    refine x_iadd hx hb dX2_fault_28 ?_
    refine lv_iconst (v := jI 1) hx hb dX2_fault_29 rfl ?_
    refine x_iadd hx hb dX2_fault_30 ?_
    refine lv_iload_n hx hb dX2_fault_31 rfl (lv_at hl 2 rfl) ?_
    refine x_if_eq (tgt := 39) hx hb dX2_fault_32 (by decide) (by omega) (fun c32 => ?_) (fun c32 => ?_)
    · rw [if_pos c32] at hz
      refine lv_iconst (v := jI 0) hx hb dX2_fault_39 rfl ?_
      refine xc_I (As := [.int (jI ((21 + (4 * (j : Int))) + 1)), .int (jI 0)]) (rest := []) hSx (m_X2_changes l D cI a f ((s_X2_saves f g n).1) ((s_X2_saves f g n).2) b len 0 at_ fl va so ma ((21 + (4 * j)) + 1) 0 (by omega)) (cwV 2 hts gX2_fault_X2_changes rfl rfl rfl (by decide +kernel) ⟨Nat.le_of_ble_eq_true rfl, Nat.le_of_ble_eq_true rfl⟩) hP hD hS hA hK 0 rfl rfl rfl rfl hl.1 rfl (Nat.le_of_ble_eq_true rfl) dX2_fault_40 ⟨Nat.zero_le _, Nat.zero_le _⟩ (fun H locs hP hD hS => ?_)
      subst hz
      exact xi_i hx hb hr hlocks hK hP hD hS rfl rfl dX2_fault_43
    · rw [if_neg c32] at hz
      refine lv_iconst (v := jI 1) hx hb dX2_fault_35 rfl ?_
      refine lv_goto (tgt := 40) hx hb dX2_fault_36 (by decide) ?_
      refine xc_I (As := [.int (jI ((21 + (4 * (j : Int))) + 1)), .int (jI 1)]) (rest := []) hSx (m_X2_changes l D cI a f ((s_X2_saves f g n).1) ((s_X2_saves f g n).2) b len 0 at_ fl va so ma ((21 + (4 * j)) + 1) 1 (by omega)) (cwV 2 hts gX2_fault_X2_changes rfl rfl rfl (by decide +kernel) ⟨Nat.le_of_ble_eq_true rfl, Nat.le_of_ble_eq_true rfl⟩) hP hD hS hA hK 0 rfl rfl rfl rfl hl.1 rfl (Nat.le_of_ble_eq_true rfl) dX2_fault_40 ⟨Nat.zero_le _, Nat.zero_le _⟩ (fun H locs hP hD hS => ?_)
      subst hz
      exact xi_i hx hb hr hlocks hK hP hD hS rfl rfl dX2_fault_43
  · rw [if_pos c9] at hz
    refine lv_aload_n hx hb dX2_fault_12 rfl (lv_at hl 0 rfl) ?_
    refine lv_iconst (v := jI 1) hx hb dX2_fault_13 rfl ?_
    refine xc_I (As := [.int (jI 1)]) (rest := []) hSx (m_X2_fails l D cI a f g n b len 0 at_ fl va so ma 1 ) (cwV 1 hts gX2_fault_X2_fails rfl rfl rfl (by decide +kernel) ⟨Nat.le_of_ble_eq_true rfl, Nat.le_of_ble_eq_true rfl⟩) hP hD hS hA hK 0 rfl rfl rfl rfl hl.1 rfl (Nat.le_of_ble_eq_true rfl) dX2_fault_14 ⟨Nat.zero_le _, Nat.zero_le _⟩ (fun H locs hP hD hS => ?_)
    subst hz
    exact xi_i hx hb hr hlocks hK hP hD hS rfl rfl dX2_fault_17
def s_X2_loss (f : Nat → Int) (g : Nat → Int) (n : Nat) (x0 : Int) (x1 : Int) : Int × Int × (Nat → Int) × (Nat → Int) × Nat := if (s_X2_in x0 0 2) = 0 then ((s_X2_fails 1).1, (s_X2_fails 1).2, f, g, n) else (if (s_X2_in x1 0 20) = 0 then ((s_X2_fails 2).1, (s_X2_fails 2).2, f, g, n) else ((s_X2_changes f ((21 + (4 * (x0.toNat))) + 2) x1).1, 0, (s_X2_changes f ((21 + (4 * (x0.toNat))) + 2) x1).2, (s_X2_saves f g n).1, (s_X2_saves f g n).2))
abbrev rm_X2_loss : Room := { frames := 2, cells := 0, slots := 0, locals := 42 }
set_option maxHeartbeats 4000000 in
set_option maxRecDepth 100000 in
theorem m_X2_loss (l : Launch) (D : va_G) (cI : ClassId) (a : Nat → Nat) (f : Nat → Int) (g : Nat → Int) (n : Nat) (b : Nat → Int) (len : Nat) (th : Int) (at_ : Nat) (fl : Int) (va : Int) (so : Nat → Int) (ma : Nat → Int) (x0 : Int) (x1 : Int) (hn : n ≤ 6) (hx0 : -2147483648 ≤ x0 ∧ x0 < 2147483648) (hx1 : -2147483648 ≤ x1 ∧ x1 < 2147483648) : MetI l yX2_loss wsX2_loss rm_X2_loss D cI [.ref (a 0), .int (jI x0), .int (jI x1)] (w2 cI a f g n b len th at_ fl va so ma) (w2 cI a ((s_X2_loss f g n x0 x1).2.2.1) ((s_X2_loss f g n x0 x1).2.2.2.1) ((s_X2_loss f g n x0 x1).2.2.2.2) b len ((s_X2_loss f g n x0 x1).2.1) at_ fl va so ma) ((s_X2_loss f g n x0 x1).1) := by
  refine xe_I (cc := cX2_loss) (maxL := 3) (ret := (some .int)) (by decide) rfl (Nat.le_of_ble_eq_true rfl) ?_
  intro p e s m below meth c hx hb hr hml hts hown hlocks hP hK A hA hD hS ls hl
  have hl : lv_has ls 3 [(0, .ref (a 0)), (1, .int (jI x0)), (2, .int (jI x1))] := hl
  have hown : s.vm.findClass RX2 = some m.cls := hown
  have hSx : CallFix p m c cX2_loss 3 s ([.ref (a 0), .int (jI x0), .int (jI x1)] : List Value).toArray wsX2_loss RX2 := ⟨hx, hb, hml, hown, hts⟩
  have inRX2 : ∀ w ∈ u_ws RX2 TX2 11, w ∈ wsX2_loss := by decide +kernel
  have qf25 := hts (.fieldLink RX2 25 "VaultMovementsModel" "thrown" "I") (by decide +kernel)
  obtain ⟨z, hz⟩ : ∃ z, z = (s_X2_loss f g n x0 x1) := ⟨_, rfl⟩
  rw [← hz]
  unfold s_X2_loss at hz
  refine lv_aload_n hx hb dX2_loss_0 rfl (lv_at hl 0 rfl) ?_
  refine lv_iconst (v := jI 0) hx hb dX2_loss_1 rfl ?_
  refine va_put (D := D) (ci := 2) (v := .int (jI 0)) (ty := .int) (C := RX2) (T := TX2) (N := 11) hx hb hts inRX2 tyX2 tyX2_ok nmX2 hown hK hP hD hS 0 rfl rfl 5 (by decide) qf25 (fun _ h9 => h9) rfl (by decide +kernel) rfl rfl (Nat.le_of_ble_eq_true rfl) dX2_loss_2 (fun H locs hP hD hS => ?_)
  have hP : va_P D vwCl (w2 cI a f g n b len 0 at_ fl va so ma) H := hP
  have hD : va_D A (w2 cI a f g n b len 0 at_ fl va so ma) := hD
  refine lv_iload_n hx hb dX2_loss_5 rfl (lv_at hl 1 rfl) ?_
  refine xc_P (As := [.int (jI x0)]) (rest := []) hSx (m_X2_isMovement l x0 (by omega)) (va_cwS 1 hts gX2_loss_X2_isMovement rfl rfl rfl (by decide +kernel) ⟨Nat.le_of_ble_eq_true rfl, Nat.le_of_ble_eq_true rfl⟩) rfl hl.1 rfl (Nat.le_of_ble_eq_true rfl) dX2_loss_6 ⟨Nat.zero_le _, Nat.zero_le _⟩ ?_
  refine x_if_ne (tgt := 18) hx hb dX2_loss_9 (by decide) (b01 (b_X2_in x0 0 2)) (fun c9 => ?_) (fun c9 => ?_)
  · rw [if_neg c9] at hz
    have hok := ok_X2_in c9
    obtain ⟨j, rfl⟩ : ∃ j : Nat, x0 = (j : Int) := ⟨x0.toNat, by omega⟩
    have hj : j < 3 := by omega
    try simp only [Int.toNat_natCast] at hz
    refine lv_iload_n hx hb dX2_loss_18 rfl (lv_at hl 2 rfl) ?_
    refine lv_iconst (v := jI 0) hx hb dX2_loss_19 rfl ?_
    refine lv_bipush (v := jI 20) hx hb dX2_loss_20 (by decide) ?_
    refine xc_P (As := [.int (jI x1), .int (jI 0), .int (jI 20)]) (rest := []) hSx (m_X2_in l x1 0 20 (by omega) (by decide) (by decide)) (va_cwS 3 hts gX2_loss_X2_in rfl rfl rfl (by decide +kernel) ⟨Nat.le_of_ble_eq_true rfl, Nat.le_of_ble_eq_true rfl⟩) rfl hl.1 rfl (Nat.le_of_ble_eq_true rfl) dX2_loss_22 ⟨Nat.zero_le _, Nat.zero_le _⟩ ?_
    refine x_if_ne (tgt := 34) hx hb dX2_loss_25 (by decide) (b01 (b_X2_in x1 0 20)) (fun c25 => ?_) (fun c25 => ?_)
    · rw [if_neg c25] at hz
      refine lv_aload_n hx hb dX2_loss_34 rfl (lv_at hl 0 rfl) ?_
      refine xc_V (As := []) (rest := []) hSx (m_X2_saves l D cI a f g n b len 0 at_ fl va so ma  (by omega)) (cwV 0 hts gX2_loss_X2_saves rfl rfl rfl (by decide +kernel) ⟨Nat.le_of_ble_eq_true rfl, Nat.le_of_ble_eq_true rfl⟩) hP hD hS hA hK 0 rfl rfl rfl rfl hl.1 rfl (Nat.le_of_ble_eq_true rfl) dX2_loss_35 ⟨Nat.zero_le _, Nat.zero_le _⟩ (fun H locs hP hD hS => ?_)
      refine lv_aload_n hx hb dX2_loss_38 rfl (lv_at hl 0 rfl) ?_
      refine lv_bipush (v := jI 21) hx hb dX2_loss_39 (by decide) ?_
      refine lv_iconst (v := jI 4) hx hb dX2_loss_41 rfl ?_
      refine lv_iload_n hx hb dX2_loss_42 rfl (lv_at hl 1 rfl) ?_
      refine x_imul hx hb dX2_loss_43 ?_
      refine x_iadd hx hb dX2_loss_44 ?_
      refine lv_iconst (v := jI 2) hx hb dX2_loss_45 rfl ?_
      refine x_iadd hx hb dX2_loss_46 ?_
      refine lv_iload_n hx hb dX2_loss_47 rfl (lv_at hl 2 rfl) ?_
      refine xc_I (As := [.int (jI ((21 + (4 * (j : Int))) + 2)), .int (jI x1)]) (rest := []) hSx (m_X2_changes l D cI a f ((s_X2_saves f g n).1) ((s_X2_saves f g n).2) b len 0 at_ fl va so ma ((21 + (4 * j)) + 2) x1 (by omega)) (cwV 2 hts gX2_loss_X2_changes rfl rfl rfl (by decide +kernel) ⟨Nat.le_of_ble_eq_true rfl, Nat.le_of_ble_eq_true rfl⟩) hP hD hS hA hK 0 rfl rfl rfl rfl hl.1 rfl (Nat.le_of_ble_eq_true rfl) dX2_loss_48 ⟨Nat.zero_le _, Nat.zero_le _⟩ (fun H locs hP hD hS => ?_)
      subst hz
      exact xi_i hx hb hr hlocks hK hP hD hS rfl rfl dX2_loss_51
    · rw [if_pos c25] at hz
      refine lv_aload_n hx hb dX2_loss_28 rfl (lv_at hl 0 rfl) ?_
      refine lv_iconst (v := jI 2) hx hb dX2_loss_29 rfl ?_
      refine xc_I (As := [.int (jI 2)]) (rest := []) hSx (m_X2_fails l D cI a f g n b len 0 at_ fl va so ma 2 ) (cwV 1 hts gX2_loss_X2_fails rfl rfl rfl (by decide +kernel) ⟨Nat.le_of_ble_eq_true rfl, Nat.le_of_ble_eq_true rfl⟩) hP hD hS hA hK 0 rfl rfl rfl rfl hl.1 rfl (Nat.le_of_ble_eq_true rfl) dX2_loss_30 ⟨Nat.zero_le _, Nat.zero_le _⟩ (fun H locs hP hD hS => ?_)
      subst hz
      exact xi_i hx hb hr hlocks hK hP hD hS rfl rfl dX2_loss_33
  · rw [if_pos c9] at hz
    refine lv_aload_n hx hb dX2_loss_12 rfl (lv_at hl 0 rfl) ?_
    refine lv_iconst (v := jI 1) hx hb dX2_loss_13 rfl ?_
    refine xc_I (As := [.int (jI 1)]) (rest := []) hSx (m_X2_fails l D cI a f g n b len 0 at_ fl va so ma 1 ) (cwV 1 hts gX2_loss_X2_fails rfl rfl rfl (by decide +kernel) ⟨Nat.le_of_ble_eq_true rfl, Nat.le_of_ble_eq_true rfl⟩) hP hD hS hA hK 0 rfl rfl rfl rfl hl.1 rfl (Nat.le_of_ble_eq_true rfl) dX2_loss_14 ⟨Nat.zero_le _, Nat.zero_le _⟩ (fun H locs hP hD hS => ?_)
    subst hz
    exact xi_i hx hb hr hlocks hK hP hD hS rfl rfl dX2_loss_17
def s_X2_service (f : Nat → Int) (g : Nat → Int) (n : Nat) (x0 : Int) : Int × Int × (Nat → Int) × (Nat → Int) × Nat := if (s_X2_in x0 0 2) = 0 then ((s_X2_fails 1).1, (s_X2_fails 1).2, f, g, n) else (if (f 11) = 1 then ((s_X2_fails 2).1, (s_X2_fails 2).2, f, g, n) else ((s_X2_changes (upz (upz f ((21 + (4 * (x0.toNat))) + 1) 1) ((21 + (4 * (x0.toNat))) + 2) 0) ((21 + (4 * (x0.toNat))) + 3) 0).1, 0, (s_X2_changes (upz (upz f ((21 + (4 * (x0.toNat))) + 1) 1) ((21 + (4 * (x0.toNat))) + 2) 0) ((21 + (4 * (x0.toNat))) + 3) 0).2, (s_X2_saves f g n).1, (s_X2_saves f g n).2))
abbrev rm_X2_service : Room := { frames := 2, cells := 0, slots := 0, locals := 42 }
set_option maxHeartbeats 4000000 in
set_option maxRecDepth 100000 in
theorem m_X2_service (l : Launch) (D : va_G) (cI : ClassId) (a : Nat → Nat) (f : Nat → Int) (g : Nat → Int) (n : Nat) (b : Nat → Int) (len : Nat) (th : Int) (at_ : Nat) (fl : Int) (va : Int) (so : Nat → Int) (ma : Nat → Int) (x0 : Int) (hn : n ≤ 6) (hrf : rng f) (hx0 : -2147483648 ≤ x0 ∧ x0 < 2147483648) : MetI l yX2_service wsX2_service rm_X2_service D cI [.ref (a 0), .int (jI x0)] (w2 cI a f g n b len th at_ fl va so ma) (w2 cI a ((s_X2_service f g n x0).2.2.1) ((s_X2_service f g n x0).2.2.2.1) ((s_X2_service f g n x0).2.2.2.2) b len ((s_X2_service f g n x0).2.1) at_ fl va so ma) ((s_X2_service f g n x0).1) := by
  refine xe_I (cc := cX2_service) (maxL := 2) (ret := (some .int)) (by decide) rfl (Nat.le_of_ble_eq_true rfl) ?_
  intro p e s m below meth c hx hb hr hml hts hown hlocks hP hK A hA hD hS ls hl
  have hl : lv_has ls 2 [(0, .ref (a 0)), (1, .int (jI x0))] := hl
  have hown : s.vm.findClass RX2 = some m.cls := hown
  have hSx : CallFix p m c cX2_service 2 s ([.ref (a 0), .int (jI x0)] : List Value).toArray wsX2_service RX2 := ⟨hx, hb, hml, hown, hts⟩
  have inRX2 : ∀ w ∈ u_ws RX2 TX2 11, w ∈ wsX2_service := by decide +kernel
  have qf25 := hts (.fieldLink RX2 25 "VaultMovementsModel" "thrown" "I") (by decide +kernel)
  have qf7 := hts (.fieldLink RX2 7 "VaultMovementsModel" "now" "[I") (by decide +kernel)
  obtain ⟨z, hz⟩ : ∃ z, z = (s_X2_service f g n x0) := ⟨_, rfl⟩
  rw [← hz]
  unfold s_X2_service at hz
  refine lv_aload_n hx hb dX2_service_0 rfl (lv_at hl 0 rfl) ?_
  refine lv_iconst (v := jI 0) hx hb dX2_service_1 rfl ?_
  refine va_put (D := D) (ci := 2) (v := .int (jI 0)) (ty := .int) (C := RX2) (T := TX2) (N := 11) hx hb hts inRX2 tyX2 tyX2_ok nmX2 hown hK hP hD hS 0 rfl rfl 5 (by decide) qf25 (fun _ h9 => h9) rfl (by decide +kernel) rfl rfl (Nat.le_of_ble_eq_true rfl) dX2_service_2 (fun H locs hP hD hS => ?_)
  have hP : va_P D vwCl (w2 cI a f g n b len 0 at_ fl va so ma) H := hP
  have hD : va_D A (w2 cI a f g n b len 0 at_ fl va so ma) := hD
  refine lv_iload_n hx hb dX2_service_5 rfl (lv_at hl 1 rfl) ?_
  refine xc_P (As := [.int (jI x0)]) (rest := []) hSx (m_X2_isMovement l x0 (by omega)) (va_cwS 1 hts gX2_service_X2_isMovement rfl rfl rfl (by decide +kernel) ⟨Nat.le_of_ble_eq_true rfl, Nat.le_of_ble_eq_true rfl⟩) rfl hl.1 rfl (Nat.le_of_ble_eq_true rfl) dX2_service_6 ⟨Nat.zero_le _, Nat.zero_le _⟩ ?_
  refine x_if_ne (tgt := 18) hx hb dX2_service_9 (by decide) (b01 (b_X2_in x0 0 2)) (fun c9 => ?_) (fun c9 => ?_)
  · rw [if_neg c9] at hz
    have hok := ok_X2_in c9
    obtain ⟨j, rfl⟩ : ∃ j : Nat, x0 = (j : Int) := ⟨x0.toNat, by omega⟩
    have hj : j < 3 := by omega
    try simp only [Int.toNat_natCast] at hz
    refine lv_aload_n hx hb dX2_service_18 rfl (lv_at hl 0 rfl) ?_
    refine va_get (D := D) (ci := 2) (v := .ref (a 1)) (C := RX2) (T := TX2) (N := 11) hx hb hts inRX2 hown hK hP 0 rfl rfl 0 (by decide) qf7 (fun _ h9 => h9) rfl dX2_service_19 ?_
    refine lv_bipush (v := jI 11) hx hb dX2_service_22 (by decide) ?_
    refine x_iald hx hb hK hP 1 0 rfl rfl 11 rfl (by decide) (by decide) dX2_service_24 ?_
    refine lv_iconst (v := jI 1) hx hb dX2_service_25 rfl ?_
    refine x_icmp_ne (tgt := 35) hx hb dX2_service_26 (by decide) ⟨(hrf _), (by decide)⟩ (fun c26 => ?_) (fun c26 => ?_)
    · rw [if_neg c26] at hz
      refine lv_aload_n hx hb dX2_service_35 rfl (lv_at hl 0 rfl) ?_
      refine xc_V (As := []) (rest := []) hSx (m_X2_saves l D cI a f g n b len 0 at_ fl va so ma  (by omega)) (cwV 0 hts gX2_service_X2_saves rfl rfl rfl (by decide +kernel) ⟨Nat.le_of_ble_eq_true rfl, Nat.le_of_ble_eq_true rfl⟩) hP hD hS hA hK 0 rfl rfl rfl rfl hl.1 rfl (Nat.le_of_ble_eq_true rfl) dX2_service_36 ⟨Nat.zero_le _, Nat.zero_le _⟩ (fun H locs hP hD hS => ?_)
      refine lv_aload_n hx hb dX2_service_39 rfl (lv_at hl 0 rfl) ?_
      refine va_get (D := D) (ci := 2) (v := .ref (a 1)) (C := RX2) (T := TX2) (N := 11) hx hb hts inRX2 hown hK hP 0 rfl rfl 0 (by decide) qf7 (fun _ h9 => h9) rfl dX2_service_40 ?_
      refine lv_bipush (v := jI 21) hx hb dX2_service_43 (by decide) ?_
      refine lv_iconst (v := jI 4) hx hb dX2_service_45 rfl ?_
      refine lv_iload_n hx hb dX2_service_46 rfl (lv_at hl 1 rfl) ?_
      refine x_imul hx hb dX2_service_47 ?_
      refine x_iadd hx hb dX2_service_48 ?_
      refine lv_iconst (v := jI 1) hx hb dX2_service_49 rfl ?_
      refine x_iadd hx hb dX2_service_50 ?_
      refine lv_iconst (v := jI 1) hx hb dX2_service_51 rfl ?_
      refine x_iast (w1 := (w2 cI a (upz f ((21 + (4 * j)) + 1) 1) ((s_X2_saves f g n).1) ((s_X2_saves f g n).2) b len 0 at_ fl va so ma)) hx hb hK hP hD hS 1 0 rfl rfl ((21 + (4 * j)) + 1) (by omega) (by omega) (by decide) dX2_service_52 rfl (fun H locs hP hD hS => ?_)
      refine lv_aload_n hx hb dX2_service_53 rfl (lv_at hl 0 rfl) ?_
      refine va_get (D := D) (ci := 2) (v := .ref (a 1)) (C := RX2) (T := TX2) (N := 11) hx hb hts inRX2 hown hK hP 0 rfl rfl 0 (by decide) qf7 (fun _ h9 => h9) rfl dX2_service_54 ?_
      refine lv_bipush (v := jI 21) hx hb dX2_service_57 (by decide) ?_
      refine lv_iconst (v := jI 4) hx hb dX2_service_59 rfl ?_
      refine lv_iload_n hx hb dX2_service_60 rfl (lv_at hl 1 rfl) ?_
      refine x_imul hx hb dX2_service_61 ?_
      refine x_iadd hx hb dX2_service_62 ?_
      refine lv_iconst (v := jI 2) hx hb dX2_service_63 rfl ?_
      refine x_iadd hx hb dX2_service_64 ?_
      refine lv_iconst (v := jI 0) hx hb dX2_service_65 rfl ?_
      refine x_iast (w1 := (w2 cI a (upz (upz f ((21 + (4 * j)) + 1) 1) ((21 + (4 * j)) + 2) 0) ((s_X2_saves f g n).1) ((s_X2_saves f g n).2) b len 0 at_ fl va so ma)) hx hb hK hP hD hS 1 0 rfl rfl ((21 + (4 * j)) + 2) (by omega) (by omega) (by decide) dX2_service_66 rfl (fun H locs hP hD hS => ?_)
      refine lv_aload_n hx hb dX2_service_67 rfl (lv_at hl 0 rfl) ?_
      refine lv_bipush (v := jI 21) hx hb dX2_service_68 (by decide) ?_
      refine lv_iconst (v := jI 4) hx hb dX2_service_70 rfl ?_
      refine lv_iload_n hx hb dX2_service_71 rfl (lv_at hl 1 rfl) ?_
      refine x_imul hx hb dX2_service_72 ?_
      refine x_iadd hx hb dX2_service_73 ?_
      refine lv_iconst (v := jI 3) hx hb dX2_service_74 rfl ?_
      refine x_iadd hx hb dX2_service_75 ?_
      refine lv_iconst (v := jI 0) hx hb dX2_service_76 rfl ?_
      refine xc_I (As := [.int (jI ((21 + (4 * (j : Int))) + 3)), .int (jI 0)]) (rest := []) hSx (m_X2_changes l D cI a (upz (upz f ((21 + (4 * j)) + 1) 1) ((21 + (4 * j)) + 2) 0) ((s_X2_saves f g n).1) ((s_X2_saves f g n).2) b len 0 at_ fl va so ma ((21 + (4 * j)) + 3) 0 (by omega)) (cwV 2 hts gX2_service_X2_changes rfl rfl rfl (by decide +kernel) ⟨Nat.le_of_ble_eq_true rfl, Nat.le_of_ble_eq_true rfl⟩) hP hD hS hA hK 0 rfl rfl rfl rfl hl.1 rfl (Nat.le_of_ble_eq_true rfl) dX2_service_77 ⟨Nat.zero_le _, Nat.zero_le _⟩ (fun H locs hP hD hS => ?_)
      subst hz
      exact xi_i hx hb hr hlocks hK hP hD hS rfl rfl dX2_service_80
    · rw [if_pos c26] at hz
      refine lv_aload_n hx hb dX2_service_29 rfl (lv_at hl 0 rfl) ?_
      refine lv_iconst (v := jI 2) hx hb dX2_service_30 rfl ?_
      refine xc_I (As := [.int (jI 2)]) (rest := []) hSx (m_X2_fails l D cI a f g n b len 0 at_ fl va so ma 2 ) (cwV 1 hts gX2_service_X2_fails rfl rfl rfl (by decide +kernel) ⟨Nat.le_of_ble_eq_true rfl, Nat.le_of_ble_eq_true rfl⟩) hP hD hS hA hK 0 rfl rfl rfl rfl hl.1 rfl (Nat.le_of_ble_eq_true rfl) dX2_service_31 ⟨Nat.zero_le _, Nat.zero_le _⟩ (fun H locs hP hD hS => ?_)
      subst hz
      exact xi_i hx hb hr hlocks hK hP hD hS rfl rfl dX2_service_34
  · rw [if_pos c9] at hz
    refine lv_aload_n hx hb dX2_service_12 rfl (lv_at hl 0 rfl) ?_
    refine lv_iconst (v := jI 1) hx hb dX2_service_13 rfl ?_
    refine xc_I (As := [.int (jI 1)]) (rest := []) hSx (m_X2_fails l D cI a f g n b len 0 at_ fl va so ma 1 ) (cwV 1 hts gX2_service_X2_fails rfl rfl rfl (by decide +kernel) ⟨Nat.le_of_ble_eq_true rfl, Nat.le_of_ble_eq_true rfl⟩) hP hD hS hA hK 0 rfl rfl rfl rfl hl.1 rfl (Nat.le_of_ble_eq_true rfl) dX2_service_14 ⟨Nat.zero_le _, Nat.zero_le _⟩ (fun H locs hP hD hS => ?_)
    subst hz
    exact xi_i hx hb hr hlocks hK hP hD hS rfl rfl dX2_service_17
def s_X2_lock_lp9 (f : Nat → Int) (g : Nat → Int) (n : Nat) : Nat → Nat → Int → Int × Int × (Nat → Int) × (Nat → Int) × Nat
  | 0, _, _ => default
  | k + 1, i, v => if 3 ≤ (i : Int) then (if (f 11) = 1 then ((s_X2_fails 1).1, (s_X2_fails 1).2, f, g, n) else (if v = 0 then ((s_X2_fails 1).1, (s_X2_fails 1).2, f, g, n) else (if (s_X2_toOpening f) = (-1) then ((s_X2_toOpening f), 0, (upz (upz (upz (upz f 11 1) 12 (-1)) 13 0) 14 0), (s_X2_saves f g n).1, (s_X2_saves f g n).2) else ((s_X2_toOpening f), 0, (upz (upz (upz (upz f 11 1) 12 ((f 0) + (s_X2_toOpening f))) 13 0) 14 0), (s_X2_saves f g n).1, (s_X2_saves f g n).2)))) else (if v = 0 then (if (s_X2_goes f i) = 0 then (s_X2_lock_lp9 f g n k (i + 1) 0) else (if (f (21 + (4 * i))) ≤ 0 then (s_X2_lock_lp9 f g n k (i + 1) 0) else (s_X2_lock_lp9 f g n k (i + 1) 1))) else (s_X2_lock_lp9 f g n k (i + 1) 1))
def s_X2_lock (f : Nat → Int) (g : Nat → Int) (n : Nat) : Int × Int × (Nat → Int) × (Nat → Int) × Nat := s_X2_lock_lp9 f g n (3 + 1 - 0) 0 0
abbrev rm_X2_lock : Room := { frames := 1, cells := 0, slots := 0, locals := 22 }
set_option maxHeartbeats 4000000 in
set_option maxRecDepth 100000 in
theorem m_X2_lock (l : Launch) (D : va_G) (cI : ClassId) (a : Nat → Nat) (f : Nat → Int) (g : Nat → Int) (n : Nat) (b : Nat → Int) (len : Nat) (th : Int) (at_ : Nat) (fl : Int) (va : Int) (so : Nat → Int) (ma : Nat → Int) (hn : n ≤ 6) (hrf : rng f) (hm : mv2 f) (hh : 0 ≤ f 0 ∧ f 0 ≤ 99999) : MetI l yX2_lock wsX2_lock rm_X2_lock D cI [.ref (a 0)] (w2 cI a f g n b len th at_ fl va so ma) (w2 cI a ((s_X2_lock f g n).2.2.1) ((s_X2_lock f g n).2.2.2.1) ((s_X2_lock f g n).2.2.2.2) b len ((s_X2_lock f g n).2.1) at_ fl va so ma) ((s_X2_lock f g n).1) := by
  refine xe_I (cc := cX2_lock) (maxL := 3) (ret := (some .int)) (by decide) rfl (Nat.le_of_ble_eq_true rfl) ?_
  intro p e s m below meth c hx hb hr hml hts hown hlocks hP hK A hA hD hS ls hl
  have hl : lv_has ls 3 [(0, .ref (a 0))] := hl
  have hown : s.vm.findClass RX2 = some m.cls := hown
  have hSx : CallFix p m c cX2_lock 3 s ([.ref (a 0)] : List Value).toArray wsX2_lock RX2 := ⟨hx, hb, hml, hown, hts⟩
  have inRX2 : ∀ w ∈ u_ws RX2 TX2 11, w ∈ wsX2_lock := by decide +kernel
  have qf25 := hts (.fieldLink RX2 25 "VaultMovementsModel" "thrown" "I") (by decide +kernel)
  have qf7 := hts (.fieldLink RX2 7 "VaultMovementsModel" "now" "[I") (by decide +kernel)
  obtain ⟨z, hz⟩ : ∃ z, z = (s_X2_lock f g n) := ⟨_, rfl⟩
  rw [← hz]
  unfold s_X2_lock at hz
  refine lv_aload_n hx hb dX2_lock_0 rfl (lv_at hl 0 rfl) ?_
  refine lv_iconst (v := jI 0) hx hb dX2_lock_1 rfl ?_
  refine va_put (D := D) (ci := 2) (v := .int (jI 0)) (ty := .int) (C := RX2) (T := TX2) (N := 11) hx hb hts inRX2 tyX2 tyX2_ok nmX2 hown hK hP hD hS 0 rfl rfl 5 (by decide) qf25 (fun _ h9 => h9) rfl (by decide +kernel) rfl rfl (Nat.le_of_ble_eq_true rfl) dX2_lock_2 (fun H locs hP hD hS => ?_)
  have hP : va_P D vwCl (w2 cI a f g n b len 0 at_ fl va so ma) H := hP
  have hD : va_D A (w2 cI a f g n b len 0 at_ fl va so ma) := hD
  refine lv_iconst (v := jI 0) hx hb dX2_lock_5 rfl ?_
  refine lv_istore_n (lv' := [(1, .int (jI 0)), (0, .ref (a 0))]) hx hb dX2_lock_6 rfl hl (by decide) rfl (fun ls hl => ?_)
  refine lv_iconst (v := jI 0) hx hb dX2_lock_7 rfl ?_
  refine lv_istore_n (lv' := [(2, .int (jI 0)), (1, .int (jI 0)), (0, .ref (a 0))]) hx hb dX2_lock_8 rfl hl (by decide) rfl (fun ls hl => ?_)
  have LP9 : ∀ (k i : Nat) (v : Int) (H : Heap) (locs : List Loc) (ls : Array Slot), i ≤ 3 → i + k = 3 + 1 → z = (s_X2_lock_lp9 f g n) k i v → (v = 0 ∨ v = 1) → va_P D vwCl (w2 cI a f g n b len 0 at_ fl va so ma) H → va_D A (w2 cI a f g n b len 0 at_ fl va so ma) → va_S A s.heap H locs → lv_has ls 3 [(0, .ref (a 0)), (1, .int (jI v)), (2, .int (jI (i : Int)))] → W p l e rm_X2_lock s m ([.ref (a 0)] : List Value).toArray below meth c H locs 0 0 (MQ below (va_Qi (fun x (_ : Unit) => x = jI z.1) (xq_B D cI A (w2 cI a z.2.2.1 z.2.2.2.1 z.2.2.2.2 b len z.2.1 at_ fl va so ma)) A) ([.ref (a 0)] : List Value).toArray s 0 0 A) (F0 m 9 ls []) := by
    intro k
    induction k with
    | zero => intro i v _ _ ls h1 h2; exact absurd h2 (by omega)
    | succ k ih =>
      intro i v H locs ls h1 h2 hz hv hP hD hS hl
      rw [s_X2_lock_lp9] at hz
      refine lv_iload_n hx hb dX2_lock_9 rfl (lv_at hl 2 rfl) ?_
      refine lv_iconst (v := jI 3) hx hb dX2_lock_10 rfl ?_
      refine x_icmp_ge (tgt := 46) hx hb dX2_lock_11 (by decide) ⟨(by omega), (by decide)⟩ (fun c11 => ?_) (fun c11 => ?_)
      · rw [if_pos c11] at hz
        refine lv_aload_n hx hb dX2_lock_46 rfl (lv_at hl 0 rfl) ?_
        refine va_get (D := D) (ci := 2) (v := .ref (a 1)) (C := RX2) (T := TX2) (N := 11) hx hb hts inRX2 hown hK hP 0 rfl rfl 0 (by decide) qf7 (fun _ h9 => h9) rfl dX2_lock_47 ?_
        refine lv_bipush (v := jI 11) hx hb dX2_lock_50 (by decide) ?_
        refine x_iald hx hb hK hP 1 0 rfl rfl 11 rfl (by decide) (by decide) dX2_lock_52 ?_
        refine lv_iconst (v := jI 1) hx hb dX2_lock_53 rfl ?_
        refine x_icmp_eq (tgt := 61) hx hb dX2_lock_54 (by decide) ⟨(hrf _), (by decide)⟩ (fun c54 => ?_) (fun c54 => ?_)
        · rw [if_pos c54] at hz
          refine lv_aload_n hx hb dX2_lock_61 rfl (lv_at hl 0 rfl) ?_
          refine lv_iconst (v := jI 1) hx hb dX2_lock_62 rfl ?_
          refine xc_I (As := [.int (jI 1)]) (rest := []) hSx (m_X2_fails l D cI a f g n b len 0 at_ fl va so ma 1 ) (cwV 1 hts gX2_lock_X2_fails rfl rfl rfl (by decide +kernel) ⟨Nat.le_of_ble_eq_true rfl, Nat.le_of_ble_eq_true rfl⟩) hP hD hS hA hK 0 rfl rfl rfl rfl hl.1 rfl (Nat.le_of_ble_eq_true rfl) dX2_lock_63 ⟨Nat.zero_le _, Nat.zero_le _⟩ (fun H locs hP hD hS => ?_)
          subst hz
          exact xi_i hx hb hr hlocks hK hP hD hS rfl rfl dX2_lock_66
        · rw [if_neg c54] at hz
          refine lv_iload_n hx hb dX2_lock_57 rfl (lv_at hl 1 rfl) ?_
          refine x_if_ne (tgt := 67) hx hb dX2_lock_58 (by decide) (by omega) (fun c58 => ?_) (fun c58 => ?_)
          · rw [if_neg c58] at hz
            refine lv_aload_n hx hb dX2_lock_67 rfl (lv_at hl 0 rfl) ?_
            refine xc_V (As := []) (rest := []) hSx (m_X2_saves l D cI a f g n b len 0 at_ fl va so ma  (by omega)) (cwV 0 hts gX2_lock_X2_saves rfl rfl rfl (by decide +kernel) ⟨Nat.le_of_ble_eq_true rfl, Nat.le_of_ble_eq_true rfl⟩) hP hD hS hA hK 0 rfl rfl rfl rfl hl.1 rfl (Nat.le_of_ble_eq_true rfl) dX2_lock_68 ⟨Nat.zero_le _, Nat.zero_le _⟩ (fun H locs hP hD hS => ?_)
            refine lv_aload_n hx hb dX2_lock_71 rfl (lv_at hl 0 rfl) ?_
            refine xc_R (As := []) (rest := []) hSx (m_X2_toOpening l D cI a f ((s_X2_saves f g n).1) ((s_X2_saves f g n).2) b len 0 at_ fl va so ma  (by omega) (by omega)) (cwV 0 hts gX2_lock_X2_toOpening rfl rfl rfl (by decide +kernel) ⟨Nat.le_of_ble_eq_true rfl, Nat.le_of_ble_eq_true rfl⟩) hP hK 0 rfl rfl rfl rfl hl.1 rfl (Nat.le_of_ble_eq_true rfl) dX2_lock_72 ⟨Nat.zero_le _, Nat.zero_le _⟩ ?_
            have hrd := r_X2_toOpening f
            refine lv_istore_n (lv' := [(2, .int (jI (s_X2_toOpening f))), (0, .ref (a 0)), (1, .int (jI v))]) hx hb dX2_lock_75 rfl hl (by decide) rfl (fun ls hl => ?_)
            refine lv_aload_n hx hb dX2_lock_76 rfl (lv_at hl 1 rfl) ?_
            refine va_get (D := D) (ci := 2) (v := .ref (a 1)) (C := RX2) (T := TX2) (N := 11) hx hb hts inRX2 hown hK hP 0 rfl rfl 0 (by decide) qf7 (fun _ h9 => h9) rfl dX2_lock_77 ?_
            refine lv_bipush (v := jI 11) hx hb dX2_lock_80 (by decide) ?_
            refine lv_iconst (v := jI 1) hx hb dX2_lock_82 rfl ?_
            refine x_iast (w1 := (w2 cI a (upz f 11 1) ((s_X2_saves f g n).1) ((s_X2_saves f g n).2) b len 0 at_ fl va so ma)) hx hb hK hP hD hS 1 0 rfl rfl 11 rfl (by decide) (by decide) dX2_lock_83 rfl (fun H locs hP hD hS => ?_)
            refine lv_aload_n hx hb dX2_lock_84 rfl (lv_at hl 1 rfl) ?_
            refine va_get (D := D) (ci := 2) (v := .ref (a 1)) (C := RX2) (T := TX2) (N := 11) hx hb hts inRX2 hown hK hP 0 rfl rfl 0 (by decide) qf7 (fun _ h9 => h9) rfl dX2_lock_85 ?_
            refine lv_bipush (v := jI 12) hx hb dX2_lock_88 (by decide) ?_
            refine lv_iload_n hx hb dX2_lock_90 rfl (lv_at hl 0 rfl) ?_
            refine lv_iconst (v := jI (-1)) hx hb dX2_lock_91 rfl ?_
            refine x_icmp_ne (tgt := 99) hx hb dX2_lock_92 (by decide) ⟨(by omega), (by decide)⟩ (fun c92 => ?_) (fun c92 => ?_)
            · rw [if_neg c92] at hz
              refine lv_aload_n hx hb dX2_lock_99 rfl (lv_at hl 1 rfl) ?_
              refine va_get (D := D) (ci := 2) (v := .ref (a 1)) (C := RX2) (T := TX2) (N := 11) hx hb hts inRX2 hown hK hP 0 rfl rfl 0 (by decide) qf7 (fun _ h9 => h9) rfl dX2_lock_100 ?_
              refine lv_iconst (v := jI 0) hx hb dX2_lock_103 rfl ?_
              refine x_iald hx hb hK hP 1 0 rfl rfl 0 rfl (by decide) (by decide) dX2_lock_104 ?_
              rw [show (upz f 11 1) 0 = f 0 from upz_n (by omega)]
              refine lv_iload_n hx hb dX2_lock_105 rfl (lv_at hl 0 rfl) ?_
              refine x_iadd hx hb dX2_lock_106 ?_
              refine x_iast (w1 := (w2 cI a (upz (upz f 11 1) 12 ((f 0) + (s_X2_toOpening f))) ((s_X2_saves f g n).1) ((s_X2_saves f g n).2) b len 0 at_ fl va so ma)) hx hb hK hP hD hS 1 0 rfl rfl 12 rfl (by decide) (by decide) dX2_lock_107 rfl (fun H locs hP hD hS => ?_)
              refine lv_aload_n hx hb dX2_lock_108 rfl (lv_at hl 1 rfl) ?_
              refine va_get (D := D) (ci := 2) (v := .ref (a 1)) (C := RX2) (T := TX2) (N := 11) hx hb hts inRX2 hown hK hP 0 rfl rfl 0 (by decide) qf7 (fun _ h9 => h9) rfl dX2_lock_109 ?_
              refine lv_bipush (v := jI 13) hx hb dX2_lock_112 (by decide) ?_
              refine lv_iconst (v := jI 0) hx hb dX2_lock_114 rfl ?_
              refine x_iast (w1 := (w2 cI a (upz (upz (upz f 11 1) 12 ((f 0) + (s_X2_toOpening f))) 13 0) ((s_X2_saves f g n).1) ((s_X2_saves f g n).2) b len 0 at_ fl va so ma)) hx hb hK hP hD hS 1 0 rfl rfl 13 rfl (by decide) (by decide) dX2_lock_115 rfl (fun H locs hP hD hS => ?_)
              refine lv_aload_n hx hb dX2_lock_116 rfl (lv_at hl 1 rfl) ?_
              refine va_get (D := D) (ci := 2) (v := .ref (a 1)) (C := RX2) (T := TX2) (N := 11) hx hb hts inRX2 hown hK hP 0 rfl rfl 0 (by decide) qf7 (fun _ h9 => h9) rfl dX2_lock_117 ?_
              refine lv_bipush (v := jI 14) hx hb dX2_lock_120 (by decide) ?_
              refine lv_iconst (v := jI 0) hx hb dX2_lock_122 rfl ?_
              refine x_iast (w1 := (w2 cI a (upz (upz (upz (upz f 11 1) 12 ((f 0) + (s_X2_toOpening f))) 13 0) 14 0) ((s_X2_saves f g n).1) ((s_X2_saves f g n).2) b len 0 at_ fl va so ma)) hx hb hK hP hD hS 1 0 rfl rfl 14 rfl (by decide) (by decide) dX2_lock_123 rfl (fun H locs hP hD hS => ?_)
              refine lv_iload_n hx hb dX2_lock_124 rfl (lv_at hl 0 rfl) ?_
              subst hz
              exact xi_i hx hb hr hlocks hK hP hD hS rfl rfl dX2_lock_125
            · rw [if_pos c92] at hz
              refine lv_iconst (v := jI (-1)) hx hb dX2_lock_95 rfl ?_
              refine lv_goto (tgt := 107) hx hb dX2_lock_96 (by decide) ?_
              refine x_iast (w1 := (w2 cI a (upz (upz f 11 1) 12 (-1)) ((s_X2_saves f g n).1) ((s_X2_saves f g n).2) b len 0 at_ fl va so ma)) hx hb hK hP hD hS 1 0 rfl rfl 12 rfl (by decide) (by decide) dX2_lock_107 rfl (fun H locs hP hD hS => ?_)
              refine lv_aload_n hx hb dX2_lock_108 rfl (lv_at hl 1 rfl) ?_
              refine va_get (D := D) (ci := 2) (v := .ref (a 1)) (C := RX2) (T := TX2) (N := 11) hx hb hts inRX2 hown hK hP 0 rfl rfl 0 (by decide) qf7 (fun _ h9 => h9) rfl dX2_lock_109 ?_
              refine lv_bipush (v := jI 13) hx hb dX2_lock_112 (by decide) ?_
              refine lv_iconst (v := jI 0) hx hb dX2_lock_114 rfl ?_
              refine x_iast (w1 := (w2 cI a (upz (upz (upz f 11 1) 12 (-1)) 13 0) ((s_X2_saves f g n).1) ((s_X2_saves f g n).2) b len 0 at_ fl va so ma)) hx hb hK hP hD hS 1 0 rfl rfl 13 rfl (by decide) (by decide) dX2_lock_115 rfl (fun H locs hP hD hS => ?_)
              refine lv_aload_n hx hb dX2_lock_116 rfl (lv_at hl 1 rfl) ?_
              refine va_get (D := D) (ci := 2) (v := .ref (a 1)) (C := RX2) (T := TX2) (N := 11) hx hb hts inRX2 hown hK hP 0 rfl rfl 0 (by decide) qf7 (fun _ h9 => h9) rfl dX2_lock_117 ?_
              refine lv_bipush (v := jI 14) hx hb dX2_lock_120 (by decide) ?_
              refine lv_iconst (v := jI 0) hx hb dX2_lock_122 rfl ?_
              refine x_iast (w1 := (w2 cI a (upz (upz (upz (upz f 11 1) 12 (-1)) 13 0) 14 0) ((s_X2_saves f g n).1) ((s_X2_saves f g n).2) b len 0 at_ fl va so ma)) hx hb hK hP hD hS 1 0 rfl rfl 14 rfl (by decide) (by decide) dX2_lock_123 rfl (fun H locs hP hD hS => ?_)
              refine lv_iload_n hx hb dX2_lock_124 rfl (lv_at hl 0 rfl) ?_
              subst hz
              exact xi_i hx hb hr hlocks hK hP hD hS rfl rfl dX2_lock_125
          · rw [if_pos c58] at hz
            refine lv_aload_n hx hb dX2_lock_61 rfl (lv_at hl 0 rfl) ?_
            refine lv_iconst (v := jI 1) hx hb dX2_lock_62 rfl ?_
            refine xc_I (As := [.int (jI 1)]) (rest := []) hSx (m_X2_fails l D cI a f g n b len 0 at_ fl va so ma 1 ) (cwV 1 hts gX2_lock_X2_fails rfl rfl rfl (by decide +kernel) ⟨Nat.le_of_ble_eq_true rfl, Nat.le_of_ble_eq_true rfl⟩) hP hD hS hA hK 0 rfl rfl rfl rfl hl.1 rfl (Nat.le_of_ble_eq_true rfl) dX2_lock_63 ⟨Nat.zero_le _, Nat.zero_le _⟩ (fun H locs hP hD hS => ?_)
            subst hz
            exact xi_i hx hb hr hlocks hK hP hD hS rfl rfl dX2_lock_66
      · rw [if_neg c11] at hz
        have hm1 := hm i (by omega)
        refine lv_iload_n hx hb dX2_lock_14 rfl (lv_at hl 1 rfl) ?_
        refine x_if_ne (tgt := 34) hx hb dX2_lock_15 (by decide) (by omega) (fun c15 => ?_) (fun c15 => ?_)
        · rw [if_neg c15] at hz
          refine lv_iconst (v := jI 1) hx hb dX2_lock_34 rfl ?_
          refine lv_goto (tgt := 39) hx hb dX2_lock_35 (by decide) ?_
          refine lv_istore_n (lv' := [(1, .int (jI 1)), (0, .ref (a 0)), (2, .int (jI (i : Int)))]) hx hb dX2_lock_39 rfl hl (by decide) rfl (fun ls hl => ?_)
          refine lv_iinc (v := jI ((i + 1 : Nat) : Int)) (lv' := [(2, .int (jI ((i + 1 : Nat) : Int))), (1, .int (jI 1)), (0, .ref (a 0))]) hx hb dX2_lock_40 hl (k := 2) rfl (jI_inc _ 1) (by decide) rfl (fun ls hl => ?_)
          refine lv_goto (tgt := 9) hx hb dX2_lock_43 (by decide) ?_
          exact ih (i + 1) 1 _ _ ls (by omega) (by omega) hz (by omega) hP hD hS (lv_sub hl [2, 1, 0] rfl)
        · rw [if_pos c15] at hz
          refine lv_aload_n hx hb dX2_lock_18 rfl (lv_at hl 0 rfl) ?_
          refine lv_iload_n hx hb dX2_lock_19 rfl (lv_at hl 2 rfl) ?_
          refine xc_R (As := [.int (jI (i : Int))]) (rest := []) hSx (m_X2_goes l D cI a f g n b len 0 at_ fl va so ma i (by omega) (by omega)) (cwV 1 hts gX2_lock_X2_goes rfl rfl rfl (by decide +kernel) ⟨Nat.le_of_ble_eq_true rfl, Nat.le_of_ble_eq_true rfl⟩) hP hK 0 rfl rfl rfl rfl hl.1 rfl (Nat.le_of_ble_eq_true rfl) dX2_lock_20 ⟨Nat.zero_le _, Nat.zero_le _⟩ ?_
          refine x_if_eq (tgt := 38) hx hb dX2_lock_23 (by decide) (b01 (b_X2_goes f i)) (fun c23 => ?_) (fun c23 => ?_)
          · rw [if_pos c23] at hz
            refine lv_iconst (v := jI 0) hx hb dX2_lock_38 rfl ?_
            refine lv_istore_n (lv' := [(1, .int (jI 0)), (0, .ref (a 0)), (2, .int (jI (i : Int)))]) hx hb dX2_lock_39 rfl hl (by decide) rfl (fun ls hl => ?_)
            refine lv_iinc (v := jI ((i + 1 : Nat) : Int)) (lv' := [(2, .int (jI ((i + 1 : Nat) : Int))), (1, .int (jI 0)), (0, .ref (a 0))]) hx hb dX2_lock_40 hl (k := 2) rfl (jI_inc _ 1) (by decide) rfl (fun ls hl => ?_)
            refine lv_goto (tgt := 9) hx hb dX2_lock_43 (by decide) ?_
            exact ih (i + 1) 0 _ _ ls (by omega) (by omega) hz (by omega) hP hD hS (lv_sub hl [2, 1, 0] rfl)
          · rw [if_neg c23] at hz
            refine lv_aload_n hx hb dX2_lock_26 rfl (lv_at hl 0 rfl) ?_
            refine lv_iload_n hx hb dX2_lock_27 rfl (lv_at hl 2 rfl) ?_
            refine xc_R (As := [.int (jI (i : Int))]) (rest := []) hSx (m_X2_hours l D cI a f g n b len 0 at_ fl va so ma i (by omega)) (cwV 1 hts gX2_lock_X2_hours rfl rfl rfl (by decide +kernel) ⟨Nat.le_of_ble_eq_true rfl, Nat.le_of_ble_eq_true rfl⟩) hP hK 0 rfl rfl rfl rfl hl.1 rfl (Nat.le_of_ble_eq_true rfl) dX2_lock_28 ⟨Nat.zero_le _, Nat.zero_le _⟩ ?_
            refine x_if_le (tgt := 38) hx hb dX2_lock_31 (by decide) (hrf _) (fun c31 => ?_) (fun c31 => ?_)
            · rw [if_pos c31] at hz
              refine lv_iconst (v := jI 0) hx hb dX2_lock_38 rfl ?_
              refine lv_istore_n (lv' := [(1, .int (jI 0)), (0, .ref (a 0)), (2, .int (jI (i : Int)))]) hx hb dX2_lock_39 rfl hl (by decide) rfl (fun ls hl => ?_)
              refine lv_iinc (v := jI ((i + 1 : Nat) : Int)) (lv' := [(2, .int (jI ((i + 1 : Nat) : Int))), (1, .int (jI 0)), (0, .ref (a 0))]) hx hb dX2_lock_40 hl (k := 2) rfl (jI_inc _ 1) (by decide) rfl (fun ls hl => ?_)
              refine lv_goto (tgt := 9) hx hb dX2_lock_43 (by decide) ?_
              exact ih (i + 1) 0 _ _ ls (by omega) (by omega) hz (by omega) hP hD hS (lv_sub hl [2, 1, 0] rfl)
            · rw [if_neg c31] at hz
              refine lv_iconst (v := jI 1) hx hb dX2_lock_34 rfl ?_
              refine lv_goto (tgt := 39) hx hb dX2_lock_35 (by decide) ?_
              refine lv_istore_n (lv' := [(1, .int (jI 1)), (0, .ref (a 0)), (2, .int (jI (i : Int)))]) hx hb dX2_lock_39 rfl hl (by decide) rfl (fun ls hl => ?_)
              refine lv_iinc (v := jI ((i + 1 : Nat) : Int)) (lv' := [(2, .int (jI ((i + 1 : Nat) : Int))), (1, .int (jI 1)), (0, .ref (a 0))]) hx hb dX2_lock_40 hl (k := 2) rfl (jI_inc _ 1) (by decide) rfl (fun ls hl => ?_)
              refine lv_goto (tgt := 9) hx hb dX2_lock_43 (by decide) ?_
              exact ih (i + 1) 1 _ _ ls (by omega) (by omega) hz (by omega) hP hD hS (lv_sub hl [2, 1, 0] rfl)
  exact LP9 (3 + 1 - 0) 0 0 _ _ ls (by omega) (by omega) hz (by omega) hP hD hS (lv_sub hl [2, 1, 0] rfl)
def s_X2_open (f : Nat → Int) (g : Nat → Int) (n : Nat) : Int × Int × (Nat → Int) × (Nat → Int) × Nat := if (f 11) = 0 then ((s_X2_fails 1).1, (s_X2_fails 1).2, f, g, n) else (if (s_X2_opensBut f (-1)) = 0 then (if (f 12) = (-1) then (1, 0, (s_X2_unlocks (upz (upz f 16 ((f 16) + 1)) 17 ((f 17) + 1))), (s_X2_saves f g n).1, (s_X2_saves f g n).2) else (if ((f 0) - (f 12)) = 0 then (1, 0, (s_X2_unlocks (upz (upz f 16 ((f 16) + 1)) 17 ((f 17) + 1))), (s_X2_saves f g n).1, (s_X2_saves f g n).2) else (if ((f 0) - (f 12)) ≤ 0 then (1, 0, (s_X2_unlocks (upz (upz f 16 ((f 16) + 1)) 19 ((f 19) + 1))), (s_X2_saves f g n).1, (s_X2_saves f g n).2) else (1, 0, (s_X2_unlocks (upz (upz f 16 ((f 16) + 1)) 18 ((f 18) + 1))), (s_X2_saves f g n).1, (s_X2_saves f g n).2)))) else (if ((f 13) + 1) < (f 8) then (0, 0, (upz (upz f 13 ((f 13) + 1)) 15 ((f 15) + 1)), (s_X2_saves f g n).1, (s_X2_saves f g n).2) else (0, 0, (upz (upz (upz (upz f 13 ((f 13) + 1)) 15 ((f 15) + 1)) 13 0) 14 ((f 0) + (f 9))), (s_X2_saves f g n).1, (s_X2_saves f g n).2)))
abbrev rm_X2_open : Room := { frames := 3, cells := 0, slots := 0, locals := 70 }
set_option maxHeartbeats 4000000 in
set_option maxRecDepth 100000 in
theorem m_X2_open (l : Launch) (D : va_G) (cI : ClassId) (a : Nat → Nat) (f : Nat → Int) (g : Nat → Int) (n : Nat) (b : Nat → Int) (len : Nat) (th : Int) (at_ : Nat) (fl : Int) (va : Int) (so : Nat → Int) (ma : Nat → Int) (hn : n ≤ 6) (hrf : rng f) (hm : mv2 f) (hh : 0 ≤ f 0 ∧ f 0 ≤ 99999) (hw : 0 ≤ f 14 ∧ f 14 ≤ 100100) (h12 : -1 ≤ f 12 ∧ f 12 ≤ 100300) (h13 : 0 ≤ f 13 ∧ f 13 ≤ 8) (h8 : 1 ≤ f 8 ∧ f 8 ≤ 9) : MetI l yX2_open wsX2_open rm_X2_open D cI [.ref (a 0)] (w2 cI a f g n b len th at_ fl va so ma) (w2 cI a ((s_X2_open f g n).2.2.1) ((s_X2_open f g n).2.2.2.1) ((s_X2_open f g n).2.2.2.2) b len ((s_X2_open f g n).2.1) at_ fl va so ma) ((s_X2_open f g n).1) := by
  refine xe_I (cc := cX2_open) (maxL := 2) (ret := (some .int)) (by decide) rfl (Nat.le_of_ble_eq_true rfl) ?_
  intro p e s m below meth c hx hb hr hml hts hown hlocks hP hK A hA hD hS ls hl
  have hl : lv_has ls 2 [(0, .ref (a 0))] := hl
  have hown : s.vm.findClass RX2 = some m.cls := hown
  have hSx : CallFix p m c cX2_open 2 s ([.ref (a 0)] : List Value).toArray wsX2_open RX2 := ⟨hx, hb, hml, hown, hts⟩
  have inRX2 : ∀ w ∈ u_ws RX2 TX2 11, w ∈ wsX2_open := by decide +kernel
  have qf25 := hts (.fieldLink RX2 25 "VaultMovementsModel" "thrown" "I") (by decide +kernel)
  have qf7 := hts (.fieldLink RX2 7 "VaultMovementsModel" "now" "[I") (by decide +kernel)
  obtain ⟨z, hz⟩ : ∃ z, z = (s_X2_open f g n) := ⟨_, rfl⟩
  rw [← hz]
  unfold s_X2_open at hz
  refine lv_aload_n hx hb dX2_open_0 rfl (lv_at hl 0 rfl) ?_
  refine lv_iconst (v := jI 0) hx hb dX2_open_1 rfl ?_
  refine va_put (D := D) (ci := 2) (v := .int (jI 0)) (ty := .int) (C := RX2) (T := TX2) (N := 11) hx hb hts inRX2 tyX2 tyX2_ok nmX2 hown hK hP hD hS 0 rfl rfl 5 (by decide) qf25 (fun _ h9 => h9) rfl (by decide +kernel) rfl rfl (Nat.le_of_ble_eq_true rfl) dX2_open_2 (fun H locs hP hD hS => ?_)
  have hP : va_P D vwCl (w2 cI a f g n b len 0 at_ fl va so ma) H := hP
  have hD : va_D A (w2 cI a f g n b len 0 at_ fl va so ma) := hD
  refine lv_aload_n hx hb dX2_open_5 rfl (lv_at hl 0 rfl) ?_
  refine va_get (D := D) (ci := 2) (v := .ref (a 1)) (C := RX2) (T := TX2) (N := 11) hx hb hts inRX2 hown hK hP 0 rfl rfl 0 (by decide) qf7 (fun _ h9 => h9) rfl dX2_open_6 ?_
  refine lv_bipush (v := jI 11) hx hb dX2_open_9 (by decide) ?_
  refine x_iald hx hb hK hP 1 0 rfl rfl 11 rfl (by decide) (by decide) dX2_open_11 ?_
  refine x_if_ne (tgt := 21) hx hb dX2_open_12 (by decide) (hrf _) (fun c12 => ?_) (fun c12 => ?_)
  · rw [if_neg c12] at hz
    refine lv_aload_n hx hb dX2_open_21 rfl (lv_at hl 0 rfl) ?_
    refine xc_V (As := []) (rest := []) hSx (m_X2_saves l D cI a f g n b len 0 at_ fl va so ma  (by omega)) (cwV 0 hts gX2_open_X2_saves rfl rfl rfl (by decide +kernel) ⟨Nat.le_of_ble_eq_true rfl, Nat.le_of_ble_eq_true rfl⟩) hP hD hS hA hK 0 rfl rfl rfl rfl hl.1 rfl (Nat.le_of_ble_eq_true rfl) dX2_open_22 ⟨Nat.zero_le _, Nat.zero_le _⟩ (fun H locs hP hD hS => ?_)
    refine lv_aload_n hx hb dX2_open_25 rfl (lv_at hl 0 rfl) ?_
    refine lv_iconst (v := jI (-1)) hx hb dX2_open_26 rfl ?_
    refine xc_R (As := [.int (jI (-1))]) (rest := []) hSx (m_X2_opensBut l D cI a f ((s_X2_saves f g n).1) ((s_X2_saves f g n).2) b len 0 at_ fl va so ma (-1) (by omega) (by omega) (by omega) (by omega) (by decide)) (cwV 1 hts gX2_open_X2_opensBut rfl rfl rfl (by decide +kernel) ⟨Nat.le_of_ble_eq_true rfl, Nat.le_of_ble_eq_true rfl⟩) hP hK 0 rfl rfl rfl rfl hl.1 rfl (Nat.le_of_ble_eq_true rfl) dX2_open_27 ⟨Nat.zero_le _, Nat.zero_le _⟩ ?_
    have hrd := r_X2_opensBut f (-1) hh hw
    refine x_if_ne (tgt := 109) hx hb dX2_open_30 (by decide) (by omega) (fun c30 => ?_) (fun c30 => ?_)
    · rw [if_neg c30] at hz
      refine lv_aload_n hx hb dX2_open_109 rfl (lv_at hl 0 rfl) ?_
      refine va_get (D := D) (ci := 2) (v := .ref (a 1)) (C := RX2) (T := TX2) (N := 11) hx hb hts inRX2 hown hK hP 0 rfl rfl 0 (by decide) qf7 (fun _ h9 => h9) rfl dX2_open_110 ?_
      refine lv_bipush (v := jI 13) hx hb dX2_open_113 (by decide) ?_
      refine lv_dup2_11 hx hb dX2_open_115 rfl rfl ?_
      refine x_iald hx hb hK hP 1 0 rfl rfl 13 rfl (by decide) (by decide) dX2_open_116 ?_
      refine lv_iconst (v := jI 1) hx hb dX2_open_117 rfl ?_
      refine x_iadd hx hb dX2_open_118 ?_
      refine x_iast (w1 := (w2 cI a (upz f 13 ((f 13) + 1)) ((s_X2_saves f g n).1) ((s_X2_saves f g n).2) b len 0 at_ fl va so ma)) hx hb hK hP hD hS 1 0 rfl rfl 13 rfl (by decide) (by decide) dX2_open_119 rfl (fun H locs hP hD hS => ?_)
      refine lv_aload_n hx hb dX2_open_120 rfl (lv_at hl 0 rfl) ?_
      refine va_get (D := D) (ci := 2) (v := .ref (a 1)) (C := RX2) (T := TX2) (N := 11) hx hb hts inRX2 hown hK hP 0 rfl rfl 0 (by decide) qf7 (fun _ h9 => h9) rfl dX2_open_121 ?_
      refine lv_bipush (v := jI 15) hx hb dX2_open_124 (by decide) ?_
      refine lv_dup2_11 hx hb dX2_open_126 rfl rfl ?_
      refine x_iald hx hb hK hP 1 0 rfl rfl 15 rfl (by decide) (by decide) dX2_open_127 ?_
      rw [show (upz f 13 ((f 13) + 1)) 15 = f 15 from upz_n (by omega)]
      refine lv_iconst (v := jI 1) hx hb dX2_open_128 rfl ?_
      refine x_iadd hx hb dX2_open_129 ?_
      refine x_iast (w1 := (w2 cI a (upz (upz f 13 ((f 13) + 1)) 15 ((f 15) + 1)) ((s_X2_saves f g n).1) ((s_X2_saves f g n).2) b len 0 at_ fl va so ma)) hx hb hK hP hD hS 1 0 rfl rfl 15 rfl (by decide) (by decide) dX2_open_130 rfl (fun H locs hP hD hS => ?_)
      refine lv_aload_n hx hb dX2_open_131 rfl (lv_at hl 0 rfl) ?_
      refine va_get (D := D) (ci := 2) (v := .ref (a 1)) (C := RX2) (T := TX2) (N := 11) hx hb hts inRX2 hown hK hP 0 rfl rfl 0 (by decide) qf7 (fun _ h9 => h9) rfl dX2_open_132 ?_
      refine lv_bipush (v := jI 13) hx hb dX2_open_135 (by decide) ?_
      refine x_iald hx hb hK hP 1 0 rfl rfl 13 rfl (by decide) (by decide) dX2_open_137 ?_
      rw [show (upz (upz f 13 ((f 13) + 1)) 15 ((f 15) + 1)) 13 = (upz f 13 ((f 13) + 1)) 13 from upz_n (by omega)]
      rw [show (upz f 13 ((f 13) + 1)) 13 = ((f 13) + 1) from upz_s]
      refine lv_aload_n hx hb dX2_open_138 rfl (lv_at hl 0 rfl) ?_
      refine va_get (D := D) (ci := 2) (v := .ref (a 1)) (C := RX2) (T := TX2) (N := 11) hx hb hts inRX2 hown hK hP 0 rfl rfl 0 (by decide) qf7 (fun _ h9 => h9) rfl dX2_open_139 ?_
      refine lv_bipush (v := jI 8) hx hb dX2_open_142 (by decide) ?_
      refine x_iald hx hb hK hP 1 0 rfl rfl 8 rfl (by decide) (by decide) dX2_open_144 ?_
      rw [show (upz (upz f 13 ((f 13) + 1)) 15 ((f 15) + 1)) 8 = (upz f 13 ((f 13) + 1)) 8 from upz_n (by omega)]
      rw [show (upz f 13 ((f 13) + 1)) 8 = f 8 from upz_n (by omega)]
      refine x_icmp_lt (tgt := 177) hx hb dX2_open_145 (by decide) ⟨(by omega), (hrf _)⟩ (fun c145 => ?_) (fun c145 => ?_)
      · rw [if_pos c145] at hz
        refine lv_iconst (v := jI 0) hx hb dX2_open_177 rfl ?_
        subst hz
        exact xi_i hx hb hr hlocks hK hP hD hS rfl rfl dX2_open_178
      · rw [if_neg c145] at hz
        refine lv_aload_n hx hb dX2_open_148 rfl (lv_at hl 0 rfl) ?_
        refine va_get (D := D) (ci := 2) (v := .ref (a 1)) (C := RX2) (T := TX2) (N := 11) hx hb hts inRX2 hown hK hP 0 rfl rfl 0 (by decide) qf7 (fun _ h9 => h9) rfl dX2_open_149 ?_
        refine lv_bipush (v := jI 13) hx hb dX2_open_152 (by decide) ?_
        refine lv_iconst (v := jI 0) hx hb dX2_open_154 rfl ?_
        refine x_iast (w1 := (w2 cI a (upz (upz (upz f 13 ((f 13) + 1)) 15 ((f 15) + 1)) 13 0) ((s_X2_saves f g n).1) ((s_X2_saves f g n).2) b len 0 at_ fl va so ma)) hx hb hK hP hD hS 1 0 rfl rfl 13 rfl (by decide) (by decide) dX2_open_155 rfl (fun H locs hP hD hS => ?_)
        refine lv_aload_n hx hb dX2_open_156 rfl (lv_at hl 0 rfl) ?_
        refine va_get (D := D) (ci := 2) (v := .ref (a 1)) (C := RX2) (T := TX2) (N := 11) hx hb hts inRX2 hown hK hP 0 rfl rfl 0 (by decide) qf7 (fun _ h9 => h9) rfl dX2_open_157 ?_
        refine lv_bipush (v := jI 14) hx hb dX2_open_160 (by decide) ?_
        refine lv_aload_n hx hb dX2_open_162 rfl (lv_at hl 0 rfl) ?_
        refine va_get (D := D) (ci := 2) (v := .ref (a 1)) (C := RX2) (T := TX2) (N := 11) hx hb hts inRX2 hown hK hP 0 rfl rfl 0 (by decide) qf7 (fun _ h9 => h9) rfl dX2_open_163 ?_
        refine lv_iconst (v := jI 0) hx hb dX2_open_166 rfl ?_
        refine x_iald hx hb hK hP 1 0 rfl rfl 0 rfl (by decide) (by decide) dX2_open_167 ?_
        rw [show (upz (upz (upz f 13 ((f 13) + 1)) 15 ((f 15) + 1)) 13 0) 0 = (upz (upz f 13 ((f 13) + 1)) 15 ((f 15) + 1)) 0 from upz_n (by omega)]
        rw [show (upz (upz f 13 ((f 13) + 1)) 15 ((f 15) + 1)) 0 = (upz f 13 ((f 13) + 1)) 0 from upz_n (by omega)]
        rw [show (upz f 13 ((f 13) + 1)) 0 = f 0 from upz_n (by omega)]
        refine lv_aload_n hx hb dX2_open_168 rfl (lv_at hl 0 rfl) ?_
        refine va_get (D := D) (ci := 2) (v := .ref (a 1)) (C := RX2) (T := TX2) (N := 11) hx hb hts inRX2 hown hK hP 0 rfl rfl 0 (by decide) qf7 (fun _ h9 => h9) rfl dX2_open_169 ?_
        refine lv_bipush (v := jI 9) hx hb dX2_open_172 (by decide) ?_
        refine x_iald hx hb hK hP 1 0 rfl rfl 9 rfl (by decide) (by decide) dX2_open_174 ?_
        rw [show (upz (upz (upz f 13 ((f 13) + 1)) 15 ((f 15) + 1)) 13 0) 9 = (upz (upz f 13 ((f 13) + 1)) 15 ((f 15) + 1)) 9 from upz_n (by omega)]
        rw [show (upz (upz f 13 ((f 13) + 1)) 15 ((f 15) + 1)) 9 = (upz f 13 ((f 13) + 1)) 9 from upz_n (by omega)]
        rw [show (upz f 13 ((f 13) + 1)) 9 = f 9 from upz_n (by omega)]
        refine x_iadd hx hb dX2_open_175 ?_
        refine x_iast (w1 := (w2 cI a (upz (upz (upz (upz f 13 ((f 13) + 1)) 15 ((f 15) + 1)) 13 0) 14 ((f 0) + (f 9))) ((s_X2_saves f g n).1) ((s_X2_saves f g n).2) b len 0 at_ fl va so ma)) hx hb hK hP hD hS 1 0 rfl rfl 14 rfl (by decide) (by decide) dX2_open_176 rfl (fun H locs hP hD hS => ?_)
        refine lv_iconst (v := jI 0) hx hb dX2_open_177 rfl ?_
        subst hz
        exact xi_i hx hb hr hlocks hK hP hD hS rfl rfl dX2_open_178
    · rw [if_pos c30] at hz
      refine lv_aload_n hx hb dX2_open_33 rfl (lv_at hl 0 rfl) ?_
      refine va_get (D := D) (ci := 2) (v := .ref (a 1)) (C := RX2) (T := TX2) (N := 11) hx hb hts inRX2 hown hK hP 0 rfl rfl 0 (by decide) qf7 (fun _ h9 => h9) rfl dX2_open_34 ?_
      refine lv_bipush (v := jI 12) hx hb dX2_open_37 (by decide) ?_
      refine x_iald hx hb hK hP 1 0 rfl rfl 12 rfl (by decide) (by decide) dX2_open_39 ?_
      refine lv_iconst (v := jI (-1)) hx hb dX2_open_40 rfl ?_
      refine x_icmp_ne (tgt := 48) hx hb dX2_open_41 (by decide) ⟨(hrf _), (by decide)⟩ (fun c41 => ?_) (fun c41 => ?_)
      · rw [if_neg c41] at hz
        refine lv_aload_n hx hb dX2_open_48 rfl (lv_at hl 0 rfl) ?_
        refine va_get (D := D) (ci := 2) (v := .ref (a 1)) (C := RX2) (T := TX2) (N := 11) hx hb hts inRX2 hown hK hP 0 rfl rfl 0 (by decide) qf7 (fun _ h9 => h9) rfl dX2_open_49 ?_
        refine lv_iconst (v := jI 0) hx hb dX2_open_52 rfl ?_
        refine x_iald hx hb hK hP 1 0 rfl rfl 0 rfl (by decide) (by decide) dX2_open_53 ?_
        refine lv_aload_n hx hb dX2_open_54 rfl (lv_at hl 0 rfl) ?_
        refine va_get (D := D) (ci := 2) (v := .ref (a 1)) (C := RX2) (T := TX2) (N := 11) hx hb hts inRX2 hown hK hP 0 rfl rfl 0 (by decide) qf7 (fun _ h9 => h9) rfl dX2_open_55 ?_
        refine lv_bipush (v := jI 12) hx hb dX2_open_58 (by decide) ?_
        refine x_iald hx hb hK hP 1 0 rfl rfl 12 rfl (by decide) (by decide) dX2_open_60 ?_
        refine x_isub hx hb dX2_open_61 ?_
        refine lv_istore_n (lv' := [(1, .int (jI ((f 0) - (f 12)))), (0, .ref (a 0))]) hx hb dX2_open_62 rfl hl (by decide) rfl (fun ls hl => ?_)
        refine lv_aload_n hx hb dX2_open_63 rfl (lv_at hl 1 rfl) ?_
        refine va_get (D := D) (ci := 2) (v := .ref (a 1)) (C := RX2) (T := TX2) (N := 11) hx hb hts inRX2 hown hK hP 0 rfl rfl 0 (by decide) qf7 (fun _ h9 => h9) rfl dX2_open_64 ?_
        refine lv_bipush (v := jI 16) hx hb dX2_open_67 (by decide) ?_
        refine lv_dup2_11 hx hb dX2_open_69 rfl rfl ?_
        refine x_iald hx hb hK hP 1 0 rfl rfl 16 rfl (by decide) (by decide) dX2_open_70 ?_
        refine lv_iconst (v := jI 1) hx hb dX2_open_71 rfl ?_
        refine x_iadd hx hb dX2_open_72 ?_
        refine x_iast (w1 := (w2 cI a (upz f 16 ((f 16) + 1)) ((s_X2_saves f g n).1) ((s_X2_saves f g n).2) b len 0 at_ fl va so ma)) hx hb hK hP hD hS 1 0 rfl rfl 16 rfl (by decide) (by decide) dX2_open_73 rfl (fun H locs hP hD hS => ?_)
        refine lv_aload_n hx hb dX2_open_74 rfl (lv_at hl 1 rfl) ?_
        refine va_get (D := D) (ci := 2) (v := .ref (a 1)) (C := RX2) (T := TX2) (N := 11) hx hb hts inRX2 hown hK hP 0 rfl rfl 0 (by decide) qf7 (fun _ h9 => h9) rfl dX2_open_75 ?_
        refine lv_iload_n hx hb dX2_open_78 rfl (lv_at hl 0 rfl) ?_
        refine x_if_ne (tgt := 87) hx hb dX2_open_79 (by decide) (by omega) (fun c79 => ?_) (fun c79 => ?_)
        · rw [if_neg c79] at hz
          refine lv_iload_n hx hb dX2_open_87 rfl (lv_at hl 0 rfl) ?_
          refine x_if_le (tgt := 96) hx hb dX2_open_88 (by decide) (by omega) (fun c88 => ?_) (fun c88 => ?_)
          · rw [if_pos c88] at hz
            refine lv_bipush (v := jI 19) hx hb dX2_open_96 (by decide) ?_
            refine lv_dup2_11 hx hb dX2_open_98 rfl rfl ?_
            refine x_iald hx hb hK hP 1 0 rfl rfl 19 rfl (by decide) (by decide) dX2_open_99 ?_
            rw [show (upz f 16 ((f 16) + 1)) 19 = f 19 from upz_n (by omega)]
            refine lv_iconst (v := jI 1) hx hb dX2_open_100 rfl ?_
            refine x_iadd hx hb dX2_open_101 ?_
            refine x_iast (w1 := (w2 cI a (upz (upz f 16 ((f 16) + 1)) 19 ((f 19) + 1)) ((s_X2_saves f g n).1) ((s_X2_saves f g n).2) b len 0 at_ fl va so ma)) hx hb hK hP hD hS 1 0 rfl rfl 19 rfl (by decide) (by decide) dX2_open_102 rfl (fun H locs hP hD hS => ?_)
            refine lv_aload_n hx hb dX2_open_103 rfl (lv_at hl 1 rfl) ?_
            refine xc_V (As := []) (rest := []) hSx (m_X2_unlocks l D cI a (upz (upz f 16 ((f 16) + 1)) 19 ((f 19) + 1)) ((s_X2_saves f g n).1) ((s_X2_saves f g n).2) b len 0 at_ fl va so ma  ) (cwV 0 hts gX2_open_X2_unlocks rfl rfl rfl (by decide +kernel) ⟨Nat.le_of_ble_eq_true rfl, Nat.le_of_ble_eq_true rfl⟩) hP hD hS hA hK 0 rfl rfl rfl rfl hl.1 rfl (Nat.le_of_ble_eq_true rfl) dX2_open_104 ⟨Nat.zero_le _, Nat.zero_le _⟩ (fun H locs hP hD hS => ?_)
            refine lv_iconst (v := jI 1) hx hb dX2_open_107 rfl ?_
            subst hz
            exact xi_i hx hb hr hlocks hK hP hD hS rfl rfl dX2_open_108
          · rw [if_neg c88] at hz
            refine lv_bipush (v := jI 18) hx hb dX2_open_91 (by decide) ?_
            refine lv_goto (tgt := 98) hx hb dX2_open_93 (by decide) ?_
            refine lv_dup2_11 hx hb dX2_open_98 rfl rfl ?_
            refine x_iald hx hb hK hP 1 0 rfl rfl 18 rfl (by decide) (by decide) dX2_open_99 ?_
            rw [show (upz f 16 ((f 16) + 1)) 18 = f 18 from upz_n (by omega)]
            refine lv_iconst (v := jI 1) hx hb dX2_open_100 rfl ?_
            refine x_iadd hx hb dX2_open_101 ?_
            refine x_iast (w1 := (w2 cI a (upz (upz f 16 ((f 16) + 1)) 18 ((f 18) + 1)) ((s_X2_saves f g n).1) ((s_X2_saves f g n).2) b len 0 at_ fl va so ma)) hx hb hK hP hD hS 1 0 rfl rfl 18 rfl (by decide) (by decide) dX2_open_102 rfl (fun H locs hP hD hS => ?_)
            refine lv_aload_n hx hb dX2_open_103 rfl (lv_at hl 1 rfl) ?_
            refine xc_V (As := []) (rest := []) hSx (m_X2_unlocks l D cI a (upz (upz f 16 ((f 16) + 1)) 18 ((f 18) + 1)) ((s_X2_saves f g n).1) ((s_X2_saves f g n).2) b len 0 at_ fl va so ma  ) (cwV 0 hts gX2_open_X2_unlocks rfl rfl rfl (by decide +kernel) ⟨Nat.le_of_ble_eq_true rfl, Nat.le_of_ble_eq_true rfl⟩) hP hD hS hA hK 0 rfl rfl rfl rfl hl.1 rfl (Nat.le_of_ble_eq_true rfl) dX2_open_104 ⟨Nat.zero_le _, Nat.zero_le _⟩ (fun H locs hP hD hS => ?_)
            refine lv_iconst (v := jI 1) hx hb dX2_open_107 rfl ?_
            subst hz
            exact xi_i hx hb hr hlocks hK hP hD hS rfl rfl dX2_open_108
        · rw [if_pos c79] at hz
          refine lv_bipush (v := jI 17) hx hb dX2_open_82 (by decide) ?_
          refine lv_goto (tgt := 98) hx hb dX2_open_84 (by decide) ?_
          refine lv_dup2_11 hx hb dX2_open_98 rfl rfl ?_
          refine x_iald hx hb hK hP 1 0 rfl rfl 17 rfl (by decide) (by decide) dX2_open_99 ?_
          rw [show (upz f 16 ((f 16) + 1)) 17 = f 17 from upz_n (by omega)]
          refine lv_iconst (v := jI 1) hx hb dX2_open_100 rfl ?_
          refine x_iadd hx hb dX2_open_101 ?_
          refine x_iast (w1 := (w2 cI a (upz (upz f 16 ((f 16) + 1)) 17 ((f 17) + 1)) ((s_X2_saves f g n).1) ((s_X2_saves f g n).2) b len 0 at_ fl va so ma)) hx hb hK hP hD hS 1 0 rfl rfl 17 rfl (by decide) (by decide) dX2_open_102 rfl (fun H locs hP hD hS => ?_)
          refine lv_aload_n hx hb dX2_open_103 rfl (lv_at hl 1 rfl) ?_
          refine xc_V (As := []) (rest := []) hSx (m_X2_unlocks l D cI a (upz (upz f 16 ((f 16) + 1)) 17 ((f 17) + 1)) ((s_X2_saves f g n).1) ((s_X2_saves f g n).2) b len 0 at_ fl va so ma  ) (cwV 0 hts gX2_open_X2_unlocks rfl rfl rfl (by decide +kernel) ⟨Nat.le_of_ble_eq_true rfl, Nat.le_of_ble_eq_true rfl⟩) hP hD hS hA hK 0 rfl rfl rfl rfl hl.1 rfl (Nat.le_of_ble_eq_true rfl) dX2_open_104 ⟨Nat.zero_le _, Nat.zero_le _⟩ (fun H locs hP hD hS => ?_)
          refine lv_iconst (v := jI 1) hx hb dX2_open_107 rfl ?_
          subst hz
          exact xi_i hx hb hr hlocks hK hP hD hS rfl rfl dX2_open_108
      · rw [if_pos c41] at hz
        refine lv_iconst (v := jI 0) hx hb dX2_open_44 rfl ?_
        refine lv_goto (tgt := 62) hx hb dX2_open_45 (by decide) ?_
        refine lv_istore_n (lv' := [(1, .int (jI 0)), (0, .ref (a 0))]) hx hb dX2_open_62 rfl hl (by decide) rfl (fun ls hl => ?_)
        refine lv_aload_n hx hb dX2_open_63 rfl (lv_at hl 1 rfl) ?_
        refine va_get (D := D) (ci := 2) (v := .ref (a 1)) (C := RX2) (T := TX2) (N := 11) hx hb hts inRX2 hown hK hP 0 rfl rfl 0 (by decide) qf7 (fun _ h9 => h9) rfl dX2_open_64 ?_
        refine lv_bipush (v := jI 16) hx hb dX2_open_67 (by decide) ?_
        refine lv_dup2_11 hx hb dX2_open_69 rfl rfl ?_
        refine x_iald hx hb hK hP 1 0 rfl rfl 16 rfl (by decide) (by decide) dX2_open_70 ?_
        refine lv_iconst (v := jI 1) hx hb dX2_open_71 rfl ?_
        refine x_iadd hx hb dX2_open_72 ?_
        refine x_iast (w1 := (w2 cI a (upz f 16 ((f 16) + 1)) ((s_X2_saves f g n).1) ((s_X2_saves f g n).2) b len 0 at_ fl va so ma)) hx hb hK hP hD hS 1 0 rfl rfl 16 rfl (by decide) (by decide) dX2_open_73 rfl (fun H locs hP hD hS => ?_)
        refine lv_aload_n hx hb dX2_open_74 rfl (lv_at hl 1 rfl) ?_
        refine va_get (D := D) (ci := 2) (v := .ref (a 1)) (C := RX2) (T := TX2) (N := 11) hx hb hts inRX2 hown hK hP 0 rfl rfl 0 (by decide) qf7 (fun _ h9 => h9) rfl dX2_open_75 ?_
        refine lv_iload_n hx hb dX2_open_78 rfl (lv_at hl 0 rfl) ?_
        refine x_if_ne (tgt := 87) hx hb dX2_open_79 (by decide) (by decide) (fun c79 => absurd c79 (by decide)) (fun c79 => ?_)
        refine lv_bipush (v := jI 17) hx hb dX2_open_82 (by decide) ?_
        refine lv_goto (tgt := 98) hx hb dX2_open_84 (by decide) ?_
        refine lv_dup2_11 hx hb dX2_open_98 rfl rfl ?_
        refine x_iald hx hb hK hP 1 0 rfl rfl 17 rfl (by decide) (by decide) dX2_open_99 ?_
        rw [show (upz f 16 ((f 16) + 1)) 17 = f 17 from upz_n (by omega)]
        refine lv_iconst (v := jI 1) hx hb dX2_open_100 rfl ?_
        refine x_iadd hx hb dX2_open_101 ?_
        refine x_iast (w1 := (w2 cI a (upz (upz f 16 ((f 16) + 1)) 17 ((f 17) + 1)) ((s_X2_saves f g n).1) ((s_X2_saves f g n).2) b len 0 at_ fl va so ma)) hx hb hK hP hD hS 1 0 rfl rfl 17 rfl (by decide) (by decide) dX2_open_102 rfl (fun H locs hP hD hS => ?_)
        refine lv_aload_n hx hb dX2_open_103 rfl (lv_at hl 1 rfl) ?_
        refine xc_V (As := []) (rest := []) hSx (m_X2_unlocks l D cI a (upz (upz f 16 ((f 16) + 1)) 17 ((f 17) + 1)) ((s_X2_saves f g n).1) ((s_X2_saves f g n).2) b len 0 at_ fl va so ma  ) (cwV 0 hts gX2_open_X2_unlocks rfl rfl rfl (by decide +kernel) ⟨Nat.le_of_ble_eq_true rfl, Nat.le_of_ble_eq_true rfl⟩) hP hD hS hA hK 0 rfl rfl rfl rfl hl.1 rfl (Nat.le_of_ble_eq_true rfl) dX2_open_104 ⟨Nat.zero_le _, Nat.zero_le _⟩ (fun H locs hP hD hS => ?_)
        refine lv_iconst (v := jI 1) hx hb dX2_open_107 rfl ?_
        subst hz
        exact xi_i hx hb hr hlocks hK hP hD hS rfl rfl dX2_open_108
  · rw [if_pos c12] at hz
    refine lv_aload_n hx hb dX2_open_15 rfl (lv_at hl 0 rfl) ?_
    refine lv_iconst (v := jI 1) hx hb dX2_open_16 rfl ?_
    refine xc_I (As := [.int (jI 1)]) (rest := []) hSx (m_X2_fails l D cI a f g n b len 0 at_ fl va so ma 1 ) (cwV 1 hts gX2_open_X2_fails rfl rfl rfl (by decide +kernel) ⟨Nat.le_of_ble_eq_true rfl, Nat.le_of_ble_eq_true rfl⟩) hP hD hS hA hK 0 rfl rfl rfl rfl hl.1 rfl (Nat.le_of_ble_eq_true rfl) dX2_open_17 ⟨Nat.zero_le _, Nat.zero_le _⟩ (fun H locs hP hD hS => ?_)
    subst hz
    exact xi_i hx hb hr hlocks hK hP hD hS rfl rfl dX2_open_20
def s_X2_drill_lp31 (f : Nat → Int) (g : Nat → Int) (n : Nat) : Nat → Nat → (Nat → Int) → Int × Int × (Nat → Int) × (Nat → Int) × Nat
  | 0, _, _ => default
  | k + 1, i, f9 => if 3 ≤ (i : Int) then (((f9 20) + 1), 0, (upz f9 20 ((f9 20) + 1)), (s_X2_saves f g n).1, (s_X2_saves f g n).2) else (s_X2_drill_lp31 f g n k (i + 1) (upz (upz f9 (21 + (4 * i)) 0) ((21 + (4 * i)) + 1) 0))
def s_X2_drill (f : Nat → Int) (g : Nat → Int) (n : Nat) : Int × Int × (Nat → Int) × (Nat → Int) × Nat := if (f 11) = 0 then ((s_X2_fails 1).1, (s_X2_fails 1).2, f, g, n) else (s_X2_drill_lp31 f g n (3 + 1 - 0) 0 (s_X2_unlocks f))
abbrev rm_X2_drill : Room := { frames := 1, cells := 0, slots := 0, locals := 21 }
set_option maxHeartbeats 4000000 in
set_option maxRecDepth 100000 in
theorem m_X2_drill (l : Launch) (D : va_G) (cI : ClassId) (a : Nat → Nat) (f : Nat → Int) (g : Nat → Int) (n : Nat) (b : Nat → Int) (len : Nat) (th : Int) (at_ : Nat) (fl : Int) (va : Int) (so : Nat → Int) (ma : Nat → Int) (hn : n ≤ 6) (hrf : rng f) : MetI l yX2_drill wsX2_drill rm_X2_drill D cI [.ref (a 0)] (w2 cI a f g n b len th at_ fl va so ma) (w2 cI a ((s_X2_drill f g n).2.2.1) ((s_X2_drill f g n).2.2.2.1) ((s_X2_drill f g n).2.2.2.2) b len ((s_X2_drill f g n).2.1) at_ fl va so ma) ((s_X2_drill f g n).1) := by
  refine xe_I (cc := cX2_drill) (maxL := 2) (ret := (some .int)) (by decide) rfl (Nat.le_of_ble_eq_true rfl) ?_
  intro p e s m below meth c hx hb hr hml hts hown hlocks hP hK A hA hD hS ls hl
  have hl : lv_has ls 2 [(0, .ref (a 0))] := hl
  have hown : s.vm.findClass RX2 = some m.cls := hown
  have hSx : CallFix p m c cX2_drill 2 s ([.ref (a 0)] : List Value).toArray wsX2_drill RX2 := ⟨hx, hb, hml, hown, hts⟩
  have inRX2 : ∀ w ∈ u_ws RX2 TX2 11, w ∈ wsX2_drill := by decide +kernel
  have qf25 := hts (.fieldLink RX2 25 "VaultMovementsModel" "thrown" "I") (by decide +kernel)
  have qf7 := hts (.fieldLink RX2 7 "VaultMovementsModel" "now" "[I") (by decide +kernel)
  obtain ⟨z, hz⟩ : ∃ z, z = (s_X2_drill f g n) := ⟨_, rfl⟩
  rw [← hz]
  unfold s_X2_drill at hz
  refine lv_aload_n hx hb dX2_drill_0 rfl (lv_at hl 0 rfl) ?_
  refine lv_iconst (v := jI 0) hx hb dX2_drill_1 rfl ?_
  refine va_put (D := D) (ci := 2) (v := .int (jI 0)) (ty := .int) (C := RX2) (T := TX2) (N := 11) hx hb hts inRX2 tyX2 tyX2_ok nmX2 hown hK hP hD hS 0 rfl rfl 5 (by decide) qf25 (fun _ h9 => h9) rfl (by decide +kernel) rfl rfl (Nat.le_of_ble_eq_true rfl) dX2_drill_2 (fun H locs hP hD hS => ?_)
  have hP : va_P D vwCl (w2 cI a f g n b len 0 at_ fl va so ma) H := hP
  have hD : va_D A (w2 cI a f g n b len 0 at_ fl va so ma) := hD
  refine lv_aload_n hx hb dX2_drill_5 rfl (lv_at hl 0 rfl) ?_
  refine va_get (D := D) (ci := 2) (v := .ref (a 1)) (C := RX2) (T := TX2) (N := 11) hx hb hts inRX2 hown hK hP 0 rfl rfl 0 (by decide) qf7 (fun _ h9 => h9) rfl dX2_drill_6 ?_
  refine lv_bipush (v := jI 11) hx hb dX2_drill_9 (by decide) ?_
  refine x_iald hx hb hK hP 1 0 rfl rfl 11 rfl (by decide) (by decide) dX2_drill_11 ?_
  refine x_if_ne (tgt := 21) hx hb dX2_drill_12 (by decide) (hrf _) (fun c12 => ?_) (fun c12 => ?_)
  · rw [if_neg c12] at hz
    refine lv_aload_n hx hb dX2_drill_21 rfl (lv_at hl 0 rfl) ?_
    refine xc_V (As := []) (rest := []) hSx (m_X2_saves l D cI a f g n b len 0 at_ fl va so ma  (by omega)) (cwV 0 hts gX2_drill_X2_saves rfl rfl rfl (by decide +kernel) ⟨Nat.le_of_ble_eq_true rfl, Nat.le_of_ble_eq_true rfl⟩) hP hD hS hA hK 0 rfl rfl rfl rfl hl.1 rfl (Nat.le_of_ble_eq_true rfl) dX2_drill_22 ⟨Nat.zero_le _, Nat.zero_le _⟩ (fun H locs hP hD hS => ?_)
    refine lv_aload_n hx hb dX2_drill_25 rfl (lv_at hl 0 rfl) ?_
    refine xc_V (As := []) (rest := []) hSx (m_X2_unlocks l D cI a f ((s_X2_saves f g n).1) ((s_X2_saves f g n).2) b len 0 at_ fl va so ma  ) (cwV 0 hts gX2_drill_X2_unlocks rfl rfl rfl (by decide +kernel) ⟨Nat.le_of_ble_eq_true rfl, Nat.le_of_ble_eq_true rfl⟩) hP hD hS hA hK 0 rfl rfl rfl rfl hl.1 rfl (Nat.le_of_ble_eq_true rfl) dX2_drill_26 ⟨Nat.zero_le _, Nat.zero_le _⟩ (fun H locs hP hD hS => ?_)
    refine lv_iconst (v := jI 0) hx hb dX2_drill_29 rfl ?_
    refine lv_istore_n (lv' := [(1, .int (jI 0)), (0, .ref (a 0))]) hx hb dX2_drill_30 rfl hl (by decide) rfl (fun ls hl => ?_)
    have LP31 : ∀ (k i : Nat) (f9 : Nat → Int) (H : Heap) (locs : List Loc) (ls : Array Slot), i ≤ 3 → i + k = 3 + 1 → z = (s_X2_drill_lp31 f g n) k i f9 → va_P D vwCl (w2 cI a f9 ((s_X2_saves f g n).1) ((s_X2_saves f g n).2) b len 0 at_ fl va so ma) H → va_D A (w2 cI a f9 ((s_X2_saves f g n).1) ((s_X2_saves f g n).2) b len 0 at_ fl va so ma) → va_S A s.heap H locs → lv_has ls 2 [(0, .ref (a 0)), (1, .int (jI (i : Int)))] → W p l e rm_X2_drill s m ([.ref (a 0)] : List Value).toArray below meth c H locs 0 0 (MQ below (va_Qi (fun x (_ : Unit) => x = jI z.1) (xq_B D cI A (w2 cI a z.2.2.1 z.2.2.2.1 z.2.2.2.2 b len z.2.1 at_ fl va so ma)) A) ([.ref (a 0)] : List Value).toArray s 0 0 A) (F0 m 31 ls []) := by
      intro k
      induction k with
      | zero => intro i f9 _ _ ls h1 h2; exact absurd h2 (by omega)
      | succ k ih =>
        intro i f9 H locs ls h1 h2 hz hP hD hS hl
        rw [s_X2_drill_lp31] at hz
        refine lv_iload_n hx hb dX2_drill_31 rfl (lv_at hl 1 rfl) ?_
        refine lv_iconst (v := jI 3) hx hb dX2_drill_32 rfl ?_
        refine x_icmp_ge (tgt := 68) hx hb dX2_drill_33 (by decide) ⟨(by omega), (by decide)⟩ (fun c33 => ?_) (fun c33 => ?_)
        · rw [if_pos c33] at hz
          refine lv_aload_n hx hb dX2_drill_68 rfl (lv_at hl 0 rfl) ?_
          refine va_get (D := D) (ci := 2) (v := .ref (a 1)) (C := RX2) (T := TX2) (N := 11) hx hb hts inRX2 hown hK hP 0 rfl rfl 0 (by decide) qf7 (fun _ h9 => h9) rfl dX2_drill_69 ?_
          refine lv_bipush (v := jI 20) hx hb dX2_drill_72 (by decide) ?_
          refine lv_dup2_11 hx hb dX2_drill_74 rfl rfl ?_
          refine x_iald hx hb hK hP 1 0 rfl rfl 20 rfl (by decide) (by decide) dX2_drill_75 ?_
          refine lv_iconst (v := jI 1) hx hb dX2_drill_76 rfl ?_
          refine x_iadd hx hb dX2_drill_77 ?_
          refine x_iast (w1 := (w2 cI a (upz f9 20 ((f9 20) + 1)) ((s_X2_saves f g n).1) ((s_X2_saves f g n).2) b len 0 at_ fl va so ma)) hx hb hK hP hD hS 1 0 rfl rfl 20 rfl (by decide) (by decide) dX2_drill_78 rfl (fun H locs hP hD hS => ?_)
          refine lv_aload_n hx hb dX2_drill_79 rfl (lv_at hl 0 rfl) ?_
          refine va_get (D := D) (ci := 2) (v := .ref (a 1)) (C := RX2) (T := TX2) (N := 11) hx hb hts inRX2 hown hK hP 0 rfl rfl 0 (by decide) qf7 (fun _ h9 => h9) rfl dX2_drill_80 ?_
          refine lv_bipush (v := jI 20) hx hb dX2_drill_83 (by decide) ?_
          refine x_iald hx hb hK hP 1 0 rfl rfl 20 rfl (by decide) (by decide) dX2_drill_85 ?_
          rw [show (upz f9 20 ((f9 20) + 1)) 20 = ((f9 20) + 1) from upz_s]
          subst hz
          exact xi_i hx hb hr hlocks hK hP hD hS rfl rfl dX2_drill_86
        · rw [if_neg c33] at hz
          refine lv_aload_n hx hb dX2_drill_36 rfl (lv_at hl 0 rfl) ?_
          refine va_get (D := D) (ci := 2) (v := .ref (a 1)) (C := RX2) (T := TX2) (N := 11) hx hb hts inRX2 hown hK hP 0 rfl rfl 0 (by decide) qf7 (fun _ h9 => h9) rfl dX2_drill_37 ?_
          refine lv_bipush (v := jI 21) hx hb dX2_drill_40 (by decide) ?_
          refine lv_iconst (v := jI 4) hx hb dX2_drill_42 rfl ?_
          refine lv_iload_n hx hb dX2_drill_43 rfl (lv_at hl 1 rfl) ?_
          refine x_imul hx hb dX2_drill_44 ?_
          refine x_iadd hx hb dX2_drill_45 ?_
          refine lv_iconst (v := jI 0) hx hb dX2_drill_46 rfl ?_
          refine x_iast (w1 := (w2 cI a (upz f9 (21 + (4 * i)) 0) ((s_X2_saves f g n).1) ((s_X2_saves f g n).2) b len 0 at_ fl va so ma)) hx hb hK hP hD hS 1 0 rfl rfl (21 + (4 * i)) (by omega) (by omega) (by decide) dX2_drill_47 rfl (fun H locs hP hD hS => ?_)
          refine lv_aload_n hx hb dX2_drill_48 rfl (lv_at hl 0 rfl) ?_
          refine va_get (D := D) (ci := 2) (v := .ref (a 1)) (C := RX2) (T := TX2) (N := 11) hx hb hts inRX2 hown hK hP 0 rfl rfl 0 (by decide) qf7 (fun _ h9 => h9) rfl dX2_drill_49 ?_
          refine lv_bipush (v := jI 21) hx hb dX2_drill_52 (by decide) ?_
          refine lv_iconst (v := jI 4) hx hb dX2_drill_54 rfl ?_
          refine lv_iload_n hx hb dX2_drill_55 rfl (lv_at hl 1 rfl) ?_
          refine x_imul hx hb dX2_drill_56 ?_
          refine x_iadd hx hb dX2_drill_57 ?_
          refine lv_iconst (v := jI 1) hx hb dX2_drill_58 rfl ?_
          refine x_iadd hx hb dX2_drill_59 ?_
          refine lv_iconst (v := jI 0) hx hb dX2_drill_60 rfl ?_
          refine x_iast (w1 := (w2 cI a (upz (upz f9 (21 + (4 * i)) 0) ((21 + (4 * i)) + 1) 0) ((s_X2_saves f g n).1) ((s_X2_saves f g n).2) b len 0 at_ fl va so ma)) hx hb hK hP hD hS 1 0 rfl rfl ((21 + (4 * i)) + 1) (by omega) (by omega) (by decide) dX2_drill_61 rfl (fun H locs hP hD hS => ?_)
          refine lv_iinc (v := jI ((i + 1 : Nat) : Int)) (lv' := [(1, .int (jI ((i + 1 : Nat) : Int))), (0, .ref (a 0))]) hx hb dX2_drill_62 hl (k := 1) rfl (jI_inc _ 1) (by decide) rfl (fun ls hl => ?_)
          refine lv_goto (tgt := 31) hx hb dX2_drill_65 (by decide) ?_
          exact ih (i + 1) (upz (upz f9 (21 + (4 * i)) 0) ((21 + (4 * i)) + 1) 0) _ _ ls (by omega) (by omega) hz hP hD hS (lv_sub hl [1, 0] rfl)
    exact LP31 (3 + 1 - 0) 0 (s_X2_unlocks f) _ _ ls (by omega) (by omega) hz hP hD hS (lv_sub hl [1, 0] rfl)
  · rw [if_pos c12] at hz
    refine lv_aload_n hx hb dX2_drill_15 rfl (lv_at hl 0 rfl) ?_
    refine lv_iconst (v := jI 1) hx hb dX2_drill_16 rfl ?_
    refine xc_I (As := [.int (jI 1)]) (rest := []) hSx (m_X2_fails l D cI a f g n b len 0 at_ fl va so ma 1 ) (cwV 1 hts gX2_drill_X2_fails rfl rfl rfl (by decide +kernel) ⟨Nat.le_of_ble_eq_true rfl, Nat.le_of_ble_eq_true rfl⟩) hP hD hS hA hK 0 rfl rfl rfl rfl hl.1 rfl (Nat.le_of_ble_eq_true rfl) dX2_drill_17 ⟨Nat.zero_le _, Nat.zero_le _⟩ (fun H locs hP hD hS => ?_)
    subst hz
    exact xi_i hx hb hr hlocks hK hP hD hS rfl rfl dX2_drill_20
def s_X2_pass_lp66 (f : Nat → Int) (g : Nat → Int) (n : Nat) (f9 : Nat → Int) : Nat → Nat → Int → Int × Int × (Nat → Int) × (Nat → Int) × Nat
  | 0, _, _ => default
  | k + 1, i, v => if 3 ≤ (i : Int) then (v, 0, f9, (s_X2_saves f g n).1, (s_X2_saves f g n).2) else (if (f9 (21 + (4 * i))) = 0 then (s_X2_pass_lp66 f g n f9 k (i + 1) (v + 1)) else (s_X2_pass_lp66 f g n f9 k (i + 1) (v + 0)))
def s_X2_pass_lp47 (f : Nat → Int) (g : Nat → Int) (n : Nat) (x0 : Int) : Nat → Nat → (Nat → Int) → Int × Int × (Nat → Int) × (Nat → Int) × Nat
  | 0, _, _ => default
  | k + 1, i, f9 => if x0 ≤ (i : Int) then (s_X2_pass_lp66 f g n f9 (3 + 1 - 0) 0 0) else (s_X2_pass_lp47 f g n x0 k (i + 1) (s_X2_hourGoes f9))
def s_X2_pass (f : Nat → Int) (g : Nat → Int) (n : Nat) (x0 : Int) : Int × Int × (Nat → Int) × (Nat → Int) × Nat := if (s_X2_in x0 1 200) = 0 then ((s_X2_fails 1).1, (s_X2_fails 1).2, f, g, n) else (if ((f 0) + x0) ≤ 99999 then (s_X2_pass_lp47 f g n x0 (x0.toNat + 1 - 0) 0 f) else ((s_X2_fails 2).1, (s_X2_fails 2).2, f, g, n))
abbrev rm_X2_pass : Room := { frames := 2, cells := 0, slots := 0, locals := 43 }
set_option maxHeartbeats 4000000 in
set_option maxRecDepth 100000 in
theorem m_X2_pass (l : Launch) (D : va_G) (cI : ClassId) (a : Nat → Nat) (f : Nat → Int) (g : Nat → Int) (n : Nat) (b : Nat → Int) (len : Nat) (th : Int) (at_ : Nat) (fl : Int) (va : Int) (so : Nat → Int) (ma : Nat → Int) (x0 : Int) (hn : n ≤ 6) (hrf : rng f) (hh : 0 ≤ f 0 ∧ f 0 ≤ 99999) (hm : mv2B f 100000) (hx0 : -2147483648 ≤ x0 ∧ x0 < 2147483648) : MetI l yX2_pass wsX2_pass rm_X2_pass D cI [.ref (a 0), .int (jI x0)] (w2 cI a f g n b len th at_ fl va so ma) (w2 cI a ((s_X2_pass f g n x0).2.2.1) ((s_X2_pass f g n x0).2.2.2.1) ((s_X2_pass f g n x0).2.2.2.2) b len ((s_X2_pass f g n x0).2.1) at_ fl va so ma) ((s_X2_pass f g n x0).1) := by
  refine xe_I (cc := cX2_pass) (maxL := 4) (ret := (some .int)) (by decide) rfl (Nat.le_of_ble_eq_true rfl) ?_
  intro p e s m below meth c hx hb hr hml hts hown hlocks hP hK A hA hD hS ls hl
  have hl : lv_has ls 4 [(0, .ref (a 0)), (1, .int (jI x0))] := hl
  have hown : s.vm.findClass RX2 = some m.cls := hown
  have hSx : CallFix p m c cX2_pass 4 s ([.ref (a 0), .int (jI x0)] : List Value).toArray wsX2_pass RX2 := ⟨hx, hb, hml, hown, hts⟩
  have inRX2 : ∀ w ∈ u_ws RX2 TX2 11, w ∈ wsX2_pass := by decide +kernel
  have qf25 := hts (.fieldLink RX2 25 "VaultMovementsModel" "thrown" "I") (by decide +kernel)
  have qf7 := hts (.fieldLink RX2 7 "VaultMovementsModel" "now" "[I") (by decide +kernel)
  have qk87 := hts (.constant RX2 87 (99999)) (by decide +kernel)
  obtain ⟨z, hz⟩ : ∃ z, z = (s_X2_pass f g n x0) := ⟨_, rfl⟩
  rw [← hz]
  unfold s_X2_pass at hz
  refine lv_aload_n hx hb dX2_pass_0 rfl (lv_at hl 0 rfl) ?_
  refine lv_iconst (v := jI 0) hx hb dX2_pass_1 rfl ?_
  refine va_put (D := D) (ci := 2) (v := .int (jI 0)) (ty := .int) (C := RX2) (T := TX2) (N := 11) hx hb hts inRX2 tyX2 tyX2_ok nmX2 hown hK hP hD hS 0 rfl rfl 5 (by decide) qf25 (fun _ h9 => h9) rfl (by decide +kernel) rfl rfl (Nat.le_of_ble_eq_true rfl) dX2_pass_2 (fun H locs hP hD hS => ?_)
  have hP : va_P D vwCl (w2 cI a f g n b len 0 at_ fl va so ma) H := hP
  have hD : va_D A (w2 cI a f g n b len 0 at_ fl va so ma) := hD
  refine lv_iload_n hx hb dX2_pass_5 rfl (lv_at hl 1 rfl) ?_
  refine lv_iconst (v := jI 1) hx hb dX2_pass_6 rfl ?_
  refine lv_sipush (v := jI 200) hx hb dX2_pass_7 (by decide) ?_
  refine xc_P (As := [.int (jI x0), .int (jI 1), .int (jI 200)]) (rest := []) hSx (m_X2_in l x0 1 200 (by omega) (by decide) (by decide)) (va_cwS 3 hts gX2_pass_X2_in rfl rfl rfl (by decide +kernel) ⟨Nat.le_of_ble_eq_true rfl, Nat.le_of_ble_eq_true rfl⟩) rfl hl.1 rfl (Nat.le_of_ble_eq_true rfl) dX2_pass_10 ⟨Nat.zero_le _, Nat.zero_le _⟩ ?_
  refine x_if_ne (tgt := 22) hx hb dX2_pass_13 (by decide) (b01 (b_X2_in x0 1 200)) (fun c13 => ?_) (fun c13 => ?_)
  · rw [if_neg c13] at hz
    have hx9 := ok_X2_in c13
    refine lv_aload_n hx hb dX2_pass_22 rfl (lv_at hl 0 rfl) ?_
    refine va_get (D := D) (ci := 2) (v := .ref (a 1)) (C := RX2) (T := TX2) (N := 11) hx hb hts inRX2 hown hK hP 0 rfl rfl 0 (by decide) qf7 (fun _ h9 => h9) rfl dX2_pass_23 ?_
    refine lv_iconst (v := jI 0) hx hb dX2_pass_26 rfl ?_
    refine x_iald hx hb hK hP 1 0 rfl rfl 0 rfl (by decide) (by decide) dX2_pass_27 ?_
    refine lv_iload_n hx hb dX2_pass_28 rfl (lv_at hl 1 rfl) ?_
    refine x_iadd hx hb dX2_pass_29 ?_
    refine lv_ldc (v := jI 99999) hx hb hown qk87 dX2_pass_30 ?_
    refine x_icmp_le (tgt := 41) hx hb dX2_pass_32 (by decide) ⟨(by omega), (by decide)⟩ (fun c32 => ?_) (fun c32 => ?_)
    · rw [if_pos c32] at hz
      refine lv_aload_n hx hb dX2_pass_41 rfl (lv_at hl 0 rfl) ?_
      refine xc_V (As := []) (rest := []) hSx (m_X2_saves l D cI a f g n b len 0 at_ fl va so ma  (by omega)) (cwV 0 hts gX2_pass_X2_saves rfl rfl rfl (by decide +kernel) ⟨Nat.le_of_ble_eq_true rfl, Nat.le_of_ble_eq_true rfl⟩) hP hD hS hA hK 0 rfl rfl rfl rfl hl.1 rfl (Nat.le_of_ble_eq_true rfl) dX2_pass_42 ⟨Nat.zero_le _, Nat.zero_le _⟩ (fun H locs hP hD hS => ?_)
      refine lv_iconst (v := jI 0) hx hb dX2_pass_45 rfl ?_
      refine lv_istore_n (lv' := [(2, .int (jI 0)), (0, .ref (a 0)), (1, .int (jI x0))]) hx hb dX2_pass_46 rfl hl (by decide) rfl (fun ls hl => ?_)
      have LP47 : ∀ (k i : Nat) (f9 : Nat → Int) (H : Heap) (locs : List Loc) (ls : Array Slot), i ≤ x0.toNat → i + k = x0.toNat + 1 → z = (s_X2_pass_lp47 f g n x0) k i f9 → (rng f9 ∧ mv2B f9 (100000 + 3 * i) ∧ 0 ≤ f9 0 ∧ f9 0 + (x0 - i) ≤ 99999) → va_P D vwCl (w2 cI a f9 ((s_X2_saves f g n).1) ((s_X2_saves f g n).2) b len 0 at_ fl va so ma) H → va_D A (w2 cI a f9 ((s_X2_saves f g n).1) ((s_X2_saves f g n).2) b len 0 at_ fl va so ma) → va_S A s.heap H locs → lv_has ls 4 [(0, .ref (a 0)), (1, .int (jI x0)), (2, .int (jI (i : Int)))] → W p l e rm_X2_pass s m ([.ref (a 0), .int (jI x0)] : List Value).toArray below meth c H locs 0 0 (MQ below (va_Qi (fun x (_ : Unit) => x = jI z.1) (xq_B D cI A (w2 cI a z.2.2.1 z.2.2.2.1 z.2.2.2.2 b len z.2.1 at_ fl va so ma)) A) ([.ref (a 0), .int (jI x0)] : List Value).toArray s 0 0 A) (F0 m 47 ls []) := by
        intro k
        induction k with
        | zero => intro i f9 _ _ ls h1 h2; exact absurd h2 (by omega)
        | succ k ih =>
          intro i f9 H locs ls h1 h2 hz hi2 hP hD hS hl
          rw [s_X2_pass_lp47] at hz
          refine lv_iload_n hx hb dX2_pass_47 rfl (lv_at hl 2 rfl) ?_
          refine lv_iload_n hx hb dX2_pass_48 rfl (lv_at hl 1 rfl) ?_
          refine x_icmp_ge (tgt := 62) hx hb dX2_pass_49 (by decide) ⟨(by omega), (by omega)⟩ (fun c49 => ?_) (fun c49 => ?_)
          · rw [if_pos c49] at hz
            refine lv_iconst (v := jI 0) hx hb dX2_pass_62 rfl ?_
            refine lv_istore_n (lv' := [(2, .int (jI 0)), (0, .ref (a 0)), (1, .int (jI x0))]) hx hb dX2_pass_63 rfl hl (by decide) rfl (fun ls hl => ?_)
            refine lv_iconst (v := jI 0) hx hb dX2_pass_64 rfl ?_
            refine lv_istore_n (lv' := [(3, .int (jI 0)), (2, .int (jI 0)), (0, .ref (a 0)), (1, .int (jI x0))]) hx hb dX2_pass_65 rfl hl (by decide) rfl (fun ls hl => ?_)
            have LP66 : ∀ (k i : Nat) (v : Int) (H : Heap) (locs : List Loc) (ls : Array Slot), i ≤ 3 → i + k = 3 + 1 → z = (s_X2_pass_lp66 f g n f9) k i v → va_P D vwCl (w2 cI a f9 ((s_X2_saves f g n).1) ((s_X2_saves f g n).2) b len 0 at_ fl va so ma) H → va_D A (w2 cI a f9 ((s_X2_saves f g n).1) ((s_X2_saves f g n).2) b len 0 at_ fl va so ma) → va_S A s.heap H locs → lv_has ls 4 [(0, .ref (a 0)), (1, .int (jI x0)), (2, .int (jI v)), (3, .int (jI (i : Int)))] → W p l e rm_X2_pass s m ([.ref (a 0), .int (jI x0)] : List Value).toArray below meth c H locs 0 0 (MQ below (va_Qi (fun x (_ : Unit) => x = jI z.1) (xq_B D cI A (w2 cI a z.2.2.1 z.2.2.2.1 z.2.2.2.2 b len z.2.1 at_ fl va so ma)) A) ([.ref (a 0), .int (jI x0)] : List Value).toArray s 0 0 A) (F0 m 66 ls []) := by
              intro k
              induction k with
              | zero => intro i v _ _ ls h1 h2; exact absurd h2 (by omega)
              | succ k ih =>
                intro i v H locs ls h1 h2 hz hP hD hS hl
                rw [s_X2_pass_lp66] at hz
                refine lv_iload_n hx hb dX2_pass_66 rfl (lv_at hl 3 rfl) ?_
                refine lv_iconst (v := jI 3) hx hb dX2_pass_67 rfl ?_
                refine x_icmp_ge (tgt := 93) hx hb dX2_pass_68 (by decide) ⟨(by omega), (by decide)⟩ (fun c68 => ?_) (fun c68 => ?_)
                · rw [if_pos c68] at hz
                  refine lv_iload_n hx hb dX2_pass_93 rfl (lv_at hl 2 rfl) ?_
                  subst hz
                  exact xi_i hx hb hr hlocks hK hP hD hS rfl rfl dX2_pass_94
                · rw [if_neg c68] at hz
                  refine lv_iload_n hx hb dX2_pass_71 rfl (lv_at hl 2 rfl) ?_
                  refine lv_aload_n hx hb dX2_pass_72 rfl (lv_at hl 0 rfl) ?_
                  refine lv_iload_n hx hb dX2_pass_73 rfl (lv_at hl 3 rfl) ?_
                  refine xc_R (As := [.int (jI (i : Int))]) (rest := [.int (jI v)]) hSx (m_X2_hours l D cI a f9 ((s_X2_saves f g n).1) ((s_X2_saves f g n).2) b len 0 at_ fl va so ma i (by omega)) (cwV 1 hts gX2_pass_X2_hours rfl rfl rfl (by decide +kernel) ⟨Nat.le_of_ble_eq_true rfl, Nat.le_of_ble_eq_true rfl⟩) hP hK 0 rfl rfl rfl rfl hl.1 rfl (Nat.le_of_ble_eq_true rfl) dX2_pass_74 ⟨Nat.zero_le _, Nat.zero_le _⟩ ?_
                  refine x_if_ne (tgt := 84) hx hb dX2_pass_77 (by decide) (hi2.1 _) (fun c77 => ?_) (fun c77 => ?_)
                  · rw [if_neg c77] at hz
                    refine lv_iconst (v := jI 0) hx hb dX2_pass_84 rfl ?_
                    refine x_iadd hx hb dX2_pass_85 ?_
                    refine lv_istore_n (lv' := [(2, .int (jI (v + 0))), (0, .ref (a 0)), (1, .int (jI x0)), (3, .int (jI (i : Int)))]) hx hb dX2_pass_86 rfl hl (by decide) rfl (fun ls hl => ?_)
                    refine lv_iinc (v := jI ((i + 1 : Nat) : Int)) (lv' := [(3, .int (jI ((i + 1 : Nat) : Int))), (2, .int (jI (v + 0))), (0, .ref (a 0)), (1, .int (jI x0))]) hx hb dX2_pass_87 hl (k := 3) rfl (jI_inc _ 1) (by decide) rfl (fun ls hl => ?_)
                    refine lv_goto (tgt := 66) hx hb dX2_pass_90 (by decide) ?_
                    exact ih (i + 1) (v + 0) _ _ ls (by omega) (by omega) hz hP hD hS (lv_sub hl [2, 3, 1, 0] rfl)
                  · rw [if_pos c77] at hz
                    refine lv_iconst (v := jI 1) hx hb dX2_pass_80 rfl ?_
                    refine lv_goto (tgt := 85) hx hb dX2_pass_81 (by decide) ?_
                    refine x_iadd hx hb dX2_pass_85 ?_
                    refine lv_istore_n (lv' := [(2, .int (jI (v + 1))), (0, .ref (a 0)), (1, .int (jI x0)), (3, .int (jI (i : Int)))]) hx hb dX2_pass_86 rfl hl (by decide) rfl (fun ls hl => ?_)
                    refine lv_iinc (v := jI ((i + 1 : Nat) : Int)) (lv' := [(3, .int (jI ((i + 1 : Nat) : Int))), (2, .int (jI (v + 1))), (0, .ref (a 0)), (1, .int (jI x0))]) hx hb dX2_pass_87 hl (k := 3) rfl (jI_inc _ 1) (by decide) rfl (fun ls hl => ?_)
                    refine lv_goto (tgt := 66) hx hb dX2_pass_90 (by decide) ?_
                    exact ih (i + 1) (v + 1) _ _ ls (by omega) (by omega) hz hP hD hS (lv_sub hl [2, 3, 1, 0] rfl)
            exact LP66 (3 + 1 - 0) 0 0 _ _ ls (by omega) (by omega) hz hP hD hS (lv_sub hl [2, 3, 1, 0] rfl)
          · rw [if_neg c49] at hz
            refine lv_aload_n hx hb dX2_pass_52 rfl (lv_at hl 0 rfl) ?_
            refine xc_V (As := []) (rest := []) hSx (m_X2_hourGoes l D cI a f9 ((s_X2_saves f g n).1) ((s_X2_saves f g n).2) b len 0 at_ fl va so ma  hi2.1 (by omega) (mv2B_mono hi2.2.1 (by omega))) (cwV 0 hts gX2_pass_X2_hourGoes rfl rfl rfl (by decide +kernel) ⟨Nat.le_of_ble_eq_true rfl, Nat.le_of_ble_eq_true rfl⟩) hP hD hS hA hK 0 rfl rfl rfl rfl hl.1 rfl (Nat.le_of_ble_eq_true rfl) dX2_pass_53 ⟨Nat.zero_le _, Nat.zero_le _⟩ (fun H locs hP hD hS => ?_)
            have hok0 := ok_X2_hourGoes f9 (100000 + 3 * i) hi2.1 hi2.2.1 (by omega) (by omega)
            have hok : rng (s_X2_hourGoes f9) ∧ mv2B (s_X2_hourGoes f9) (100000 + 3 * ((i + 1 : Nat) : Int)) ∧ 0 ≤ s_X2_hourGoes f9 0 ∧ s_X2_hourGoes f9 0 + (x0 - ((i + 1 : Nat) : Int)) ≤ 99999 := ⟨hok0.1, mv2B_mono hok0.2.1 (by omega), by omega, by omega⟩
            refine lv_iinc (v := jI ((i + 1 : Nat) : Int)) (lv' := [(2, .int (jI ((i + 1 : Nat) : Int))), (0, .ref (a 0)), (1, .int (jI x0))]) hx hb dX2_pass_56 hl (k := 2) rfl (jI_inc _ 1) (by decide) rfl (fun ls hl => ?_)
            refine lv_goto (tgt := 47) hx hb dX2_pass_59 (by decide) ?_
            exact ih (i + 1) (s_X2_hourGoes f9) _ _ ls (by omega) (by omega) hz hok hP hD hS (lv_sub hl [1, 2, 0] rfl)
      exact LP47 (x0.toNat + 1 - 0) 0 f _ _ ls (by omega) (by omega) hz ⟨hrf, mv2B_mono hm (by omega), by omega, by omega⟩ hP hD hS (lv_sub hl [1, 2, 0] rfl)
    · rw [if_neg c32] at hz
      refine lv_aload_n hx hb dX2_pass_35 rfl (lv_at hl 0 rfl) ?_
      refine lv_iconst (v := jI 2) hx hb dX2_pass_36 rfl ?_
      refine xc_I (As := [.int (jI 2)]) (rest := []) hSx (m_X2_fails l D cI a f g n b len 0 at_ fl va so ma 2 ) (cwV 1 hts gX2_pass_X2_fails rfl rfl rfl (by decide +kernel) ⟨Nat.le_of_ble_eq_true rfl, Nat.le_of_ble_eq_true rfl⟩) hP hD hS hA hK 0 rfl rfl rfl rfl hl.1 rfl (Nat.le_of_ble_eq_true rfl) dX2_pass_37 ⟨Nat.zero_le _, Nat.zero_le _⟩ (fun H locs hP hD hS => ?_)
      subst hz
      exact xi_i hx hb hr hlocks hK hP hD hS rfl rfl dX2_pass_40
  · rw [if_pos c13] at hz
    refine lv_aload_n hx hb dX2_pass_16 rfl (lv_at hl 0 rfl) ?_
    refine lv_iconst (v := jI 1) hx hb dX2_pass_17 rfl ?_
    refine xc_I (As := [.int (jI 1)]) (rest := []) hSx (m_X2_fails l D cI a f g n b len 0 at_ fl va so ma 1 ) (cwV 1 hts gX2_pass_X2_fails rfl rfl rfl (by decide +kernel) ⟨Nat.le_of_ble_eq_true rfl, Nat.le_of_ble_eq_true rfl⟩) hP hD hS hA hK 0 rfl rfl rfl rfl hl.1 rfl (Nat.le_of_ble_eq_true rfl) dX2_pass_18 ⟨Nat.zero_le _, Nat.zero_le _⟩ (fun H locs hP hD hS => ?_)
    subst hz
    exact xi_i hx hb hr hlocks hK hP hD hS rfl rfl dX2_pass_21
def s_X2_undo_lp30 (g : Nat → Int) (n : Nat) : Nat → Nat → (Nat → Int) → Int × Int × (Nat → Int) × (Nat → Int) × Nat
  | 0, _, _ => default
  | k + 1, i, f9 => if 33 ≤ (i : Int) then ((((n - 1) : Nat) : Int), 0, f9, g, (n - 1)) else (s_X2_undo_lp30 g n k (i + 1) (upz f9 i (g ((33 * (n - 1)) + i))))
def s_X2_undo (f : Nat → Int) (g : Nat → Int) (n : Nat) : Int × Int × (Nat → Int) × (Nat → Int) × Nat := if (n : Int) = 0 then ((s_X2_fails 1).1, (s_X2_fails 1).2, f, g, n) else (s_X2_undo_lp30 g n (33 + 1 - 0) 0 f)
abbrev rm_X2_undo : Room := { frames := 1, cells := 0, slots := 0, locals := 21 }
set_option maxHeartbeats 4000000 in
set_option maxRecDepth 100000 in
theorem m_X2_undo (l : Launch) (D : va_G) (cI : ClassId) (a : Nat → Nat) (f : Nat → Int) (g : Nat → Int) (n : Nat) (b : Nat → Int) (len : Nat) (th : Int) (at_ : Nat) (fl : Int) (va : Int) (so : Nat → Int) (ma : Nat → Int) (hn : n ≤ 6) : MetI l yX2_undo wsX2_undo rm_X2_undo D cI [.ref (a 0)] (w2 cI a f g n b len th at_ fl va so ma) (w2 cI a ((s_X2_undo f g n).2.2.1) ((s_X2_undo f g n).2.2.2.1) ((s_X2_undo f g n).2.2.2.2) b len ((s_X2_undo f g n).2.1) at_ fl va so ma) ((s_X2_undo f g n).1) := by
  refine xe_I (cc := cX2_undo) (maxL := 2) (ret := (some .int)) (by decide) rfl (Nat.le_of_ble_eq_true rfl) ?_
  intro p e s m below meth c hx hb hr hml hts hown hlocks hP hK A hA hD hS ls hl
  have hl : lv_has ls 2 [(0, .ref (a 0))] := hl
  have hown : s.vm.findClass RX2 = some m.cls := hown
  have hSx : CallFix p m c cX2_undo 2 s ([.ref (a 0)] : List Value).toArray wsX2_undo RX2 := ⟨hx, hb, hml, hown, hts⟩
  have inRX2 : ∀ w ∈ u_ws RX2 TX2 11, w ∈ wsX2_undo := by decide +kernel
  have qf13 := hts (.fieldLink RX2 13 "VaultMovementsModel" "past" "[I") (by decide +kernel)
  have qf25 := hts (.fieldLink RX2 25 "VaultMovementsModel" "thrown" "I") (by decide +kernel)
  have qf33 := hts (.fieldLink RX2 33 "VaultMovementsModel" "kept" "I") (by decide +kernel)
  have qf7 := hts (.fieldLink RX2 7 "VaultMovementsModel" "now" "[I") (by decide +kernel)
  obtain ⟨z, hz⟩ : ∃ z, z = (s_X2_undo f g n) := ⟨_, rfl⟩
  rw [← hz]
  unfold s_X2_undo at hz
  refine lv_aload_n hx hb dX2_undo_0 rfl (lv_at hl 0 rfl) ?_
  refine lv_iconst (v := jI 0) hx hb dX2_undo_1 rfl ?_
  refine va_put (D := D) (ci := 2) (v := .int (jI 0)) (ty := .int) (C := RX2) (T := TX2) (N := 11) hx hb hts inRX2 tyX2 tyX2_ok nmX2 hown hK hP hD hS 0 rfl rfl 5 (by decide) qf25 (fun _ h9 => h9) rfl (by decide +kernel) rfl rfl (Nat.le_of_ble_eq_true rfl) dX2_undo_2 (fun H locs hP hD hS => ?_)
  have hP : va_P D vwCl (w2 cI a f g n b len 0 at_ fl va so ma) H := hP
  have hD : va_D A (w2 cI a f g n b len 0 at_ fl va so ma) := hD
  refine lv_aload_n hx hb dX2_undo_5 rfl (lv_at hl 0 rfl) ?_
  refine va_get (D := D) (ci := 2) (v := .int (jI (n : Int))) (C := RX2) (T := TX2) (N := 11) hx hb hts inRX2 hown hK hP 0 rfl rfl 2 (by decide) qf33 (fun _ h9 => h9) rfl dX2_undo_6 ?_
  refine x_if_ne (tgt := 18) hx hb dX2_undo_9 (by decide) (by omega) (fun c9 => ?_) (fun c9 => ?_)
  · rw [if_neg c9] at hz
    refine lv_aload_n hx hb dX2_undo_18 rfl (lv_at hl 0 rfl) ?_
    refine lv_dup hx hb dX2_undo_19 rfl ?_
    refine va_get (D := D) (ci := 2) (v := .int (jI (n : Int))) (C := RX2) (T := TX2) (N := 11) hx hb hts inRX2 hown hK hP 0 rfl rfl 2 (by decide) qf33 (fun _ h9 => h9) rfl dX2_undo_20 ?_
    refine lv_iconst (v := jI 1) hx hb dX2_undo_23 rfl ?_
    refine x_isub hx hb dX2_undo_24 ?_
    refine lv_topi (fun y9 ey9 => ?_)
    obtain rfl : y9 = jI ((n - 1 : Nat) : Int) := ey9.trans (congrArg jI (by omega))
    refine va_put (D := D) (ci := 2) (v := .int (jI ((n - 1 : Nat) : Int))) (ty := .int) (C := RX2) (T := TX2) (N := 11) hx hb hts inRX2 tyX2 tyX2_ok nmX2 hown hK hP hD hS 0 rfl rfl 2 (by decide) qf33 (fun _ h9 => h9) rfl (by decide +kernel) rfl rfl (Nat.le_of_ble_eq_true rfl) dX2_undo_25 (fun H locs hP hD hS => ?_)
    have hP : va_P D vwCl (w2 cI a f g (n - 1) b len 0 at_ fl va so ma) H := hP
    have hD : va_D A (w2 cI a f g (n - 1) b len 0 at_ fl va so ma) := hD
    refine lv_iconst (v := jI 0) hx hb dX2_undo_28 rfl ?_
    refine lv_istore_n (lv' := [(1, .int (jI 0)), (0, .ref (a 0))]) hx hb dX2_undo_29 rfl hl (by decide) rfl (fun ls hl => ?_)
    have LP30 : ∀ (k i : Nat) (f9 : Nat → Int) (H : Heap) (locs : List Loc) (ls : Array Slot), i ≤ 33 → i + k = 33 + 1 → z = (s_X2_undo_lp30 g n) k i f9 → va_P D vwCl (w2 cI a f9 g (n - 1) b len 0 at_ fl va so ma) H → va_D A (w2 cI a f9 g (n - 1) b len 0 at_ fl va so ma) → va_S A s.heap H locs → lv_has ls 2 [(0, .ref (a 0)), (1, .int (jI (i : Int)))] → W p l e rm_X2_undo s m ([.ref (a 0)] : List Value).toArray below meth c H locs 0 0 (MQ below (va_Qi (fun x (_ : Unit) => x = jI z.1) (xq_B D cI A (w2 cI a z.2.2.1 z.2.2.2.1 z.2.2.2.2 b len z.2.1 at_ fl va so ma)) A) ([.ref (a 0)] : List Value).toArray s 0 0 A) (F0 m 30 ls []) := by
      intro k
      induction k with
      | zero => intro i f9 _ _ ls h1 h2; exact absurd h2 (by omega)
      | succ k ih =>
        intro i f9 H locs ls h1 h2 hz hP hD hS hl
        rw [s_X2_undo_lp30] at hz
        refine lv_iload_n hx hb dX2_undo_30 rfl (lv_at hl 1 rfl) ?_
        refine lv_bipush (v := jI 33) hx hb dX2_undo_31 (by decide) ?_
        refine x_icmp_ge (tgt := 62) hx hb dX2_undo_33 (by decide) ⟨(by omega), (by decide)⟩ (fun c33 => ?_) (fun c33 => ?_)
        · rw [if_pos c33] at hz
          refine lv_aload_n hx hb dX2_undo_62 rfl (lv_at hl 0 rfl) ?_
          refine va_get (D := D) (ci := 2) (v := .int (jI (((n - 1) : Nat) : Int))) (C := RX2) (T := TX2) (N := 11) hx hb hts inRX2 hown hK hP 0 rfl rfl 2 (by decide) qf33 (fun _ h9 => h9) rfl dX2_undo_63 ?_
          subst hz
          exact xi_i hx hb hr hlocks hK hP hD hS rfl rfl dX2_undo_66
        · rw [if_neg c33] at hz
          refine lv_aload_n hx hb dX2_undo_36 rfl (lv_at hl 0 rfl) ?_
          refine va_get (D := D) (ci := 2) (v := .ref (a 1)) (C := RX2) (T := TX2) (N := 11) hx hb hts inRX2 hown hK hP 0 rfl rfl 0 (by decide) qf7 (fun _ h9 => h9) rfl dX2_undo_37 ?_
          refine lv_iload_n hx hb dX2_undo_40 rfl (lv_at hl 1 rfl) ?_
          refine lv_aload_n hx hb dX2_undo_41 rfl (lv_at hl 0 rfl) ?_
          refine va_get (D := D) (ci := 2) (v := .ref (a 2)) (C := RX2) (T := TX2) (N := 11) hx hb hts inRX2 hown hK hP 0 rfl rfl 1 (by decide) qf13 (fun _ h9 => h9) rfl dX2_undo_42 ?_
          refine lv_bipush (v := jI 33) hx hb dX2_undo_45 (by decide) ?_
          refine lv_aload_n hx hb dX2_undo_47 rfl (lv_at hl 0 rfl) ?_
          refine va_get (D := D) (ci := 2) (v := .int (jI (((n - 1) : Nat) : Int))) (C := RX2) (T := TX2) (N := 11) hx hb hts inRX2 hown hK hP 0 rfl rfl 2 (by decide) qf33 (fun _ h9 => h9) rfl dX2_undo_48 ?_
          refine x_imul hx hb dX2_undo_51 ?_
          refine lv_iload_n hx hb dX2_undo_52 rfl (lv_at hl 1 rfl) ?_
          refine x_iadd hx hb dX2_undo_53 ?_
          refine x_iald hx hb hK hP 2 0 rfl rfl ((33 * (n - 1)) + i) (by omega) (by omega) (by decide) dX2_undo_54 ?_
          refine x_iast (w1 := (w2 cI a (upz f9 i (g ((33 * (n - 1)) + i))) g (n - 1) b len 0 at_ fl va so ma)) hx hb hK hP hD hS 1 0 rfl rfl i (by omega) (by omega) (by decide) dX2_undo_55 rfl (fun H locs hP hD hS => ?_)
          refine lv_iinc (v := jI ((i + 1 : Nat) : Int)) (lv' := [(1, .int (jI ((i + 1 : Nat) : Int))), (0, .ref (a 0))]) hx hb dX2_undo_56 hl (k := 1) rfl (jI_inc _ 1) (by decide) rfl (fun ls hl => ?_)
          refine lv_goto (tgt := 30) hx hb dX2_undo_59 (by decide) ?_
          exact ih (i + 1) (upz f9 i (g ((33 * (n - 1)) + i))) _ _ ls (by omega) (by omega) hz hP hD hS (lv_sub hl [1, 0] rfl)
    exact LP30 (33 + 1 - 0) 0 f _ _ ls (by omega) (by omega) hz hP hD hS (lv_sub hl [1, 0] rfl)
  · rw [if_pos c9] at hz
    refine lv_aload_n hx hb dX2_undo_12 rfl (lv_at hl 0 rfl) ?_
    refine lv_iconst (v := jI 1) hx hb dX2_undo_13 rfl ?_
    refine xc_I (As := [.int (jI 1)]) (rest := []) hSx (m_X2_fails l D cI a f g n b len 0 at_ fl va so ma 1 ) (cwV 1 hts gX2_undo_X2_fails rfl rfl rfl (by decide +kernel) ⟨Nat.le_of_ble_eq_true rfl, Nat.le_of_ble_eq_true rfl⟩) hP hD hS hA hK 0 rfl rfl rfl rfl hl.1 rfl (Nat.le_of_ble_eq_true rfl) dX2_undo_14 ⟨Nat.zero_le _, Nat.zero_le _⟩ (fun H locs hP hD hS => ?_)
    subst hz
    exact xi_i hx hb hr hlocks hK hP hD hS rfl rfl dX2_undo_17
def s_X2_movement (f : Nat → Int) (x0 : Int) (x1 : Int) : Int × Int := if (s_X2_in x0 0 2) = 0 then ((s_X2_fails 1).1, (s_X2_fails 1).2) else (if (s_X2_in x1 0 5) = 0 then ((s_X2_fails 2).1, (s_X2_fails 2).2) else ((s_X2_ofMovement f (x0.toNat) (x1.toNat)), 0))
abbrev rm_X2_movement : Room := { frames := 3, cells := 0, slots := 0, locals := 68 }
set_option maxHeartbeats 4000000 in
set_option maxRecDepth 100000 in
theorem m_X2_movement (l : Launch) (D : va_G) (cI : ClassId) (a : Nat → Nat) (f : Nat → Int) (g : Nat → Int) (n : Nat) (b : Nat → Int) (len : Nat) (th : Int) (at_ : Nat) (fl : Int) (va : Int) (so : Nat → Int) (ma : Nat → Int) (x0 : Int) (x1 : Int) (hrf : rng f) (hm : mv2 f) (hx0 : -2147483648 ≤ x0 ∧ x0 < 2147483648) (hx1 : -2147483648 ≤ x1 ∧ x1 < 2147483648) : MetI l yX2_movement wsX2_movement rm_X2_movement D cI [.ref (a 0), .int (jI x0), .int (jI x1)] (w2 cI a f g n b len th at_ fl va so ma) (w2 cI a f g n b len ((s_X2_movement f x0 x1).2) at_ fl va so ma) ((s_X2_movement f x0 x1).1) := by
  refine xe_I (cc := cX2_movement) (maxL := 3) (ret := (some .int)) (by decide) rfl (Nat.le_of_ble_eq_true rfl) ?_
  intro p e s m below meth c hx hb hr hml hts hown hlocks hP hK A hA hD hS ls hl
  have hl : lv_has ls 3 [(0, .ref (a 0)), (1, .int (jI x0)), (2, .int (jI x1))] := hl
  have hown : s.vm.findClass RX2 = some m.cls := hown
  have hSx : CallFix p m c cX2_movement 3 s ([.ref (a 0), .int (jI x0), .int (jI x1)] : List Value).toArray wsX2_movement RX2 := ⟨hx, hb, hml, hown, hts⟩
  have inRX2 : ∀ w ∈ u_ws RX2 TX2 11, w ∈ wsX2_movement := by decide +kernel
  have qf25 := hts (.fieldLink RX2 25 "VaultMovementsModel" "thrown" "I") (by decide +kernel)
  obtain ⟨z, hz⟩ : ∃ z, z = (s_X2_movement f x0 x1) := ⟨_, rfl⟩
  rw [← hz]
  unfold s_X2_movement at hz
  refine lv_aload_n hx hb dX2_movement_0 rfl (lv_at hl 0 rfl) ?_
  refine lv_iconst (v := jI 0) hx hb dX2_movement_1 rfl ?_
  refine va_put (D := D) (ci := 2) (v := .int (jI 0)) (ty := .int) (C := RX2) (T := TX2) (N := 11) hx hb hts inRX2 tyX2 tyX2_ok nmX2 hown hK hP hD hS 0 rfl rfl 5 (by decide) qf25 (fun _ h9 => h9) rfl (by decide +kernel) rfl rfl (Nat.le_of_ble_eq_true rfl) dX2_movement_2 (fun H locs hP hD hS => ?_)
  have hP : va_P D vwCl (w2 cI a f g n b len 0 at_ fl va so ma) H := hP
  have hD : va_D A (w2 cI a f g n b len 0 at_ fl va so ma) := hD
  refine lv_iload_n hx hb dX2_movement_5 rfl (lv_at hl 1 rfl) ?_
  refine xc_P (As := [.int (jI x0)]) (rest := []) hSx (m_X2_isMovement l x0 (by omega)) (va_cwS 1 hts gX2_movement_X2_isMovement rfl rfl rfl (by decide +kernel) ⟨Nat.le_of_ble_eq_true rfl, Nat.le_of_ble_eq_true rfl⟩) rfl hl.1 rfl (Nat.le_of_ble_eq_true rfl) dX2_movement_6 ⟨Nat.zero_le _, Nat.zero_le _⟩ ?_
  refine x_if_ne (tgt := 18) hx hb dX2_movement_9 (by decide) (b01 (b_X2_in x0 0 2)) (fun c9 => ?_) (fun c9 => ?_)
  · rw [if_neg c9] at hz
    have hok := ok_X2_in c9
    obtain ⟨j, rfl⟩ : ∃ j : Nat, x0 = (j : Int) := ⟨x0.toNat, by omega⟩
    have hj : j < 3 := by omega
    try simp only [Int.toNat_natCast] at hz
    refine lv_iload_n hx hb dX2_movement_18 rfl (lv_at hl 2 rfl) ?_
    refine lv_iconst (v := jI 0) hx hb dX2_movement_19 rfl ?_
    refine lv_iconst (v := jI 5) hx hb dX2_movement_20 rfl ?_
    refine xc_P (As := [.int (jI x1), .int (jI 0), .int (jI 5)]) (rest := []) hSx (m_X2_in l x1 0 5 (by omega) (by decide) (by decide)) (va_cwS 3 hts gX2_movement_X2_in rfl rfl rfl (by decide +kernel) ⟨Nat.le_of_ble_eq_true rfl, Nat.le_of_ble_eq_true rfl⟩) rfl hl.1 rfl (Nat.le_of_ble_eq_true rfl) dX2_movement_21 ⟨Nat.zero_le _, Nat.zero_le _⟩ ?_
    refine x_if_eq (tgt := 36) hx hb dX2_movement_24 (by decide) (b01 (b_X2_in x1 0 5)) (fun c24 => ?_) (fun c24 => ?_)
    · rw [if_pos c24] at hz
      refine lv_aload_n hx hb dX2_movement_36 rfl (lv_at hl 0 rfl) ?_
      refine lv_iconst (v := jI 2) hx hb dX2_movement_37 rfl ?_
      refine xc_I (As := [.int (jI 2)]) (rest := []) hSx (m_X2_fails l D cI a f g n b len 0 at_ fl va so ma 2 ) (cwV 1 hts gX2_movement_X2_fails rfl rfl rfl (by decide +kernel) ⟨Nat.le_of_ble_eq_true rfl, Nat.le_of_ble_eq_true rfl⟩) hP hD hS hA hK 0 rfl rfl rfl rfl hl.1 rfl (Nat.le_of_ble_eq_true rfl) dX2_movement_38 ⟨Nat.zero_le _, Nat.zero_le _⟩ (fun H locs hP hD hS => ?_)
      subst hz
      exact xi_i hx hb hr hlocks hK hP hD hS rfl rfl dX2_movement_41
    · rw [if_neg c24] at hz
      have hok := ok_X2_in c24
      obtain ⟨j1, rfl⟩ : ∃ j1 : Nat, x1 = (j1 : Int) := ⟨x1.toNat, by omega⟩
      have hj1 : j1 < 6 := by omega
      try simp only [Int.toNat_natCast] at hz
      refine lv_aload_n hx hb dX2_movement_27 rfl (lv_at hl 0 rfl) ?_
      refine lv_iload_n hx hb dX2_movement_28 rfl (lv_at hl 1 rfl) ?_
      refine lv_iload_n hx hb dX2_movement_29 rfl (lv_at hl 2 rfl) ?_
      refine xc_R (As := [.int (jI (j : Int)), .int (jI (j1 : Int))]) (rest := []) hSx (m_X2_ofMovement l D cI a f g n b len 0 at_ fl va so ma j j1 (by omega) (by omega) (by omega) (by omega)) (cwV 2 hts gX2_movement_X2_ofMovement rfl rfl rfl (by decide +kernel) ⟨Nat.le_of_ble_eq_true rfl, Nat.le_of_ble_eq_true rfl⟩) hP hK 0 rfl rfl rfl rfl hl.1 rfl (Nat.le_of_ble_eq_true rfl) dX2_movement_30 ⟨Nat.zero_le _, Nat.zero_le _⟩ ?_
      refine lv_goto (tgt := 41) hx hb dX2_movement_33 (by decide) ?_
      subst hz
      exact xi_i hx hb hr hlocks hK hP hD hS rfl rfl dX2_movement_41
  · rw [if_pos c9] at hz
    refine lv_aload_n hx hb dX2_movement_12 rfl (lv_at hl 0 rfl) ?_
    refine lv_iconst (v := jI 1) hx hb dX2_movement_13 rfl ?_
    refine xc_I (As := [.int (jI 1)]) (rest := []) hSx (m_X2_fails l D cI a f g n b len 0 at_ fl va so ma 1 ) (cwV 1 hts gX2_movement_X2_fails rfl rfl rfl (by decide +kernel) ⟨Nat.le_of_ble_eq_true rfl, Nat.le_of_ble_eq_true rfl⟩) hP hD hS hA hK 0 rfl rfl rfl rfl hl.1 rfl (Nat.le_of_ble_eq_true rfl) dX2_movement_14 ⟨Nat.zero_le _, Nat.zero_le _⟩ (fun H locs hP hD hS => ?_)
    subst hz
    exact xi_i hx hb hr hlocks hK hP hD hS rfl rfl dX2_movement_17
def s_X2_day (f : Nat → Int) (x0 : Int) : Int × Int := if (s_X2_in x0 0 6) = 0 then ((s_X2_fails 1).1, (s_X2_fails 1).2) else ((f (1 + (x0.toNat))), 0)
abbrev rm_X2_day : Room := { frames := 2, cells := 0, slots := 0, locals := 42 }
set_option maxHeartbeats 4000000 in
set_option maxRecDepth 100000 in
theorem m_X2_day (l : Launch) (D : va_G) (cI : ClassId) (a : Nat → Nat) (f : Nat → Int) (g : Nat → Int) (n : Nat) (b : Nat → Int) (len : Nat) (th : Int) (at_ : Nat) (fl : Int) (va : Int) (so : Nat → Int) (ma : Nat → Int) (x0 : Int) (hx0 : -2147483648 ≤ x0 ∧ x0 < 2147483648) : MetI l yX2_day wsX2_day rm_X2_day D cI [.ref (a 0), .int (jI x0)] (w2 cI a f g n b len th at_ fl va so ma) (w2 cI a f g n b len ((s_X2_day f x0).2) at_ fl va so ma) ((s_X2_day f x0).1) := by
  refine xe_I (cc := cX2_day) (maxL := 2) (ret := (some .int)) (by decide) rfl (Nat.le_of_ble_eq_true rfl) ?_
  intro p e s m below meth c hx hb hr hml hts hown hlocks hP hK A hA hD hS ls hl
  have hl : lv_has ls 2 [(0, .ref (a 0)), (1, .int (jI x0))] := hl
  have hown : s.vm.findClass RX2 = some m.cls := hown
  have hSx : CallFix p m c cX2_day 2 s ([.ref (a 0), .int (jI x0)] : List Value).toArray wsX2_day RX2 := ⟨hx, hb, hml, hown, hts⟩
  have inRX2 : ∀ w ∈ u_ws RX2 TX2 11, w ∈ wsX2_day := by decide +kernel
  have qf25 := hts (.fieldLink RX2 25 "VaultMovementsModel" "thrown" "I") (by decide +kernel)
  have qf7 := hts (.fieldLink RX2 7 "VaultMovementsModel" "now" "[I") (by decide +kernel)
  obtain ⟨z, hz⟩ : ∃ z, z = (s_X2_day f x0) := ⟨_, rfl⟩
  rw [← hz]
  unfold s_X2_day at hz
  refine lv_aload_n hx hb dX2_day_0 rfl (lv_at hl 0 rfl) ?_
  refine lv_iconst (v := jI 0) hx hb dX2_day_1 rfl ?_
  refine va_put (D := D) (ci := 2) (v := .int (jI 0)) (ty := .int) (C := RX2) (T := TX2) (N := 11) hx hb hts inRX2 tyX2 tyX2_ok nmX2 hown hK hP hD hS 0 rfl rfl 5 (by decide) qf25 (fun _ h9 => h9) rfl (by decide +kernel) rfl rfl (Nat.le_of_ble_eq_true rfl) dX2_day_2 (fun H locs hP hD hS => ?_)
  have hP : va_P D vwCl (w2 cI a f g n b len 0 at_ fl va so ma) H := hP
  have hD : va_D A (w2 cI a f g n b len 0 at_ fl va so ma) := hD
  refine lv_iload_n hx hb dX2_day_5 rfl (lv_at hl 1 rfl) ?_
  refine xc_P (As := [.int (jI x0)]) (rest := []) hSx (m_X2_isDay l x0 (by omega)) (va_cwS 1 hts gX2_day_X2_isDay rfl rfl rfl (by decide +kernel) ⟨Nat.le_of_ble_eq_true rfl, Nat.le_of_ble_eq_true rfl⟩) rfl hl.1 rfl (Nat.le_of_ble_eq_true rfl) dX2_day_6 ⟨Nat.zero_le _, Nat.zero_le _⟩ ?_
  refine x_if_eq (tgt := 23) hx hb dX2_day_9 (by decide) (b01 (b_X2_in x0 0 6)) (fun c9 => ?_) (fun c9 => ?_)
  · rw [if_pos c9] at hz
    refine lv_aload_n hx hb dX2_day_23 rfl (lv_at hl 0 rfl) ?_
    refine lv_iconst (v := jI 1) hx hb dX2_day_24 rfl ?_
    refine xc_I (As := [.int (jI 1)]) (rest := []) hSx (m_X2_fails l D cI a f g n b len 0 at_ fl va so ma 1 ) (cwV 1 hts gX2_day_X2_fails rfl rfl rfl (by decide +kernel) ⟨Nat.le_of_ble_eq_true rfl, Nat.le_of_ble_eq_true rfl⟩) hP hD hS hA hK 0 rfl rfl rfl rfl hl.1 rfl (Nat.le_of_ble_eq_true rfl) dX2_day_25 ⟨Nat.zero_le _, Nat.zero_le _⟩ (fun H locs hP hD hS => ?_)
    subst hz
    exact xi_i hx hb hr hlocks hK hP hD hS rfl rfl dX2_day_28
  · rw [if_neg c9] at hz
    have hok := ok_X2_in c9
    obtain ⟨j, rfl⟩ : ∃ j : Nat, x0 = (j : Int) := ⟨x0.toNat, by omega⟩
    have hj : j < 7 := by omega
    try simp only [Int.toNat_natCast] at hz
    refine lv_aload_n hx hb dX2_day_12 rfl (lv_at hl 0 rfl) ?_
    refine va_get (D := D) (ci := 2) (v := .ref (a 1)) (C := RX2) (T := TX2) (N := 11) hx hb hts inRX2 hown hK hP 0 rfl rfl 0 (by decide) qf7 (fun _ h9 => h9) rfl dX2_day_13 ?_
    refine lv_iconst (v := jI 1) hx hb dX2_day_16 rfl ?_
    refine lv_iload_n hx hb dX2_day_17 rfl (lv_at hl 1 rfl) ?_
    refine x_iadd hx hb dX2_day_18 ?_
    refine x_iald hx hb hK hP 1 0 rfl rfl (1 + j) (by omega) (by omega) (by decide) dX2_day_19 ?_
    refine lv_goto (tgt := 28) hx hb dX2_day_20 (by decide) ?_
    subst hz
    exact xi_i hx hb hr hlocks hK hP hD hS rfl rfl dX2_day_28
def s_X2_count (f : Nat → Int) (n : Nat) (x0 : Int) : Int × Int := if (s_X2_in x0 0 14) = 0 then ((s_X2_fails 1).1, (s_X2_fails 1).2) else ((s_X2_counted f n (x0.toNat)), 0)
abbrev rm_X2_count : Room := { frames := 2, cells := 0, slots := 0, locals := 43 }
set_option maxHeartbeats 4000000 in
set_option maxRecDepth 100000 in
theorem m_X2_count (l : Launch) (D : va_G) (cI : ClassId) (a : Nat → Nat) (f : Nat → Int) (g : Nat → Int) (n : Nat) (b : Nat → Int) (len : Nat) (th : Int) (at_ : Nat) (fl : Int) (va : Int) (so : Nat → Int) (ma : Nat → Int) (x0 : Int) (hrf : rng f) (hh : 0 ≤ f 0 ∧ f 0 ≤ 99999) (hw : 0 ≤ f 14 ∧ f 14 ≤ 100100) (hx0 : -2147483648 ≤ x0 ∧ x0 < 2147483648) : MetI l yX2_count wsX2_count rm_X2_count D cI [.ref (a 0), .int (jI x0)] (w2 cI a f g n b len th at_ fl va so ma) (w2 cI a f g n b len ((s_X2_count f n x0).2) at_ fl va so ma) ((s_X2_count f n x0).1) := by
  refine xe_I (cc := cX2_count) (maxL := 2) (ret := (some .int)) (by decide) rfl (Nat.le_of_ble_eq_true rfl) ?_
  intro p e s m below meth c hx hb hr hml hts hown hlocks hP hK A hA hD hS ls hl
  have hl : lv_has ls 2 [(0, .ref (a 0)), (1, .int (jI x0))] := hl
  have hown : s.vm.findClass RX2 = some m.cls := hown
  have hSx : CallFix p m c cX2_count 2 s ([.ref (a 0), .int (jI x0)] : List Value).toArray wsX2_count RX2 := ⟨hx, hb, hml, hown, hts⟩
  have inRX2 : ∀ w ∈ u_ws RX2 TX2 11, w ∈ wsX2_count := by decide +kernel
  have qf25 := hts (.fieldLink RX2 25 "VaultMovementsModel" "thrown" "I") (by decide +kernel)
  obtain ⟨z, hz⟩ : ∃ z, z = (s_X2_count f n x0) := ⟨_, rfl⟩
  rw [← hz]
  unfold s_X2_count at hz
  refine lv_aload_n hx hb dX2_count_0 rfl (lv_at hl 0 rfl) ?_
  refine lv_iconst (v := jI 0) hx hb dX2_count_1 rfl ?_
  refine va_put (D := D) (ci := 2) (v := .int (jI 0)) (ty := .int) (C := RX2) (T := TX2) (N := 11) hx hb hts inRX2 tyX2 tyX2_ok nmX2 hown hK hP hD hS 0 rfl rfl 5 (by decide) qf25 (fun _ h9 => h9) rfl (by decide +kernel) rfl rfl (Nat.le_of_ble_eq_true rfl) dX2_count_2 (fun H locs hP hD hS => ?_)
  have hP : va_P D vwCl (w2 cI a f g n b len 0 at_ fl va so ma) H := hP
  have hD : va_D A (w2 cI a f g n b len 0 at_ fl va so ma) := hD
  refine lv_iload_n hx hb dX2_count_5 rfl (lv_at hl 1 rfl) ?_
  refine lv_iconst (v := jI 0) hx hb dX2_count_6 rfl ?_
  refine lv_bipush (v := jI 14) hx hb dX2_count_7 (by decide) ?_
  refine xc_P (As := [.int (jI x0), .int (jI 0), .int (jI 14)]) (rest := []) hSx (m_X2_in l x0 0 14 (by omega) (by decide) (by decide)) (va_cwS 3 hts gX2_count_X2_in rfl rfl rfl (by decide +kernel) ⟨Nat.le_of_ble_eq_true rfl, Nat.le_of_ble_eq_true rfl⟩) rfl hl.1 rfl (Nat.le_of_ble_eq_true rfl) dX2_count_9 ⟨Nat.zero_le _, Nat.zero_le _⟩ ?_
  refine x_if_eq (tgt := 23) hx hb dX2_count_12 (by decide) (b01 (b_X2_in x0 0 14)) (fun c12 => ?_) (fun c12 => ?_)
  · rw [if_pos c12] at hz
    refine lv_aload_n hx hb dX2_count_23 rfl (lv_at hl 0 rfl) ?_
    refine lv_iconst (v := jI 1) hx hb dX2_count_24 rfl ?_
    refine xc_I (As := [.int (jI 1)]) (rest := []) hSx (m_X2_fails l D cI a f g n b len 0 at_ fl va so ma 1 ) (cwV 1 hts gX2_count_X2_fails rfl rfl rfl (by decide +kernel) ⟨Nat.le_of_ble_eq_true rfl, Nat.le_of_ble_eq_true rfl⟩) hP hD hS hA hK 0 rfl rfl rfl rfl hl.1 rfl (Nat.le_of_ble_eq_true rfl) dX2_count_25 ⟨Nat.zero_le _, Nat.zero_le _⟩ (fun H locs hP hD hS => ?_)
    subst hz
    exact xi_i hx hb hr hlocks hK hP hD hS rfl rfl dX2_count_28
  · rw [if_neg c12] at hz
    have hok := ok_X2_in c12
    obtain ⟨j, rfl⟩ : ∃ j : Nat, x0 = (j : Int) := ⟨x0.toNat, by omega⟩
    have hj : j < 15 := by omega
    try simp only [Int.toNat_natCast] at hz
    refine lv_aload_n hx hb dX2_count_15 rfl (lv_at hl 0 rfl) ?_
    refine lv_iload_n hx hb dX2_count_16 rfl (lv_at hl 1 rfl) ?_
    refine xc_R (As := [.int (jI (j : Int))]) (rest := []) hSx (m_X2_counted l D cI a f g n b len 0 at_ fl va so ma j (by omega) (by omega) (by omega) (by omega)) (cwV 1 hts gX2_count_X2_counted rfl rfl rfl (by decide +kernel) ⟨Nat.le_of_ble_eq_true rfl, Nat.le_of_ble_eq_true rfl⟩) hP hK 0 rfl rfl rfl rfl hl.1 rfl (Nat.le_of_ble_eq_true rfl) dX2_count_17 ⟨Nat.zero_le _, Nat.zero_le _⟩ ?_
    refine lv_goto (tgt := 28) hx hb dX2_count_20 (by decide) ?_
    subst hz
    exact xi_i hx hb hr hlocks hK hP hD hS rfl rfl dX2_count_28
def s_X2_setting (f : Nat → Int) (x0 : Int) : Int × Int := if (s_X2_in x0 0 2) = 0 then ((s_X2_fails 1).1, (s_X2_fails 1).2) else ((f (8 + (x0.toNat))), 0)
abbrev rm_X2_setting : Room := { frames := 1, cells := 0, slots := 0, locals := 22 }
set_option maxHeartbeats 4000000 in
set_option maxRecDepth 100000 in
theorem m_X2_setting (l : Launch) (D : va_G) (cI : ClassId) (a : Nat → Nat) (f : Nat → Int) (g : Nat → Int) (n : Nat) (b : Nat → Int) (len : Nat) (th : Int) (at_ : Nat) (fl : Int) (va : Int) (so : Nat → Int) (ma : Nat → Int) (x0 : Int) (hx0 : -2147483648 ≤ x0 ∧ x0 < 2147483648) : MetI l yX2_setting wsX2_setting rm_X2_setting D cI [.ref (a 0), .int (jI x0)] (w2 cI a f g n b len th at_ fl va so ma) (w2 cI a f g n b len ((s_X2_setting f x0).2) at_ fl va so ma) ((s_X2_setting f x0).1) := by
  refine xe_I (cc := cX2_setting) (maxL := 2) (ret := (some .int)) (by decide) rfl (Nat.le_of_ble_eq_true rfl) ?_
  intro p e s m below meth c hx hb hr hml hts hown hlocks hP hK A hA hD hS ls hl
  have hl : lv_has ls 2 [(0, .ref (a 0)), (1, .int (jI x0))] := hl
  have hown : s.vm.findClass RX2 = some m.cls := hown
  have hSx : CallFix p m c cX2_setting 2 s ([.ref (a 0), .int (jI x0)] : List Value).toArray wsX2_setting RX2 := ⟨hx, hb, hml, hown, hts⟩
  have inRX2 : ∀ w ∈ u_ws RX2 TX2 11, w ∈ wsX2_setting := by decide +kernel
  have qf25 := hts (.fieldLink RX2 25 "VaultMovementsModel" "thrown" "I") (by decide +kernel)
  have qf7 := hts (.fieldLink RX2 7 "VaultMovementsModel" "now" "[I") (by decide +kernel)
  obtain ⟨z, hz⟩ : ∃ z, z = (s_X2_setting f x0) := ⟨_, rfl⟩
  rw [← hz]
  unfold s_X2_setting at hz
  refine lv_aload_n hx hb dX2_setting_0 rfl (lv_at hl 0 rfl) ?_
  refine lv_iconst (v := jI 0) hx hb dX2_setting_1 rfl ?_
  refine va_put (D := D) (ci := 2) (v := .int (jI 0)) (ty := .int) (C := RX2) (T := TX2) (N := 11) hx hb hts inRX2 tyX2 tyX2_ok nmX2 hown hK hP hD hS 0 rfl rfl 5 (by decide) qf25 (fun _ h9 => h9) rfl (by decide +kernel) rfl rfl (Nat.le_of_ble_eq_true rfl) dX2_setting_2 (fun H locs hP hD hS => ?_)
  have hP : va_P D vwCl (w2 cI a f g n b len 0 at_ fl va so ma) H := hP
  have hD : va_D A (w2 cI a f g n b len 0 at_ fl va so ma) := hD
  refine lv_iload_n hx hb dX2_setting_5 rfl (lv_at hl 1 rfl) ?_
  refine lv_iconst (v := jI 0) hx hb dX2_setting_6 rfl ?_
  refine lv_iconst (v := jI 2) hx hb dX2_setting_7 rfl ?_
  refine xc_P (As := [.int (jI x0), .int (jI 0), .int (jI 2)]) (rest := []) hSx (m_X2_in l x0 0 2 (by omega) (by decide) (by decide)) (va_cwS 3 hts gX2_setting_X2_in rfl rfl rfl (by decide +kernel) ⟨Nat.le_of_ble_eq_true rfl, Nat.le_of_ble_eq_true rfl⟩) rfl hl.1 rfl (Nat.le_of_ble_eq_true rfl) dX2_setting_8 ⟨Nat.zero_le _, Nat.zero_le _⟩ ?_
  refine x_if_eq (tgt := 26) hx hb dX2_setting_11 (by decide) (b01 (b_X2_in x0 0 2)) (fun c11 => ?_) (fun c11 => ?_)
  · rw [if_pos c11] at hz
    refine lv_aload_n hx hb dX2_setting_26 rfl (lv_at hl 0 rfl) ?_
    refine lv_iconst (v := jI 1) hx hb dX2_setting_27 rfl ?_
    refine xc_I (As := [.int (jI 1)]) (rest := []) hSx (m_X2_fails l D cI a f g n b len 0 at_ fl va so ma 1 ) (cwV 1 hts gX2_setting_X2_fails rfl rfl rfl (by decide +kernel) ⟨Nat.le_of_ble_eq_true rfl, Nat.le_of_ble_eq_true rfl⟩) hP hD hS hA hK 0 rfl rfl rfl rfl hl.1 rfl (Nat.le_of_ble_eq_true rfl) dX2_setting_28 ⟨Nat.zero_le _, Nat.zero_le _⟩ (fun H locs hP hD hS => ?_)
    subst hz
    exact xi_i hx hb hr hlocks hK hP hD hS rfl rfl dX2_setting_31
  · rw [if_neg c11] at hz
    have hok := ok_X2_in c11
    obtain ⟨j, rfl⟩ : ∃ j : Nat, x0 = (j : Int) := ⟨x0.toNat, by omega⟩
    have hj : j < 3 := by omega
    try simp only [Int.toNat_natCast] at hz
    refine lv_aload_n hx hb dX2_setting_14 rfl (lv_at hl 0 rfl) ?_
    refine va_get (D := D) (ci := 2) (v := .ref (a 1)) (C := RX2) (T := TX2) (N := 11) hx hb hts inRX2 hown hK hP 0 rfl rfl 0 (by decide) qf7 (fun _ h9 => h9) rfl dX2_setting_15 ?_
    refine lv_bipush (v := jI 8) hx hb dX2_setting_18 (by decide) ?_
    refine lv_iload_n hx hb dX2_setting_20 rfl (lv_at hl 1 rfl) ?_
    refine x_iadd hx hb dX2_setting_21 ?_
    refine x_iald hx hb hK hP 1 0 rfl rfl (8 + j) (by omega) (by omega) (by decide) dX2_setting_22 ?_
    refine lv_goto (tgt := 31) hx hb dX2_setting_23 (by decide) ?_
    subst hz
    exact xi_i hx hb hr hlocks hK hP hD hS rfl rfl dX2_setting_31
def s_X2_opensIn (f : Nat → Int) : Int × Int := ((s_X2_opensBut f (-1)), 0)
abbrev rm_X2_opensIn : Room := { frames := 3, cells := 0, slots := 0, locals := 70 }
set_option maxHeartbeats 4000000 in
set_option maxRecDepth 100000 in
theorem m_X2_opensIn (l : Launch) (D : va_G) (cI : ClassId) (a : Nat → Nat) (f : Nat → Int) (g : Nat → Int) (n : Nat) (b : Nat → Int) (len : Nat) (th : Int) (at_ : Nat) (fl : Int) (va : Int) (so : Nat → Int) (ma : Nat → Int) (hrf : rng f) (hm : mv2 f) (hh : 0 ≤ f 0 ∧ f 0 ≤ 99999) (hw : 0 ≤ f 14 ∧ f 14 ≤ 100100) : MetI l yX2_opensIn wsX2_opensIn rm_X2_opensIn D cI [.ref (a 0)] (w2 cI a f g n b len th at_ fl va so ma) (w2 cI a f g n b len ((s_X2_opensIn f).2) at_ fl va so ma) ((s_X2_opensIn f).1) := by
  refine xe_I (cc := cX2_opensIn) (maxL := 1) (ret := (some .int)) (by decide) rfl (Nat.le_of_ble_eq_true rfl) ?_
  intro p e s m below meth c hx hb hr hml hts hown hlocks hP hK A hA hD hS ls hl
  have hl : lv_has ls 1 [(0, .ref (a 0))] := hl
  have hown : s.vm.findClass RX2 = some m.cls := hown
  have hSx : CallFix p m c cX2_opensIn 1 s ([.ref (a 0)] : List Value).toArray wsX2_opensIn RX2 := ⟨hx, hb, hml, hown, hts⟩
  have inRX2 : ∀ w ∈ u_ws RX2 TX2 11, w ∈ wsX2_opensIn := by decide +kernel
  have qf25 := hts (.fieldLink RX2 25 "VaultMovementsModel" "thrown" "I") (by decide +kernel)
  obtain ⟨z, hz⟩ : ∃ z, z = (s_X2_opensIn f) := ⟨_, rfl⟩
  rw [← hz]
  unfold s_X2_opensIn at hz
  refine lv_aload_n hx hb dX2_opensIn_0 rfl (lv_at hl 0 rfl) ?_
  refine lv_iconst (v := jI 0) hx hb dX2_opensIn_1 rfl ?_
  refine va_put (D := D) (ci := 2) (v := .int (jI 0)) (ty := .int) (C := RX2) (T := TX2) (N := 11) hx hb hts inRX2 tyX2 tyX2_ok nmX2 hown hK hP hD hS 0 rfl rfl 5 (by decide) qf25 (fun _ h9 => h9) rfl (by decide +kernel) rfl rfl (Nat.le_of_ble_eq_true rfl) dX2_opensIn_2 (fun H locs hP hD hS => ?_)
  have hP : va_P D vwCl (w2 cI a f g n b len 0 at_ fl va so ma) H := hP
  have hD : va_D A (w2 cI a f g n b len 0 at_ fl va so ma) := hD
  refine lv_aload_n hx hb dX2_opensIn_5 rfl (lv_at hl 0 rfl) ?_
  refine lv_iconst (v := jI (-1)) hx hb dX2_opensIn_6 rfl ?_
  refine xc_R (As := [.int (jI (-1))]) (rest := []) hSx (m_X2_opensBut l D cI a f g n b len 0 at_ fl va so ma (-1) (by omega) (by omega) (by omega) (by omega) (by decide)) (cwV 1 hts gX2_opensIn_X2_opensBut rfl rfl rfl (by decide +kernel) ⟨Nat.le_of_ble_eq_true rfl, Nat.le_of_ble_eq_true rfl⟩) hP hK 0 rfl rfl rfl rfl hl.1 rfl (Nat.le_of_ble_eq_true rfl) dX2_opensIn_7 ⟨Nat.zero_le _, Nat.zero_le _⟩ ?_
  subst hz
  exact xi_i hx hb hr hlocks hK hP hD hS rfl rfl dX2_opensIn_10
def s_X2_lateness (f : Nat → Int) : Int × Int := ((s_X2_late f), 0)
abbrev rm_X2_lateness : Room := { frames := 4, cells := 0, slots := 0, locals := 91 }
set_option maxHeartbeats 4000000 in
set_option maxRecDepth 100000 in
theorem m_X2_lateness (l : Launch) (D : va_G) (cI : ClassId) (a : Nat → Nat) (f : Nat → Int) (g : Nat → Int) (n : Nat) (b : Nat → Int) (len : Nat) (th : Int) (at_ : Nat) (fl : Int) (va : Int) (so : Nat → Int) (ma : Nat → Int) (hrf : rng f) (hm : mv2 f) (hh : 0 ≤ f 0 ∧ f 0 ≤ 99999) (hw : 0 ≤ f 14 ∧ f 14 ≤ 100100) : MetI l yX2_lateness wsX2_lateness rm_X2_lateness D cI [.ref (a 0)] (w2 cI a f g n b len th at_ fl va so ma) (w2 cI a f g n b len ((s_X2_lateness f).2) at_ fl va so ma) ((s_X2_lateness f).1) := by
  refine xe_I (cc := cX2_lateness) (maxL := 1) (ret := (some .int)) (by decide) rfl (Nat.le_of_ble_eq_true rfl) ?_
  intro p e s m below meth c hx hb hr hml hts hown hlocks hP hK A hA hD hS ls hl
  have hl : lv_has ls 1 [(0, .ref (a 0))] := hl
  have hown : s.vm.findClass RX2 = some m.cls := hown
  have hSx : CallFix p m c cX2_lateness 1 s ([.ref (a 0)] : List Value).toArray wsX2_lateness RX2 := ⟨hx, hb, hml, hown, hts⟩
  have inRX2 : ∀ w ∈ u_ws RX2 TX2 11, w ∈ wsX2_lateness := by decide +kernel
  have qf25 := hts (.fieldLink RX2 25 "VaultMovementsModel" "thrown" "I") (by decide +kernel)
  obtain ⟨z, hz⟩ : ∃ z, z = (s_X2_lateness f) := ⟨_, rfl⟩
  rw [← hz]
  unfold s_X2_lateness at hz
  refine lv_aload_n hx hb dX2_lateness_0 rfl (lv_at hl 0 rfl) ?_
  refine lv_iconst (v := jI 0) hx hb dX2_lateness_1 rfl ?_
  refine va_put (D := D) (ci := 2) (v := .int (jI 0)) (ty := .int) (C := RX2) (T := TX2) (N := 11) hx hb hts inRX2 tyX2 tyX2_ok nmX2 hown hK hP hD hS 0 rfl rfl 5 (by decide) qf25 (fun _ h9 => h9) rfl (by decide +kernel) rfl rfl (Nat.le_of_ble_eq_true rfl) dX2_lateness_2 (fun H locs hP hD hS => ?_)
  have hP : va_P D vwCl (w2 cI a f g n b len 0 at_ fl va so ma) H := hP
  have hD : va_D A (w2 cI a f g n b len 0 at_ fl va so ma) := hD
  refine lv_aload_n hx hb dX2_lateness_5 rfl (lv_at hl 0 rfl) ?_
  refine xc_R (As := []) (rest := []) hSx (m_X2_late l D cI a f g n b len 0 at_ fl va so ma  (by omega) (by omega) (by omega) (by omega)) (cwV 0 hts gX2_lateness_X2_late rfl rfl rfl (by decide +kernel) ⟨Nat.le_of_ble_eq_true rfl, Nat.le_of_ble_eq_true rfl⟩) hP hK 0 rfl rfl rfl rfl hl.1 rfl (Nat.le_of_ble_eq_true rfl) dX2_lateness_6 ⟨Nat.zero_le _, Nat.zero_le _⟩ ?_
  subst hz
  exact xi_i hx hb hr hlocks hK hP hD hS rfl rfl dX2_lateness_9
def s_X2_keyMovement (f : Nat → Int) : Int × Int := ((s_X2_key f), 0)
abbrev rm_X2_keyMovement : Room := { frames := 4, cells := 0, slots := 0, locals := 91 }
set_option maxHeartbeats 4000000 in
set_option maxRecDepth 100000 in
theorem m_X2_keyMovement (l : Launch) (D : va_G) (cI : ClassId) (a : Nat → Nat) (f : Nat → Int) (g : Nat → Int) (n : Nat) (b : Nat → Int) (len : Nat) (th : Int) (at_ : Nat) (fl : Int) (va : Int) (so : Nat → Int) (ma : Nat → Int) (hrf : rng f) (hm : mv2 f) (hh : 0 ≤ f 0 ∧ f 0 ≤ 99999) (hw : 0 ≤ f 14 ∧ f 14 ≤ 100100) : MetI l yX2_keyMovement wsX2_keyMovement rm_X2_keyMovement D cI [.ref (a 0)] (w2 cI a f g n b len th at_ fl va so ma) (w2 cI a f g n b len ((s_X2_keyMovement f).2) at_ fl va so ma) ((s_X2_keyMovement f).1) := by
  refine xe_I (cc := cX2_keyMovement) (maxL := 1) (ret := (some .int)) (by decide) rfl (Nat.le_of_ble_eq_true rfl) ?_
  intro p e s m below meth c hx hb hr hml hts hown hlocks hP hK A hA hD hS ls hl
  have hl : lv_has ls 1 [(0, .ref (a 0))] := hl
  have hown : s.vm.findClass RX2 = some m.cls := hown
  have hSx : CallFix p m c cX2_keyMovement 1 s ([.ref (a 0)] : List Value).toArray wsX2_keyMovement RX2 := ⟨hx, hb, hml, hown, hts⟩
  have inRX2 : ∀ w ∈ u_ws RX2 TX2 11, w ∈ wsX2_keyMovement := by decide +kernel
  have qf25 := hts (.fieldLink RX2 25 "VaultMovementsModel" "thrown" "I") (by decide +kernel)
  obtain ⟨z, hz⟩ : ∃ z, z = (s_X2_keyMovement f) := ⟨_, rfl⟩
  rw [← hz]
  unfold s_X2_keyMovement at hz
  refine lv_aload_n hx hb dX2_keyMovement_0 rfl (lv_at hl 0 rfl) ?_
  refine lv_iconst (v := jI 0) hx hb dX2_keyMovement_1 rfl ?_
  refine va_put (D := D) (ci := 2) (v := .int (jI 0)) (ty := .int) (C := RX2) (T := TX2) (N := 11) hx hb hts inRX2 tyX2 tyX2_ok nmX2 hown hK hP hD hS 0 rfl rfl 5 (by decide) qf25 (fun _ h9 => h9) rfl (by decide +kernel) rfl rfl (Nat.le_of_ble_eq_true rfl) dX2_keyMovement_2 (fun H locs hP hD hS => ?_)
  have hP : va_P D vwCl (w2 cI a f g n b len 0 at_ fl va so ma) H := hP
  have hD : va_D A (w2 cI a f g n b len 0 at_ fl va so ma) := hD
  refine lv_aload_n hx hb dX2_keyMovement_5 rfl (lv_at hl 0 rfl) ?_
  refine xc_R (As := []) (rest := []) hSx (m_X2_key l D cI a f g n b len 0 at_ fl va so ma  (by omega) (by omega) (by omega) (by omega)) (cwV 0 hts gX2_keyMovement_X2_key rfl rfl rfl (by decide +kernel) ⟨Nat.le_of_ble_eq_true rfl, Nat.le_of_ble_eq_true rfl⟩) hP hK 0 rfl rfl rfl rfl hl.1 rfl (Nat.le_of_ble_eq_true rfl) dX2_keyMovement_6 ⟨Nat.zero_le _, Nat.zero_le _⟩ ?_
  subst hz
  exact xi_i hx hb hr hlocks hK hP hD hS rfl rfl dX2_keyMovement_9
def s_X2_rightWinding (f : Nat → Int) (x0 : Int) : Int × Int := if (s_X2_in x0 0 2) = 0 then ((s_X2_fails 1).1, (s_X2_fails 1).2) else ((s_X2_right f (x0.toNat)), 0)
abbrev rm_X2_rightWinding : Room := { frames := 3, cells := 0, slots := 0, locals := 69 }
set_option maxHeartbeats 4000000 in
set_option maxRecDepth 100000 in
theorem m_X2_rightWinding (l : Launch) (D : va_G) (cI : ClassId) (a : Nat → Nat) (f : Nat → Int) (g : Nat → Int) (n : Nat) (b : Nat → Int) (len : Nat) (th : Int) (at_ : Nat) (fl : Int) (va : Int) (so : Nat → Int) (ma : Nat → Int) (x0 : Int) (hrf : rng f) (hm : mv2 f) (hh : 0 ≤ f 0 ∧ f 0 ≤ 99999) (hx0 : -2147483648 ≤ x0 ∧ x0 < 2147483648) : MetI l yX2_rightWinding wsX2_rightWinding rm_X2_rightWinding D cI [.ref (a 0), .int (jI x0)] (w2 cI a f g n b len th at_ fl va so ma) (w2 cI a f g n b len ((s_X2_rightWinding f x0).2) at_ fl va so ma) ((s_X2_rightWinding f x0).1) := by
  refine xe_I (cc := cX2_rightWinding) (maxL := 2) (ret := (some .int)) (by decide) rfl (Nat.le_of_ble_eq_true rfl) ?_
  intro p e s m below meth c hx hb hr hml hts hown hlocks hP hK A hA hD hS ls hl
  have hl : lv_has ls 2 [(0, .ref (a 0)), (1, .int (jI x0))] := hl
  have hown : s.vm.findClass RX2 = some m.cls := hown
  have hSx : CallFix p m c cX2_rightWinding 2 s ([.ref (a 0), .int (jI x0)] : List Value).toArray wsX2_rightWinding RX2 := ⟨hx, hb, hml, hown, hts⟩
  have inRX2 : ∀ w ∈ u_ws RX2 TX2 11, w ∈ wsX2_rightWinding := by decide +kernel
  have qf25 := hts (.fieldLink RX2 25 "VaultMovementsModel" "thrown" "I") (by decide +kernel)
  obtain ⟨z, hz⟩ : ∃ z, z = (s_X2_rightWinding f x0) := ⟨_, rfl⟩
  rw [← hz]
  unfold s_X2_rightWinding at hz
  refine lv_aload_n hx hb dX2_rightWinding_0 rfl (lv_at hl 0 rfl) ?_
  refine lv_iconst (v := jI 0) hx hb dX2_rightWinding_1 rfl ?_
  refine va_put (D := D) (ci := 2) (v := .int (jI 0)) (ty := .int) (C := RX2) (T := TX2) (N := 11) hx hb hts inRX2 tyX2 tyX2_ok nmX2 hown hK hP hD hS 0 rfl rfl 5 (by decide) qf25 (fun _ h9 => h9) rfl (by decide +kernel) rfl rfl (Nat.le_of_ble_eq_true rfl) dX2_rightWinding_2 (fun H locs hP hD hS => ?_)
  have hP : va_P D vwCl (w2 cI a f g n b len 0 at_ fl va so ma) H := hP
  have hD : va_D A (w2 cI a f g n b len 0 at_ fl va so ma) := hD
  refine lv_iload_n hx hb dX2_rightWinding_5 rfl (lv_at hl 1 rfl) ?_
  refine xc_P (As := [.int (jI x0)]) (rest := []) hSx (m_X2_isMovement l x0 (by omega)) (va_cwS 1 hts gX2_rightWinding_X2_isMovement rfl rfl rfl (by decide +kernel) ⟨Nat.le_of_ble_eq_true rfl, Nat.le_of_ble_eq_true rfl⟩) rfl hl.1 rfl (Nat.le_of_ble_eq_true rfl) dX2_rightWinding_6 ⟨Nat.zero_le _, Nat.zero_le _⟩ ?_
  refine x_if_eq (tgt := 20) hx hb dX2_rightWinding_9 (by decide) (b01 (b_X2_in x0 0 2)) (fun c9 => ?_) (fun c9 => ?_)
  · rw [if_pos c9] at hz
    refine lv_aload_n hx hb dX2_rightWinding_20 rfl (lv_at hl 0 rfl) ?_
    refine lv_iconst (v := jI 1) hx hb dX2_rightWinding_21 rfl ?_
    refine xc_I (As := [.int (jI 1)]) (rest := []) hSx (m_X2_fails l D cI a f g n b len 0 at_ fl va so ma 1 ) (cwV 1 hts gX2_rightWinding_X2_fails rfl rfl rfl (by decide +kernel) ⟨Nat.le_of_ble_eq_true rfl, Nat.le_of_ble_eq_true rfl⟩) hP hD hS hA hK 0 rfl rfl rfl rfl hl.1 rfl (Nat.le_of_ble_eq_true rfl) dX2_rightWinding_22 ⟨Nat.zero_le _, Nat.zero_le _⟩ (fun H locs hP hD hS => ?_)
    subst hz
    exact xi_i hx hb hr hlocks hK hP hD hS rfl rfl dX2_rightWinding_25
  · rw [if_neg c9] at hz
    have hok := ok_X2_in c9
    obtain ⟨j, rfl⟩ : ∃ j : Nat, x0 = (j : Int) := ⟨x0.toNat, by omega⟩
    have hj : j < 3 := by omega
    try simp only [Int.toNat_natCast] at hz
    refine lv_aload_n hx hb dX2_rightWinding_12 rfl (lv_at hl 0 rfl) ?_
    refine lv_iload_n hx hb dX2_rightWinding_13 rfl (lv_at hl 1 rfl) ?_
    refine xc_R (As := [.int (jI (j : Int))]) (rest := []) hSx (m_X2_right l D cI a f g n b len 0 at_ fl va so ma j (by omega) (by omega) (by omega) (by omega)) (cwV 1 hts gX2_rightWinding_X2_right rfl rfl rfl (by decide +kernel) ⟨Nat.le_of_ble_eq_true rfl, Nat.le_of_ble_eq_true rfl⟩) hP hK 0 rfl rfl rfl rfl hl.1 rfl (Nat.le_of_ble_eq_true rfl) dX2_rightWinding_14 ⟨Nat.zero_le _, Nat.zero_le _⟩ ?_
    refine lv_goto (tgt := 25) hx hb dX2_rightWinding_17 (by decide) ?_
    subst hz
    exact xi_i hx hb hr hlocks hK hP hD hS rfl rfl dX2_rightWinding_25
def s_X2_clearBuffer (len : Nat) : Int × Int × Nat := ((len : Int), 0, 0)
abbrev rm_X2_clearBuffer : Room := { frames := 0, cells := 0, slots := 0, locals := 0 }
set_option maxHeartbeats 4000000 in
set_option maxRecDepth 100000 in
theorem m_X2_clearBuffer (l : Launch) (D : va_G) (cI : ClassId) (a : Nat → Nat) (f : Nat → Int) (g : Nat → Int) (n : Nat) (b : Nat → Int) (len : Nat) (th : Int) (at_ : Nat) (fl : Int) (va : Int) (so : Nat → Int) (ma : Nat → Int) : MetI l yX2_clearBuffer wsX2_clearBuffer rm_X2_clearBuffer D cI [.ref (a 0)] (w2 cI a f g n b len th at_ fl va so ma) (w2 cI a f g n b ((s_X2_clearBuffer len).2.2) ((s_X2_clearBuffer len).2.1) at_ fl va so ma) ((s_X2_clearBuffer len).1) := by
  refine xe_I (cc := cX2_clearBuffer) (maxL := 2) (ret := (some .int)) (by decide) rfl (Nat.le_of_ble_eq_true rfl) ?_
  intro p e s m below meth c hx hb hr hml hts hown hlocks hP hK A hA hD hS ls hl
  have hl : lv_has ls 2 [(0, .ref (a 0))] := hl
  have hown : s.vm.findClass RX2 = some m.cls := hown
  have hSx : CallFix p m c cX2_clearBuffer 2 s ([.ref (a 0)] : List Value).toArray wsX2_clearBuffer RX2 := ⟨hx, hb, hml, hown, hts⟩
  have inRX2 : ∀ w ∈ u_ws RX2 TX2 11, w ∈ wsX2_clearBuffer := by decide +kernel
  have qf25 := hts (.fieldLink RX2 25 "VaultMovementsModel" "thrown" "I") (by decide +kernel)
  have qf91 := hts (.fieldLink RX2 91 "VaultMovementsModel" "typed" "I") (by decide +kernel)
  obtain ⟨z, hz⟩ : ∃ z, z = (s_X2_clearBuffer len) := ⟨_, rfl⟩
  rw [← hz]
  unfold s_X2_clearBuffer at hz
  refine lv_aload_n hx hb dX2_clearBuffer_0 rfl (lv_at hl 0 rfl) ?_
  refine lv_iconst (v := jI 0) hx hb dX2_clearBuffer_1 rfl ?_
  refine va_put (D := D) (ci := 2) (v := .int (jI 0)) (ty := .int) (C := RX2) (T := TX2) (N := 11) hx hb hts inRX2 tyX2 tyX2_ok nmX2 hown hK hP hD hS 0 rfl rfl 5 (by decide) qf25 (fun _ h9 => h9) rfl (by decide +kernel) rfl rfl (Nat.le_of_ble_eq_true rfl) dX2_clearBuffer_2 (fun H locs hP hD hS => ?_)
  have hP : va_P D vwCl (w2 cI a f g n b len 0 at_ fl va so ma) H := hP
  have hD : va_D A (w2 cI a f g n b len 0 at_ fl va so ma) := hD
  refine lv_aload_n hx hb dX2_clearBuffer_5 rfl (lv_at hl 0 rfl) ?_
  refine va_get (D := D) (ci := 2) (v := .int (jI (len : Int))) (C := RX2) (T := TX2) (N := 11) hx hb hts inRX2 hown hK hP 0 rfl rfl 4 (by decide) qf91 (fun _ h9 => h9) rfl dX2_clearBuffer_6 ?_
  refine lv_istore_n (lv' := [(1, .int (jI (len : Int))), (0, .ref (a 0))]) hx hb dX2_clearBuffer_9 rfl hl (by decide) rfl (fun ls hl => ?_)
  refine lv_aload_n hx hb dX2_clearBuffer_10 rfl (lv_at hl 1 rfl) ?_
  refine lv_iconst (v := jI 0) hx hb dX2_clearBuffer_11 rfl ?_
  refine va_put (D := D) (ci := 2) (v := .int (jI 0)) (ty := .int) (C := RX2) (T := TX2) (N := 11) hx hb hts inRX2 tyX2 tyX2_ok nmX2 hown hK hP hD hS 0 rfl rfl 4 (by decide) qf91 (fun _ h9 => h9) rfl (by decide +kernel) rfl rfl (Nat.le_of_ble_eq_true rfl) dX2_clearBuffer_12 (fun H locs hP hD hS => ?_)
  have hP : va_P D vwCl (w2 cI a f g n b 0 0 at_ fl va so ma) H := hP
  have hD : va_D A (w2 cI a f g n b 0 0 at_ fl va so ma) := hD
  refine lv_iload_n hx hb dX2_clearBuffer_15 rfl (lv_at hl 0 rfl) ?_
  subst hz
  exact xi_i hx hb hr hlocks hK hP hD hS rfl rfl dX2_clearBuffer_16
def s_X2_append (b : Nat → Int) (len : Nat) (x0 : Int) : Int × Int × (Nat → Int) × Nat := if (s_X2_in x0 33 126) = 0 then ((s_X2_fails 1).1, (s_X2_fails 1).2, b, len) else (if (len : Int) = 60 then ((s_X2_fails 2).1, (s_X2_fails 2).2, b, len) else ((((len + 1) : Nat) : Int), 0, (upz b len x0), (len + 1)))
abbrev rm_X2_append : Room := { frames := 1, cells := 0, slots := 0, locals := 22 }
set_option maxHeartbeats 4000000 in
set_option maxRecDepth 100000 in
theorem m_X2_append (l : Launch) (D : va_G) (cI : ClassId) (a : Nat → Nat) (f : Nat → Int) (g : Nat → Int) (n : Nat) (b : Nat → Int) (len : Nat) (th : Int) (at_ : Nat) (fl : Int) (va : Int) (so : Nat → Int) (ma : Nat → Int) (x0 : Int) (hln : len ≤ 60) (hx0 : -2147483648 ≤ x0 ∧ x0 < 2147483648) : MetI l yX2_append wsX2_append rm_X2_append D cI [.ref (a 0), .int (jI x0)] (w2 cI a f g n b len th at_ fl va so ma) (w2 cI a f g n ((s_X2_append b len x0).2.2.1) ((s_X2_append b len x0).2.2.2) ((s_X2_append b len x0).2.1) at_ fl va so ma) ((s_X2_append b len x0).1) := by
  refine xe_I (cc := cX2_append) (maxL := 2) (ret := (some .int)) (by decide) rfl (Nat.le_of_ble_eq_true rfl) ?_
  intro p e s m below meth c hx hb hr hml hts hown hlocks hP hK A hA hD hS ls hl
  have hl : lv_has ls 2 [(0, .ref (a 0)), (1, .int (jI x0))] := hl
  have hown : s.vm.findClass RX2 = some m.cls := hown
  have hSx : CallFix p m c cX2_append 2 s ([.ref (a 0), .int (jI x0)] : List Value).toArray wsX2_append RX2 := ⟨hx, hb, hml, hown, hts⟩
  have inRX2 : ∀ w ∈ u_ws RX2 TX2 11, w ∈ wsX2_append := by decide +kernel
  have qf16 := hts (.fieldLink RX2 16 "VaultMovementsModel" "text" "[I") (by decide +kernel)
  have qf25 := hts (.fieldLink RX2 25 "VaultMovementsModel" "thrown" "I") (by decide +kernel)
  have qf91 := hts (.fieldLink RX2 91 "VaultMovementsModel" "typed" "I") (by decide +kernel)
  obtain ⟨z, hz⟩ : ∃ z, z = (s_X2_append b len x0) := ⟨_, rfl⟩
  rw [← hz]
  unfold s_X2_append at hz
  refine lv_aload_n hx hb dX2_append_0 rfl (lv_at hl 0 rfl) ?_
  refine lv_iconst (v := jI 0) hx hb dX2_append_1 rfl ?_
  refine va_put (D := D) (ci := 2) (v := .int (jI 0)) (ty := .int) (C := RX2) (T := TX2) (N := 11) hx hb hts inRX2 tyX2 tyX2_ok nmX2 hown hK hP hD hS 0 rfl rfl 5 (by decide) qf25 (fun _ h9 => h9) rfl (by decide +kernel) rfl rfl (Nat.le_of_ble_eq_true rfl) dX2_append_2 (fun H locs hP hD hS => ?_)
  have hP : va_P D vwCl (w2 cI a f g n b len 0 at_ fl va so ma) H := hP
  have hD : va_D A (w2 cI a f g n b len 0 at_ fl va so ma) := hD
  refine lv_iload_n hx hb dX2_append_5 rfl (lv_at hl 1 rfl) ?_
  refine lv_bipush (v := jI 33) hx hb dX2_append_6 (by decide) ?_
  refine lv_bipush (v := jI 126) hx hb dX2_append_8 (by decide) ?_
  refine xc_P (As := [.int (jI x0), .int (jI 33), .int (jI 126)]) (rest := []) hSx (m_X2_in l x0 33 126 (by omega) (by decide) (by decide)) (va_cwS 3 hts gX2_append_X2_in rfl rfl rfl (by decide +kernel) ⟨Nat.le_of_ble_eq_true rfl, Nat.le_of_ble_eq_true rfl⟩) rfl hl.1 rfl (Nat.le_of_ble_eq_true rfl) dX2_append_10 ⟨Nat.zero_le _, Nat.zero_le _⟩ ?_
  refine x_if_ne (tgt := 22) hx hb dX2_append_13 (by decide) (b01 (b_X2_in x0 33 126)) (fun c13 => ?_) (fun c13 => ?_)
  · rw [if_neg c13] at hz
    refine lv_aload_n hx hb dX2_append_22 rfl (lv_at hl 0 rfl) ?_
    refine va_get (D := D) (ci := 2) (v := .int (jI (len : Int))) (C := RX2) (T := TX2) (N := 11) hx hb hts inRX2 hown hK hP 0 rfl rfl 4 (by decide) qf91 (fun _ h9 => h9) rfl dX2_append_23 ?_
    refine lv_bipush (v := jI 60) hx hb dX2_append_26 (by decide) ?_
    refine x_icmp_ne (tgt := 37) hx hb dX2_append_28 (by decide) ⟨(by omega), (by decide)⟩ (fun c28 => ?_) (fun c28 => ?_)
    · rw [if_neg c28] at hz
      refine lv_aload_n hx hb dX2_append_37 rfl (lv_at hl 0 rfl) ?_
      refine va_get (D := D) (ci := 2) (v := .ref (a 3)) (C := RX2) (T := TX2) (N := 11) hx hb hts inRX2 hown hK hP 0 rfl rfl 3 (by decide) qf16 (fun _ h9 => h9) rfl dX2_append_38 ?_
      refine lv_aload_n hx hb dX2_append_41 rfl (lv_at hl 0 rfl) ?_
      refine va_get (D := D) (ci := 2) (v := .int (jI (len : Int))) (C := RX2) (T := TX2) (N := 11) hx hb hts inRX2 hown hK hP 0 rfl rfl 4 (by decide) qf91 (fun _ h9 => h9) rfl dX2_append_42 ?_
      refine lv_iload_n hx hb dX2_append_45 rfl (lv_at hl 1 rfl) ?_
      refine x_iast (w1 := (w2 cI a f g n (upz b len x0) len 0 at_ fl va so ma)) hx hb hK hP hD hS 3 0 rfl rfl len (by omega) (by omega) (by decide) dX2_append_46 rfl (fun H locs hP hD hS => ?_)
      refine lv_aload_n hx hb dX2_append_47 rfl (lv_at hl 0 rfl) ?_
      refine lv_dup hx hb dX2_append_48 rfl ?_
      refine va_get (D := D) (ci := 2) (v := .int (jI (len : Int))) (C := RX2) (T := TX2) (N := 11) hx hb hts inRX2 hown hK hP 0 rfl rfl 4 (by decide) qf91 (fun _ h9 => h9) rfl dX2_append_49 ?_
      refine lv_iconst (v := jI 1) hx hb dX2_append_52 rfl ?_
      refine x_iadd hx hb dX2_append_53 ?_
      refine va_put (D := D) (ci := 2) (v := .int (jI ((len : Int) + 1))) (ty := .int) (C := RX2) (T := TX2) (N := 11) hx hb hts inRX2 tyX2 tyX2_ok nmX2 hown hK hP hD hS 0 rfl rfl 4 (by decide) qf91 (fun _ h9 => h9) rfl (by decide +kernel) rfl rfl (Nat.le_of_ble_eq_true rfl) dX2_append_54 (fun H locs hP hD hS => ?_)
      have hP : va_P D vwCl (w2 cI a f g n (upz b len x0) (len + 1) 0 at_ fl va so ma) H := hP
      have hD : va_D A (w2 cI a f g n (upz b len x0) (len + 1) 0 at_ fl va so ma) := hD
      refine lv_aload_n hx hb dX2_append_57 rfl (lv_at hl 0 rfl) ?_
      refine va_get (D := D) (ci := 2) (v := .int (jI (((len + 1) : Nat) : Int))) (C := RX2) (T := TX2) (N := 11) hx hb hts inRX2 hown hK hP 0 rfl rfl 4 (by decide) qf91 (fun _ h9 => h9) rfl dX2_append_58 ?_
      subst hz
      exact xi_i hx hb hr hlocks hK hP hD hS rfl rfl dX2_append_61
    · rw [if_pos c28] at hz
      refine lv_aload_n hx hb dX2_append_31 rfl (lv_at hl 0 rfl) ?_
      refine lv_iconst (v := jI 2) hx hb dX2_append_32 rfl ?_
      refine xc_I (As := [.int (jI 2)]) (rest := []) hSx (m_X2_fails l D cI a f g n b len 0 at_ fl va so ma 2 ) (cwV 1 hts gX2_append_X2_fails rfl rfl rfl (by decide +kernel) ⟨Nat.le_of_ble_eq_true rfl, Nat.le_of_ble_eq_true rfl⟩) hP hD hS hA hK 0 rfl rfl rfl rfl hl.1 rfl (Nat.le_of_ble_eq_true rfl) dX2_append_33 ⟨Nat.zero_le _, Nat.zero_le _⟩ (fun H locs hP hD hS => ?_)
      subst hz
      exact xi_i hx hb hr hlocks hK hP hD hS rfl rfl dX2_append_36
  · rw [if_pos c13] at hz
    refine lv_aload_n hx hb dX2_append_16 rfl (lv_at hl 0 rfl) ?_
    refine lv_iconst (v := jI 1) hx hb dX2_append_17 rfl ?_
    refine xc_I (As := [.int (jI 1)]) (rest := []) hSx (m_X2_fails l D cI a f g n b len 0 at_ fl va so ma 1 ) (cwV 1 hts gX2_append_X2_fails rfl rfl rfl (by decide +kernel) ⟨Nat.le_of_ble_eq_true rfl, Nat.le_of_ble_eq_true rfl⟩) hP hD hS hA hK 0 rfl rfl rfl rfl hl.1 rfl (Nat.le_of_ble_eq_true rfl) dX2_append_18 ⟨Nat.zero_le _, Nat.zero_le _⟩ (fun H locs hP hD hS => ?_)
    subst hz
    exact xi_i hx hb hr hlocks hK hP hD hS rfl rfl dX2_append_21
