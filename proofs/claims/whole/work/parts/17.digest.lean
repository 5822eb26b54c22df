def s_X1_punctuality (f : Nat → Int) : UInt64 := if ((f 6) + (f 10)) = 0 then FP.dconst1 else (FP.ddiv (FP.i2d (jI (f 7))) (FP.i2d (jI ((f 6) + (f 10)))))
abbrev rm_X1_punctuality : Room := { frames := 0, cells := 0, slots := 0, locals := 0 }
set_option maxHeartbeats 4000000 in
set_option maxRecDepth 100000 in
theorem m_X1_punctuality (l : Launch) (D : va_G) (cI : ClassId) (a : Nat → Nat) (f : Nat → Int) (g : Nat → Int) (n : Nat) (b : Nat → Int) (len : Nat) (kd : Nat → Int) (sg : Nat → Int) (nb : Nat → Int) (pt : Nat) (hs1 : 0 ≤ f 7 ∧ f 7 ≤ f 6) (hs2 : 0 ≤ f 10 ∧ f 6 + f 10 ≤ 512) : MetRd l yX1_punctuality wsX1_punctuality rm_X1_punctuality D cI [.ref (a 0)] (w1 cI a f g n b len kd sg nb pt) (s_X1_punctuality f) := by
  refine xe_Rd (cc := cX1_punctuality) (maxL := 2) (ret := (some .double)) (by decide) rfl (Nat.le_of_ble_eq_true rfl) ?_
  intro p e s m below meth c hx hb hr hml hts hown hlocks hP hK ls hl
  have hl : lv_has ls 2 [(0, .ref (a 0))] := hl
  have hown : s.vm.findClass RX1 = some m.cls := hown
  have hSx : CallFix p m c cX1_punctuality 2 s ([.ref (a 0)] : List Value).toArray wsX1_punctuality RX1 := ⟨hx, hb, hml, hown, hts⟩
  have inRX1 : ∀ w ∈ u_ws RX1 TX1 6, w ∈ wsX1_punctuality := by decide +kernel
  have qf9 := hts (.fieldLink RX1 9 "VaultMovements" "now" "[I") (by decide +kernel)
  obtain ⟨z, hz⟩ : ∃ z, z = (s_X1_punctuality f) := ⟨_, rfl⟩
  rw [← hz]
  unfold s_X1_punctuality at hz
  refine lv_aload_n hx hb dX1_punctuality_0 rfl (lv_at hl 0 rfl) ?_
  refine va_get (D := D) (ci := 1) (v := .ref (a 1)) (C := RX1) (T := TX1) (N := 6) hx hb hts inRX1 hown hK hP 0 rfl rfl 0 (by decide) qf9 (fun _ h9 => h9) rfl dX1_punctuality_1 ?_
  refine lv_bipush (v := jI 6) hx hb dX1_punctuality_4 (by decide) ?_
  refine x_iald hx hb hK hP 1 0 rfl rfl 6 rfl (by decide) (by decide) dX1_punctuality_6 ?_
  refine lv_aload_n hx hb dX1_punctuality_7 rfl (lv_at hl 0 rfl) ?_
  refine va_get (D := D) (ci := 1) (v := .ref (a 1)) (C := RX1) (T := TX1) (N := 6) hx hb hts inRX1 hown hK hP 0 rfl rfl 0 (by decide) qf9 (fun _ h9 => h9) rfl dX1_punctuality_8 ?_
  refine lv_bipush (v := jI 10) hx hb dX1_punctuality_11 (by decide) ?_
  refine x_iald hx hb hK hP 1 0 rfl rfl 10 rfl (by decide) (by decide) dX1_punctuality_13 ?_
  refine x_iadd hx hb dX1_punctuality_14 ?_
  refine lv_istore_n (lv' := [(1, .int (jI ((f 6) + (f 10)))), (0, .ref (a 0))]) hx hb dX1_punctuality_15 rfl hl (by decide) rfl (fun ls hl => ?_)
  refine lv_iload_n hx hb dX1_punctuality_16 rfl (lv_at hl 0 rfl) ?_
  refine x_if_ne (tgt := 24) hx hb dX1_punctuality_17 (by decide) (by omega) (fun c17 => ?_) (fun c17 => ?_)
  · rw [if_neg c17] at hz
    refine lv_aload_n hx hb dX1_punctuality_24 rfl (lv_at hl 1 rfl) ?_
    refine va_get (D := D) (ci := 1) (v := .ref (a 1)) (C := RX1) (T := TX1) (N := 6) hx hb hts inRX1 hown hK hP 0 rfl rfl 0 (by decide) qf9 (fun _ h9 => h9) rfl dX1_punctuality_25 ?_
    refine lv_bipush (v := jI 7) hx hb dX1_punctuality_28 (by decide) ?_
    refine x_iald hx hb hK hP 1 0 rfl rfl 7 rfl (by decide) (by decide) dX1_punctuality_30 ?_
    refine lv_i2d hx hb dX1_punctuality_31 ?_
    refine lv_iload_n hx hb dX1_punctuality_32 rfl (lv_at hl 0 rfl) ?_
    refine lv_i2d hx hb dX1_punctuality_33 ?_
    refine lv_ddiv hx hb dX1_punctuality_34 (shr_n64 (shr_of _ _ (by omega) (by omega) (by omega) (by omega))) ?_
    subst hz
    exact xr_d hx hb hr hlocks rfl dX1_punctuality_35
  · rw [if_pos c17] at hz
    refine lv_dconst1 hx hb dX1_punctuality_20 ?_
    refine lv_goto (tgt := 35) hx hb dX1_punctuality_21 (by decide) ?_
    subst hz
    exact xr_d hx hb hr hlocks rfl dX1_punctuality_35
theorem shr_X1 (f : Nat → Int) (hs1 : 0 ≤ f 7 ∧ f 7 ≤ f 6) (hs2 : 0 ≤ f 10 ∧ f 6 + f 10 ≤ 512) : shr (s_X1_punctuality f) := by
  unfold s_X1_punctuality
  split
  · exact shr_1
  · exact shr_of _ _ (by omega) (by omega) (by omega) (by omega)
def s_X2_share (f : Nat → Int) : UInt64 := if ((f 16) + (f 20)) = 0 then FP.dconst1 else (FP.ddiv (FP.i2d (jI (f 17))) (FP.i2d (jI ((f 16) + (f 20)))))
abbrev rm_X2_share : Room := { frames := 0, cells := 0, slots := 0, locals := 0 }
set_option maxHeartbeats 4000000 in
set_option maxRecDepth 100000 in
theorem m_X2_share (l : Launch) (D : va_G) (cI : ClassId) (a : Nat → Nat) (f : Nat → Int) (g : Nat → Int) (n : Nat) (b : Nat → Int) (len : Nat) (th : Int) (at_ : Nat) (fl : Int) (va : Int) (so : Nat → Int) (ma : Nat → Int) (hs1 : 0 ≤ f 17 ∧ f 17 ≤ f 16) (hs2 : 0 ≤ f 20 ∧ f 16 + f 20 ≤ 512) : MetRd l yX2_share wsX2_share rm_X2_share D cI [.ref (a 0)] (w2 cI a f g n b len th at_ fl va so ma) (s_X2_share f) := by
  refine xe_Rd (cc := cX2_share) (maxL := 2) (ret := (some .double)) (by decide) rfl (Nat.le_of_ble_eq_true rfl) ?_
  intro p e s m below meth c hx hb hr hml hts hown hlocks hP hK ls hl
  have hl : lv_has ls 2 [(0, .ref (a 0))] := hl
  have hown : s.vm.findClass RX2 = some m.cls := hown
  have hSx : CallFix p m c cX2_share 2 s ([.ref (a 0)] : List Value).toArray wsX2_share RX2 := ⟨hx, hb, hml, hown, hts⟩
  have inRX2 : ∀ w ∈ u_ws RX2 TX2 11, w ∈ wsX2_share := by decide +kernel
  have qf7 := hts (.fieldLink RX2 7 "VaultMovementsModel" "now" "[I") (by decide +kernel)
  obtain ⟨z, hz⟩ : ∃ z, z = (s_X2_share f) := ⟨_, rfl⟩
  rw [← hz]
  unfold s_X2_share at hz
  refine lv_aload_n hx hb dX2_share_0 rfl (lv_at hl 0 rfl) ?_
  refine va_get (D := D) (ci := 2) (v := .ref (a 1)) (C := RX2) (T := TX2) (N := 11) hx hb hts inRX2 hown hK hP 0 rfl rfl 0 (by decide) qf7 (fun _ h9 => h9) rfl dX2_share_1 ?_
  refine lv_bipush (v := jI 16) hx hb dX2_share_4 (by decide) ?_
  refine x_iald hx hb hK hP 1 0 rfl rfl 16 rfl (by decide) (by decide) dX2_share_6 ?_
  refine lv_aload_n hx hb dX2_share_7 rfl (lv_at hl 0 rfl) ?_
  refine va_get (D := D) (ci := 2) (v := .ref (a 1)) (C := RX2) (T := TX2) (N := 11) hx hb hts inRX2 hown hK hP 0 rfl rfl 0 (by decide) qf7 (fun _ h9 => h9) rfl dX2_share_8 ?_
  refine lv_bipush (v := jI 20) hx hb dX2_share_11 (by decide) ?_
  refine x_iald hx hb hK hP 1 0 rfl rfl 20 rfl (by decide) (by decide) dX2_share_13 ?_
  refine x_iadd hx hb dX2_share_14 ?_
  refine lv_istore_n (lv' := [(1, .int (jI ((f 16) + (f 20)))), (0, .ref (a 0))]) hx hb dX2_share_15 rfl hl (by decide) rfl (fun ls hl => ?_)
  refine lv_iload_n hx hb dX2_share_16 rfl (lv_at hl 0 rfl) ?_
  refine x_if_ne (tgt := 24) hx hb dX2_share_17 (by decide) (by omega) (fun c17 => ?_) (fun c17 => ?_)
  · rw [if_neg c17] at hz
    refine lv_aload_n hx hb dX2_share_24 rfl (lv_at hl 1 rfl) ?_
    refine va_get (D := D) (ci := 2) (v := .ref (a 1)) (C := RX2) (T := TX2) (N := 11) hx hb hts inRX2 hown hK hP 0 rfl rfl 0 (by decide) qf7 (fun _ h9 => h9) rfl dX2_share_25 ?_
    refine lv_bipush (v := jI 17) hx hb dX2_share_28 (by decide) ?_
    refine x_iald hx hb hK hP 1 0 rfl rfl 17 rfl (by decide) (by decide) dX2_share_30 ?_
    refine lv_i2d hx hb dX2_share_31 ?_
    refine lv_iload_n hx hb dX2_share_32 rfl (lv_at hl 0 rfl) ?_
    refine lv_i2d hx hb dX2_share_33 ?_
    refine lv_ddiv hx hb dX2_share_34 (shr_n64 (shr_of _ _ (by omega) (by omega) (by omega) (by omega))) ?_
    subst hz
    exact xr_d hx hb hr hlocks rfl dX2_share_35
  · rw [if_pos c17] at hz
    refine lv_dconst1 hx hb dX2_share_20 ?_
    refine lv_goto (tgt := 35) hx hb dX2_share_21 (by decide) ?_
    subst hz
    exact xr_d hx hb hr hlocks rfl dX2_share_35
theorem shr_X2 (f : Nat → Int) (hs1 : 0 ≤ f 17 ∧ f 17 ≤ f 16) (hs2 : 0 ≤ f 20 ∧ f 16 + f 20 ≤ 512) : shr (s_X2_share f) := by
  unfold s_X2_share
  split
  · exact shr_1
  · exact shr_of _ _ (by omega) (by omega) (by omega) (by omega)
def s_X2_punctuality (f : Nat → Int) : UInt64 × Int := ((s_X2_share f), 0)
abbrev rm_X2_punctuality : Room := { frames := 1, cells := 0, slots := 0, locals := 21 }
set_option maxHeartbeats 4000000 in
set_option maxRecDepth 100000 in
theorem m_X2_punctuality (l : Launch) (D : va_G) (cI : ClassId) (a : Nat → Nat) (f : Nat → Int) (g : Nat → Int) (n : Nat) (b : Nat → Int) (len : Nat) (th : Int) (at_ : Nat) (fl : Int) (va : Int) (so : Nat → Int) (ma : Nat → Int) (hs1 : 0 ≤ f 17 ∧ f 17 ≤ f 16) (hs2 : 0 ≤ f 20 ∧ f 16 + f 20 ≤ 512) : MetId l yX2_punctuality wsX2_punctuality rm_X2_punctuality D cI [.ref (a 0)] (w2 cI a f g n b len th at_ fl va so ma) (w2 cI a f g n b len ((s_X2_punctuality f).2) at_ fl va so ma) ((s_X2_punctuality f).1) := by
  refine xe_Id (cc := cX2_punctuality) (maxL := 1) (ret := (some .double)) (by decide) rfl (Nat.le_of_ble_eq_true rfl) ?_
  intro p e s m below meth c hx hb hr hml hts hown hlocks hP hK A hA hD hS ls hl
  have hl : lv_has ls 1 [(0, .ref (a 0))] := hl
  have hown : s.vm.findClass RX2 = some m.cls := hown
  have hSx : CallFix p m c cX2_punctuality 1 s ([.ref (a 0)] : List Value).toArray wsX2_punctuality RX2 := ⟨hx, hb, hml, hown, hts⟩
  have inRX2 : ∀ w ∈ u_ws RX2 TX2 11, w ∈ wsX2_punctuality := by decide +kernel
  have qf25 := hts (.fieldLink RX2 25 "VaultMovementsModel" "thrown" "I") (by decide +kernel)
  obtain ⟨z, hz⟩ : ∃ z, z = (s_X2_punctuality f) := ⟨_, rfl⟩
  rw [← hz]
  unfold s_X2_punctuality at hz
  refine lv_aload_n hx hb dX2_punctuality_0 rfl (lv_at hl 0 rfl) ?_
  refine lv_iconst (v := jI 0) hx hb dX2_punctuality_1 rfl ?_
  refine va_put (D := D) (ci := 2) (v := .int (jI 0)) (ty := .int) (C := RX2) (T := TX2) (N := 11) hx hb hts inRX2 tyX2 tyX2_ok nmX2 hown hK hP hD hS 0 rfl rfl 5 (by decide) qf25 (fun _ h9 => h9) rfl (by decide +kernel) rfl rfl (Nat.le_of_ble_eq_true rfl) dX2_punctuality_2 (fun H locs hP hD hS => ?_)
  have hP : va_P D vwCl (w2 cI a f g n b len 0 at_ fl va so ma) H := hP
  have hD : va_D A (w2 cI a f g n b len 0 at_ fl va so ma) := hD
  refine lv_aload_n hx hb dX2_punctuality_5 rfl (lv_at hl 0 rfl) ?_
  refine xc_Rd (As := []) (rest := []) hSx (m_X2_share l D cI a f g n b len 0 at_ fl va so ma  (by omega) (by omega)) (cwV 0 hts gX2_punctuality_X2_share rfl rfl rfl (by decide +kernel) ⟨Nat.le_of_ble_eq_true rfl, Nat.le_of_ble_eq_true rfl⟩) hP hK 0 rfl rfl rfl rfl hl.1 rfl (Nat.le_of_ble_eq_true rfl) dX2_punctuality_6 ⟨Nat.zero_le _, Nat.zero_le _⟩ ?_
  subst hz
  exact xi_d hx hb hr hlocks hK hP hD hS rfl rfl dX2_punctuality_9
def s_X1_digest_lp6 (f : Nat → Int) (n : Nat) : Nat → Nat → Int64 → Int64
  | 0, _, _ => default
  | k + 1, i, h => if 14 < (i : Int) then h else (s_X1_digest_lp6 f n k (i + 1) (((31) * h) + ((jI (s_X1_number f n i)).toInt64)))
def s_X1_digest_lp33 (f : Nat → Int) : Nat → Nat → Int64 → Int64
  | 0, _, _ => default
  | k + 1, i, h => if 3 ≤ (i : Int) then h else (s_X1_digest_lp33 f k (i + 1) (((31) * h) + ((jI (f (11 + i))).toInt64)))
def s_X1_digest_lp63 (f : Nat → Int) : Nat → Nat → Int64 → Int64
  | 0, _, _ => default
  | k + 1, i, h => if 7 ≤ (i : Int) then h else (s_X1_digest_lp63 f k (i + 1) (((31) * h) + ((jI (f (14 + i))).toInt64)))
def s_X1_digest_lp102 (f : Nat → Int) (i : Nat) : Nat → Nat → Int64 → Int64
  | 0, _, _ => default
  | k2 + 1, i2, h => if 5 < (i2 : Int) then h else (s_X1_digest_lp102 f i k2 (i2 + 1) (((31) * h) + ((jI (s_X1_property f i i2)).toInt64)))
def s_X1_digest_lp94 (f : Nat → Int) : Nat → Nat → Int64 → Int64
  | 0, _, _ => default
  | k + 1, i, h => if 3 ≤ (i : Int) then h else (s_X1_digest_lp94 f k (i + 1) (((31) * (s_X1_digest_lp102 f i (6 + 1 - 0) 0 h)) + ((jI (s_X1_hoursToWind f i)).toInt64)))
def s_X1_digest_lp212 (b : Nat → Int) (len : Nat) : Nat → Nat → Int64 → Int64
  | 0, _, _ => default
  | k + 1, i, h => if (len : Int) ≤ (i : Int) then h else (s_X1_digest_lp212 b len k (i + 1) (((31) * h) + ((jI (b i)).toInt64)))
def s_X1_digest (f : Nat → Int) (n : Nat) (b : Nat → Int) (len : Nat) : Int64 := (s_X1_digest_lp212 b len (len + 1 - 0) 0 (((31) * (((31) * (((31) * (((31) * (((31) * (s_X1_digest_lp94 f (3 + 1 - 0) 0 (s_X1_digest_lp63 f (7 + 1 - 0) 0 (s_X1_digest_lp33 f (3 + 1 - 0) 0 (s_X1_digest_lp6 f n (15 + 1 - 0) 0 (2699)))))) + ((jI (s_X1_hoursToOpen f (-1))).toInt64))) + ((jI (s_X1_lateness f)).toInt64))) + ((jI (s_X1_keyMovement f)).toInt64))) + (((s_X1_punctuality f)).toInt64))) + ((jI (len : Int)).toInt64)))
abbrev rm_X1_digest : Room := { frames := 4, cells := 0, slots := 0, locals := 106 }
set_option maxHeartbeats 4000000 in
set_option maxRecDepth 100000 in
theorem m_X1_digest (l : Launch) (D : va_G) (cI : ClassId) (a : Nat → Nat) (f : Nat → Int) (g : Nat → Int) (n : Nat) (b : Nat → Int) (len : Nat) (kd : Nat → Int) (sg : Nat → Int) (nb : Nat → Int) (pt : Nat) (hrf : rng f) (hm : mvs f) (hh : 0 ≤ f 0 ∧ f 0 ≤ 99999) (hd : ∀ k : Nat, 14 ≤ k → k < 21 → -1 ≤ f k ∧ f k ≤ 23) (hw : 0 ≤ f 4 ∧ f 4 ≤ 100100) (hs1 : 0 ≤ f 7 ∧ f 7 ≤ f 6) (hs2 : 0 ≤ f 10 ∧ f 6 + f 10 ≤ 512) (hln : len ≤ 60) : MetRl l yX1_digest wsX1_digest rm_X1_digest D cI [.ref (a 0)] (w1 cI a f g n b len kd sg nb pt) (s_X1_digest f n b len) := by
  refine xe_Rl (cc := cX1_digest) (maxL := 5) (ret := (some .long)) (by decide) rfl (Nat.le_of_ble_eq_true rfl) ?_
  intro p e s m below meth c hx hb hr hml hts hown hlocks hP hK ls hl
  have hl : lv_has ls 5 [(0, .ref (a 0))] := hl
  have hown : s.vm.findClass RX1 = some m.cls := hown
  have hSx : CallFix p m c cX1_digest 5 s ([.ref (a 0)] : List Value).toArray wsX1_digest RX1 := ⟨hx, hb, hml, hown, hts⟩
  have inRX1 : ∀ w ∈ u_ws RX1 TX1 6, w ∈ wsX1_digest := by decide +kernel
  have qK187 := hts (.constantLong RX1 187 (2699)) (by decide +kernel)
  have qK189 := hts (.constantLong RX1 189 (31)) (by decide +kernel)
  have qf20 := hts (.fieldLink RX1 20 "VaultMovements" "buffer" "[I") (by decide +kernel)
  have qf23 := hts (.fieldLink RX1 23 "VaultMovements" "length" "I") (by decide +kernel)
  have qf9 := hts (.fieldLink RX1 9 "VaultMovements" "now" "[I") (by decide +kernel)
  obtain ⟨z, hz⟩ : ∃ z, z = (s_X1_digest f n b len) := ⟨_, rfl⟩
  rw [← hz]
  unfold s_X1_digest at hz
  refine lv_ldc2 hx hb hown qK187 dX1_digest_0 ?_
  refine lv_lstore_n (lv' := [(1, .long (2699)), (0, .ref (a 0))]) hx hb dX1_digest_3 rfl hl (by decide) rfl (fun ls hl => ?_)
  refine lv_iconst (v := jI 0) hx hb dX1_digest_4 rfl ?_
  refine lv_istore_n (lv' := [(3, .int (jI 0)), (1, .long (2699)), (0, .ref (a 0))]) hx hb dX1_digest_5 rfl hl (by decide) rfl (fun ls hl => ?_)
  have LP6 : ∀ (k i : Nat) (h : Int64) (ls : Array Slot), i ≤ 15 → i + k = 15 + 1 → lv_has ls 5 [(0, .ref (a 0)), (1, .long h), (3, .int (jI (i : Int)))] → (∀ (z9 : Int64) (ls : Array Slot), z9 = s_X1_digest_lp6 f n k i h → lv_has ls 5 [(0, .ref (a 0)), (1, .long z9)] → W p l e rm_X1_digest s m ([.ref (a 0)] : List Value).toArray below meth c s.heap [] 0 0 (MQ below (vp_Sl (fun x => x = z)) ([.ref (a 0)] : List Value).toArray s 0 0 (fun _ => False)) (F0 m 31 ls [])) → W p l e rm_X1_digest s m ([.ref (a 0)] : List Value).toArray below meth c s.heap [] 0 0 (MQ below (vp_Sl (fun x => x = z)) ([.ref (a 0)] : List Value).toArray s 0 0 (fun _ => False)) (F0 m 6 ls []) := by
    intro k
    induction k with
    | zero => intro i h ls h1 h2; exact absurd h2 (by omega)
    | succ k ih6 =>
      intro i h ls h16 h26 hl hk6
      refine lv_iload_n hx hb dX1_digest_6 rfl (lv_at hl 2 rfl) ?_
      refine lv_bipush (v := jI 14) hx hb dX1_digest_7 (by decide) ?_
      refine x_icmp_gt (tgt := 31) hx hb dX1_digest_9 (by decide) ⟨(by omega), (by decide)⟩ (fun c9 => ?_) (fun c9 => ?_)
      · skip
        exact hk6 _ ls (by rw [s_X1_digest_lp6, if_pos c9]) (lv_sub hl [0, 1] rfl)
      · skip
        refine lv_ldc2 hx hb hown qK189 dX1_digest_12 ?_
        refine lv_lload_n hx hb dX1_digest_15 rfl (lv_at hl 1 rfl) ?_
        refine lv_lmul hx hb dX1_digest_16 ?_
        refine lv_aload_n hx hb dX1_digest_17 rfl (lv_at hl 0 rfl) ?_
        refine lv_iload_n hx hb dX1_digest_18 rfl (lv_at hl 2 rfl) ?_
        refine xc_R (As := [.int (jI (i : Int))]) (rest := [.long ((31) * h)]) hSx (m_X1_number l D cI a f g n b len kd sg nb pt i (by omega) (by omega) (by omega) (by omega) (by omega)) (cwV 1 hts gX1_digest_X1_number rfl rfl rfl (by decide +kernel) ⟨Nat.le_of_ble_eq_true rfl, Nat.le_of_ble_eq_true rfl⟩) hP hK 0 rfl rfl rfl rfl hl.1 rfl (Nat.le_of_ble_eq_true rfl) dX1_digest_19 ⟨Nat.zero_le _, Nat.zero_le _⟩ ?_
        refine lv_i2l hx hb dX1_digest_22 rfl ?_
        refine lv_ladd hx hb dX1_digest_23 ?_
        refine lv_lstore_n (lv' := [(1, .long (((31) * h) + ((jI (s_X1_number f n i)).toInt64))), (0, .ref (a 0)), (3, .int (jI (i : Int)))]) hx hb dX1_digest_24 rfl hl (by decide) rfl (fun ls hl => ?_)
        refine lv_iinc (v := jI ((i + 1 : Nat) : Int)) (lv' := [(3, .int (jI ((i + 1 : Nat) : Int))), (1, .long (((31) * h) + ((jI (s_X1_number f n i)).toInt64))), (0, .ref (a 0))]) hx hb dX1_digest_25 hl (k := 2) rfl (jI_inc _ 1) (by decide) rfl (fun ls hl => ?_)
        refine lv_goto (tgt := 6) hx hb dX1_digest_28 (by decide) ?_
        exact ih6 (i + 1) (((31) * h) + ((jI (s_X1_number f n i)).toInt64)) ls (by omega) (by omega) (lv_sub hl [2, 1, 0] rfl) (fun z9 ls hz9 hl => hk6 z9 ls (by rw [hz9, s_X1_digest_lp6, if_neg c9]) hl)
  refine LP6 (15 + 1 - 0) 0 (2699) ls (by omega) (by omega) (lv_sub hl [2, 1, 0] rfl) (fun z9 ls hz9 hl => ?_)
  subst hz9
  refine lv_iconst (v := jI 0) hx hb dX1_digest_31 rfl ?_
  refine lv_istore_n (lv' := [(3, .int (jI 0)), (0, .ref (a 0)), (1, .long (s_X1_digest_lp6 f n (15 + 1 - 0) 0 (2699)))]) hx hb dX1_digest_32 rfl hl (by decide) rfl (fun ls hl => ?_)
  have LP33 : ∀ (k i : Nat) (h : Int64) (ls : Array Slot), i ≤ 3 → i + k = 3 + 1 → lv_has ls 5 [(0, .ref (a 0)), (1, .long h), (3, .int (jI (i : Int)))] → (∀ (z9 : Int64) (ls : Array Slot), z9 = s_X1_digest_lp33 f k i h → lv_has ls 5 [(0, .ref (a 0)), (1, .long z9)] → W p l e rm_X1_digest s m ([.ref (a 0)] : List Value).toArray below meth c s.heap [] 0 0 (MQ below (vp_Sl (fun x => x = z)) ([.ref (a 0)] : List Value).toArray s 0 0 (fun _ => False)) (F0 m 61 ls [])) → W p l e rm_X1_digest s m ([.ref (a 0)] : List Value).toArray below meth c s.heap [] 0 0 (MQ below (vp_Sl (fun x => x = z)) ([.ref (a 0)] : List Value).toArray s 0 0 (fun _ => False)) (F0 m 33 ls []) := by
    intro k
    induction k with
    | zero => intro i h ls h1 h2; exact absurd h2 (by omega)
    | succ k ih33 =>
      intro i h ls h133 h233 hl hk33
      refine lv_iload_n hx hb dX1_digest_33 rfl (lv_at hl 2 rfl) ?_
      refine lv_iconst (v := jI 3) hx hb dX1_digest_34 rfl ?_
      refine x_icmp_ge (tgt := 61) hx hb dX1_digest_35 (by decide) ⟨(by omega), (by decide)⟩ (fun c35 => ?_) (fun c35 => ?_)
      · skip
        exact hk33 _ ls (by rw [s_X1_digest_lp33, if_pos c35]) (lv_sub hl [0, 1] rfl)
      · skip
        refine lv_ldc2 hx hb hown qK189 dX1_digest_38 ?_
        refine lv_lload_n hx hb dX1_digest_41 rfl (lv_at hl 1 rfl) ?_
        refine lv_lmul hx hb dX1_digest_42 ?_
        refine lv_aload_n hx hb dX1_digest_43 rfl (lv_at hl 0 rfl) ?_
        refine va_get (D := D) (ci := 1) (v := .ref (a 1)) (C := RX1) (T := TX1) (N := 6) hx hb hts inRX1 hown hK hP 0 rfl rfl 0 (by decide) qf9 (fun _ h9 => h9) rfl dX1_digest_44 ?_
        refine lv_bipush (v := jI 11) hx hb dX1_digest_47 (by decide) ?_
        refine lv_iload_n hx hb dX1_digest_49 rfl (lv_at hl 2 rfl) ?_
        refine x_iadd hx hb dX1_digest_50 ?_
        refine x_iald hx hb hK hP 1 0 rfl rfl (11 + i) (by omega) (by omega) (by decide) dX1_digest_51 ?_
        refine lv_i2l hx hb dX1_digest_52 rfl ?_
        refine lv_ladd hx hb dX1_digest_53 ?_
        refine lv_lstore_n (lv' := [(1, .long (((31) * h) + ((jI (f (11 + i))).toInt64))), (0, .ref (a 0)), (3, .int (jI (i : Int)))]) hx hb dX1_digest_54 rfl hl (by decide) rfl (fun ls hl => ?_)
        refine lv_iinc (v := jI ((i + 1 : Nat) : Int)) (lv' := [(3, .int (jI ((i + 1 : Nat) : Int))), (1, .long (((31) * h) + ((jI (f (11 + i))).toInt64))), (0, .ref (a 0))]) hx hb dX1_digest_55 hl (k := 2) rfl (jI_inc _ 1) (by decide) rfl (fun ls hl => ?_)
        refine lv_goto (tgt := 33) hx hb dX1_digest_58 (by decide) ?_
        exact ih33 (i + 1) (((31) * h) + ((jI (f (11 + i))).toInt64)) ls (by omega) (by omega) (lv_sub hl [2, 1, 0] rfl) (fun z9 ls hz9 hl => hk33 z9 ls (by rw [hz9, s_X1_digest_lp33, if_neg c35]) hl)
  refine LP33 (3 + 1 - 0) 0 (s_X1_digest_lp6 f n (15 + 1 - 0) 0 (2699)) ls (by omega) (by omega) (lv_sub hl [1, 2, 0] rfl) (fun z9 ls hz9 hl => ?_)
  subst hz9
  refine lv_iconst (v := jI 0) hx hb dX1_digest_61 rfl ?_
  refine lv_istore_n (lv' := [(3, .int (jI 0)), (0, .ref (a 0)), (1, .long (s_X1_digest_lp33 f (3 + 1 - 0) 0 (s_X1_digest_lp6 f n (15 + 1 - 0) 0 (2699))))]) hx hb dX1_digest_62 rfl hl (by decide) rfl (fun ls hl => ?_)
  have LP63 : ∀ (k i : Nat) (h : Int64) (ls : Array Slot), i ≤ 7 → i + k = 7 + 1 → lv_has ls 5 [(0, .ref (a 0)), (1, .long h), (3, .int (jI (i : Int)))] → (∀ (z9 : Int64) (ls : Array Slot), z9 = s_X1_digest_lp63 f k i h → lv_has ls 5 [(0, .ref (a 0)), (1, .long z9)] → W p l e rm_X1_digest s m ([.ref (a 0)] : List Value).toArray below meth c s.heap [] 0 0 (MQ below (vp_Sl (fun x => x = z)) ([.ref (a 0)] : List Value).toArray s 0 0 (fun _ => False)) (F0 m 92 ls [])) → W p l e rm_X1_digest s m ([.ref (a 0)] : List Value).toArray below meth c s.heap [] 0 0 (MQ below (vp_Sl (fun x => x = z)) ([.ref (a 0)] : List Value).toArray s 0 0 (fun _ => False)) (F0 m 63 ls []) := by
    intro k
    induction k with
    | zero => intro i h ls h1 h2; exact absurd h2 (by omega)
    | succ k ih63 =>
      intro i h ls h163 h263 hl hk63
      refine lv_iload_n hx hb dX1_digest_63 rfl (lv_at hl 2 rfl) ?_
      refine lv_bipush (v := jI 7) hx hb dX1_digest_64 (by decide) ?_
      refine x_icmp_ge (tgt := 92) hx hb dX1_digest_66 (by decide) ⟨(by omega), (by decide)⟩ (fun c66 => ?_) (fun c66 => ?_)
      · skip
        exact hk63 _ ls (by rw [s_X1_digest_lp63, if_pos c66]) (lv_sub hl [0, 1] rfl)
      · skip
        refine lv_ldc2 hx hb hown qK189 dX1_digest_69 ?_
        refine lv_lload_n hx hb dX1_digest_72 rfl (lv_at hl 1 rfl) ?_
        refine lv_lmul hx hb dX1_digest_73 ?_
        refine lv_aload_n hx hb dX1_digest_74 rfl (lv_at hl 0 rfl) ?_
        refine va_get (D := D) (ci := 1) (v := .ref (a 1)) (C := RX1) (T := TX1) (N := 6) hx hb hts inRX1 hown hK hP 0 rfl rfl 0 (by decide) qf9 (fun _ h9 => h9) rfl dX1_digest_75 ?_
        refine lv_bipush (v := jI 14) hx hb dX1_digest_78 (by decide) ?_
        refine lv_iload_n hx hb dX1_digest_80 rfl (lv_at hl 2 rfl) ?_
        refine x_iadd hx hb dX1_digest_81 ?_
        refine x_iald hx hb hK hP 1 0 rfl rfl (14 + i) (by omega) (by omega) (by decide) dX1_digest_82 ?_
        refine lv_i2l hx hb dX1_digest_83 rfl ?_
        refine lv_ladd hx hb dX1_digest_84 ?_
        refine lv_lstore_n (lv' := [(1, .long (((31) * h) + ((jI (f (14 + i))).toInt64))), (0, .ref (a 0)), (3, .int (jI (i : Int)))]) hx hb dX1_digest_85 rfl hl (by decide) rfl (fun ls hl => ?_)
        refine lv_iinc (v := jI ((i + 1 : Nat) : Int)) (lv' := [(3, .int (jI ((i + 1 : Nat) : Int))), (1, .long (((31) * h) + ((jI (f (14 + i))).toInt64))), (0, .ref (a 0))]) hx hb dX1_digest_86 hl (k := 2) rfl (jI_inc _ 1) (by decide) rfl (fun ls hl => ?_)
        refine lv_goto (tgt := 63) hx hb dX1_digest_89 (by decide) ?_
        exact ih63 (i + 1) (((31) * h) + ((jI (f (14 + i))).toInt64)) ls (by omega) (by omega) (lv_sub hl [2, 1, 0] rfl) (fun z9 ls hz9 hl => hk63 z9 ls (by rw [hz9, s_X1_digest_lp63, if_neg c66]) hl)
  refine LP63 (7 + 1 - 0) 0 (s_X1_digest_lp33 f (3 + 1 - 0) 0 (s_X1_digest_lp6 f n (15 + 1 - 0) 0 (2699))) ls (by omega) (by omega) (lv_sub hl [1, 2, 0] rfl) (fun z9 ls hz9 hl => ?_)
  subst hz9
  refine lv_iconst (v := jI 0) hx hb dX1_digest_92 rfl ?_
  refine lv_istore_n (lv' := [(3, .int (jI 0)), (0, .ref (a 0)), (1, .long (s_X1_digest_lp63 f (7 + 1 - 0) 0 (s_X1_digest_lp33 f (3 + 1 - 0) 0 (s_X1_digest_lp6 f n (15 + 1 - 0) 0 (2699)))))]) hx hb dX1_digest_93 rfl hl (by decide) rfl (fun ls hl => ?_)
  have LP94 : ∀ (k i : Nat) (h : Int64) (ls : Array Slot), i ≤ 3 → i + k = 3 + 1 → lv_has ls 5 [(0, .ref (a 0)), (1, .long h), (3, .int (jI (i : Int)))] → (∀ (z9 : Int64) (ls : Array Slot), z9 = s_X1_digest_lp94 f k i h → lv_has ls 5 [(0, .ref (a 0)), (1, .long z9)] → W p l e rm_X1_digest s m ([.ref (a 0)] : List Value).toArray below meth c s.heap [] 0 0 (MQ below (vp_Sl (fun x => x = z)) ([.ref (a 0)] : List Value).toArray s 0 0 (fun _ => False)) (F0 m 148 ls [])) → W p l e rm_X1_digest s m ([.ref (a 0)] : List Value).toArray below meth c s.heap [] 0 0 (MQ below (vp_Sl (fun x => x = z)) ([.ref (a 0)] : List Value).toArray s 0 0 (fun _ => False)) (F0 m 94 ls []) := by
    intro k
    induction k with
    | zero => intro i h ls h1 h2; exact absurd h2 (by omega)
    | succ k ih94 =>
      intro i h ls h194 h294 hl hk94
      refine lv_iload_n hx hb dX1_digest_94 rfl (lv_at hl 2 rfl) ?_
      refine lv_iconst (v := jI 3) hx hb dX1_digest_95 rfl ?_
      refine x_icmp_ge (tgt := 148) hx hb dX1_digest_96 (by decide) ⟨(by omega), (by decide)⟩ (fun c96 => ?_) (fun c96 => ?_)
      · skip
        exact hk94 _ ls (by rw [s_X1_digest_lp94, if_pos c96]) (lv_sub hl [0, 1] rfl)
      · skip
        refine lv_iconst (v := jI 0) hx hb dX1_digest_99 rfl ?_
        refine lv_istore (lv' := [(4, .int (jI 0)), (0, .ref (a 0)), (1, .long h), (3, .int (jI (i : Int)))]) hx hb dX1_digest_100 hl (by decide) rfl (fun ls hl => ?_)
        have LP102 : ∀ (k2 i2 : Nat) (h : Int64) (ls : Array Slot), i2 ≤ 6 → i2 + k2 = 6 + 1 → lv_has ls 5 [(0, .ref (a 0)), (1, .long h), (3, .int (jI (i : Int))), (4, .int (jI (i2 : Int)))] → (∀ (z9 : Int64) (ls : Array Slot), z9 = s_X1_digest_lp102 f i k2 i2 h → lv_has ls 5 [(0, .ref (a 0)), (1, .long z9), (3, .int (jI (i : Int)))] → W p l e rm_X1_digest s m ([.ref (a 0)] : List Value).toArray below meth c s.heap [] 0 0 (MQ below (vp_Sl (fun x => x = z)) ([.ref (a 0)] : List Value).toArray s 0 0 (fun _ => False)) (F0 m 129 ls [])) → W p l e rm_X1_digest s m ([.ref (a 0)] : List Value).toArray below meth c s.heap [] 0 0 (MQ below (vp_Sl (fun x => x = z)) ([.ref (a 0)] : List Value).toArray s 0 0 (fun _ => False)) (F0 m 102 ls []) := by
          intro k2
          induction k2 with
          | zero => intro i2 h ls h1 h2; exact absurd h2 (by omega)
          | succ k2 ih102 =>
            intro i2 h ls h1102 h2102 hl hk102
            refine lv_iload hx hb dX1_digest_102 (lv_at hl 3 rfl) ?_
            refine lv_iconst (v := jI 5) hx hb dX1_digest_104 rfl ?_
            refine x_icmp_gt (tgt := 129) hx hb dX1_digest_105 (by decide) ⟨(by omega), (by decide)⟩ (fun c105 => ?_) (fun c105 => ?_)
            · skip
              exact hk102 _ ls (by rw [s_X1_digest_lp102, if_pos c105]) (lv_sub hl [0, 1, 2] rfl)
            · skip
              refine lv_ldc2 hx hb hown qK189 dX1_digest_108 ?_
              refine lv_lload_n hx hb dX1_digest_111 rfl (lv_at hl 1 rfl) ?_
              refine lv_lmul hx hb dX1_digest_112 ?_
              refine lv_aload_n hx hb dX1_digest_113 rfl (lv_at hl 0 rfl) ?_
              refine lv_iload_n hx hb dX1_digest_114 rfl (lv_at hl 2 rfl) ?_
              refine lv_iload hx hb dX1_digest_115 (lv_at hl 3 rfl) ?_
              refine xc_R (As := [.int (jI (i : Int)), .int (jI (i2 : Int))]) (rest := [.long ((31) * h)]) hSx (m_X1_property l D cI a f g n b len kd sg nb pt i i2 (by omega) (by omega) (by omega) (by omega)) (cwV 2 hts gX1_digest_X1_property rfl rfl rfl (by decide +kernel) ⟨Nat.le_of_ble_eq_true rfl, Nat.le_of_ble_eq_true rfl⟩) hP hK 0 rfl rfl rfl rfl hl.1 rfl (Nat.le_of_ble_eq_true rfl) dX1_digest_117 ⟨Nat.zero_le _, Nat.zero_le _⟩ ?_
              refine lv_i2l hx hb dX1_digest_120 rfl ?_
              refine lv_ladd hx hb dX1_digest_121 ?_
              refine lv_lstore_n (lv' := [(1, .long (((31) * h) + ((jI (s_X1_property f i i2)).toInt64))), (0, .ref (a 0)), (3, .int (jI (i : Int))), (4, .int (jI (i2 : Int)))]) hx hb dX1_digest_122 rfl hl (by decide) rfl (fun ls hl => ?_)
              refine lv_iinc (v := jI ((i2 + 1 : Nat) : Int)) (lv' := [(4, .int (jI ((i2 + 1 : Nat) : Int))), (1, .long (((31) * h) + ((jI (s_X1_property f i i2)).toInt64))), (0, .ref (a 0)), (3, .int (jI (i : Int)))]) hx hb dX1_digest_123 hl (k := 3) rfl (jI_inc _ 1) (by decide) rfl (fun ls hl => ?_)
              refine lv_goto (tgt := 102) hx hb dX1_digest_126 (by decide) ?_
              exact ih102 (i2 + 1) (((31) * h) + ((jI (s_X1_property f i i2)).toInt64)) ls (by omega) (by omega) (lv_sub hl [2, 1, 3, 0] rfl) (fun z9 ls hz9 hl => hk102 z9 ls (by rw [hz9, s_X1_digest_lp102, if_neg c105]) hl)
        refine LP102 (6 + 1 - 0) 0 h ls (by omega) (by omega) (lv_sub hl [1, 2, 3, 0] rfl) (fun z9 ls hz9 hl => ?_)
        subst hz9
        refine lv_ldc2 hx hb hown qK189 dX1_digest_129 ?_
        refine lv_lload_n hx hb dX1_digest_132 rfl (lv_at hl 1 rfl) ?_
        refine lv_lmul hx hb dX1_digest_133 ?_
        refine lv_aload_n hx hb dX1_digest_134 rfl (lv_at hl 0 rfl) ?_
        refine lv_iload_n hx hb dX1_digest_135 rfl (lv_at hl 2 rfl) ?_
        refine xc_R (As := [.int (jI (i : Int))]) (rest := [.long ((31) * (s_X1_digest_lp102 f i (6 + 1 - 0) 0 h))]) hSx (m_X1_hoursToWind l D cI a f g n b len kd sg nb pt i (by omega) (by omega) (by omega) (by omega) (by omega)) (cwV 1 hts gX1_digest_X1_hoursToWind rfl rfl rfl (by decide +kernel) ⟨Nat.le_of_ble_eq_true rfl, Nat.le_of_ble_eq_true rfl⟩) hP hK 0 rfl rfl rfl rfl hl.1 rfl (Nat.le_of_ble_eq_true rfl) dX1_digest_136 ⟨Nat.zero_le _, Nat.zero_le _⟩ ?_
        refine lv_i2l hx hb dX1_digest_139 rfl ?_
        refine lv_ladd hx hb dX1_digest_140 ?_
        refine lv_lstore_n (lv' := [(1, .long (((31) * (s_X1_digest_lp102 f i (6 + 1 - 0) 0 h)) + ((jI (s_X1_hoursToWind f i)).toInt64))), (0, .ref (a 0)), (3, .int (jI (i : Int)))]) hx hb dX1_digest_141 rfl hl (by decide) rfl (fun ls hl => ?_)
        refine lv_iinc (v := jI ((i + 1 : Nat) : Int)) (lv' := [(3, .int (jI ((i + 1 : Nat) : Int))), (1, .long (((31) * (s_X1_digest_lp102 f i (6 + 1 - 0) 0 h)) + ((jI (s_X1_hoursToWind f i)).toInt64))), (0, .ref (a 0))]) hx hb dX1_digest_142 hl (k := 2) rfl (jI_inc _ 1) (by decide) rfl (fun ls hl => ?_)
        refine lv_goto (tgt := 94) hx hb dX1_digest_145 (by decide) ?_
        exact ih94 (i + 1) (((31) * (s_X1_digest_lp102 f i (6 + 1 - 0) 0 h)) + ((jI (s_X1_hoursToWind f i)).toInt64)) ls (by omega) (by omega) (lv_sub hl [2, 1, 0] rfl) (fun z9 ls hz9 hl => hk94 z9 ls (by rw [hz9, s_X1_digest_lp94, if_neg c96]) hl)
  refine LP94 (3 + 1 - 0) 0 (s_X1_digest_lp63 f (7 + 1 - 0) 0 (s_X1_digest_lp33 f (3 + 1 - 0) 0 (s_X1_digest_lp6 f n (15 + 1 - 0) 0 (2699)))) ls (by omega) (by omega) (lv_sub hl [1, 2, 0] rfl) (fun z9 ls hz9 hl => ?_)
  subst hz9
  refine lv_ldc2 hx hb hown qK189 dX1_digest_148 ?_
  refine lv_lload_n hx hb dX1_digest_151 rfl (lv_at hl 1 rfl) ?_
  refine lv_lmul hx hb dX1_digest_152 ?_
  refine lv_aload_n hx hb dX1_digest_153 rfl (lv_at hl 0 rfl) ?_
  refine xc_R (As := []) (rest := [.long ((31) * (s_X1_digest_lp94 f (3 + 1 - 0) 0 (s_X1_digest_lp63 f (7 + 1 - 0) 0 (s_X1_digest_lp33 f (3 + 1 - 0) 0 (s_X1_digest_lp6 f n (15 + 1 - 0) 0 (2699))))))]) hSx (m_X1_opensIn l D cI a f g n b len kd sg nb pt  (by omega) (by omega) (by omega) (by omega)) (cwV 0 hts gX1_digest_X1_opensIn rfl rfl rfl (by decide +kernel) ⟨Nat.le_of_ble_eq_true rfl, Nat.le_of_ble_eq_true rfl⟩) hP hK 0 rfl rfl rfl rfl hl.1 rfl (Nat.le_of_ble_eq_true rfl) dX1_digest_154 ⟨Nat.zero_le _, Nat.zero_le _⟩ ?_
  refine lv_i2l hx hb dX1_digest_157 rfl ?_
  refine lv_ladd hx hb dX1_digest_158 ?_
  refine lv_lstore_n (lv' := [(1, .long (((31) * (s_X1_digest_lp94 f (3 + 1 - 0) 0 (s_X1_digest_lp63 f (7 + 1 - 0) 0 (s_X1_digest_lp33 f (3 + 1 - 0) 0 (s_X1_digest_lp6 f n (15 + 1 - 0) 0 (2699)))))) + ((jI (s_X1_hoursToOpen f (-1))).toInt64))), (0, .ref (a 0))]) hx hb dX1_digest_159 rfl hl (by decide) rfl (fun ls hl => ?_)
  refine lv_ldc2 hx hb hown qK189 dX1_digest_160 ?_
  refine lv_lload_n hx hb dX1_digest_163 rfl (lv_at hl 0 rfl) ?_
  refine lv_lmul hx hb dX1_digest_164 ?_
  refine lv_aload_n hx hb dX1_digest_165 rfl (lv_at hl 1 rfl) ?_
  refine xc_R (As := []) (rest := [.long ((31) * (((31) * (s_X1_digest_lp94 f (3 + 1 - 0) 0 (s_X1_digest_lp63 f (7 + 1 - 0) 0 (s_X1_digest_lp33 f (3 + 1 - 0) 0 (s_X1_digest_lp6 f n (15 + 1 - 0) 0 (2699)))))) + ((jI (s_X1_hoursToOpen f (-1))).toInt64)))]) hSx (m_X1_lateness l D cI a f g n b len kd sg nb pt  (by omega) (by omega) (by omega) (by omega)) (cwV 0 hts gX1_digest_X1_lateness rfl rfl rfl (by decide +kernel) ⟨Nat.le_of_ble_eq_true rfl, Nat.le_of_ble_eq_true rfl⟩) hP hK 0 rfl rfl rfl rfl hl.1 rfl (Nat.le_of_ble_eq_true rfl) dX1_digest_166 ⟨Nat.zero_le _, Nat.zero_le _⟩ ?_
  refine lv_i2l hx hb dX1_digest_169 rfl ?_
  refine lv_ladd hx hb dX1_digest_170 ?_
  refine lv_lstore_n (lv' := [(1, .long (((31) * (((31) * (s_X1_digest_lp94 f (3 + 1 - 0) 0 (s_X1_digest_lp63 f (7 + 1 - 0) 0 (s_X1_digest_lp33 f (3 + 1 - 0) 0 (s_X1_digest_lp6 f n (15 + 1 - 0) 0 (2699)))))) + ((jI (s_X1_hoursToOpen f (-1))).toInt64))) + ((jI (s_X1_lateness f)).toInt64))), (0, .ref (a 0))]) hx hb dX1_digest_171 rfl hl (by decide) rfl (fun ls hl => ?_)
  refine lv_ldc2 hx hb hown qK189 dX1_digest_172 ?_
  refine lv_lload_n hx hb dX1_digest_175 rfl (lv_at hl 0 rfl) ?_
  refine lv_lmul hx hb dX1_digest_176 ?_
  refine lv_aload_n hx hb dX1_digest_177 rfl (lv_at hl 1 rfl) ?_
  refine xc_R (As := []) (rest := [.long ((31) * (((31) * (((31) * (s_X1_digest_lp94 f (3 + 1 - 0) 0 (s_X1_digest_lp63 f (7 + 1 - 0) 0 (s_X1_digest_lp33 f (3 + 1 - 0) 0 (s_X1_digest_lp6 f n (15 + 1 - 0) 0 (2699)))))) + ((jI (s_X1_hoursToOpen f (-1))).toInt64))) + ((jI (s_X1_lateness f)).toInt64)))]) hSx (m_X1_keyMovement l D cI a f g n b len kd sg nb pt  (by omega) (by omega) (by omega) (by omega)) (cwV 0 hts gX1_digest_X1_keyMovement rfl rfl rfl (by decide +kernel) ⟨Nat.le_of_ble_eq_true rfl, Nat.le_of_ble_eq_true rfl⟩) hP hK 0 rfl rfl rfl rfl hl.1 rfl (Nat.le_of_ble_eq_true rfl) dX1_digest_178 ⟨Nat.zero_le _, Nat.zero_le _⟩ ?_
  refine lv_i2l hx hb dX1_digest_181 rfl ?_
  refine lv_ladd hx hb dX1_digest_182 ?_
  refine lv_lstore_n (lv' := [(1, .long (((31) * (((31) * (((31) * (s_X1_digest_lp94 f (3 + 1 - 0) 0 (s_X1_digest_lp63 f (7 + 1 - 0) 0 (s_X1_digest_lp33 f (3 + 1 - 0) 0 (s_X1_digest_lp6 f n (15 + 1 - 0) 0 (2699)))))) + ((jI (s_X1_hoursToOpen f (-1))).toInt64))) + ((jI (s_X1_lateness f)).toInt64))) + ((jI (s_X1_keyMovement f)).toInt64))), (0, .ref (a 0))]) hx hb dX1_digest_183 rfl hl (by decide) rfl (fun ls hl => ?_)
  refine lv_ldc2 hx hb hown qK189 dX1_digest_184 ?_
  refine lv_lload_n hx hb dX1_digest_187 rfl (lv_at hl 0 rfl) ?_
  refine lv_lmul hx hb dX1_digest_188 ?_
  refine lv_aload_n hx hb dX1_digest_189 rfl (lv_at hl 1 rfl) ?_
  refine xc_Rd (As := []) (rest := [.long ((31) * (((31) * (((31) * (((31) * (s_X1_digest_lp94 f (3 + 1 - 0) 0 (s_X1_digest_lp63 f (7 + 1 - 0) 0 (s_X1_digest_lp33 f (3 + 1 - 0) 0 (s_X1_digest_lp6 f n (15 + 1 - 0) 0 (2699)))))) + ((jI (s_X1_hoursToOpen f (-1))).toInt64))) + ((jI (s_X1_lateness f)).toInt64))) + ((jI (s_X1_keyMovement f)).toInt64)))]) hSx (m_X1_punctuality l D cI a f g n b len kd sg nb pt  (by omega) (by omega)) (cwV 0 hts gX1_digest_X1_punctuality rfl rfl rfl (by decide +kernel) ⟨Nat.le_of_ble_eq_true rfl, Nat.le_of_ble_eq_true rfl⟩) hP hK 0 rfl rfl rfl rfl hl.1 rfl (Nat.le_of_ble_eq_true rfl) dX1_digest_190 ⟨Nat.zero_le _, Nat.zero_le _⟩ ?_
  refine xc_Pl (As := [.double (s_X1_punctuality f)]) (rest := [.long ((31) * (((31) * (((31) * (((31) * (s_X1_digest_lp94 f (3 + 1 - 0) 0 (s_X1_digest_lp63 f (7 + 1 - 0) 0 (s_X1_digest_lp33 f (3 + 1 - 0) 0 (s_X1_digest_lp6 f n (15 + 1 - 0) 0 (2699)))))) + ((jI (s_X1_hoursToOpen f (-1))).toInt64))) + ((jI (s_X1_lateness f)).toInt64))) + ((jI (s_X1_keyMovement f)).toInt64)))]) hSx (m_X1_bitsOfShare l (s_X1_punctuality f) (shr_X1 f hs1 hs2)) (va_cwS 1 hts gX1_digest_X1_bitsOfShare rfl rfl rfl (by decide +kernel) ⟨Nat.le_of_ble_eq_true rfl, Nat.le_of_ble_eq_true rfl⟩) rfl hl.1 rfl (Nat.le_of_ble_eq_true rfl) dX1_digest_193 ⟨Nat.zero_le _, Nat.zero_le _⟩ ?_
  refine lv_ladd hx hb dX1_digest_196 ?_
  refine lv_lstore_n (lv' := [(1, .long (((31) * (((31) * (((31) * (((31) * (s_X1_digest_lp94 f (3 + 1 - 0) 0 (s_X1_digest_lp63 f (7 + 1 - 0) 0 (s_X1_digest_lp33 f (3 + 1 - 0) 0 (s_X1_digest_lp6 f n (15 + 1 - 0) 0 (2699)))))) + ((jI (s_X1_hoursToOpen f (-1))).toInt64))) + ((jI (s_X1_lateness f)).toInt64))) + ((jI (s_X1_keyMovement f)).toInt64))) + (((s_X1_punctuality f)).toInt64))), (0, .ref (a 0))]) hx hb dX1_digest_197 rfl hl (by decide) rfl (fun ls hl => ?_)
  refine lv_ldc2 hx hb hown qK189 dX1_digest_198 ?_
  refine lv_lload_n hx hb dX1_digest_201 rfl (lv_at hl 0 rfl) ?_
  refine lv_lmul hx hb dX1_digest_202 ?_
  refine lv_aload_n hx hb dX1_digest_203 rfl (lv_at hl 1 rfl) ?_
  refine va_get (D := D) (ci := 1) (v := .int (jI (len : Int))) (C := RX1) (T := TX1) (N := 6) hx hb hts inRX1 hown hK hP 0 rfl rfl 4 (by decide) qf23 (fun _ h9 => h9) rfl dX1_digest_204 ?_
  refine lv_i2l hx hb dX1_digest_207 rfl ?_
  refine lv_ladd hx hb dX1_digest_208 ?_
  refine lv_lstore_n (lv' := [(1, .long (((31) * (((31) * (((31) * (((31) * (((31) * (s_X1_digest_lp94 f (3 + 1 - 0) 0 (s_X1_digest_lp63 f (7 + 1 - 0) 0 (s_X1_digest_lp33 f (3 + 1 - 0) 0 (s_X1_digest_lp6 f n (15 + 1 - 0) 0 (2699)))))) + ((jI (s_X1_hoursToOpen f (-1))).toInt64))) + ((jI (s_X1_lateness f)).toInt64))) + ((jI (s_X1_keyMovement f)).toInt64))) + (((s_X1_punctuality f)).toInt64))) + ((jI (len : Int)).toInt64))), (0, .ref (a 0))]) hx hb dX1_digest_209 rfl hl (by decide) rfl (fun ls hl => ?_)
  refine lv_iconst (v := jI 0) hx hb dX1_digest_210 rfl ?_
  refine lv_istore_n (lv' := [(3, .int (jI 0)), (1, .long (((31) * (((31) * (((31) * (((31) * (((31) * (s_X1_digest_lp94 f (3 + 1 - 0) 0 (s_X1_digest_lp63 f (7 + 1 - 0) 0 (s_X1_digest_lp33 f (3 + 1 - 0) 0 (s_X1_digest_lp6 f n (15 + 1 - 0) 0 (2699)))))) + ((jI (s_X1_hoursToOpen f (-1))).toInt64))) + ((jI (s_X1_lateness f)).toInt64))) + ((jI (s_X1_keyMovement f)).toInt64))) + (((s_X1_punctuality f)).toInt64))) + ((jI (len : Int)).toInt64))), (0, .ref (a 0))]) hx hb dX1_digest_211 rfl hl (by decide) rfl (fun ls hl => ?_)
  have LP212 : ∀ (k i : Nat) (h : Int64) (ls : Array Slot), i ≤ len → i + k = len + 1 → lv_has ls 5 [(0, .ref (a 0)), (1, .long h), (3, .int (jI (i : Int)))] → (∀ (z9 : Int64) (ls : Array Slot), z9 = s_X1_digest_lp212 b len k i h → lv_has ls 5 [(0, .ref (a 0)), (1, .long z9)] → W p l e rm_X1_digest s m ([.ref (a 0)] : List Value).toArray below meth c s.heap [] 0 0 (MQ below (vp_Sl (fun x => x = z)) ([.ref (a 0)] : List Value).toArray s 0 0 (fun _ => False)) (F0 m 240 ls [])) → W p l e rm_X1_digest s m ([.ref (a 0)] : List Value).toArray below meth c s.heap [] 0 0 (MQ below (vp_Sl (fun x => x = z)) ([.ref (a 0)] : List Value).toArray s 0 0 (fun _ => False)) (F0 m 212 ls []) := by
    intro k
    induction k with
    | zero => intro i h ls h1 h2; exact absurd h2 (by omega)
    | succ k ih212 =>
      intro i h ls h1212 h2212 hl hk212
      refine lv_iload_n hx hb dX1_digest_212 rfl (lv_at hl 2 rfl) ?_
      refine lv_aload_n hx hb dX1_digest_213 rfl (lv_at hl 0 rfl) ?_
      refine va_get (D := D) (ci := 1) (v := .int (jI (len : Int))) (C := RX1) (T := TX1) (N := 6) hx hb hts inRX1 hown hK hP 0 rfl rfl 4 (by decide) qf23 (fun _ h9 => h9) rfl dX1_digest_214 ?_
      refine x_icmp_ge (tgt := 240) hx hb dX1_digest_217 (by decide) ⟨(by omega), (by omega)⟩ (fun c217 => ?_) (fun c217 => ?_)
      · skip
        exact hk212 _ ls (by rw [s_X1_digest_lp212, if_pos c217]) (lv_sub hl [0, 1] rfl)
      · skip
        refine lv_ldc2 hx hb hown qK189 dX1_digest_220 ?_
        refine lv_lload_n hx hb dX1_digest_223 rfl (lv_at hl 1 rfl) ?_
        refine lv_lmul hx hb dX1_digest_224 ?_
        refine lv_aload_n hx hb dX1_digest_225 rfl (lv_at hl 0 rfl) ?_
        refine va_get (D := D) (ci := 1) (v := .ref (a 3)) (C := RX1) (T := TX1) (N := 6) hx hb hts inRX1 hown hK hP 0 rfl rfl 3 (by decide) qf20 (fun _ h9 => h9) rfl dX1_digest_226 ?_
        refine lv_iload_n hx hb dX1_digest_229 rfl (lv_at hl 2 rfl) ?_
        refine x_iald hx hb hK hP 3 0 rfl rfl i (by omega) (by omega) (by decide) dX1_digest_230 ?_
        refine lv_i2l hx hb dX1_digest_231 rfl ?_
        refine lv_ladd hx hb dX1_digest_232 ?_
        refine lv_lstore_n (lv' := [(1, .long (((31) * h) + ((jI (b i)).toInt64))), (0, .ref (a 0)), (3, .int (jI (i : Int)))]) hx hb dX1_digest_233 rfl hl (by decide) rfl (fun ls hl => ?_)
        refine lv_iinc (v := jI ((i + 1 : Nat) : Int)) (lv' := [(3, .int (jI ((i + 1 : Nat) : Int))), (1, .long (((31) * h) + ((jI (b i)).toInt64))), (0, .ref (a 0))]) hx hb dX1_digest_234 hl (k := 2) rfl (jI_inc _ 1) (by decide) rfl (fun ls hl => ?_)
        refine lv_goto (tgt := 212) hx hb dX1_digest_237 (by decide) ?_
        exact ih212 (i + 1) (((31) * h) + ((jI (b i)).toInt64)) ls (by omega) (by omega) (lv_sub hl [2, 1, 0] rfl) (fun z9 ls hz9 hl => hk212 z9 ls (by rw [hz9, s_X1_digest_lp212, if_neg c217]) hl)
  refine LP212 (len + 1 - 0) 0 (((31) * (((31) * (((31) * (((31) * (((31) * (s_X1_digest_lp94 f (3 + 1 - 0) 0 (s_X1_digest_lp63 f (7 + 1 - 0) 0 (s_X1_digest_lp33 f (3 + 1 - 0) 0 (s_X1_digest_lp6 f n (15 + 1 - 0) 0 (2699)))))) + ((jI (s_X1_hoursToOpen f (-1))).toInt64))) + ((jI (s_X1_lateness f)).toInt64))) + ((jI (s_X1_keyMovement f)).toInt64))) + (((s_X1_punctuality f)).toInt64))) + ((jI (len : Int)).toInt64)) ls (by omega) (by omega) (lv_sub hl [2, 1, 0] rfl) (fun z9 ls hz9 hl => ?_)
  subst hz9
  refine lv_lload_n hx hb dX1_digest_240 rfl (lv_at hl 1 rfl) ?_
  subst hz
  exact xr_l hx hb hr hlocks rfl dX1_digest_241
def s_X2_digest_lp11 (f : Nat → Int) (n : Nat) : Nat → Nat → Int64 → Int64
  | 0, _, _ => default
  | k + 1, i, h => if 15 ≤ (i : Int) then h else (s_X2_digest_lp11 f n k (i + 1) (((31) * h) + ((jI (s_X2_counted f n i)).toInt64)))
def s_X2_digest_lp38 (f : Nat → Int) : Nat → Nat → Int64 → Int64
  | 0, _, _ => default
  | k + 1, i, h => if 3 ≤ (i : Int) then h else (s_X2_digest_lp38 f k (i + 1) (((31) * h) + ((jI (f (8 + i))).toInt64)))
def s_X2_digest_lp68 (f : Nat → Int) : Nat → Nat → Int64 → Int64
  | 0, _, _ => default
  | k + 1, i, h => if 7 ≤ (i : Int) then h else (s_X2_digest_lp68 f k (i + 1) (((31) * h) + ((jI (f (1 + i))).toInt64)))
def s_X2_digest_lp106 (f : Nat → Int) (i : Nat) : Nat → Nat → Int64 → Int64
  | 0, _, _ => default
  | k2 + 1, i2, h => if 6 ≤ (i2 : Int) then h else (s_X2_digest_lp106 f i k2 (i2 + 1) (((31) * h) + ((jI (s_X2_ofMovement f i i2)).toInt64)))
def s_X2_digest_lp98 (f : Nat → Int) : Nat → Nat → Int64 → Int64
  | 0, _, _ => default
  | k + 1, i, h => if 3 ≤ (i : Int) then h else (s_X2_digest_lp98 f k (i + 1) (((31) * (s_X2_digest_lp106 f i (6 + 1 - 0) 0 h)) + ((jI (s_X2_right f i)).toInt64)))
def s_X2_digest_lp214 (b : Nat → Int) (len : Nat) : Nat → Nat → Int64 → Int64
  | 0, _, _ => default
  | k + 1, i, h => if (len : Int) ≤ (i : Int) then h else (s_X2_digest_lp214 b len k (i + 1) (((31) * h) + ((jI (b i)).toInt64)))
def s_X2_digest (f : Nat → Int) (n : Nat) (b : Nat → Int) (len : Nat) : Int64 × Int := ((s_X2_digest_lp214 b len (len + 1 - 0) 0 (((31) * (((31) * (((31) * (((31) * (((31) * (s_X2_digest_lp98 f (3 + 1 - 0) 0 (s_X2_digest_lp68 f (7 + 1 - 0) 0 (s_X2_digest_lp38 f (3 + 1 - 0) 0 (s_X2_digest_lp11 f n (15 + 1 - 0) 0 (2699)))))) + ((jI (s_X2_opensBut f (-1))).toInt64))) + ((jI (s_X2_late f)).toInt64))) + ((jI (s_X2_key f)).toInt64))) + (((s_X2_share f)).toInt64))) + ((jI (len : Int)).toInt64))), 0)
abbrev rm_X2_digest : Room := { frames := 4, cells := 0, slots := 0, locals := 91 }
set_option maxHeartbeats 4000000 in
set_option maxRecDepth 100000 in
theorem m_X2_digest (l : Launch) (D : va_G) (cI : ClassId) (a : Nat → Nat) (f : Nat → Int) (g : Nat → Int) (n : Nat) (b : Nat → Int) (len : Nat) (th : Int) (at_ : Nat) (fl : Int) (va : Int) (so : Nat → Int) (ma : Nat → Int) (hrf : rng f) (hm : mv2 f) (hh : 0 ≤ f 0 ∧ f 0 ≤ 99999) (hw : 0 ≤ f 14 ∧ f 14 ≤ 100100) (hs1 : 0 ≤ f 17 ∧ f 17 ≤ f 16) (hs2 : 0 ≤ f 20 ∧ f 16 + f 20 ≤ 512) (hln : len ≤ 60) : MetIl l yX2_digest wsX2_digest rm_X2_digest D cI [.ref (a 0)] (w2 cI a f g n b len th at_ fl va so ma) (w2 cI a f g n b len ((s_X2_digest f n b len).2) at_ fl va so ma) ((s_X2_digest f n b len).1) := by
  refine xe_Il (cc := cX2_digest) (maxL := 5) (ret := (some .long)) (by decide) rfl (Nat.le_of_ble_eq_true rfl) ?_
  intro p e s m below meth c hx hb hr hml hts hown hlocks hP hK A hA hD hS ls hl
  have hl : lv_has ls 5 [(0, .ref (a 0))] := hl
  have hown : s.vm.findClass RX2 = some m.cls := hown
  have hSx : CallFix p m c cX2_digest 5 s ([.ref (a 0)] : List Value).toArray wsX2_digest RX2 := ⟨hx, hb, hml, hown, hts⟩
  have inRX2 : ∀ w ∈ u_ws RX2 TX2 11, w ∈ wsX2_digest := by decide +kernel
  have qK148 := hts (.constantLong RX2 148 (2699)) (by decide +kernel)
  have qK150 := hts (.constantLong RX2 150 (31)) (by decide +kernel)
  have qf16 := hts (.fieldLink RX2 16 "VaultMovementsModel" "text" "[I") (by decide +kernel)
  have qf25 := hts (.fieldLink RX2 25 "VaultMovementsModel" "thrown" "I") (by decide +kernel)
  have qf7 := hts (.fieldLink RX2 7 "VaultMovementsModel" "now" "[I") (by decide +kernel)
  have qf91 := hts (.fieldLink RX2 91 "VaultMovementsModel" "typed" "I") (by decide +kernel)
  obtain ⟨z, hz⟩ : ∃ z, z = (s_X2_digest f n b len) := ⟨_, rfl⟩
  rw [← hz]
  unfold s_X2_digest at hz
  refine lv_aload_n hx hb dX2_digest_0 rfl (lv_at hl 0 rfl) ?_
  refine lv_iconst (v := jI 0) hx hb dX2_digest_1 rfl ?_
  refine va_put (D := D) (ci := 2) (v := .int (jI 0)) (ty := .int) (C := RX2) (T := TX2) (N := 11) hx hb hts inRX2 tyX2 tyX2_ok nmX2 hown hK hP hD hS 0 rfl rfl 5 (by decide) qf25 (fun _ h9 => h9) rfl (by decide +kernel) rfl rfl (Nat.le_of_ble_eq_true rfl) dX2_digest_2 (fun H locs hP hD hS => ?_)
  have hP : va_P D vwCl (w2 cI a f g n b len 0 at_ fl va so ma) H := hP
  have hD : va_D A (w2 cI a f g n b len 0 at_ fl va so ma) := hD
  refine lv_ldc2 hx hb hown qK148 dX2_digest_5 ?_
  refine lv_lstore_n (lv' := [(1, .long (2699)), (0, .ref (a 0))]) hx hb dX2_digest_8 rfl hl (by decide) rfl (fun ls hl => ?_)
  refine lv_iconst (v := jI 0) hx hb dX2_digest_9 rfl ?_
  refine lv_istore_n (lv' := [(3, .int (jI 0)), (1, .long (2699)), (0, .ref (a 0))]) hx hb dX2_digest_10 rfl hl (by decide) rfl (fun ls hl => ?_)
  have LP11 : ∀ (k i : Nat) (h : Int64) (ls : Array Slot), i ≤ 15 → i + k = 15 + 1 → lv_has ls 5 [(0, .ref (a 0)), (1, .long h), (3, .int (jI (i : Int)))] → (∀ (z9 : Int64) (ls : Array Slot), z9 = s_X2_digest_lp11 f n k i h → lv_has ls 5 [(0, .ref (a 0)), (1, .long z9)] → W p l e rm_X2_digest s m ([.ref (a 0)] : List Value).toArray below meth c H locs 0 0 (MQ below (va_Ql (fun x (_ : Unit) => x = z.1) (xq_B D cI A (w2 cI a f g n b len z.2 at_ fl va so ma)) A) ([.ref (a 0)] : List Value).toArray s 0 0 A) (F0 m 36 ls [])) → W p l e rm_X2_digest s m ([.ref (a 0)] : List Value).toArray below meth c H locs 0 0 (MQ below (va_Ql (fun x (_ : Unit) => x = z.1) (xq_B D cI A (w2 cI a f g n b len z.2 at_ fl va so ma)) A) ([.ref (a 0)] : List Value).toArray s 0 0 A) (F0 m 11 ls []) := by
    intro k
    induction k with
    | zero => intro i h ls h1 h2; exact absurd h2 (by omega)
    | succ k ih11 =>
      intro i h ls h111 h211 hl hk11
      refine lv_iload_n hx hb dX2_digest_11 rfl (lv_at hl 2 rfl) ?_
      refine lv_bipush (v := jI 15) hx hb dX2_digest_12 (by decide) ?_
      refine x_icmp_ge (tgt := 36) hx hb dX2_digest_14 (by decide) ⟨(by omega), (by decide)⟩ (fun c14 => ?_) (fun c14 => ?_)
      · skip
        exact hk11 _ ls (by rw [s_X2_digest_lp11, if_pos c14]) (lv_sub hl [0, 1] rfl)
      · skip
        refine lv_ldc2 hx hb hown qK150 dX2_digest_17 ?_
        refine lv_lload_n hx hb dX2_digest_20 rfl (lv_at hl 1 rfl) ?_
        refine lv_lmul hx hb dX2_digest_21 ?_
        refine lv_aload_n hx hb dX2_digest_22 rfl (lv_at hl 0 rfl) ?_
        refine lv_iload_n hx hb dX2_digest_23 rfl (lv_at hl 2 rfl) ?_
        refine xc_R (As := [.int (jI (i : Int))]) (rest := [.long ((31) * h)]) hSx (m_X2_counted l D cI a f g n b len 0 at_ fl va so ma i (by omega) (by omega) (by omega) (by omega)) (cwV 1 hts gX2_digest_X2_counted rfl rfl rfl (by decide +kernel) ⟨Nat.le_of_ble_eq_true rfl, Nat.le_of_ble_eq_true rfl⟩) hP hK 0 rfl rfl rfl rfl hl.1 rfl (Nat.le_of_ble_eq_true rfl) dX2_digest_24 ⟨Nat.zero_le _, Nat.zero_le _⟩ ?_
        refine lv_i2l hx hb dX2_digest_27 rfl ?_
        refine lv_ladd hx hb dX2_digest_28 ?_
        refine lv_lstore_n (lv' := [(1, .long (((31) * h) + ((jI (s_X2_counted f n i)).toInt64))), (0, .ref (a 0)), (3, .int (jI (i : Int)))]) hx hb dX2_digest_29 rfl hl (by decide) rfl (fun ls hl => ?_)
        refine lv_iinc (v := jI ((i + 1 : Nat) : Int)) (lv' := [(3, .int (jI ((i + 1 : Nat) : Int))), (1, .long (((31) * h) + ((jI (s_X2_counted f n i)).toInt64))), (0, .ref (a 0))]) hx hb dX2_digest_30 hl (k := 2) rfl (jI_inc _ 1) (by decide) rfl (fun ls hl => ?_)
        refine lv_goto (tgt := 11) hx hb dX2_digest_33 (by decide) ?_
        exact ih11 (i + 1) (((31) * h) + ((jI (s_X2_counted f n i)).toInt64)) ls (by omega) (by omega) (lv_sub hl [2, 1, 0] rfl) (fun z9 ls hz9 hl => hk11 z9 ls (by rw [hz9, s_X2_digest_lp11, if_neg c14]) hl)
  refine LP11 (15 + 1 - 0) 0 (2699) ls (by omega) (by omega) (lv_sub hl [2, 1, 0] rfl) (fun z9 ls hz9 hl => ?_)
  subst hz9
  refine lv_iconst (v := jI 0) hx hb dX2_digest_36 rfl ?_
  refine lv_istore_n (lv' := [(3, .int (jI 0)), (0, .ref (a 0)), (1, .long (s_X2_digest_lp11 f n (15 + 1 - 0) 0 (2699)))]) hx hb dX2_digest_37 rfl hl (by decide) rfl (fun ls hl => ?_)
  have LP38 : ∀ (k i : Nat) (h : Int64) (ls : Array Slot), i ≤ 3 → i + k = 3 + 1 → lv_has ls 5 [(0, .ref (a 0)), (1, .long h), (3, .int (jI (i : Int)))] → (∀ (z9 : Int64) (ls : Array Slot), z9 = s_X2_digest_lp38 f k i h → lv_has ls 5 [(0, .ref (a 0)), (1, .long z9)] → W p l e rm_X2_digest s m ([.ref (a 0)] : List Value).toArray below meth c H locs 0 0 (MQ below (va_Ql (fun x (_ : Unit) => x = z.1) (xq_B D cI A (w2 cI a f g n b len z.2 at_ fl va so ma)) A) ([.ref (a 0)] : List Value).toArray s 0 0 A) (F0 m 66 ls [])) → W p l e rm_X2_digest s m ([.ref (a 0)] : List Value).toArray below meth c H locs 0 0 (MQ below (va_Ql (fun x (_ : Unit) => x = z.1) (xq_B D cI A (w2 cI a f g n b len z.2 at_ fl va so ma)) A) ([.ref (a 0)] : List Value).toArray s 0 0 A) (F0 m 38 ls []) := by
    intro k
    induction k with
    | zero => intro i h ls h1 h2; exact absurd h2 (by omega)
    | succ k ih38 =>
      intro i h ls h138 h238 hl hk38
      refine lv_iload_n hx hb dX2_digest_38 rfl (lv_at hl 2 rfl) ?_
      refine lv_iconst (v := jI 3) hx hb dX2_digest_39 rfl ?_
      refine x_icmp_ge (tgt := 66) hx hb dX2_digest_40 (by decide) ⟨(by omega), (by decide)⟩ (fun c40 => ?_) (fun c40 => ?_)
      · skip
        exact hk38 _ ls (by rw [s_X2_digest_lp38, if_pos c40]) (lv_sub hl [0, 1] rfl)
      · skip
        refine lv_ldc2 hx hb hown qK150 dX2_digest_43 ?_
        refine lv_lload_n hx hb dX2_digest_46 rfl (lv_at hl 1 rfl) ?_
        refine lv_lmul hx hb dX2_digest_47 ?_
        refine lv_aload_n hx hb dX2_digest_48 rfl (lv_at hl 0 rfl) ?_
        refine va_get (D := D) (ci := 2) (v := .ref (a 1)) (C := RX2) (T := TX2) (N := 11) hx hb hts inRX2 hown hK hP 0 rfl rfl 0 (by decide) qf7 (fun _ h9 => h9) rfl dX2_digest_49 ?_
        refine lv_bipush (v := jI 8) hx hb dX2_digest_52 (by decide) ?_
        refine lv_iload_n hx hb dX2_digest_54 rfl (lv_at hl 2 rfl) ?_
        refine x_iadd hx hb dX2_digest_55 ?_
        refine x_iald hx hb hK hP 1 0 rfl rfl (8 + i) (by omega) (by omega) (by decide) dX2_digest_56 ?_
        refine lv_i2l hx hb dX2_digest_57 rfl ?_
        refine lv_ladd hx hb dX2_digest_58 ?_
        refine lv_lstore_n (lv' := [(1, .long (((31) * h) + ((jI (f (8 + i))).toInt64))), (0, .ref (a 0)), (3, .int (jI (i : Int)))]) hx hb dX2_digest_59 rfl hl (by decide) rfl (fun ls hl => ?_)
        refine lv_iinc (v := jI ((i + 1 : Nat) : Int)) (lv' := [(3, .int (jI ((i + 1 : Nat) : Int))), (1, .long (((31) * h) + ((jI (f (8 + i))).toInt64))), (0, .ref (a 0))]) hx hb dX2_digest_60 hl (k := 2) rfl (jI_inc _ 1) (by decide) rfl (fun ls hl => ?_)
        refine lv_goto (tgt := 38) hx hb dX2_digest_63 (by decide) ?_
        exact ih38 (i + 1) (((31) * h) + ((jI (f (8 + i))).toInt64)) ls (by omega) (by omega) (lv_sub hl [2, 1, 0] rfl) (fun z9 ls hz9 hl => hk38 z9 ls (by rw [hz9, s_X2_digest_lp38, if_neg c40]) hl)
  refine LP38 (3 + 1 - 0) 0 (s_X2_digest_lp11 f n (15 + 1 - 0) 0 (2699)) ls (by omega) (by omega) (lv_sub hl [1, 2, 0] rfl) (fun z9 ls hz9 hl => ?_)
  subst hz9
  refine lv_iconst (v := jI 0) hx hb dX2_digest_66 rfl ?_
  refine lv_istore_n (lv' := [(3, .int (jI 0)), (0, .ref (a 0)), (1, .long (s_X2_digest_lp38 f (3 + 1 - 0) 0 (s_X2_digest_lp11 f n (15 + 1 - 0) 0 (2699))))]) hx hb dX2_digest_67 rfl hl (by decide) rfl (fun ls hl => ?_)
  have LP68 : ∀ (k i : Nat) (h : Int64) (ls : Array Slot), i ≤ 7 → i + k = 7 + 1 → lv_has ls 5 [(0, .ref (a 0)), (1, .long h), (3, .int (jI (i : Int)))] → (∀ (z9 : Int64) (ls : Array Slot), z9 = s_X2_digest_lp68 f k i h → lv_has ls 5 [(0, .ref (a 0)), (1, .long z9)] → W p l e rm_X2_digest s m ([.ref (a 0)] : List Value).toArray below meth c H locs 0 0 (MQ below (va_Ql (fun x (_ : Unit) => x = z.1) (xq_B D cI A (w2 cI a f g n b len z.2 at_ fl va so ma)) A) ([.ref (a 0)] : List Value).toArray s 0 0 A) (F0 m 96 ls [])) → W p l e rm_X2_digest s m ([.ref (a 0)] : List Value).toArray below meth c H locs 0 0 (MQ below (va_Ql (fun x (_ : Unit) => x = z.1) (xq_B D cI A (w2 cI a f g n b len z.2 at_ fl va so ma)) A) ([.ref (a 0)] : List Value).toArray s 0 0 A) (F0 m 68 ls []) := by
    intro k
    induction k with
    | zero => intro i h ls h1 h2; exact absurd h2 (by omega)
    | succ k ih68 =>
      intro i h ls h168 h268 hl hk68
      refine lv_iload_n hx hb dX2_digest_68 rfl (lv_at hl 2 rfl) ?_
      refine lv_bipush (v := jI 7) hx hb dX2_digest_69 (by decide) ?_
      refine x_icmp_ge (tgt := 96) hx hb dX2_digest_71 (by decide) ⟨(by omega), (by decide)⟩ (fun c71 => ?_) (fun c71 => ?_)
      · skip
        exact hk68 _ ls (by rw [s_X2_digest_lp68, if_pos c71]) (lv_sub hl [0, 1] rfl)
      · skip
        refine lv_ldc2 hx hb hown qK150 dX2_digest_74 ?_
        refine lv_lload_n hx hb dX2_digest_77 rfl (lv_at hl 1 rfl) ?_
        refine lv_lmul hx hb dX2_digest_78 ?_
        refine lv_aload_n hx hb dX2_digest_79 rfl (lv_at hl 0 rfl) ?_
        refine va_get (D := D) (ci := 2) (v := .ref (a 1)) (C := RX2) (T := TX2) (N := 11) hx hb hts inRX2 hown hK hP 0 rfl rfl 0 (by decide) qf7 (fun _ h9 => h9) rfl dX2_digest_80 ?_
        refine lv_iconst (v := jI 1) hx hb dX2_digest_83 rfl ?_
        refine lv_iload_n hx hb dX2_digest_84 rfl (lv_at hl 2 rfl) ?_
        refine x_iadd hx hb dX2_digest_85 ?_
        refine x_iald hx hb hK hP 1 0 rfl rfl (1 + i) (by omega) (by omega) (by decide) dX2_digest_86 ?_
        refine lv_i2l hx hb dX2_digest_87 rfl ?_
        refine lv_ladd hx hb dX2_digest_88 ?_
        refine lv_lstore_n (lv' := [(1, .long (((31) * h) + ((jI (f (1 + i))).toInt64))), (0, .ref (a 0)), (3, .int (jI (i : Int)))]) hx hb dX2_digest_89 rfl hl (by decide) rfl (fun ls hl => ?_)
        refine lv_iinc (v := jI ((i + 1 : Nat) : Int)) (lv' := [(3, .int (jI ((i + 1 : Nat) : Int))), (1, .long (((31) * h) + ((jI (f (1 + i))).toInt64))), (0, .ref (a 0))]) hx hb dX2_digest_90 hl (k := 2) rfl (jI_inc _ 1) (by decide) rfl (fun ls hl => ?_)
        refine lv_goto (tgt := 68) hx hb dX2_digest_93 (by decide) ?_
        exact ih68 (i + 1) (((31) * h) + ((jI (f (1 + i))).toInt64)) ls (by omega) (by omega) (lv_sub hl [2, 1, 0] rfl) (fun z9 ls hz9 hl => hk68 z9 ls (by rw [hz9, s_X2_digest_lp68, if_neg c71]) hl)
  refine LP68 (7 + 1 - 0) 0 (s_X2_digest_lp38 f (3 + 1 - 0) 0 (s_X2_digest_lp11 f n (15 + 1 - 0) 0 (2699))) ls (by omega) (by omega) (lv_sub hl [1, 2, 0] rfl) (fun z9 ls hz9 hl => ?_)
  subst hz9
  refine lv_iconst (v := jI 0) hx hb dX2_digest_96 rfl ?_
  refine lv_istore_n (lv' := [(3, .int (jI 0)), (0, .ref (a 0)), (1, .long (s_X2_digest_lp68 f (7 + 1 - 0) 0 (s_X2_digest_lp38 f (3 + 1 - 0) 0 (s_X2_digest_lp11 f n (15 + 1 - 0) 0 (2699)))))]) hx hb dX2_digest_97 rfl hl (by decide) rfl (fun ls hl => ?_)
  have LP98 : ∀ (k i : Nat) (h : Int64) (ls : Array Slot), i ≤ 3 → i + k = 3 + 1 → lv_has ls 5 [(0, .ref (a 0)), (1, .long h), (3, .int (jI (i : Int)))] → (∀ (z9 : Int64) (ls : Array Slot), z9 = s_X2_digest_lp98 f k i h → lv_has ls 5 [(0, .ref (a 0)), (1, .long z9)] → W p l e rm_X2_digest s m ([.ref (a 0)] : List Value).toArray below meth c H locs 0 0 (MQ below (va_Ql (fun x (_ : Unit) => x = z.1) (xq_B D cI A (w2 cI a f g n b len z.2 at_ fl va so ma)) A) ([.ref (a 0)] : List Value).toArray s 0 0 A) (F0 m 153 ls [])) → W p l e rm_X2_digest s m ([.ref (a 0)] : List Value).toArray below meth c H locs 0 0 (MQ below (va_Ql (fun x (_ : Unit) => x = z.1) (xq_B D cI A (w2 cI a f g n b len z.2 at_ fl va so ma)) A) ([.ref (a 0)] : List Value).toArray s 0 0 A) (F0 m 98 ls []) := by
    intro k
    induction k with
    | zero => intro i h ls h1 h2; exact absurd h2 (by omega)
    | succ k ih98 =>
      intro i h ls h198 h298 hl hk98
      refine lv_iload_n hx hb dX2_digest_98 rfl (lv_at hl 2 rfl) ?_
      refine lv_iconst (v := jI 3) hx hb dX2_digest_99 rfl ?_
      refine x_icmp_ge (tgt := 153) hx hb dX2_digest_100 (by decide) ⟨(by omega), (by decide)⟩ (fun c100 => ?_) (fun c100 => ?_)
      · skip
        exact hk98 _ ls (by rw [s_X2_digest_lp98, if_pos c100]) (lv_sub hl [0, 1] rfl)
      · skip
        refine lv_iconst (v := jI 0) hx hb dX2_digest_103 rfl ?_
        refine lv_istore (lv' := [(4, .int (jI 0)), (0, .ref (a 0)), (1, .long h), (3, .int (jI (i : Int)))]) hx hb dX2_digest_104 hl (by decide) rfl (fun ls hl => ?_)
        have LP106 : ∀ (k2 i2 : Nat) (h : Int64) (ls : Array Slot), i2 ≤ 6 → i2 + k2 = 6 + 1 → lv_has ls 5 [(0, .ref (a 0)), (1, .long h), (3, .int (jI (i : Int))), (4, .int (jI (i2 : Int)))] → (∀ (z9 : Int64) (ls : Array Slot), z9 = s_X2_digest_lp106 f i k2 i2 h → lv_has ls 5 [(0, .ref (a 0)), (1, .long z9), (3, .int (jI (i : Int)))] → W p l e rm_X2_digest s m ([.ref (a 0)] : List Value).toArray below meth c H locs 0 0 (MQ below (va_Ql (fun x (_ : Unit) => x = z.1) (xq_B D cI A (w2 cI a f g n b len z.2 at_ fl va so ma)) A) ([.ref (a 0)] : List Value).toArray s 0 0 A) (F0 m 134 ls [])) → W p l e rm_X2_digest s m ([.ref (a 0)] : List Value).toArray below meth c H locs 0 0 (MQ below (va_Ql (fun x (_ : Unit) => x = z.1) (xq_B D cI A (w2 cI a f g n b len z.2 at_ fl va so ma)) A) ([.ref (a 0)] : List Value).toArray s 0 0 A) (F0 m 106 ls []) := by
          intro k2
          induction k2 with
          | zero => intro i2 h ls h1 h2; exact absurd h2 (by omega)
          | succ k2 ih106 =>
            intro i2 h ls h1106 h2106 hl hk106
            refine lv_iload hx hb dX2_digest_106 (lv_at hl 3 rfl) ?_
            refine lv_bipush (v := jI 6) hx hb dX2_digest_108 (by decide) ?_
            refine x_icmp_ge (tgt := 134) hx hb dX2_digest_110 (by decide) ⟨(by omega), (by decide)⟩ (fun c110 => ?_) (fun c110 => ?_)
            · skip
              exact hk106 _ ls (by rw [s_X2_digest_lp106, if_pos c110]) (lv_sub hl [0, 1, 2] rfl)
            · skip
              refine lv_ldc2 hx hb hown qK150 dX2_digest_113 ?_
              refine lv_lload_n hx hb dX2_digest_116 rfl (lv_at hl 1 rfl) ?_
              refine lv_lmul hx hb dX2_digest_117 ?_
              refine lv_aload_n hx hb dX2_digest_118 rfl (lv_at hl 0 rfl) ?_
              refine lv_iload_n hx hb dX2_digest_119 rfl (lv_at hl 2 rfl) ?_
              refine lv_iload hx hb dX2_digest_120 (lv_at hl 3 rfl) ?_
              refine xc_R (As := [.int (jI (i : Int)), .int (jI (i2 : Int))]) (rest := [.long ((31) * h)]) hSx (m_X2_ofMovement l D cI a f g n b len 0 at_ fl va so ma i i2 (by omega) (by omega) (by omega) (by omega)) (cwV 2 hts gX2_digest_X2_ofMovement rfl rfl rfl (by decide +kernel) ⟨Nat.le_of_ble_eq_true rfl, Nat.le_of_ble_eq_true rfl⟩) hP hK 0 rfl rfl rfl rfl hl.1 rfl (Nat.le_of_ble_eq_true rfl) dX2_digest_122 ⟨Nat.zero_le _, Nat.zero_le _⟩ ?_
              refine lv_i2l hx hb dX2_digest_125 rfl ?_
              refine lv_ladd hx hb dX2_digest_126 ?_
              refine lv_lstore_n (lv' := [(1, .long (((31) * h) + ((jI (s_X2_ofMovement f i i2)).toInt64))), (0, .ref (a 0)), (3, .int (jI (i : Int))), (4, .int (jI (i2 : Int)))]) hx hb dX2_digest_127 rfl hl (by decide) rfl (fun ls hl => ?_)
              refine lv_iinc (v := jI ((i2 + 1 : Nat) : Int)) (lv' := [(4, .int (jI ((i2 + 1 : Nat) : Int))), (1, .long (((31) * h) + ((jI (s_X2_ofMovement f i i2)).toInt64))), (0, .ref (a 0)), (3, .int (jI (i : Int)))]) hx hb dX2_digest_128 hl (k := 3) rfl (jI_inc _ 1) (by decide) rfl (fun ls hl => ?_)
              refine lv_goto (tgt := 106) hx hb dX2_digest_131 (by decide) ?_
              exact ih106 (i2 + 1) (((31) * h) + ((jI (s_X2_ofMovement f i i2)).toInt64)) ls (by omega) (by omega) (lv_sub hl [2, 1, 3, 0] rfl) (fun z9 ls hz9 hl => hk106 z9 ls (by rw [hz9, s_X2_digest_lp106, if_neg c110]) hl)
        refine LP106 (6 + 1 - 0) 0 h ls (by omega) (by omega) (lv_sub hl [1, 2, 3, 0] rfl) (fun z9 ls hz9 hl => ?_)
        subst hz9
        refine lv_ldc2 hx hb hown qK150 dX2_digest_134 ?_
        refine lv_lload_n hx hb dX2_digest_137 rfl (lv_at hl 1 rfl) ?_
        refine lv_lmul hx hb dX2_digest_138 ?_
        refine lv_aload_n hx hb dX2_digest_139 rfl (lv_at hl 0 rfl) ?_
        refine lv_iload_n hx hb dX2_digest_140 rfl (lv_at hl 2 rfl) ?_
        refine xc_R (As := [.int (jI (i : Int))]) (rest := [.long ((31) * (s_X2_digest_lp106 f i (6 + 1 - 0) 0 h))]) hSx (m_X2_right l D cI a f g n b len 0 at_ fl va so ma i (by omega) (by omega) (by omega) (by omega)) (cwV 1 hts gX2_digest_X2_right rfl rfl rfl (by decide +kernel) ⟨Nat.le_of_ble_eq_true rfl, Nat.le_of_ble_eq_true rfl⟩) hP hK 0 rfl rfl rfl rfl hl.1 rfl (Nat.le_of_ble_eq_true rfl) dX2_digest_141 ⟨Nat.zero_le _, Nat.zero_le _⟩ ?_
        refine lv_i2l hx hb dX2_digest_144 rfl ?_
        refine lv_ladd hx hb dX2_digest_145 ?_
        refine lv_lstore_n (lv' := [(1, .long (((31) * (s_X2_digest_lp106 f i (6 + 1 - 0) 0 h)) + ((jI (s_X2_right f i)).toInt64))), (0, .ref (a 0)), (3, .int (jI (i : Int)))]) hx hb dX2_digest_146 rfl hl (by decide) rfl (fun ls hl => ?_)
        refine lv_iinc (v := jI ((i + 1 : Nat) : Int)) (lv' := [(3, .int (jI ((i + 1 : Nat) : Int))), (1, .long (((31) * (s_X2_digest_lp106 f i (6 + 1 - 0) 0 h)) + ((jI (s_X2_right f i)).toInt64))), (0, .ref (a 0))]) hx hb dX2_digest_147 hl (k := 2) rfl (jI_inc _ 1) (by decide) rfl (fun ls hl => ?_)
        refine lv_goto (tgt := 98) hx hb dX2_digest_150 (by decide) ?_
        exact ih98 (i + 1) (((31) * (s_X2_digest_lp106 f i (6 + 1 - 0) 0 h)) + ((jI (s_X2_right f i)).toInt64)) ls (by omega) (by omega) (lv_sub hl [2, 1, 0] rfl) (fun z9 ls hz9 hl => hk98 z9 ls (by rw [hz9, s_X2_digest_lp98, if_neg c100]) hl)
  refine LP98 (3 + 1 - 0) 0 (s_X2_digest_lp68 f (7 + 1 - 0) 0 (s_X2_digest_lp38 f (3 + 1 - 0) 0 (s_X2_digest_lp11 f n (15 + 1 - 0) 0 (2699)))) ls (by omega) (by omega) (lv_sub hl [1, 2, 0] rfl) (fun z9 ls hz9 hl => ?_)
  subst hz9
  refine lv_ldc2 hx hb hown qK150 dX2_digest_153 ?_
  refine lv_ldc2 hx hb hown qK150 dX2_digest_156 ?_
  refine lv_lload_n hx hb dX2_digest_159 rfl (lv_at hl 1 rfl) ?_
  refine lv_lmul hx hb dX2_digest_160 ?_
  refine lv_aload_n hx hb dX2_digest_161 rfl (lv_at hl 0 rfl) ?_
  refine lv_iconst (v := jI (-1)) hx hb dX2_digest_162 rfl ?_
  refine xc_R (As := [.int (jI (-1))]) (rest := [.long ((31) * (s_X2_digest_lp98 f (3 + 1 - 0) 0 (s_X2_digest_lp68 f (7 + 1 - 0) 0 (s_X2_digest_lp38 f (3 + 1 - 0) 0 (s_X2_digest_lp11 f n (15 + 1 - 0) 0 (2699)))))), .long (31)]) hSx (m_X2_opensBut l D cI a f g n b len 0 at_ fl va so ma (-1) (by omega) (by omega) (by omega) (by omega) (by decide)) (cwV 1 hts gX2_digest_X2_opensBut rfl rfl rfl (by decide +kernel) ⟨Nat.le_of_ble_eq_true rfl, Nat.le_of_ble_eq_true rfl⟩) hP hK 0 rfl rfl rfl rfl hl.1 rfl (Nat.le_of_ble_eq_true rfl) dX2_digest_163 ⟨Nat.zero_le _, Nat.zero_le _⟩ ?_
  refine lv_i2l hx hb dX2_digest_166 rfl ?_
  refine lv_ladd hx hb dX2_digest_167 ?_
  refine lv_lmul hx hb dX2_digest_168 ?_
  refine lv_aload_n hx hb dX2_digest_169 rfl (lv_at hl 0 rfl) ?_
  refine xc_R (As := []) (rest := [.long ((31) * (((31) * (s_X2_digest_lp98 f (3 + 1 - 0) 0 (s_X2_digest_lp68 f (7 + 1 - 0) 0 (s_X2_digest_lp38 f (3 + 1 - 0) 0 (s_X2_digest_lp11 f n (15 + 1 - 0) 0 (2699)))))) + ((jI (s_X2_opensBut f (-1))).toInt64)))]) hSx (m_X2_late l D cI a f g n b len 0 at_ fl va so ma  (by omega) (by omega) (by omega) (by omega)) (cwV 0 hts gX2_digest_X2_late rfl rfl rfl (by decide +kernel) ⟨Nat.le_of_ble_eq_true rfl, Nat.le_of_ble_eq_true rfl⟩) hP hK 0 rfl rfl rfl rfl hl.1 rfl (Nat.le_of_ble_eq_true rfl) dX2_digest_170 ⟨Nat.zero_le _, Nat.zero_le _⟩ ?_
  refine lv_i2l hx hb dX2_digest_173 rfl ?_
  refine lv_ladd hx hb dX2_digest_174 ?_
  refine lv_lstore_n (lv' := [(1, .long (((31) * (((31) * (s_X2_digest_lp98 f (3 + 1 - 0) 0 (s_X2_digest_lp68 f (7 + 1 - 0) 0 (s_X2_digest_lp38 f (3 + 1 - 0) 0 (s_X2_digest_lp11 f n (15 + 1 - 0) 0 (2699)))))) + ((jI (s_X2_opensBut f (-1))).toInt64))) + ((jI (s_X2_late f)).toInt64))), (0, .ref (a 0))]) hx hb dX2_digest_175 rfl hl (by decide) rfl (fun ls hl => ?_)
  refine lv_ldc2 hx hb hown qK150 dX2_digest_176 ?_
  refine lv_lload_n hx hb dX2_digest_179 rfl (lv_at hl 0 rfl) ?_
  refine lv_lmul hx hb dX2_digest_180 ?_
  refine lv_aload_n hx hb dX2_digest_181 rfl (lv_at hl 1 rfl) ?_
  refine xc_R (As := []) (rest := [.long ((31) * (((31) * (((31) * (s_X2_digest_lp98 f (3 + 1 - 0) 0 (s_X2_digest_lp68 f (7 + 1 - 0) 0 (s_X2_digest_lp38 f (3 + 1 - 0) 0 (s_X2_digest_lp11 f n (15 + 1 - 0) 0 (2699)))))) + ((jI (s_X2_opensBut f (-1))).toInt64))) + ((jI (s_X2_late f)).toInt64)))]) hSx (m_X2_key l D cI a f g n b len 0 at_ fl va so ma  (by omega) (by omega) (by omega) (by omega)) (cwV 0 hts gX2_digest_X2_key rfl rfl rfl (by decide +kernel) ⟨Nat.le_of_ble_eq_true rfl, Nat.le_of_ble_eq_true rfl⟩) hP hK 0 rfl rfl rfl rfl hl.1 rfl (Nat.le_of_ble_eq_true rfl) dX2_digest_182 ⟨Nat.zero_le _, Nat.zero_le _⟩ ?_
  refine lv_i2l hx hb dX2_digest_185 rfl ?_
  refine lv_ladd hx hb dX2_digest_186 ?_
  refine lv_lstore_n (lv' := [(1, .long (((31) * (((31) * (((31) * (s_X2_digest_lp98 f (3 + 1 - 0) 0 (s_X2_digest_lp68 f (7 + 1 - 0) 0 (s_X2_digest_lp38 f (3 + 1 - 0) 0 (s_X2_digest_lp11 f n (15 + 1 - 0) 0 (2699)))))) + ((jI (s_X2_opensBut f (-1))).toInt64))) + ((jI (s_X2_late f)).toInt64))) + ((jI (s_X2_key f)).toInt64))), (0, .ref (a 0))]) hx hb dX2_digest_187 rfl hl (by decide) rfl (fun ls hl => ?_)
  refine lv_ldc2 hx hb hown qK150 dX2_digest_188 ?_
  refine lv_ldc2 hx hb hown qK150 dX2_digest_191 ?_
  refine lv_lload_n hx hb dX2_digest_194 rfl (lv_at hl 0 rfl) ?_
  refine lv_lmul hx hb dX2_digest_195 ?_
  refine lv_aload_n hx hb dX2_digest_196 rfl (lv_at hl 1 rfl) ?_
  refine xc_Rd (As := []) (rest := [.long ((31) * (((31) * (((31) * (((31) * (s_X2_digest_lp98 f (3 + 1 - 0) 0 (s_X2_digest_lp68 f (7 + 1 - 0) 0 (s_X2_digest_lp38 f (3 + 1 - 0) 0 (s_X2_digest_lp11 f n (15 + 1 - 0) 0 (2699)))))) + ((jI (s_X2_opensBut f (-1))).toInt64))) + ((jI (s_X2_late f)).toInt64))) + ((jI (s_X2_key f)).toInt64))), .long (31)]) hSx (m_X2_share l D cI a f g n b len 0 at_ fl va so ma  (by omega) (by omega)) (cwV 0 hts gX2_digest_X2_share rfl rfl rfl (by decide +kernel) ⟨Nat.le_of_ble_eq_true rfl, Nat.le_of_ble_eq_true rfl⟩) hP hK 0 rfl rfl rfl rfl hl.1 rfl (Nat.le_of_ble_eq_true rfl) dX2_digest_197 ⟨Nat.zero_le _, Nat.zero_le _⟩ ?_
  refine xc_Pl (As := [.double (s_X2_share f)]) (rest := [.long ((31) * (((31) * (((31) * (((31) * (s_X2_digest_lp98 f (3 + 1 - 0) 0 (s_X2_digest_lp68 f (7 + 1 - 0) 0 (s_X2_digest_lp38 f (3 + 1 - 0) 0 (s_X2_digest_lp11 f n (15 + 1 - 0) 0 (2699)))))) + ((jI (s_X2_opensBut f (-1))).toInt64))) + ((jI (s_X2_late f)).toInt64))) + ((jI (s_X2_key f)).toInt64))), .long (31)]) hSx (m_d2lb l (s_X2_share f) (shr_X2 f hs1 hs2)) (va_cwS 1 hts gX2_digest_Jxe99ae_doubleToLongBits_ccdee rfl rfl rfl (by decide +kernel) ⟨Nat.le_of_ble_eq_true rfl, Nat.le_of_ble_eq_true rfl⟩) rfl hl.1 rfl (Nat.le_of_ble_eq_true rfl) dX2_digest_200 ⟨Nat.zero_le _, Nat.zero_le _⟩ ?_
  refine lv_ladd hx hb dX2_digest_203 ?_
  refine lv_lmul hx hb dX2_digest_204 ?_
  refine lv_aload_n hx hb dX2_digest_205 rfl (lv_at hl 1 rfl) ?_
  refine va_get (D := D) (ci := 2) (v := .int (jI (len : Int))) (C := RX2) (T := TX2) (N := 11) hx hb hts inRX2 hown hK hP 0 rfl rfl 4 (by decide) qf91 (fun _ h9 => h9) rfl dX2_digest_206 ?_
  refine lv_i2l hx hb dX2_digest_209 rfl ?_
  refine lv_ladd hx hb dX2_digest_210 ?_
  refine lv_lstore_n (lv' := [(1, .long (((31) * (((31) * (((31) * (((31) * (((31) * (s_X2_digest_lp98 f (3 + 1 - 0) 0 (s_X2_digest_lp68 f (7 + 1 - 0) 0 (s_X2_digest_lp38 f (3 + 1 - 0) 0 (s_X2_digest_lp11 f n (15 + 1 - 0) 0 (2699)))))) + ((jI (s_X2_opensBut f (-1))).toInt64))) + ((jI (s_X2_late f)).toInt64))) + ((jI (s_X2_key f)).toInt64))) + (((s_X2_share f)).toInt64))) + ((jI (len : Int)).toInt64))), (0, .ref (a 0))]) hx hb dX2_digest_211 rfl hl (by decide) rfl (fun ls hl => ?_)
  refine lv_iconst (v := jI 0) hx hb dX2_digest_212 rfl ?_
  refine lv_istore_n (lv' := [(3, .int (jI 0)), (1, .long (((31) * (((31) * (((31) * (((31) * (((31) * (s_X2_digest_lp98 f (3 + 1 - 0) 0 (s_X2_digest_lp68 f (7 + 1 - 0) 0 (s_X2_digest_lp38 f (3 + 1 - 0) 0 (s_X2_digest_lp11 f n (15 + 1 - 0) 0 (2699)))))) + ((jI (s_X2_opensBut f (-1))).toInt64))) + ((jI (s_X2_late f)).toInt64))) + ((jI (s_X2_key f)).toInt64))) + (((s_X2_share f)).toInt64))) + ((jI (len : Int)).toInt64))), (0, .ref (a 0))]) hx hb dX2_digest_213 rfl hl (by decide) rfl (fun ls hl => ?_)
  have LP214 : ∀ (k i : Nat) (h : Int64) (ls : Array Slot), i ≤ len → i + k = len + 1 → lv_has ls 5 [(0, .ref (a 0)), (1, .long h), (3, .int (jI (i : Int)))] → (∀ (z9 : Int64) (ls : Array Slot), z9 = s_X2_digest_lp214 b len k i h → lv_has ls 5 [(0, .ref (a 0)), (1, .long z9)] → W p l e rm_X2_digest s m ([.ref (a 0)] : List Value).toArray below meth c H locs 0 0 (MQ below (va_Ql (fun x (_ : Unit) => x = z.1) (xq_B D cI A (w2 cI a f g n b len z.2 at_ fl va so ma)) A) ([.ref (a 0)] : List Value).toArray s 0 0 A) (F0 m 242 ls [])) → W p l e rm_X2_digest s m ([.ref (a 0)] : List Value).toArray below meth c H locs 0 0 (MQ below (va_Ql (fun x (_ : Unit) => x = z.1) (xq_B D cI A (w2 cI a f g n b len z.2 at_ fl va so ma)) A) ([.ref (a 0)] : List Value).toArray s 0 0 A) (F0 m 214 ls []) := by
    intro k
    induction k with
    | zero => intro i h ls h1 h2; exact absurd h2 (by omega)
    | succ k ih214 =>
      intro i h ls h1214 h2214 hl hk214
      refine lv_iload_n hx hb dX2_digest_214 rfl (lv_at hl 2 rfl) ?_
      refine lv_aload_n hx hb dX2_digest_215 rfl (lv_at hl 0 rfl) ?_
      refine va_get (D := D) (ci := 2) (v := .int (jI (len : Int))) (C := RX2) (T := TX2) (N := 11) hx hb hts inRX2 hown hK hP 0 rfl rfl 4 (by decide) qf91 (fun _ h9 => h9) rfl dX2_digest_216 ?_
      refine x_icmp_ge (tgt := 242) hx hb dX2_digest_219 (by decide) ⟨(by omega), (by omega)⟩ (fun c219 => ?_) (fun c219 => ?_)
      · skip
        exact hk214 _ ls (by rw [s_X2_digest_lp214, if_pos c219]) (lv_sub hl [0, 1] rfl)
      · skip
        refine lv_ldc2 hx hb hown qK150 dX2_digest_222 ?_
        refine lv_lload_n hx hb dX2_digest_225 rfl (lv_at hl 1 rfl) ?_
        refine lv_lmul hx hb dX2_digest_226 ?_
        refine lv_aload_n hx hb dX2_digest_227 rfl (lv_at hl 0 rfl) ?_
        refine va_get (D := D) (ci := 2) (v := .ref (a 3)) (C := RX2) (T := TX2) (N := 11) hx hb hts inRX2 hown hK hP 0 rfl rfl 3 (by decide) qf16 (fun _ h9 => h9) rfl dX2_digest_228 ?_
        refine lv_iload_n hx hb dX2_digest_231 rfl (lv_at hl 2 rfl) ?_
        refine x_iald hx hb hK hP 3 0 rfl rfl i (by omega) (by omega) (by decide) dX2_digest_232 ?_
        refine lv_i2l hx hb dX2_digest_233 rfl ?_
        refine lv_ladd hx hb dX2_digest_234 ?_
        refine lv_lstore_n (lv' := [(1, .long (((31) * h) + ((jI (b i)).toInt64))), (0, .ref (a 0)), (3, .int (jI (i : Int)))]) hx hb dX2_digest_235 rfl hl (by decide) rfl (fun ls hl => ?_)
        refine lv_iinc (v := jI ((i + 1 : Nat) : Int)) (lv' := [(3, .int (jI ((i + 1 : Nat) : Int))), (1, .long (((31) * h) + ((jI (b i)).toInt64))), (0, .ref (a 0))]) hx hb dX2_digest_236 hl (k := 2) rfl (jI_inc _ 1) (by decide) rfl (fun ls hl => ?_)
        refine lv_goto (tgt := 214) hx hb dX2_digest_239 (by decide) ?_
        exact ih214 (i + 1) (((31) * h) + ((jI (b i)).toInt64)) ls (by omega) (by omega) (lv_sub hl [2, 1, 0] rfl) (fun z9 ls hz9 hl => hk214 z9 ls (by rw [hz9, s_X2_digest_lp214, if_neg c219]) hl)
  refine LP214 (len + 1 - 0) 0 (((31) * (((31) * (((31) * (((31) * (((31) * (s_X2_digest_lp98 f (3 + 1 - 0) 0 (s_X2_digest_lp68 f (7 + 1 - 0) 0 (s_X2_digest_lp38 f (3 + 1 - 0) 0 (s_X2_digest_lp11 f n (15 + 1 - 0) 0 (2699)))))) + ((jI (s_X2_opensBut f (-1))).toInt64))) + ((jI (s_X2_late f)).toInt64))) + ((jI (s_X2_key f)).toInt64))) + (((s_X2_share f)).toInt64))) + ((jI (len : Int)).toInt64)) ls (by omega) (by omega) (lv_sub hl [2, 1, 0] rfl) (fun z9 ls hz9 hl => ?_)
  subst hz9
  refine lv_lload_n hx hb dX2_digest_242 rfl (lv_at hl 1 rfl) ?_
  subst hz
  exact xi_l hx hb hr hlocks hK hP hD hS rfl rfl dX2_digest_243
