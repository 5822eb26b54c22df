/-! the law's own methods: a call, its answer into the long, or what was caught -/
theorem c_lp_drill (f g : Nat → Int) (n : Nat) : ∀ (k i : Nat) (f9 : Nat → Int), (s_X1_drill_lp23 f g n k i f9).1 = 0 := by
  intro k
  induction k with
  | zero => intro i f9; rfl
  | succ k ih =>
    intro i f9
    unfold s_X1_drill_lp23
    split
    · rfl
    · exact ih _ _
theorem c_lp_pass (f g : Nat → Int) (n : Nat) (x0 : Int) : ∀ (k i : Nat) (f9 : Nat → Int), (s_X1_pass_lp51 f g n x0 k i f9).1 = 0 := by
  intro k
  induction k with
  | zero => intro i f9; rfl
  | succ k ih =>
    intro i f9
    unfold s_X1_pass_lp51
    split
    · rfl
    · exact ih _ _
theorem c_lp_windAll (f g : Nat → Int) (n : Nat) (b : Nat → Int) (len : Nat) (kd sg nb : Nat → Int) : ∀ (k i : Nat) (f9 : Nat → Int) (v : Int), (s_X1_windAll_lp69 f g n b len kd sg nb k i f9 v).1 = 0 := by
  intro k
  induction k with
  | zero => intro i f9 v; rfl
  | succ k ih =>
    intro i f9 v
    unfold s_X1_windAll_lp69
    split
    · rfl
    · split
      · exact ih _ _ _
      · exact ih _ _ _
theorem c_X1_opening (f : Nat → Int) (g : Nat → Int) (n : Nat) (x0 : Int) (x1 : Int) : (s_X1_opening f g n x0 x1).1 = 0 ∨ (s_X1_opening f g n x0 x1).1 = 1 ∨ (s_X1_opening f g n x0 x1).1 = 2 := by
  unfold s_X1_opening
  (repeat' split) <;> first | exact Or.inl (rfl) | exact Or.inr (Or.inl (rfl)) | exact Or.inr (Or.inr (rfl))
theorem c_X1_set (f : Nat → Int) (g : Nat → Int) (n : Nat) (x0 : Int) (x1 : Int) : (s_X1_set f g n x0 x1).1 = 0 ∨ (s_X1_set f g n x0 x1).1 = 1 ∨ (s_X1_set f g n x0 x1).1 = 2 := by
  unfold s_X1_set
  (repeat' split) <;> first | exact Or.inl (rfl) | exact Or.inr (Or.inl (rfl)) | exact Or.inr (Or.inr (rfl))
theorem c_X1_wind (f : Nat → Int) (g : Nat → Int) (n : Nat) (x0 : Int) (x1 : Int) : (s_X1_wind f g n x0 x1).1 = 0 ∨ (s_X1_wind f g n x0 x1).1 = 1 ∨ (s_X1_wind f g n x0 x1).1 = 2 ∨ (s_X1_wind f g n x0 x1).1 = 3 := by
  unfold s_X1_wind
  (repeat' split) <;> first | exact Or.inl (rfl) | exact Or.inr (Or.inl (rfl)) | exact Or.inr (Or.inr (Or.inl (rfl))) | exact Or.inr (Or.inr (Or.inr (rfl)))
theorem c_X1_fault (f : Nat → Int) (g : Nat → Int) (n : Nat) (x0 : Int) (x1 : Int) : (s_X1_fault f g n x0 x1).1 = 0 ∨ (s_X1_fault f g n x0 x1).1 = 1 := by
  unfold s_X1_fault
  (repeat' split) <;> first | exact Or.inl (rfl) | exact Or.inr (rfl)
theorem c_X1_loss (f : Nat → Int) (g : Nat → Int) (n : Nat) (x0 : Int) (x1 : Int) : (s_X1_loss f g n x0 x1).1 = 0 ∨ (s_X1_loss f g n x0 x1).1 = 1 ∨ (s_X1_loss f g n x0 x1).1 = 2 := by
  unfold s_X1_loss
  (repeat' split) <;> first | exact Or.inl (rfl) | exact Or.inr (Or.inl (rfl)) | exact Or.inr (Or.inr (rfl))
theorem c_X1_service (f : Nat → Int) (g : Nat → Int) (n : Nat) (x0 : Int) : (s_X1_service f g n x0).1 = 0 ∨ (s_X1_service f g n x0).1 = 1 ∨ (s_X1_service f g n x0).1 = 3 := by
  unfold s_X1_service
  (repeat' split) <;> first | exact Or.inl (rfl) | exact Or.inr (Or.inl (rfl)) | exact Or.inr (Or.inr (rfl))
theorem c_X1_lock (f : Nat → Int) (g : Nat → Int) (n : Nat) : (s_X1_lock f g n).1 = 0 ∨ (s_X1_lock f g n).1 = 3 := by
  unfold s_X1_lock
  (repeat' split) <;> first | exact Or.inl (rfl) | exact Or.inr (rfl)
theorem c_X1_open (f : Nat → Int) (g : Nat → Int) (n : Nat) : (s_X1_open f g n).1 = 0 ∨ (s_X1_open f g n).1 = 3 := by
  unfold s_X1_open
  (repeat' split) <;> first | exact Or.inl (rfl) | exact Or.inr (rfl)
theorem c_X1_drill (f : Nat → Int) (g : Nat → Int) (n : Nat) : (s_X1_drill f g n).1 = 0 ∨ (s_X1_drill f g n).1 = 3 := by
  unfold s_X1_drill
  (repeat' split) <;> first | exact Or.inl (c_lp_drill _ _ _ _ _ _) | exact Or.inl (rfl) | exact Or.inr (rfl)
theorem c_X1_pass (f : Nat → Int) (g : Nat → Int) (n : Nat) (x0 : Int) : (s_X1_pass f g n x0).1 = 0 ∨ (s_X1_pass f g n x0).1 = 2 ∨ (s_X1_pass f g n x0).1 = 3 := by
  unfold s_X1_pass
  (repeat' split) <;> first | exact Or.inl (c_lp_pass _ _ _ _ _ _ _) | exact Or.inl (rfl) | exact Or.inr (Or.inl (rfl)) | exact Or.inr (Or.inr (rfl))
theorem c_X1_append (b : Nat → Int) (len : Nat) (x0 : Int) : (s_X1_append b len x0).1 = 0 ∨ (s_X1_append b len x0).1 = 2 ∨ (s_X1_append b len x0).1 = 3 := by
  unfold s_X1_append
  (repeat' split) <;> first | exact Or.inl (rfl) | exact Or.inr (Or.inl (rfl)) | exact Or.inr (Or.inr (rfl))
theorem c_X1_windAll (f : Nat → Int) (g : Nat → Int) (n : Nat) (b : Nat → Int) (len : Nat) (kd : Nat → Int) (sg : Nat → Int) (nb : Nat → Int) : (s_X1_windAll f g n b len kd sg nb).1 = 0 ∨ (s_X1_windAll f g n b len kd sg nb).1 = 2 ∨ (s_X1_windAll f g n b len kd sg nb).1 = 3 := by
  unfold s_X1_windAll
  (repeat' split) <;> first | exact Or.inl (c_lp_windAll _ _ _ _ _ _ _ _ _ _ _ _) | exact Or.inl (rfl) | exact Or.inr (Or.inl (rfl)) | exact Or.inr (Or.inr (rfl))
theorem c_X1_undo (f : Nat → Int) (g : Nat → Int) (n : Nat) : (s_X1_undo f g n).1 = 0 ∨ (s_X1_undo f g n).1 = 3 := by
  unfold s_X1_undo
  (repeat' split) <;> first | exact Or.inl (rfl) | exact Or.inr (rfl)
theorem c_X1_movement (f : Nat → Int) (x0 : Int) (x1 : Int) : (s_X1_movement f x0 x1).1 = 0 ∨ (s_X1_movement f x0 x1).1 = 1 ∨ (s_X1_movement f x0 x1).1 = 2 := by
  unfold s_X1_movement
  (repeat' split) <;> first | exact Or.inl (rfl) | exact Or.inr (Or.inl (rfl)) | exact Or.inr (Or.inr (rfl))
theorem c_X1_day (f : Nat → Int) (x0 : Int) : (s_X1_day f x0).1 = 0 ∨ (s_X1_day f x0).1 = 1 := by
  unfold s_X1_day
  (repeat' split) <;> first | exact Or.inl (rfl) | exact Or.inr (rfl)
theorem c_X1_count (f : Nat → Int) (n : Nat) (x0 : Int) : (s_X1_count f n x0).1 = 0 ∨ (s_X1_count f n x0).1 = 2 := by
  unfold s_X1_count
  (repeat' split) <;> first | exact Or.inl (rfl) | exact Or.inr (rfl)
theorem c_X1_setting (f : Nat → Int) (x0 : Int) : (s_X1_setting f x0).1 = 0 ∨ (s_X1_setting f x0).1 = 1 := by
  unfold s_X1_setting
  (repeat' split) <;> first | exact Or.inl (rfl) | exact Or.inr (rfl)
theorem c_X1_rightWinding (f : Nat → Int) (x0 : Int) : (s_X1_rightWinding f x0).1 = 0 ∨ (s_X1_rightWinding f x0).1 = 1 := by
  unfold s_X1_rightWinding
  (repeat' split) <;> first | exact Or.inl (rfl) | exact Or.inr (rfl)
abbrev km_opening : Int → Int := fun c => if c = 1 then 1 else if c = 2 then 2 else 0
abbrev rm_L_opening : Room := { frames := 7, cells := 1, slots := 6, locals := 127 }
set_option maxHeartbeats 2000000 in
theorem m_L_opening (l : Launch) (D : va_G) (cI : ClassId) (a : Nat → Nat) (f : Nat → Int) (g : Nat → Int) (n : Nat) (b : Nat → Int) (len : Nat) (kd : Nat → Int) (sg : Nat → Int) (nb : Nat → Int) (pt : Nat) (hlt : l.stackTraces = false) (x0 : Int) (x1 : Int) (hn : n ≤ 6) (hx0 : -2147483648 ≤ x0 ∧ x0 < 2147483648) (hx1 : -2147483648 ≤ x1 ∧ x1 < 2147483648) (cL : ClassId) (o : Nat) (ou : Nat → Int64) : MetL l yL_opening wsL_opening rm_L_opening D cI cL [.ref (a 0), .int (jI x0), .int (jI x1), .ref o] (w1 cI a f g n b len kd sg nb pt) (w1 cI a ((s_X1_opening f g n x0 x1).2.2.1) ((s_X1_opening f g n x0 x1).2.2.2.1) ((s_X1_opening f g n x0 x1).2.2.2.2) b len kd sg nb pt) o ou ((s_X1_opening f g n x0 x1).1) ((s_X1_opening f g n x0 x1).2.1) km_opening := by
  refine xe_L (cc := cL_opening) (maxL := 5) (ret := (some .int)) (by decide) rfl (Nat.le_of_ble_eq_true rfl) ?_
  intro p e s m below meth c hx hb hr hml hts hown hlocks htab hP hK A hA hD hS hE ls hl
  have hl : lv_has ls 5 [(0, .ref (a 0)), (1, .int (jI x0)), (2, .int (jI x1)), (3, .ref o)] := hl
  have hown : s.vm.findClass RL = some m.cls := hown
  have hSx : CallFix p m c cL_opening 5 s ([.ref (a 0), .int (jI x0), .int (jI x1), .ref o] : List Value).toArray wsL_opening RL := ⟨hx, hb, hml, hown, hts⟩
  have q13 := hts (.classLink RL 13 xI) (by decide +kernel)
  have z13 : (Cond.castable xI xI).before ([.ref (a 0), .int (jI x0), .int (jI x1), .ref o] : List Value).toArray s = true := xface (State.WarmedH.refl s) (by decide) (by decide) (hE.2.2.2.1 _ (by decide))
  have q15 := hts (.classLink RL 15 xA) (by decide +kernel)
  have z15 : (Cond.castable xA xA).before ([.ref (a 0), .int (jI x0), .int (jI x1), .ref o] : List Value).toArray s = true := xface (State.WarmedH.refl s) (by decide) (by decide) (hE.2.2.2.1 _ (by decide))
  refine lv_aload_n hx hb dL_opening_0 rfl (lv_at hl 3 rfl) ?_
  refine lv_iconst (v := jI 0) hx hb dL_opening_1 rfl ?_
  refine lv_aload_n hx hb dL_opening_2 rfl (lv_at hl 0 rfl) ?_
  refine lv_iload_n hx hb dL_opening_3 rfl (lv_at hl 1 rfl) ?_
  refine lv_iload_n hx hb dL_opening_4 rfl (lv_at hl 2 rfl) ?_
  refine xw_T (w1 := (w1 cI a ((s_X1_opening f g n x0 x1).2.2.1) ((s_X1_opening f g n x0 x1).2.2.2.1) ((s_X1_opening f g n x0 x1).2.2.2.2) b len kd sg nb pt)) (wr := wO cL o ou) (As := [.int (jI x0), .int (jI x1)]) (rest := [.int (jI 0), .ref o]) hSx (m_X1_opening l D cI a f g n b len kd sg nb pt hlt x0 x1 hn hx0 hx1) (cwV 2 hts gL_opening_X1_opening rfl rfl rfl (by decide +kernel) ⟨Nat.le_of_ble_eq_true rfl, Nat.le_of_ble_eq_true rfl⟩) (va_P_left hP) (va_P_right hP) hD hS hA (hK.sub [0] rfl) hE 0 rfl rfl rfl rfl hl.1 rfl (Nat.le_of_ble_eq_true rfl) dL_opening_5 ⟨Nat.le_of_ble_eq_true rfl, Nat.le_of_ble_eq_true rfl⟩ (fun E ce q9 H1 locs1 hc0 hE1 hP1 hR1 hS1 hce hcv hcl => ?_) (fun H1 locs1 hc0 hP1 hR1 hS1 => ?_)
  · rcases c_X1_opening f g n x0 x1 with h | h | h
    · exact absurd h hc0
    · have hE2 : E = xI := by rw [hE1, h]; rfl
      subst hE2
      refine vx_catch (own := RL) (name := xI) hown [] ⟨0, 10, 13, 13⟩ [⟨0, 10, 17, 15⟩] htab (fun _ h9 => absurd h9 List.not_mem_nil) (by decide) (by decide) q13 z13 hce hcv hcl ?_
      refine lv_astore hx hb dL_opening_13 hl (by decide) rfl (fun ls9 hl9 => ?_)
      refine lv_iconst (v := jI 1) hx hb dL_opening_15 rfl ?_
      exact xl_end (u := ou) hx hb hr hlocks (hP1.app hR1) hS1 (by rw [h]; rfl) (fun h9 => absurd (h.symm.trans h9) (by decide)) dL_opening_16
    · have hE2 : E = xA := by rw [hE1, h]; rfl
      subst hE2
      refine vx_catch (own := RL) (name := xA) hown [⟨0, 10, 13, 13⟩] ⟨0, 10, 17, 15⟩ [] htab (List.forall_mem_cons.mpr ⟨Or.inr ⟨by decide, xI, q13, hE.2.2.2.2.1.1⟩, fun _ h9 => absurd h9 List.not_mem_nil⟩) (by decide) (by decide) q15 z15 hce hcv hcl ?_
      refine lv_astore hx hb dL_opening_17 hl (by decide) rfl (fun ls9 hl9 => ?_)
      refine lv_iconst (v := jI 2) hx hb dL_opening_19 rfl ?_
      exact xl_end (u := ou) hx hb hr hlocks (hP1.app hR1) hS1 (by rw [h]; rfl) (fun h9 => absurd (h.symm.trans h9) (by decide)) dL_opening_20
  · refine lv_i2l hx hb dL_opening_8 rfl ?_
    refine xl_put hx hb hK hP1 hR1 (va_D_perm hD (List.Perm.refl _)) hS1 dL_opening_9 (fun H2 locs2 hP2 hS2 => ?_)
    refine lv_goto (tgt := 21) hx hb dL_opening_10 (by decide) ?_
    refine lv_iconst (v := jI 0) hx hb dL_opening_21 rfl ?_
    exact xl_end hx hb hr hlocks hP2 hS2 (by rw [hc0]; rfl) (fun _ => rfl) dL_opening_22
abbrev km_set : Int → Int := fun c => if c = 1 then 1 else if c = 2 then 2 else 0
abbrev rm_L_set : Room := { frames := 7, cells := 1, slots := 6, locals := 127 }
set_option maxHeartbeats 2000000 in
theorem m_L_set (l : Launch) (D : va_G) (cI : ClassId) (a : Nat → Nat) (f : Nat → Int) (g : Nat → Int) (n : Nat) (b : Nat → Int) (len : Nat) (kd : Nat → Int) (sg : Nat → Int) (nb : Nat → Int) (pt : Nat) (hlt : l.stackTraces = false) (x0 : Int) (x1 : Int) (hn : n ≤ 6) (hx0 : -2147483648 ≤ x0 ∧ x0 < 2147483648) (hx1 : -2147483648 ≤ x1 ∧ x1 < 2147483648) (cL : ClassId) (o : Nat) (ou : Nat → Int64) : MetL l yL_set wsL_set rm_L_set D cI cL [.ref (a 0), .int (jI x0), .int (jI x1), .ref o] (w1 cI a f g n b len kd sg nb pt) (w1 cI a ((s_X1_set f g n x0 x1).2.2.1) ((s_X1_set f g n x0 x1).2.2.2.1) ((s_X1_set f g n x0 x1).2.2.2.2) b len kd sg nb pt) o ou ((s_X1_set f g n x0 x1).1) ((s_X1_set f g n x0 x1).2.1) km_set := by
  refine xe_L (cc := cL_set) (maxL := 5) (ret := (some .int)) (by decide) rfl (Nat.le_of_ble_eq_true rfl) ?_
  intro p e s m below meth c hx hb hr hml hts hown hlocks htab hP hK A hA hD hS hE ls hl
  have hl : lv_has ls 5 [(0, .ref (a 0)), (1, .int (jI x0)), (2, .int (jI x1)), (3, .ref o)] := hl
  have hown : s.vm.findClass RL = some m.cls := hown
  have hSx : CallFix p m c cL_set 5 s ([.ref (a 0), .int (jI x0), .int (jI x1), .ref o] : List Value).toArray wsL_set RL := ⟨hx, hb, hml, hown, hts⟩
  have q13 := hts (.classLink RL 13 xI) (by decide +kernel)
  have z13 : (Cond.castable xI xI).before ([.ref (a 0), .int (jI x0), .int (jI x1), .ref o] : List Value).toArray s = true := xface (State.WarmedH.refl s) (by decide) (by decide) (hE.2.2.2.1 _ (by decide))
  have q15 := hts (.classLink RL 15 xA) (by decide +kernel)
  have z15 : (Cond.castable xA xA).before ([.ref (a 0), .int (jI x0), .int (jI x1), .ref o] : List Value).toArray s = true := xface (State.WarmedH.refl s) (by decide) (by decide) (hE.2.2.2.1 _ (by decide))
  refine lv_aload_n hx hb dL_set_0 rfl (lv_at hl 3 rfl) ?_
  refine lv_iconst (v := jI 0) hx hb dL_set_1 rfl ?_
  refine lv_aload_n hx hb dL_set_2 rfl (lv_at hl 0 rfl) ?_
  refine lv_iload_n hx hb dL_set_3 rfl (lv_at hl 1 rfl) ?_
  refine lv_iload_n hx hb dL_set_4 rfl (lv_at hl 2 rfl) ?_
  refine xw_T (w1 := (w1 cI a ((s_X1_set f g n x0 x1).2.2.1) ((s_X1_set f g n x0 x1).2.2.2.1) ((s_X1_set f g n x0 x1).2.2.2.2) b len kd sg nb pt)) (wr := wO cL o ou) (As := [.int (jI x0), .int (jI x1)]) (rest := [.int (jI 0), .ref o]) hSx (m_X1_set l D cI a f g n b len kd sg nb pt hlt x0 x1 hn hx0 hx1) (cwV 2 hts gL_set_X1_set rfl rfl rfl (by decide +kernel) ⟨Nat.le_of_ble_eq_true rfl, Nat.le_of_ble_eq_true rfl⟩) (va_P_left hP) (va_P_right hP) hD hS hA (hK.sub [0] rfl) hE 0 rfl rfl rfl rfl hl.1 rfl (Nat.le_of_ble_eq_true rfl) dL_set_5 ⟨Nat.le_of_ble_eq_true rfl, Nat.le_of_ble_eq_true rfl⟩ (fun E ce q9 H1 locs1 hc0 hE1 hP1 hR1 hS1 hce hcv hcl => ?_) (fun H1 locs1 hc0 hP1 hR1 hS1 => ?_)
  · rcases c_X1_set f g n x0 x1 with h | h | h
    · exact absurd h hc0
    · have hE2 : E = xI := by rw [hE1, h]; rfl
      subst hE2
      refine vx_catch (own := RL) (name := xI) hown [] ⟨0, 10, 13, 13⟩ [⟨0, 10, 17, 15⟩] htab (fun _ h9 => absurd h9 List.not_mem_nil) (by decide) (by decide) q13 z13 hce hcv hcl ?_
      refine lv_astore hx hb dL_set_13 hl (by decide) rfl (fun ls9 hl9 => ?_)
      refine lv_iconst (v := jI 1) hx hb dL_set_15 rfl ?_
      exact xl_end (u := ou) hx hb hr hlocks (hP1.app hR1) hS1 (by rw [h]; rfl) (fun h9 => absurd (h.symm.trans h9) (by decide)) dL_set_16
    · have hE2 : E = xA := by rw [hE1, h]; rfl
      subst hE2
      refine vx_catch (own := RL) (name := xA) hown [⟨0, 10, 13, 13⟩] ⟨0, 10, 17, 15⟩ [] htab (List.forall_mem_cons.mpr ⟨Or.inr ⟨by decide, xI, q13, hE.2.2.2.2.1.1⟩, fun _ h9 => absurd h9 List.not_mem_nil⟩) (by decide) (by decide) q15 z15 hce hcv hcl ?_
      refine lv_astore hx hb dL_set_17 hl (by decide) rfl (fun ls9 hl9 => ?_)
      refine lv_iconst (v := jI 2) hx hb dL_set_19 rfl ?_
      exact xl_end (u := ou) hx hb hr hlocks (hP1.app hR1) hS1 (by rw [h]; rfl) (fun h9 => absurd (h.symm.trans h9) (by decide)) dL_set_20
  · refine lv_i2l hx hb dL_set_8 rfl ?_
    refine xl_put hx hb hK hP1 hR1 (va_D_perm hD (List.Perm.refl _)) hS1 dL_set_9 (fun H2 locs2 hP2 hS2 => ?_)
    refine lv_goto (tgt := 21) hx hb dL_set_10 (by decide) ?_
    refine lv_iconst (v := jI 0) hx hb dL_set_21 rfl ?_
    exact xl_end hx hb hr hlocks hP2 hS2 (by rw [hc0]; rfl) (fun _ => rfl) dL_set_22
abbrev km_wind : Int → Int := fun c => if c = 1 then 1 else if c = 2 then 2 else if c = 3 then 3 else 0
abbrev rm_L_wind : Room := { frames := 7, cells := 1, slots := 6, locals := 127 }
set_option maxHeartbeats 2000000 in
theorem m_L_wind (l : Launch) (D : va_G) (cI : ClassId) (a : Nat → Nat) (f : Nat → Int) (g : Nat → Int) (n : Nat) (b : Nat → Int) (len : Nat) (kd : Nat → Int) (sg : Nat → Int) (nb : Nat → Int) (pt : Nat) (hlt : l.stackTraces = false) (x0 : Int) (x1 : Int) (hn : n ≤ 6) (hrf : rng f) (hx0 : -2147483648 ≤ x0 ∧ x0 < 2147483648) (hx1 : -2147483648 ≤ x1 ∧ x1 < 2147483648) (cL : ClassId) (o : Nat) (ou : Nat → Int64) : MetL l yL_wind wsL_wind rm_L_wind D cI cL [.ref (a 0), .int (jI x0), .int (jI x1), .ref o] (w1 cI a f g n b len kd sg nb pt) (w1 cI a ((s_X1_wind f g n x0 x1).2.2.1) ((s_X1_wind f g n x0 x1).2.2.2.1) ((s_X1_wind f g n x0 x1).2.2.2.2) b len kd sg nb pt) o ou ((s_X1_wind f g n x0 x1).1) ((s_X1_wind f g n x0 x1).2.1) km_wind := by
  refine xe_L (cc := cL_wind) (maxL := 5) (ret := (some .int)) (by decide) rfl (Nat.le_of_ble_eq_true rfl) ?_
  intro p e s m below meth c hx hb hr hml hts hown hlocks htab hP hK A hA hD hS hE ls hl
  have hl : lv_has ls 5 [(0, .ref (a 0)), (1, .int (jI x0)), (2, .int (jI x1)), (3, .ref o)] := hl
  have hown : s.vm.findClass RL = some m.cls := hown
  have hSx : CallFix p m c cL_wind 5 s ([.ref (a 0), .int (jI x0), .int (jI x1), .ref o] : List Value).toArray wsL_wind RL := ⟨hx, hb, hml, hown, hts⟩
  have q13 := hts (.classLink RL 13 xI) (by decide +kernel)
  have z13 : (Cond.castable xI xI).before ([.ref (a 0), .int (jI x0), .int (jI x1), .ref o] : List Value).toArray s = true := xface (State.WarmedH.refl s) (by decide) (by decide) (hE.2.2.2.1 _ (by decide))
  have q15 := hts (.classLink RL 15 xA) (by decide +kernel)
  have z15 : (Cond.castable xA xA).before ([.ref (a 0), .int (jI x0), .int (jI x1), .ref o] : List Value).toArray s = true := xface (State.WarmedH.refl s) (by decide) (by decide) (hE.2.2.2.1 _ (by decide))
  have q23 := hts (.classLink RL 23 xS) (by decide +kernel)
  have z23 : (Cond.castable xS xS).before ([.ref (a 0), .int (jI x0), .int (jI x1), .ref o] : List Value).toArray s = true := xface (State.WarmedH.refl s) (by decide) (by decide) (hE.2.2.2.1 _ (by decide))
  refine lv_aload_n hx hb dL_wind_0 rfl (lv_at hl 3 rfl) ?_
  refine lv_iconst (v := jI 0) hx hb dL_wind_1 rfl ?_
  refine lv_aload_n hx hb dL_wind_2 rfl (lv_at hl 0 rfl) ?_
  refine lv_iload_n hx hb dL_wind_3 rfl (lv_at hl 1 rfl) ?_
  refine lv_iload_n hx hb dL_wind_4 rfl (lv_at hl 2 rfl) ?_
  refine xw_T (w1 := (w1 cI a ((s_X1_wind f g n x0 x1).2.2.1) ((s_X1_wind f g n x0 x1).2.2.2.1) ((s_X1_wind f g n x0 x1).2.2.2.2) b len kd sg nb pt)) (wr := wO cL o ou) (As := [.int (jI x0), .int (jI x1)]) (rest := [.int (jI 0), .ref o]) hSx (m_X1_wind l D cI a f g n b len kd sg nb pt hlt x0 x1 hn hrf hx0 hx1) (cwV 2 hts gL_wind_X1_wind rfl rfl rfl (by decide +kernel) ⟨Nat.le_of_ble_eq_true rfl, Nat.le_of_ble_eq_true rfl⟩) (va_P_left hP) (va_P_right hP) hD hS hA (hK.sub [0] rfl) hE 0 rfl rfl rfl rfl hl.1 rfl (Nat.le_of_ble_eq_true rfl) dL_wind_5 ⟨Nat.le_of_ble_eq_true rfl, Nat.le_of_ble_eq_true rfl⟩ (fun E ce q9 H1 locs1 hc0 hE1 hP1 hR1 hS1 hce hcv hcl => ?_) (fun H1 locs1 hc0 hP1 hR1 hS1 => ?_)
  · rcases c_X1_wind f g n x0 x1 with h | h | h | h
    · exact absurd h hc0
    · have hE2 : E = xI := by rw [hE1, h]; rfl
      subst hE2
      refine vx_catch (own := RL) (name := xI) hown [] ⟨0, 10, 13, 13⟩ [⟨0, 10, 17, 15⟩, ⟨0, 10, 21, 23⟩] htab (fun _ h9 => absurd h9 List.not_mem_nil) (by decide) (by decide) q13 z13 hce hcv hcl ?_
      refine lv_astore hx hb dL_wind_13 hl (by decide) rfl (fun ls9 hl9 => ?_)
      refine lv_iconst (v := jI 1) hx hb dL_wind_15 rfl ?_
      exact xl_end (u := ou) hx hb hr hlocks (hP1.app hR1) hS1 (by rw [h]; rfl) (fun h9 => absurd (h.symm.trans h9) (by decide)) dL_wind_16
    · have hE2 : E = xA := by rw [hE1, h]; rfl
      subst hE2
      refine vx_catch (own := RL) (name := xA) hown [⟨0, 10, 13, 13⟩] ⟨0, 10, 17, 15⟩ [⟨0, 10, 21, 23⟩] htab (List.forall_mem_cons.mpr ⟨Or.inr ⟨by decide, xI, q13, hE.2.2.2.2.1.1⟩, fun _ h9 => absurd h9 List.not_mem_nil⟩) (by decide) (by decide) q15 z15 hce hcv hcl ?_
      refine lv_astore hx hb dL_wind_17 hl (by decide) rfl (fun ls9 hl9 => ?_)
      refine lv_iconst (v := jI 2) hx hb dL_wind_19 rfl ?_
      exact xl_end (u := ou) hx hb hr hlocks (hP1.app hR1) hS1 (by rw [h]; rfl) (fun h9 => absurd (h.symm.trans h9) (by decide)) dL_wind_20
    · have hE2 : E = xS := by rw [hE1, h]; rfl
      subst hE2
      refine vx_catch (own := RL) (name := xS) hown [⟨0, 10, 13, 13⟩, ⟨0, 10, 17, 15⟩] ⟨0, 10, 21, 23⟩ [] htab (List.forall_mem_cons.mpr ⟨Or.inr ⟨by decide, xI, q13, hE.2.2.2.2.1.2.1⟩, List.forall_mem_cons.mpr ⟨Or.inr ⟨by decide, xA, q15, hE.2.2.2.2.1.2.2⟩, fun _ h9 => absurd h9 List.not_mem_nil⟩⟩) (by decide) (by decide) q23 z23 hce hcv hcl ?_
      refine lv_astore hx hb dL_wind_21 hl (by decide) rfl (fun ls9 hl9 => ?_)
      refine lv_iconst (v := jI 3) hx hb dL_wind_23 rfl ?_
      exact xl_end (u := ou) hx hb hr hlocks (hP1.app hR1) hS1 (by rw [h]; rfl) (fun h9 => absurd (h.symm.trans h9) (by decide)) dL_wind_24
  · refine lv_i2l hx hb dL_wind_8 rfl ?_
    refine xl_put hx hb hK hP1 hR1 (va_D_perm hD (List.Perm.refl _)) hS1 dL_wind_9 (fun H2 locs2 hP2 hS2 => ?_)
    refine lv_goto (tgt := 25) hx hb dL_wind_10 (by decide) ?_
    refine lv_iconst (v := jI 0) hx hb dL_wind_25 rfl ?_
    exact xl_end hx hb hr hlocks hP2 hS2 (by rw [hc0]; rfl) (fun _ => rfl) dL_wind_26
abbrev km_fault : Int → Int := fun c => if c = 1 then 1 else 0
abbrev rm_L_fault : Room := { frames := 7, cells := 1, slots := 6, locals := 127 }
set_option maxHeartbeats 2000000 in
theorem m_L_fault (l : Launch) (D : va_G) (cI : ClassId) (a : Nat → Nat) (f : Nat → Int) (g : Nat → Int) (n : Nat) (b : Nat → Int) (len : Nat) (kd : Nat → Int) (sg : Nat → Int) (nb : Nat → Int) (pt : Nat) (hlt : l.stackTraces = false) (x0 : Int) (x1 : Int) (hn : n ≤ 6) (hx0 : -2147483648 ≤ x0 ∧ x0 < 2147483648) (hx1 : x1 = 0 ∨ x1 = 1) (cL : ClassId) (o : Nat) (ou : Nat → Int64) : MetL l yL_fault wsL_fault rm_L_fault D cI cL [.ref (a 0), .int (jI x0), .int (jI x1), .ref o] (w1 cI a f g n b len kd sg nb pt) (w1 cI a ((s_X1_fault f g n x0 x1).2.2.1) ((s_X1_fault f g n x0 x1).2.2.2.1) ((s_X1_fault f g n x0 x1).2.2.2.2) b len kd sg nb pt) o ou ((s_X1_fault f g n x0 x1).1) ((s_X1_fault f g n x0 x1).2.1) km_fault := by
  refine xe_L (cc := cL_fault) (maxL := 5) (ret := (some .int)) (by decide) rfl (Nat.le_of_ble_eq_true rfl) ?_
  intro p e s m below meth c hx hb hr hml hts hown hlocks htab hP hK A hA hD hS hE ls hl
  have hl : lv_has ls 5 [(0, .ref (a 0)), (1, .int (jI x0)), (2, .int (jI x1)), (3, .ref o)] := hl
  have hown : s.vm.findClass RL = some m.cls := hown
  have hSx : CallFix p m c cL_fault 5 s ([.ref (a 0), .int (jI x0), .int (jI x1), .ref o] : List Value).toArray wsL_fault RL := ⟨hx, hb, hml, hown, hts⟩
  have q13 := hts (.classLink RL 13 xI) (by decide +kernel)
  have z13 : (Cond.castable xI xI).before ([.ref (a 0), .int (jI x0), .int (jI x1), .ref o] : List Value).toArray s = true := xface (State.WarmedH.refl s) (by decide) (by decide) (hE.2.2.2.1 _ (by decide))
  refine lv_aload_n hx hb dL_fault_0 rfl (lv_at hl 3 rfl) ?_
  refine lv_iconst (v := jI 0) hx hb dL_fault_1 rfl ?_
  refine lv_aload_n hx hb dL_fault_2 rfl (lv_at hl 0 rfl) ?_
  refine lv_iload_n hx hb dL_fault_3 rfl (lv_at hl 1 rfl) ?_
  refine lv_iload_n hx hb dL_fault_4 rfl (lv_at hl 2 rfl) ?_
  refine xw_T (w1 := (w1 cI a ((s_X1_fault f g n x0 x1).2.2.1) ((s_X1_fault f g n x0 x1).2.2.2.1) ((s_X1_fault f g n x0 x1).2.2.2.2) b len kd sg nb pt)) (wr := wO cL o ou) (As := [.int (jI x0), .int (jI x1)]) (rest := [.int (jI 0), .ref o]) hSx (m_X1_fault l D cI a f g n b len kd sg nb pt hlt x0 x1 hn hx0 hx1) (cwV 2 hts gL_fault_X1_fault rfl rfl rfl (by decide +kernel) ⟨Nat.le_of_ble_eq_true rfl, Nat.le_of_ble_eq_true rfl⟩) (va_P_left hP) (va_P_right hP) hD hS hA (hK.sub [0] rfl) hE 0 rfl rfl rfl rfl hl.1 rfl (Nat.le_of_ble_eq_true rfl) dL_fault_5 ⟨Nat.le_of_ble_eq_true rfl, Nat.le_of_ble_eq_true rfl⟩ (fun E ce q9 H1 locs1 hc0 hE1 hP1 hR1 hS1 hce hcv hcl => ?_) (fun H1 locs1 hc0 hP1 hR1 hS1 => ?_)
  · rcases c_X1_fault f g n x0 x1 with h | h
    · exact absurd h hc0
    · have hE2 : E = xI := by rw [hE1, h]; rfl
      subst hE2
      refine vx_catch (own := RL) (name := xI) hown [] ⟨0, 10, 13, 13⟩ [] htab (fun _ h9 => absurd h9 List.not_mem_nil) (by decide) (by decide) q13 z13 hce hcv hcl ?_
      refine lv_astore hx hb dL_fault_13 hl (by decide) rfl (fun ls9 hl9 => ?_)
      refine lv_iconst (v := jI 1) hx hb dL_fault_15 rfl ?_
      exact xl_end (u := ou) hx hb hr hlocks (hP1.app hR1) hS1 (by rw [h]; rfl) (fun h9 => absurd (h.symm.trans h9) (by decide)) dL_fault_16
  · refine lv_i2l hx hb dL_fault_8 rfl ?_
    refine xl_put hx hb hK hP1 hR1 (va_D_perm hD (List.Perm.refl _)) hS1 dL_fault_9 (fun H2 locs2 hP2 hS2 => ?_)
    refine lv_goto (tgt := 17) hx hb dL_fault_10 (by decide) ?_
    refine lv_iconst (v := jI 0) hx hb dL_fault_17 rfl ?_
    exact xl_end hx hb hr hlocks hP2 hS2 (by rw [hc0]; rfl) (fun _ => rfl) dL_fault_18
abbrev km_loss : Int → Int := fun c => if c = 1 then 1 else if c = 2 then 2 else 0
abbrev rm_L_loss : Room := { frames := 7, cells := 1, slots := 6, locals := 127 }
set_option maxHeartbeats 2000000 in
theorem m_L_loss (l : Launch) (D : va_G) (cI : ClassId) (a : Nat → Nat) (f : Nat → Int) (g : Nat → Int) (n : Nat) (b : Nat → Int) (len : Nat) (kd : Nat → Int) (sg : Nat → Int) (nb : Nat → Int) (pt : Nat) (hlt : l.stackTraces = false) (x0 : Int) (x1 : Int) (hn : n ≤ 6) (hx0 : -2147483648 ≤ x0 ∧ x0 < 2147483648) (hx1 : -2147483648 ≤ x1 ∧ x1 < 2147483648) (cL : ClassId) (o : Nat) (ou : Nat → Int64) : MetL l yL_loss wsL_loss rm_L_loss D cI cL [.ref (a 0), .int (jI x0), .int (jI x1), .ref o] (w1 cI a f g n b len kd sg nb pt) (w1 cI a ((s_X1_loss f g n x0 x1).2.2.1) ((s_X1_loss f g n x0 x1).2.2.2.1) ((s_X1_loss f g n x0 x1).2.2.2.2) b len kd sg nb pt) o ou ((s_X1_loss f g n x0 x1).1) ((s_X1_loss f g n x0 x1).2.1) km_loss := by
  refine xe_L (cc := cL_loss) (maxL := 5) (ret := (some .int)) (by decide) rfl (Nat.le_of_ble_eq_true rfl) ?_
  intro p e s m below meth c hx hb hr hml hts hown hlocks htab hP hK A hA hD hS hE ls hl
  have hl : lv_has ls 5 [(0, .ref (a 0)), (1, .int (jI x0)), (2, .int (jI x1)), (3, .ref o)] := hl
  have hown : s.vm.findClass RL = some m.cls := hown
  have hSx : CallFix p m c cL_loss 5 s ([.ref (a 0), .int (jI x0), .int (jI x1), .ref o] : List Value).toArray wsL_loss RL := ⟨hx, hb, hml, hown, hts⟩
  have q13 := hts (.classLink RL 13 xI) (by decide +kernel)
  have z13 : (Cond.castable xI xI).before ([.ref (a 0), .int (jI x0), .int (jI x1), .ref o] : List Value).toArray s = true := xface (State.WarmedH.refl s) (by decide) (by decide) (hE.2.2.2.1 _ (by decide))
  have q15 := hts (.classLink RL 15 xA) (by decide +kernel)
  have z15 : (Cond.castable xA xA).before ([.ref (a 0), .int (jI x0), .int (jI x1), .ref o] : List Value).toArray s = true := xface (State.WarmedH.refl s) (by decide) (by decide) (hE.2.2.2.1 _ (by decide))
  refine lv_aload_n hx hb dL_loss_0 rfl (lv_at hl 3 rfl) ?_
  refine lv_iconst (v := jI 0) hx hb dL_loss_1 rfl ?_
  refine lv_aload_n hx hb dL_loss_2 rfl (lv_at hl 0 rfl) ?_
  refine lv_iload_n hx hb dL_loss_3 rfl (lv_at hl 1 rfl) ?_
  refine lv_iload_n hx hb dL_loss_4 rfl (lv_at hl 2 rfl) ?_
  refine xw_T (w1 := (w1 cI a ((s_X1_loss f g n x0 x1).2.2.1) ((s_X1_loss f g n x0 x1).2.2.2.1) ((s_X1_loss f g n x0 x1).2.2.2.2) b len kd sg nb pt)) (wr := wO cL o ou) (As := [.int (jI x0), .int (jI x1)]) (rest := [.int (jI 0), .ref o]) hSx (m_X1_loss l D cI a f g n b len kd sg nb pt hlt x0 x1 hn hx0 hx1) (cwV 2 hts gL_loss_X1_loss rfl rfl rfl (by decide +kernel) ⟨Nat.le_of_ble_eq_true rfl, Nat.le_of_ble_eq_true rfl⟩) (va_P_left hP) (va_P_right hP) hD hS hA (hK.sub [0] rfl) hE 0 rfl rfl rfl rfl hl.1 rfl (Nat.le_of_ble_eq_true rfl) dL_loss_5 ⟨Nat.le_of_ble_eq_true rfl, Nat.le_of_ble_eq_true rfl⟩ (fun E ce q9 H1 locs1 hc0 hE1 hP1 hR1 hS1 hce hcv hcl => ?_) (fun H1 locs1 hc0 hP1 hR1 hS1 => ?_)
  · rcases c_X1_loss f g n x0 x1 with h | h | h
    · exact absurd h hc0
    · have hE2 : E = xI := by rw [hE1, h]; rfl
      subst hE2
      refine vx_catch (own := RL) (name := xI) hown [] ⟨0, 10, 13, 13⟩ [⟨0, 10, 17, 15⟩] htab (fun _ h9 => absurd h9 List.not_mem_nil) (by decide) (by decide) q13 z13 hce hcv hcl ?_
      refine lv_astore hx hb dL_loss_13 hl (by decide) rfl (fun ls9 hl9 => ?_)
      refine lv_iconst (v := jI 1) hx hb dL_loss_15 rfl ?_
      exact xl_end (u := ou) hx hb hr hlocks (hP1.app hR1) hS1 (by rw [h]; rfl) (fun h9 => absurd (h.symm.trans h9) (by decide)) dL_loss_16
    · have hE2 : E = xA := by rw [hE1, h]; rfl
      subst hE2
      refine vx_catch (own := RL) (name := xA) hown [⟨0, 10, 13, 13⟩] ⟨0, 10, 17, 15⟩ [] htab (List.forall_mem_cons.mpr ⟨Or.inr ⟨by decide, xI, q13, hE.2.2.2.2.1.1⟩, fun _ h9 => absurd h9 List.not_mem_nil⟩) (by decide) (by decide) q15 z15 hce hcv hcl ?_
      refine lv_astore hx hb dL_loss_17 hl (by decide) rfl (fun ls9 hl9 => ?_)
      refine lv_iconst (v := jI 2) hx hb dL_loss_19 rfl ?_
      exact xl_end (u := ou) hx hb hr hlocks (hP1.app hR1) hS1 (by rw [h]; rfl) (fun h9 => absurd (h.symm.trans h9) (by decide)) dL_loss_20
  · refine lv_i2l hx hb dL_loss_8 rfl ?_
    refine xl_put hx hb hK hP1 hR1 (va_D_perm hD (List.Perm.refl _)) hS1 dL_loss_9 (fun H2 locs2 hP2 hS2 => ?_)
    refine lv_goto (tgt := 21) hx hb dL_loss_10 (by decide) ?_
    refine lv_iconst (v := jI 0) hx hb dL_loss_21 rfl ?_
    exact xl_end hx hb hr hlocks hP2 hS2 (by rw [hc0]; rfl) (fun _ => rfl) dL_loss_22
abbrev km_service : Int → Int := fun c => if c = 1 then 1 else if c = 3 then 2 else 0
abbrev rm_L_service : Room := { frames := 7, cells := 1, slots := 6, locals := 126 }
set_option maxHeartbeats 2000000 in
theorem m_L_service (l : Launch) (D : va_G) (cI : ClassId) (a : Nat → Nat) (f : Nat → Int) (g : Nat → Int) (n : Nat) (b : Nat → Int) (len : Nat) (kd : Nat → Int) (sg : Nat → Int) (nb : Nat → Int) (pt : Nat) (hlt : l.stackTraces = false) (x0 : Int) (hn : n ≤ 6) (hrf : rng f) (hx0 : -2147483648 ≤ x0 ∧ x0 < 2147483648) (cL : ClassId) (o : Nat) (ou : Nat → Int64) : MetL l yL_service wsL_service rm_L_service D cI cL [.ref (a 0), .int (jI x0), .ref o] (w1 cI a f g n b len kd sg nb pt) (w1 cI a ((s_X1_service f g n x0).2.2.1) ((s_X1_service f g n x0).2.2.2.1) ((s_X1_service f g n x0).2.2.2.2) b len kd sg nb pt) o ou ((s_X1_service f g n x0).1) ((s_X1_service f g n x0).2.1) km_service := by
  refine xe_L (cc := cL_service) (maxL := 4) (ret := (some .int)) (by decide) rfl (Nat.le_of_ble_eq_true rfl) ?_
  intro p e s m below meth c hx hb hr hml hts hown hlocks htab hP hK A hA hD hS hE ls hl
  have hl : lv_has ls 4 [(0, .ref (a 0)), (1, .int (jI x0)), (2, .ref o)] := hl
  have hown : s.vm.findClass RL = some m.cls := hown
  have hSx : CallFix p m c cL_service 4 s ([.ref (a 0), .int (jI x0), .ref o] : List Value).toArray wsL_service RL := ⟨hx, hb, hml, hown, hts⟩
  have q13 := hts (.classLink RL 13 xI) (by decide +kernel)
  have z13 : (Cond.castable xI xI).before ([.ref (a 0), .int (jI x0), .ref o] : List Value).toArray s = true := xface (State.WarmedH.refl s) (by decide) (by decide) (hE.2.2.2.1 _ (by decide))
  have q23 := hts (.classLink RL 23 xS) (by decide +kernel)
  have z23 : (Cond.castable xS xS).before ([.ref (a 0), .int (jI x0), .ref o] : List Value).toArray s = true := xface (State.WarmedH.refl s) (by decide) (by decide) (hE.2.2.2.1 _ (by decide))
  refine lv_aload_n hx hb dL_service_0 rfl (lv_at hl 2 rfl) ?_
  refine lv_iconst (v := jI 0) hx hb dL_service_1 rfl ?_
  refine lv_aload_n hx hb dL_service_2 rfl (lv_at hl 0 rfl) ?_
  refine lv_iload_n hx hb dL_service_3 rfl (lv_at hl 1 rfl) ?_
  refine xw_T (w1 := (w1 cI a ((s_X1_service f g n x0).2.2.1) ((s_X1_service f g n x0).2.2.2.1) ((s_X1_service f g n x0).2.2.2.2) b len kd sg nb pt)) (wr := wO cL o ou) (As := [.int (jI x0)]) (rest := [.int (jI 0), .ref o]) hSx (m_X1_service l D cI a f g n b len kd sg nb pt hlt x0 hn hrf hx0) (cwV 1 hts gL_service_X1_service rfl rfl rfl (by decide +kernel) ⟨Nat.le_of_ble_eq_true rfl, Nat.le_of_ble_eq_true rfl⟩) (va_P_left hP) (va_P_right hP) hD hS hA (hK.sub [0] rfl) hE 0 rfl rfl rfl rfl hl.1 rfl (Nat.le_of_ble_eq_true rfl) dL_service_4 ⟨Nat.le_of_ble_eq_true rfl, Nat.le_of_ble_eq_true rfl⟩ (fun E ce q9 H1 locs1 hc0 hE1 hP1 hR1 hS1 hce hcv hcl => ?_) (fun H1 locs1 hc0 hP1 hR1 hS1 => ?_)
  · rcases c_X1_service f g n x0 with h | h | h
    · exact absurd h hc0
    · have hE2 : E = xI := by rw [hE1, h]; rfl
      subst hE2
      refine vx_catch (own := RL) (name := xI) hown [] ⟨0, 9, 12, 13⟩ [⟨0, 9, 15, 23⟩] htab (fun _ h9 => absurd h9 List.not_mem_nil) (by decide) (by decide) q13 z13 hce hcv hcl ?_
      refine lv_astore_n hx hb dL_service_12 rfl hl (by decide) rfl (fun ls9 hl9 => ?_)
      refine lv_iconst (v := jI 1) hx hb dL_service_13 rfl ?_
      exact xl_end (u := ou) hx hb hr hlocks (hP1.app hR1) hS1 (by rw [h]; rfl) (fun h9 => absurd (h.symm.trans h9) (by decide)) dL_service_14
    · have hE2 : E = xS := by rw [hE1, h]; rfl
      subst hE2
      refine vx_catch (own := RL) (name := xS) hown [⟨0, 9, 12, 13⟩] ⟨0, 9, 15, 23⟩ [] htab (List.forall_mem_cons.mpr ⟨Or.inr ⟨by decide, xI, q13, hE.2.2.2.2.1.2.1⟩, fun _ h9 => absurd h9 List.not_mem_nil⟩) (by decide) (by decide) q23 z23 hce hcv hcl ?_
      refine lv_astore_n hx hb dL_service_15 rfl hl (by decide) rfl (fun ls9 hl9 => ?_)
      refine lv_iconst (v := jI 2) hx hb dL_service_16 rfl ?_
      exact xl_end (u := ou) hx hb hr hlocks (hP1.app hR1) hS1 (by rw [h]; rfl) (fun h9 => absurd (h.symm.trans h9) (by decide)) dL_service_17
  · refine lv_i2l hx hb dL_service_7 rfl ?_
    refine xl_put hx hb hK hP1 hR1 (va_D_perm hD (List.Perm.refl _)) hS1 dL_service_8 (fun H2 locs2 hP2 hS2 => ?_)
    refine lv_goto (tgt := 18) hx hb dL_service_9 (by decide) ?_
    refine lv_iconst (v := jI 0) hx hb dL_service_18 rfl ?_
    exact xl_end hx hb hr hlocks hP2 hS2 (by rw [hc0]; rfl) (fun _ => rfl) dL_service_19
abbrev km_lock : Int → Int := fun c => if c = 3 then 1 else 0
abbrev rm_L_lock : Room := { frames := 7, cells := 1, slots := 6, locals := 122 }
set_option maxHeartbeats 2000000 in
theorem m_L_lock (l : Launch) (D : va_G) (cI : ClassId) (a : Nat → Nat) (f : Nat → Int) (g : Nat → Int) (n : Nat) (b : Nat → Int) (len : Nat) (kd : Nat → Int) (sg : Nat → Int) (nb : Nat → Int) (pt : Nat) (hlt : l.stackTraces = false) (hn : n ≤ 6) (hrf : rng f) (hm : mvs f) (hh : 0 ≤ f 0 ∧ f 0 ≤ 99999) (hd : ∀ k : Nat, 14 ≤ k → k < 21 → -1 ≤ f k ∧ f k ≤ 23) (cL : ClassId) (o : Nat) (ou : Nat → Int64) : MetL l yL_lock wsL_lock rm_L_lock D cI cL [.ref (a 0), .ref o] (w1 cI a f g n b len kd sg nb pt) (w1 cI a ((s_X1_lock f g n).2.2.1) ((s_X1_lock f g n).2.2.2.1) ((s_X1_lock f g n).2.2.2.2) b len kd sg nb pt) o ou ((s_X1_lock f g n).1) ((s_X1_lock f g n).2.1) km_lock := by
  refine xe_L (cc := cL_lock) (maxL := 3) (ret := (some .int)) (by decide) rfl (Nat.le_of_ble_eq_true rfl) ?_
  intro p e s m below meth c hx hb hr hml hts hown hlocks htab hP hK A hA hD hS hE ls hl
  have hl : lv_has ls 3 [(0, .ref (a 0)), (1, .ref o)] := hl
  have hown : s.vm.findClass RL = some m.cls := hown
  have hSx : CallFix p m c cL_lock 3 s ([.ref (a 0), .ref o] : List Value).toArray wsL_lock RL := ⟨hx, hb, hml, hown, hts⟩
  have q23 := hts (.classLink RL 23 xS) (by decide +kernel)
  have z23 : (Cond.castable xS xS).before ([.ref (a 0), .ref o] : List Value).toArray s = true := xface (State.WarmedH.refl s) (by decide) (by decide) (hE.2.2.2.1 _ (by decide))
  refine lv_aload_n hx hb dL_lock_0 rfl (lv_at hl 1 rfl) ?_
  refine lv_iconst (v := jI 0) hx hb dL_lock_1 rfl ?_
  refine lv_aload_n hx hb dL_lock_2 rfl (lv_at hl 0 rfl) ?_
  refine xw_T (w1 := (w1 cI a ((s_X1_lock f g n).2.2.1) ((s_X1_lock f g n).2.2.2.1) ((s_X1_lock f g n).2.2.2.2) b len kd sg nb pt)) (wr := wO cL o ou) (As := []) (rest := [.int (jI 0), .ref o]) hSx (m_X1_lock l D cI a f g n b len kd sg nb pt hlt hn hrf hm hh hd) (cwV 0 hts gL_lock_X1_lock rfl rfl rfl (by decide +kernel) ⟨Nat.le_of_ble_eq_true rfl, Nat.le_of_ble_eq_true rfl⟩) (va_P_left hP) (va_P_right hP) hD hS hA (hK.sub [0] rfl) hE 0 rfl rfl rfl rfl hl.1 rfl (Nat.le_of_ble_eq_true rfl) dL_lock_3 ⟨Nat.le_of_ble_eq_true rfl, Nat.le_of_ble_eq_true rfl⟩ (fun E ce q9 H1 locs1 hc0 hE1 hP1 hR1 hS1 hce hcv hcl => ?_) (fun H1 locs1 hc0 hP1 hR1 hS1 => ?_)
  · rcases c_X1_lock f g n with h | h
    · exact absurd h hc0
    · have hE2 : E = xS := by rw [hE1, h]; rfl
      subst hE2
      refine vx_catch (own := RL) (name := xS) hown [] ⟨0, 8, 11, 23⟩ [] htab (fun _ h9 => absurd h9 List.not_mem_nil) (by decide) (by decide) q23 z23 hce hcv hcl ?_
      refine lv_astore_n hx hb dL_lock_11 rfl hl (by decide) rfl (fun ls9 hl9 => ?_)
      refine lv_iconst (v := jI 1) hx hb dL_lock_12 rfl ?_
      exact xl_end (u := ou) hx hb hr hlocks (hP1.app hR1) hS1 (by rw [h]; rfl) (fun h9 => absurd (h.symm.trans h9) (by decide)) dL_lock_13
  · refine lv_i2l hx hb dL_lock_6 rfl ?_
    refine xl_put hx hb hK hP1 hR1 (va_D_perm hD (List.Perm.refl _)) hS1 dL_lock_7 (fun H2 locs2 hP2 hS2 => ?_)
    refine lv_goto (tgt := 14) hx hb dL_lock_8 (by decide) ?_
    refine lv_iconst (v := jI 0) hx hb dL_lock_14 rfl ?_
    exact xl_end hx hb hr hlocks hP2 hS2 (by rw [hc0]; rfl) (fun _ => rfl) dL_lock_15
abbrev km_open : Int → Int := fun c => if c = 3 then 1 else 0
abbrev rm_L_open : Room := { frames := 7, cells := 1, slots := 6, locals := 122 }
set_option maxHeartbeats 2000000 in
theorem m_L_open (l : Launch) (D : va_G) (cI : ClassId) (a : Nat → Nat) (f : Nat → Int) (g : Nat → Int) (n : Nat) (b : Nat → Int) (len : Nat) (kd : Nat → Int) (sg : Nat → Int) (nb : Nat → Int) (pt : Nat) (hlt : l.stackTraces = false) (hn : n ≤ 6) (hrf : rng f) (hm : mvs f) (hh : 0 ≤ f 0 ∧ f 0 ≤ 99999) (hw : 0 ≤ f 4 ∧ f 4 ≤ 100100) (h2 : -1 ≤ f 2 ∧ f 2 ≤ 100300) (h3 : 0 ≤ f 3 ∧ f 3 ≤ 8) (h11 : 1 ≤ f 11 ∧ f 11 ≤ 9) (cL : ClassId) (o : Nat) (ou : Nat → Int64) : MetL l yL_open wsL_open rm_L_open D cI cL [.ref (a 0), .ref o] (w1 cI a f g n b len kd sg nb pt) (w1 cI a ((s_X1_open f g n).2.2.1) ((s_X1_open f g n).2.2.2.1) ((s_X1_open f g n).2.2.2.2) b len kd sg nb pt) o ou ((s_X1_open f g n).1) ((s_X1_open f g n).2.1) km_open := by
  refine xe_L (cc := cL_open) (maxL := 3) (ret := (some .int)) (by decide) rfl (Nat.le_of_ble_eq_true rfl) ?_
  intro p e s m below meth c hx hb hr hml hts hown hlocks htab hP hK A hA hD hS hE ls hl
  have hl : lv_has ls 3 [(0, .ref (a 0)), (1, .ref o)] := hl
  have hown : s.vm.findClass RL = some m.cls := hown
  have hSx : CallFix p m c cL_open 3 s ([.ref (a 0), .ref o] : List Value).toArray wsL_open RL := ⟨hx, hb, hml, hown, hts⟩
  have q23 := hts (.classLink RL 23 xS) (by decide +kernel)
  have z23 : (Cond.castable xS xS).before ([.ref (a 0), .ref o] : List Value).toArray s = true := xface (State.WarmedH.refl s) (by decide) (by decide) (hE.2.2.2.1 _ (by decide))
  refine lv_aload_n hx hb dL_open_0 rfl (lv_at hl 1 rfl) ?_
  refine lv_iconst (v := jI 0) hx hb dL_open_1 rfl ?_
  refine lv_aload_n hx hb dL_open_2 rfl (lv_at hl 0 rfl) ?_
  refine xw_T (w1 := (w1 cI a ((s_X1_open f g n).2.2.1) ((s_X1_open f g n).2.2.2.1) ((s_X1_open f g n).2.2.2.2) b len kd sg nb pt)) (wr := wO cL o ou) (As := []) (rest := [.int (jI 0), .ref o]) hSx (m_X1_open l D cI a f g n b len kd sg nb pt hlt hn hrf hm hh hw h2 h3 h11) (cwV 0 hts gL_open_X1_open rfl rfl rfl (by decide +kernel) ⟨Nat.le_of_ble_eq_true rfl, Nat.le_of_ble_eq_true rfl⟩) (va_P_left hP) (va_P_right hP) hD hS hA (hK.sub [0] rfl) hE 0 rfl rfl rfl rfl hl.1 rfl (Nat.le_of_ble_eq_true rfl) dL_open_3 ⟨Nat.le_of_ble_eq_true rfl, Nat.le_of_ble_eq_true rfl⟩ (fun E ce q9 H1 locs1 hc0 hE1 hP1 hR1 hS1 hce hcv hcl => ?_) (fun H1 locs1 hc0 hP1 hR1 hS1 => ?_)
  · rcases c_X1_open f g n with h | h
    · exact absurd h hc0
    · have hE2 : E = xS := by rw [hE1, h]; rfl
      subst hE2
      refine vx_catch (own := RL) (name := xS) hown [] ⟨0, 8, 11, 23⟩ [] htab (fun _ h9 => absurd h9 List.not_mem_nil) (by decide) (by decide) q23 z23 hce hcv hcl ?_
      refine lv_astore_n hx hb dL_open_11 rfl hl (by decide) rfl (fun ls9 hl9 => ?_)
      refine lv_iconst (v := jI 1) hx hb dL_open_12 rfl ?_
      exact xl_end (u := ou) hx hb hr hlocks (hP1.app hR1) hS1 (by rw [h]; rfl) (fun h9 => absurd (h.symm.trans h9) (by decide)) dL_open_13
  · refine lv_i2l hx hb dL_open_6 rfl ?_
    refine xl_put hx hb hK hP1 hR1 (va_D_perm hD (List.Perm.refl _)) hS1 dL_open_7 (fun H2 locs2 hP2 hS2 => ?_)
    refine lv_goto (tgt := 14) hx hb dL_open_8 (by decide) ?_
    refine lv_iconst (v := jI 0) hx hb dL_open_14 rfl ?_
    exact xl_end hx hb hr hlocks hP2 hS2 (by rw [hc0]; rfl) (fun _ => rfl) dL_open_15
abbrev km_drill : Int → Int := fun c => if c = 3 then 1 else 0
abbrev rm_L_drill : Room := { frames := 7, cells := 1, slots := 6, locals := 122 }
set_option maxHeartbeats 2000000 in
theorem m_L_drill (l : Launch) (D : va_G) (cI : ClassId) (a : Nat → Nat) (f : Nat → Int) (g : Nat → Int) (n : Nat) (b : Nat → Int) (len : Nat) (kd : Nat → Int) (sg : Nat → Int) (nb : Nat → Int) (pt : Nat) (hlt : l.stackTraces = false) (hn : n ≤ 6) (hrf : rng f) (cL : ClassId) (o : Nat) (ou : Nat → Int64) : MetL l yL_drill wsL_drill rm_L_drill D cI cL [.ref (a 0), .ref o] (w1 cI a f g n b len kd sg nb pt) (w1 cI a ((s_X1_drill f g n).2.2.1) ((s_X1_drill f g n).2.2.2.1) ((s_X1_drill f g n).2.2.2.2) b len kd sg nb pt) o ou ((s_X1_drill f g n).1) ((s_X1_drill f g n).2.1) km_drill := by
  refine xe_L (cc := cL_drill) (maxL := 3) (ret := (some .int)) (by decide) rfl (Nat.le_of_ble_eq_true rfl) ?_
  intro p e s m below meth c hx hb hr hml hts hown hlocks htab hP hK A hA hD hS hE ls hl
  have hl : lv_has ls 3 [(0, .ref (a 0)), (1, .ref o)] := hl
  have hown : s.vm.findClass RL = some m.cls := hown
  have hSx : CallFix p m c cL_drill 3 s ([.ref (a 0), .ref o] : List Value).toArray wsL_drill RL := ⟨hx, hb, hml, hown, hts⟩
  have q23 := hts (.classLink RL 23 xS) (by decide +kernel)
  have z23 : (Cond.castable xS xS).before ([.ref (a 0), .ref o] : List Value).toArray s = true := xface (State.WarmedH.refl s) (by decide) (by decide) (hE.2.2.2.1 _ (by decide))
  refine lv_aload_n hx hb dL_drill_0 rfl (lv_at hl 1 rfl) ?_
  refine lv_iconst (v := jI 0) hx hb dL_drill_1 rfl ?_
  refine lv_aload_n hx hb dL_drill_2 rfl (lv_at hl 0 rfl) ?_
  refine xw_T (w1 := (w1 cI a ((s_X1_drill f g n).2.2.1) ((s_X1_drill f g n).2.2.2.1) ((s_X1_drill f g n).2.2.2.2) b len kd sg nb pt)) (wr := wO cL o ou) (As := []) (rest := [.int (jI 0), .ref o]) hSx (m_X1_drill l D cI a f g n b len kd sg nb pt hlt hn hrf) (cwV 0 hts gL_drill_X1_drill rfl rfl rfl (by decide +kernel) ⟨Nat.le_of_ble_eq_true rfl, Nat.le_of_ble_eq_true rfl⟩) (va_P_left hP) (va_P_right hP) hD hS hA (hK.sub [0] rfl) hE 0 rfl rfl rfl rfl hl.1 rfl (Nat.le_of_ble_eq_true rfl) dL_drill_3 ⟨Nat.le_of_ble_eq_true rfl, Nat.le_of_ble_eq_true rfl⟩ (fun E ce q9 H1 locs1 hc0 hE1 hP1 hR1 hS1 hce hcv hcl => ?_) (fun H1 locs1 hc0 hP1 hR1 hS1 => ?_)
  · rcases c_X1_drill f g n with h | h
    · exact absurd h hc0
    · have hE2 : E = xS := by rw [hE1, h]; rfl
      subst hE2
      refine vx_catch (own := RL) (name := xS) hown [] ⟨0, 8, 11, 23⟩ [] htab (fun _ h9 => absurd h9 List.not_mem_nil) (by decide) (by decide) q23 z23 hce hcv hcl ?_
      refine lv_astore_n hx hb dL_drill_11 rfl hl (by decide) rfl (fun ls9 hl9 => ?_)
      refine lv_iconst (v := jI 1) hx hb dL_drill_12 rfl ?_
      exact xl_end (u := ou) hx hb hr hlocks (hP1.app hR1) hS1 (by rw [h]; rfl) (fun h9 => absurd (h.symm.trans h9) (by decide)) dL_drill_13
  · refine lv_i2l hx hb dL_drill_6 rfl ?_
    refine xl_put hx hb hK hP1 hR1 (va_D_perm hD (List.Perm.refl _)) hS1 dL_drill_7 (fun H2 locs2 hP2 hS2 => ?_)
    refine lv_goto (tgt := 14) hx hb dL_drill_8 (by decide) ?_
    refine lv_iconst (v := jI 0) hx hb dL_drill_14 rfl ?_
    exact xl_end hx hb hr hlocks hP2 hS2 (by rw [hc0]; rfl) (fun _ => rfl) dL_drill_15
abbrev km_pass : Int → Int := fun c => if c = 2 then 1 else if c = 3 then 2 else 0
abbrev rm_L_pass : Room := { frames := 7, cells := 1, slots := 6, locals := 123 }
set_option maxHeartbeats 2000000 in
theorem m_L_pass (l : Launch) (D : va_G) (cI : ClassId) (a : Nat → Nat) (f : Nat → Int) (g : Nat → Int) (n : Nat) (b : Nat → Int) (len : Nat) (kd : Nat → Int) (sg : Nat → Int) (nb : Nat → Int) (pt : Nat) (hlt : l.stackTraces = false) (x0 : Int) (hn : n ≤ 6) (hrf : rng f) (hh : 0 ≤ f 0 ∧ f 0 ≤ 99999) (hm : mvB f 100000) (hx0 : -2147483648 ≤ x0 ∧ x0 < 2147483648) (cL : ClassId) (o : Nat) (ou : Nat → Int64) : MetL l yL_pass wsL_pass rm_L_pass D cI cL [.ref (a 0), .int (jI x0), .ref o] (w1 cI a f g n b len kd sg nb pt) (w1 cI a ((s_X1_pass f g n x0).2.2.1) ((s_X1_pass f g n x0).2.2.2.1) ((s_X1_pass f g n x0).2.2.2.2) b len kd sg nb pt) o ou ((s_X1_pass f g n x0).1) ((s_X1_pass f g n x0).2.1) km_pass := by
  refine xe_L (cc := cL_pass) (maxL := 4) (ret := (some .int)) (by decide) rfl (Nat.le_of_ble_eq_true rfl) ?_
  intro p e s m below meth c hx hb hr hml hts hown hlocks htab hP hK A hA hD hS hE ls hl
  have hl : lv_has ls 4 [(0, .ref (a 0)), (1, .int (jI x0)), (2, .ref o)] := hl
  have hown : s.vm.findClass RL = some m.cls := hown
  have hSx : CallFix p m c cL_pass 4 s ([.ref (a 0), .int (jI x0), .ref o] : List Value).toArray wsL_pass RL := ⟨hx, hb, hml, hown, hts⟩
  have q15 := hts (.classLink RL 15 xA) (by decide +kernel)
  have z15 : (Cond.castable xA xA).before ([.ref (a 0), .int (jI x0), .ref o] : List Value).toArray s = true := xface (State.WarmedH.refl s) (by decide) (by decide) (hE.2.2.2.1 _ (by decide))
  have q23 := hts (.classLink RL 23 xS) (by decide +kernel)
  have z23 : (Cond.castable xS xS).before ([.ref (a 0), .int (jI x0), .ref o] : List Value).toArray s = true := xface (State.WarmedH.refl s) (by decide) (by decide) (hE.2.2.2.1 _ (by decide))
  refine lv_aload_n hx hb dL_pass_0 rfl (lv_at hl 2 rfl) ?_
  refine lv_iconst (v := jI 0) hx hb dL_pass_1 rfl ?_
  refine lv_aload_n hx hb dL_pass_2 rfl (lv_at hl 0 rfl) ?_
  refine lv_iload_n hx hb dL_pass_3 rfl (lv_at hl 1 rfl) ?_
  refine xw_T (w1 := (w1 cI a ((s_X1_pass f g n x0).2.2.1) ((s_X1_pass f g n x0).2.2.2.1) ((s_X1_pass f g n x0).2.2.2.2) b len kd sg nb pt)) (wr := wO cL o ou) (As := [.int (jI x0)]) (rest := [.int (jI 0), .ref o]) hSx (m_X1_pass l D cI a f g n b len kd sg nb pt hlt x0 hn hrf hh hm hx0) (cwV 1 hts gL_pass_X1_pass rfl rfl rfl (by decide +kernel) ⟨Nat.le_of_ble_eq_true rfl, Nat.le_of_ble_eq_true rfl⟩) (va_P_left hP) (va_P_right hP) hD hS hA (hK.sub [0] rfl) hE 0 rfl rfl rfl rfl hl.1 rfl (Nat.le_of_ble_eq_true rfl) dL_pass_4 ⟨Nat.le_of_ble_eq_true rfl, Nat.le_of_ble_eq_true rfl⟩ (fun E ce q9 H1 locs1 hc0 hE1 hP1 hR1 hS1 hce hcv hcl => ?_) (fun H1 locs1 hc0 hP1 hR1 hS1 => ?_)
  · rcases c_X1_pass f g n x0 with h | h | h
    · exact absurd h hc0
    · have hE2 : E = xA := by rw [hE1, h]; rfl
      subst hE2
      refine vx_catch (own := RL) (name := xA) hown [] ⟨0, 9, 12, 15⟩ [⟨0, 9, 15, 23⟩] htab (fun _ h9 => absurd h9 List.not_mem_nil) (by decide) (by decide) q15 z15 hce hcv hcl ?_
      refine lv_astore_n hx hb dL_pass_12 rfl hl (by decide) rfl (fun ls9 hl9 => ?_)
      refine lv_iconst (v := jI 1) hx hb dL_pass_13 rfl ?_
      exact xl_end (u := ou) hx hb hr hlocks (hP1.app hR1) hS1 (by rw [h]; rfl) (fun h9 => absurd (h.symm.trans h9) (by decide)) dL_pass_14
    · have hE2 : E = xS := by rw [hE1, h]; rfl
      subst hE2
      refine vx_catch (own := RL) (name := xS) hown [⟨0, 9, 12, 15⟩] ⟨0, 9, 15, 23⟩ [] htab (List.forall_mem_cons.mpr ⟨Or.inr ⟨by decide, xA, q15, hE.2.2.2.2.1.2.2⟩, fun _ h9 => absurd h9 List.not_mem_nil⟩) (by decide) (by decide) q23 z23 hce hcv hcl ?_
      refine lv_astore_n hx hb dL_pass_15 rfl hl (by decide) rfl (fun ls9 hl9 => ?_)
      refine lv_iconst (v := jI 2) hx hb dL_pass_16 rfl ?_
      exact xl_end (u := ou) hx hb hr hlocks (hP1.app hR1) hS1 (by rw [h]; rfl) (fun h9 => absurd (h.symm.trans h9) (by decide)) dL_pass_17
  · refine lv_i2l hx hb dL_pass_7 rfl ?_
    refine xl_put hx hb hK hP1 hR1 (va_D_perm hD (List.Perm.refl _)) hS1 dL_pass_8 (fun H2 locs2 hP2 hS2 => ?_)
    refine lv_goto (tgt := 18) hx hb dL_pass_9 (by decide) ?_
    refine lv_iconst (v := jI 0) hx hb dL_pass_18 rfl ?_
    exact xl_end hx hb hr hlocks hP2 hS2 (by rw [hc0]; rfl) (fun _ => rfl) dL_pass_19
abbrev km_append : Int → Int := fun c => if c = 2 then 1 else if c = 3 then 2 else 0
abbrev rm_L_append : Room := { frames := 7, cells := 1, slots := 6, locals := 123 }
set_option maxHeartbeats 2000000 in
theorem m_L_append (l : Launch) (D : va_G) (cI : ClassId) (a : Nat → Nat) (f : Nat → Int) (g : Nat → Int) (n : Nat) (b : Nat → Int) (len : Nat) (kd : Nat → Int) (sg : Nat → Int) (nb : Nat → Int) (pt : Nat) (hlt : l.stackTraces = false) (x0 : Int) (hln : len ≤ 60) (hx0 : -2147483648 ≤ x0 ∧ x0 < 2147483648) (cL : ClassId) (o : Nat) (ou : Nat → Int64) : MetL l yL_append wsL_append rm_L_append D cI cL [.ref (a 0), .int (jI x0), .ref o] (w1 cI a f g n b len kd sg nb pt) (w1 cI a f g n ((s_X1_append b len x0).2.2.1) ((s_X1_append b len x0).2.2.2) kd sg nb pt) o ou ((s_X1_append b len x0).1) ((s_X1_append b len x0).2.1) km_append := by
  refine xe_L (cc := cL_append) (maxL := 4) (ret := (some .int)) (by decide) rfl (Nat.le_of_ble_eq_true rfl) ?_
  intro p e s m below meth c hx hb hr hml hts hown hlocks htab hP hK A hA hD hS hE ls hl
  have hl : lv_has ls 4 [(0, .ref (a 0)), (1, .int (jI x0)), (2, .ref o)] := hl
  have hown : s.vm.findClass RL = some m.cls := hown
  have hSx : CallFix p m c cL_append 4 s ([.ref (a 0), .int (jI x0), .ref o] : List Value).toArray wsL_append RL := ⟨hx, hb, hml, hown, hts⟩
  have q15 := hts (.classLink RL 15 xA) (by decide +kernel)
  have z15 : (Cond.castable xA xA).before ([.ref (a 0), .int (jI x0), .ref o] : List Value).toArray s = true := xface (State.WarmedH.refl s) (by decide) (by decide) (hE.2.2.2.1 _ (by decide))
  have q23 := hts (.classLink RL 23 xS) (by decide +kernel)
  have z23 : (Cond.castable xS xS).before ([.ref (a 0), .int (jI x0), .ref o] : List Value).toArray s = true := xface (State.WarmedH.refl s) (by decide) (by decide) (hE.2.2.2.1 _ (by decide))
  refine lv_aload_n hx hb dL_append_0 rfl (lv_at hl 2 rfl) ?_
  refine lv_iconst (v := jI 0) hx hb dL_append_1 rfl ?_
  refine lv_aload_n hx hb dL_append_2 rfl (lv_at hl 0 rfl) ?_
  refine lv_iload_n hx hb dL_append_3 rfl (lv_at hl 1 rfl) ?_
  refine xw_T (w1 := (w1 cI a f g n ((s_X1_append b len x0).2.2.1) ((s_X1_append b len x0).2.2.2) kd sg nb pt)) (wr := wO cL o ou) (As := [.int (jI x0)]) (rest := [.int (jI 0), .ref o]) hSx (m_X1_append l D cI a f g n b len kd sg nb pt hlt x0 hln hx0) (cwV 1 hts gL_append_X1_append rfl rfl rfl (by decide +kernel) ⟨Nat.le_of_ble_eq_true rfl, Nat.le_of_ble_eq_true rfl⟩) (va_P_left hP) (va_P_right hP) hD hS hA (hK.sub [0] rfl) hE 0 rfl rfl rfl rfl hl.1 rfl (Nat.le_of_ble_eq_true rfl) dL_append_4 ⟨Nat.le_of_ble_eq_true rfl, Nat.le_of_ble_eq_true rfl⟩ (fun E ce q9 H1 locs1 hc0 hE1 hP1 hR1 hS1 hce hcv hcl => ?_) (fun H1 locs1 hc0 hP1 hR1 hS1 => ?_)
  · rcases c_X1_append b len x0 with h | h | h
    · exact absurd h hc0
    · have hE2 : E = xA := by rw [hE1, h]; rfl
      subst hE2
      refine vx_catch (own := RL) (name := xA) hown [] ⟨0, 9, 12, 15⟩ [⟨0, 9, 15, 23⟩] htab (fun _ h9 => absurd h9 List.not_mem_nil) (by decide) (by decide) q15 z15 hce hcv hcl ?_
      refine lv_astore_n hx hb dL_append_12 rfl hl (by decide) rfl (fun ls9 hl9 => ?_)
      refine lv_iconst (v := jI 1) hx hb dL_append_13 rfl ?_
      exact xl_end (u := ou) hx hb hr hlocks (hP1.app hR1) hS1 (by rw [h]; rfl) (fun h9 => absurd (h.symm.trans h9) (by decide)) dL_append_14
    · have hE2 : E = xS := by rw [hE1, h]; rfl
      subst hE2
      refine vx_catch (own := RL) (name := xS) hown [⟨0, 9, 12, 15⟩] ⟨0, 9, 15, 23⟩ [] htab (List.forall_mem_cons.mpr ⟨Or.inr ⟨by decide, xA, q15, hE.2.2.2.2.1.2.2⟩, fun _ h9 => absurd h9 List.not_mem_nil⟩) (by decide) (by decide) q23 z23 hce hcv hcl ?_
      refine lv_astore_n hx hb dL_append_15 rfl hl (by decide) rfl (fun ls9 hl9 => ?_)
      refine lv_iconst (v := jI 2) hx hb dL_append_16 rfl ?_
      exact xl_end (u := ou) hx hb hr hlocks (hP1.app hR1) hS1 (by rw [h]; rfl) (fun h9 => absurd (h.symm.trans h9) (by decide)) dL_append_17
  · refine lv_i2l hx hb dL_append_7 rfl ?_
    refine xl_put hx hb hK hP1 hR1 (va_D_perm hD (List.Perm.refl _)) hS1 dL_append_8 (fun H2 locs2 hP2 hS2 => ?_)
    refine lv_goto (tgt := 18) hx hb dL_append_9 (by decide) ?_
    refine lv_iconst (v := jI 0) hx hb dL_append_18 rfl ?_
    exact xl_end hx hb hr hlocks hP2 hS2 (by rw [hc0]; rfl) (fun _ => rfl) dL_append_19
abbrev km_windAll : Int → Int := fun c => if c = 2 then 1 else if c = 3 then 2 else 0
abbrev rm_L_windAll : Room := { frames := 7, cells := 1, slots := 6, locals := 123 }
set_option maxHeartbeats 2000000 in
theorem m_L_windAll (l : Launch) (D : va_G) (cI : ClassId) (a : Nat → Nat) (f : Nat → Int) (g : Nat → Int) (n : Nat) (b : Nat → Int) (len : Nat) (kd : Nat → Int) (sg : Nat → Int) (nb : Nat → Int) (pt : Nat) (hlt : l.stackTraces = false) (hn : n ≤ 6) (hrf : rng f) (hh : 0 ≤ f 0 ∧ f 0 ≤ 99999) (hd : ∀ k : Nat, 14 ≤ k → k < 21 → -1 ≤ f k ∧ f k ≤ 23) (hw0 : wok kd sg nb) (hbf : ∀ k : Nat, k < len → 33 ≤ b k ∧ b k ≤ 126) (hln : len ≤ 60) (cL : ClassId) (o : Nat) (ou : Nat → Int64) : MetL l yL_windAll wsL_windAll rm_L_windAll D cI cL [.ref (a 0), .ref o] (w1 cI a f g n b len kd sg nb pt) (w1 cI a ((s_X1_windAll f g n b len kd sg nb).2.2.1) ((s_X1_windAll f g n b len kd sg nb).2.2.2.1) ((s_X1_windAll f g n b len kd sg nb).2.2.2.2.1) b ((s_X1_windAll f g n b len kd sg nb).2.2.2.2.2.1) ((s_X1_windAll f g n b len kd sg nb).2.2.2.2.2.2.1) ((s_X1_windAll f g n b len kd sg nb).2.2.2.2.2.2.2.1) ((s_X1_windAll f g n b len kd sg nb).2.2.2.2.2.2.2.2.1) ((s_X1_windAll f g n b len kd sg nb).2.2.2.2.2.2.2.2.2)) o ou ((s_X1_windAll f g n b len kd sg nb).1) ((s_X1_windAll f g n b len kd sg nb).2.1) km_windAll := by
  refine xe_L (cc := cL_windAll) (maxL := 3) (ret := (some .int)) (by decide) rfl (Nat.le_of_ble_eq_true rfl) ?_
  intro p e s m below meth c hx hb hr hml hts hown hlocks htab hP hK A hA hD hS hE ls hl
  have hl : lv_has ls 3 [(0, .ref (a 0)), (1, .ref o)] := hl
  have hown : s.vm.findClass RL = some m.cls := hown
  have hSx : CallFix p m c cL_windAll 3 s ([.ref (a 0), .ref o] : List Value).toArray wsL_windAll RL := ⟨hx, hb, hml, hown, hts⟩
  have q15 := hts (.classLink RL 15 xA) (by decide +kernel)
  have z15 : (Cond.castable xA xA).before ([.ref (a 0), .ref o] : List Value).toArray s = true := xface (State.WarmedH.refl s) (by decide) (by decide) (hE.2.2.2.1 _ (by decide))
  have q23 := hts (.classLink RL 23 xS) (by decide +kernel)
  have z23 : (Cond.castable xS xS).before ([.ref (a 0), .ref o] : List Value).toArray s = true := xface (State.WarmedH.refl s) (by decide) (by decide) (hE.2.2.2.1 _ (by decide))
  refine lv_aload_n hx hb dL_windAll_0 rfl (lv_at hl 1 rfl) ?_
  refine lv_iconst (v := jI 0) hx hb dL_windAll_1 rfl ?_
  refine lv_aload_n hx hb dL_windAll_2 rfl (lv_at hl 0 rfl) ?_
  refine xw_T (w1 := (w1 cI a ((s_X1_windAll f g n b len kd sg nb).2.2.1) ((s_X1_windAll f g n b len kd sg nb).2.2.2.1) ((s_X1_windAll f g n b len kd sg nb).2.2.2.2.1) b ((s_X1_windAll f g n b len kd sg nb).2.2.2.2.2.1) ((s_X1_windAll f g n b len kd sg nb).2.2.2.2.2.2.1) ((s_X1_windAll f g n b len kd sg nb).2.2.2.2.2.2.2.1) ((s_X1_windAll f g n b len kd sg nb).2.2.2.2.2.2.2.2.1) ((s_X1_windAll f g n b len kd sg nb).2.2.2.2.2.2.2.2.2))) (wr := wO cL o ou) (As := []) (rest := [.int (jI 0), .ref o]) hSx (m_X1_windAll l D cI a f g n b len kd sg nb pt hlt hn hrf hh hd hw0 hbf hln) (cwV 0 hts gL_windAll_X1_windAll rfl rfl rfl (by decide +kernel) ⟨Nat.le_of_ble_eq_true rfl, Nat.le_of_ble_eq_true rfl⟩) (va_P_left hP) (va_P_right hP) hD hS hA (hK.sub [0] rfl) hE 0 rfl rfl rfl rfl hl.1 rfl (Nat.le_of_ble_eq_true rfl) dL_windAll_3 ⟨Nat.le_of_ble_eq_true rfl, Nat.le_of_ble_eq_true rfl⟩ (fun E ce q9 H1 locs1 hc0 hE1 hP1 hR1 hS1 hce hcv hcl => ?_) (fun H1 locs1 hc0 hP1 hR1 hS1 => ?_)
  · rcases c_X1_windAll f g n b len kd sg nb with h | h | h
    · exact absurd h hc0
    · have hE2 : E = xA := by rw [hE1, h]; rfl
      subst hE2
      refine vx_catch (own := RL) (name := xA) hown [] ⟨0, 8, 11, 15⟩ [⟨0, 8, 14, 23⟩] htab (fun _ h9 => absurd h9 List.not_mem_nil) (by decide) (by decide) q15 z15 hce hcv hcl ?_
      refine lv_astore_n hx hb dL_windAll_11 rfl hl (by decide) rfl (fun ls9 hl9 => ?_)
      refine lv_iconst (v := jI 1) hx hb dL_windAll_12 rfl ?_
      exact xl_end (u := ou) hx hb hr hlocks (hP1.app hR1) hS1 (by rw [h]; rfl) (fun h9 => absurd (h.symm.trans h9) (by decide)) dL_windAll_13
    · have hE2 : E = xS := by rw [hE1, h]; rfl
      subst hE2
      refine vx_catch (own := RL) (name := xS) hown [⟨0, 8, 11, 15⟩] ⟨0, 8, 14, 23⟩ [] htab (List.forall_mem_cons.mpr ⟨Or.inr ⟨by decide, xA, q15, hE.2.2.2.2.1.2.2⟩, fun _ h9 => absurd h9 List.not_mem_nil⟩) (by decide) (by decide) q23 z23 hce hcv hcl ?_
      refine lv_astore_n hx hb dL_windAll_14 rfl hl (by decide) rfl (fun ls9 hl9 => ?_)
      refine lv_iconst (v := jI 2) hx hb dL_windAll_15 rfl ?_
      exact xl_end (u := ou) hx hb hr hlocks (hP1.app hR1) hS1 (by rw [h]; rfl) (fun h9 => absurd (h.symm.trans h9) (by decide)) dL_windAll_16
  · refine lv_i2l hx hb dL_windAll_6 rfl ?_
    refine xl_put hx hb hK hP1 hR1 (va_D_perm hD (List.Perm.refl _)) hS1 dL_windAll_7 (fun H2 locs2 hP2 hS2 => ?_)
    refine lv_goto (tgt := 17) hx hb dL_windAll_8 (by decide) ?_
    refine lv_iconst (v := jI 0) hx hb dL_windAll_17 rfl ?_
    exact xl_end hx hb hr hlocks hP2 hS2 (by rw [hc0]; rfl) (fun _ => rfl) dL_windAll_18
abbrev km_undo : Int → Int := fun c => if c = 3 then 1 else 0
abbrev rm_L_undo : Room := { frames := 7, cells := 1, slots := 6, locals := 122 }
set_option maxHeartbeats 2000000 in
theorem m_L_undo (l : Launch) (D : va_G) (cI : ClassId) (a : Nat → Nat) (f : Nat → Int) (g : Nat → Int) (n : Nat) (b : Nat → Int) (len : Nat) (kd : Nat → Int) (sg : Nat → Int) (nb : Nat → Int) (pt : Nat) (hlt : l.stackTraces = false) (hn : n ≤ 6) (cL : ClassId) (o : Nat) (ou : Nat → Int64) : MetL l yL_undo wsL_undo rm_L_undo D cI cL [.ref (a 0), .ref o] (w1 cI a f g n b len kd sg nb pt) (w1 cI a ((s_X1_undo f g n).2.2.1) ((s_X1_undo f g n).2.2.2.1) ((s_X1_undo f g n).2.2.2.2) b len kd sg nb pt) o ou ((s_X1_undo f g n).1) ((s_X1_undo f g n).2.1) km_undo := by
  refine xe_L (cc := cL_undo) (maxL := 3) (ret := (some .int)) (by decide) rfl (Nat.le_of_ble_eq_true rfl) ?_
  intro p e s m below meth c hx hb hr hml hts hown hlocks htab hP hK A hA hD hS hE ls hl
  have hl : lv_has ls 3 [(0, .ref (a 0)), (1, .ref o)] := hl
  have hown : s.vm.findClass RL = some m.cls := hown
  have hSx : CallFix p m c cL_undo 3 s ([.ref (a 0), .ref o] : List Value).toArray wsL_undo RL := ⟨hx, hb, hml, hown, hts⟩
  have q23 := hts (.classLink RL 23 xS) (by decide +kernel)
  have z23 : (Cond.castable xS xS).before ([.ref (a 0), .ref o] : List Value).toArray s = true := xface (State.WarmedH.refl s) (by decide) (by decide) (hE.2.2.2.1 _ (by decide))
  refine lv_aload_n hx hb dL_undo_0 rfl (lv_at hl 1 rfl) ?_
  refine lv_iconst (v := jI 0) hx hb dL_undo_1 rfl ?_
  refine lv_aload_n hx hb dL_undo_2 rfl (lv_at hl 0 rfl) ?_
  refine xw_T (w1 := (w1 cI a ((s_X1_undo f g n).2.2.1) ((s_X1_undo f g n).2.2.2.1) ((s_X1_undo f g n).2.2.2.2) b len kd sg nb pt)) (wr := wO cL o ou) (As := []) (rest := [.int (jI 0), .ref o]) hSx (m_X1_undo l D cI a f g n b len kd sg nb pt hlt hn) (cwV 0 hts gL_undo_X1_undo rfl rfl rfl (by decide +kernel) ⟨Nat.le_of_ble_eq_true rfl, Nat.le_of_ble_eq_true rfl⟩) (va_P_left hP) (va_P_right hP) hD hS hA (hK.sub [0] rfl) hE 0 rfl rfl rfl rfl hl.1 rfl (Nat.le_of_ble_eq_true rfl) dL_undo_3 ⟨Nat.le_of_ble_eq_true rfl, Nat.le_of_ble_eq_true rfl⟩ (fun E ce q9 H1 locs1 hc0 hE1 hP1 hR1 hS1 hce hcv hcl => ?_) (fun H1 locs1 hc0 hP1 hR1 hS1 => ?_)
  · rcases c_X1_undo f g n with h | h
    · exact absurd h hc0
    · have hE2 : E = xS := by rw [hE1, h]; rfl
      subst hE2
      refine vx_catch (own := RL) (name := xS) hown [] ⟨0, 8, 11, 23⟩ [] htab (fun _ h9 => absurd h9 List.not_mem_nil) (by decide) (by decide) q23 z23 hce hcv hcl ?_
      refine lv_astore_n hx hb dL_undo_11 rfl hl (by decide) rfl (fun ls9 hl9 => ?_)
      refine lv_iconst (v := jI 1) hx hb dL_undo_12 rfl ?_
      exact xl_end (u := ou) hx hb hr hlocks (hP1.app hR1) hS1 (by rw [h]; rfl) (fun h9 => absurd (h.symm.trans h9) (by decide)) dL_undo_13
  · refine lv_i2l hx hb dL_undo_6 rfl ?_
    refine xl_put hx hb hK hP1 hR1 (va_D_perm hD (List.Perm.refl _)) hS1 dL_undo_7 (fun H2 locs2 hP2 hS2 => ?_)
    refine lv_goto (tgt := 14) hx hb dL_undo_8 (by decide) ?_
    refine lv_iconst (v := jI 0) hx hb dL_undo_14 rfl ?_
    exact xl_end hx hb hr hlocks hP2 hS2 (by rw [hc0]; rfl) (fun _ => rfl) dL_undo_15
abbrev km_movement : Int → Int := fun c => if c = 1 then 1 else if c = 2 then 2 else 0
abbrev rm_L_movement : Room := { frames := 7, cells := 1, slots := 6, locals := 124 }
set_option maxHeartbeats 2000000 in
theorem m_L_movement (l : Launch) (D : va_G) (cI : ClassId) (a : Nat → Nat) (f : Nat → Int) (g : Nat → Int) (n : Nat) (b : Nat → Int) (len : Nat) (kd : Nat → Int) (sg : Nat → Int) (nb : Nat → Int) (pt : Nat) (hlt : l.stackTraces = false) (x0 : Int) (x1 : Int) (hrf : rng f) (hm : mvs f) (hx0 : -2147483648 ≤ x0 ∧ x0 < 2147483648) (hx1 : -2147483648 ≤ x1 ∧ x1 < 2147483648) (cL : ClassId) (o : Nat) (ou : Nat → Int64) : MetL l yL_movement wsL_movement rm_L_movement D cI cL [.ref (a 0), .int (jI x0), .int (jI x1), .ref o] (w1 cI a f g n b len kd sg nb pt) (w1 cI a f g n b len kd sg nb pt) o ou ((s_X1_movement f x0 x1).1) ((s_X1_movement f x0 x1).2) km_movement := by
  refine xe_L (cc := cL_movement) (maxL := 5) (ret := (some .int)) (by decide) rfl (Nat.le_of_ble_eq_true rfl) ?_
  intro p e s m below meth c hx hb hr hml hts hown hlocks htab hP hK A hA hD hS hE ls hl
  have hl : lv_has ls 5 [(0, .ref (a 0)), (1, .int (jI x0)), (2, .int (jI x1)), (3, .ref o)] := hl
  have hown : s.vm.findClass RL = some m.cls := hown
  have hSx : CallFix p m c cL_movement 5 s ([.ref (a 0), .int (jI x0), .int (jI x1), .ref o] : List Value).toArray wsL_movement RL := ⟨hx, hb, hml, hown, hts⟩
  have q13 := hts (.classLink RL 13 xI) (by decide +kernel)
  have z13 : (Cond.castable xI xI).before ([.ref (a 0), .int (jI x0), .int (jI x1), .ref o] : List Value).toArray s = true := xface (State.WarmedH.refl s) (by decide) (by decide) (hE.2.2.2.1 _ (by decide))
  have q15 := hts (.classLink RL 15 xA) (by decide +kernel)
  have z15 : (Cond.castable xA xA).before ([.ref (a 0), .int (jI x0), .int (jI x1), .ref o] : List Value).toArray s = true := xface (State.WarmedH.refl s) (by decide) (by decide) (hE.2.2.2.1 _ (by decide))
  refine lv_aload_n hx hb dL_movement_0 rfl (lv_at hl 3 rfl) ?_
  refine lv_iconst (v := jI 0) hx hb dL_movement_1 rfl ?_
  refine lv_aload_n hx hb dL_movement_2 rfl (lv_at hl 0 rfl) ?_
  refine lv_iload_n hx hb dL_movement_3 rfl (lv_at hl 1 rfl) ?_
  refine lv_iload_n hx hb dL_movement_4 rfl (lv_at hl 2 rfl) ?_
  refine xw_T (w1 := (w1 cI a f g n b len kd sg nb pt)) (wr := wO cL o ou) (As := [.int (jI x0), .int (jI x1)]) (rest := [.int (jI 0), .ref o]) hSx (m_X1_movement l D cI a f g n b len kd sg nb pt hlt x0 x1 hrf hm hx0 hx1) (cwV 2 hts gL_movement_X1_movement rfl rfl rfl (by decide +kernel) ⟨Nat.le_of_ble_eq_true rfl, Nat.le_of_ble_eq_true rfl⟩) (va_P_left hP) (va_P_right hP) hD hS hA (hK.sub [0] rfl) hE 0 rfl rfl rfl rfl hl.1 rfl (Nat.le_of_ble_eq_true rfl) dL_movement_5 ⟨Nat.le_of_ble_eq_true rfl, Nat.le_of_ble_eq_true rfl⟩ (fun E ce q9 H1 locs1 hc0 hE1 hP1 hR1 hS1 hce hcv hcl => ?_) (fun H1 locs1 hc0 hP1 hR1 hS1 => ?_)
  · rcases c_X1_movement f x0 x1 with h | h | h
    · exact absurd h hc0
    · have hE2 : E = xI := by rw [hE1, h]; rfl
      subst hE2
      refine vx_catch (own := RL) (name := xI) hown [] ⟨0, 10, 13, 13⟩ [⟨0, 10, 17, 15⟩] htab (fun _ h9 => absurd h9 List.not_mem_nil) (by decide) (by decide) q13 z13 hce hcv hcl ?_
      refine lv_astore hx hb dL_movement_13 hl (by decide) rfl (fun ls9 hl9 => ?_)
      refine lv_iconst (v := jI 1) hx hb dL_movement_15 rfl ?_
      exact xl_end (u := ou) hx hb hr hlocks (hP1.app hR1) hS1 (by rw [h]; rfl) (fun h9 => absurd (h.symm.trans h9) (by decide)) dL_movement_16
    · have hE2 : E = xA := by rw [hE1, h]; rfl
      subst hE2
      refine vx_catch (own := RL) (name := xA) hown [⟨0, 10, 13, 13⟩] ⟨0, 10, 17, 15⟩ [] htab (List.forall_mem_cons.mpr ⟨Or.inr ⟨by decide, xI, q13, hE.2.2.2.2.1.1⟩, fun _ h9 => absurd h9 List.not_mem_nil⟩) (by decide) (by decide) q15 z15 hce hcv hcl ?_
      refine lv_astore hx hb dL_movement_17 hl (by decide) rfl (fun ls9 hl9 => ?_)
      refine lv_iconst (v := jI 2) hx hb dL_movement_19 rfl ?_
      exact xl_end (u := ou) hx hb hr hlocks (hP1.app hR1) hS1 (by rw [h]; rfl) (fun h9 => absurd (h.symm.trans h9) (by decide)) dL_movement_20
  · refine lv_i2l hx hb dL_movement_8 rfl ?_
    refine xl_put hx hb hK hP1 hR1 (va_D_perm hD (List.Perm.refl _)) hS1 dL_movement_9 (fun H2 locs2 hP2 hS2 => ?_)
    refine lv_goto (tgt := 21) hx hb dL_movement_10 (by decide) ?_
    refine lv_iconst (v := jI 0) hx hb dL_movement_21 rfl ?_
    exact xl_end hx hb hr hlocks hP2 hS2 (by rw [hc0]; rfl) (fun _ => rfl) dL_movement_22
abbrev km_day : Int → Int := fun c => if c = 1 then 1 else 0
abbrev rm_L_day : Room := { frames := 7, cells := 1, slots := 6, locals := 123 }
set_option maxHeartbeats 2000000 in
theorem m_L_day (l : Launch) (D : va_G) (cI : ClassId) (a : Nat → Nat) (f : Nat → Int) (g : Nat → Int) (n : Nat) (b : Nat → Int) (len : Nat) (kd : Nat → Int) (sg : Nat → Int) (nb : Nat → Int) (pt : Nat) (hlt : l.stackTraces = false) (x0 : Int) (hx0 : -2147483648 ≤ x0 ∧ x0 < 2147483648) (cL : ClassId) (o : Nat) (ou : Nat → Int64) : MetL l yL_day wsL_day rm_L_day D cI cL [.ref (a 0), .int (jI x0), .ref o] (w1 cI a f g n b len kd sg nb pt) (w1 cI a f g n b len kd sg nb pt) o ou ((s_X1_day f x0).1) ((s_X1_day f x0).2) km_day := by
  refine xe_L (cc := cL_day) (maxL := 4) (ret := (some .int)) (by decide) rfl (Nat.le_of_ble_eq_true rfl) ?_
  intro p e s m below meth c hx hb hr hml hts hown hlocks htab hP hK A hA hD hS hE ls hl
  have hl : lv_has ls 4 [(0, .ref (a 0)), (1, .int (jI x0)), (2, .ref o)] := hl
  have hown : s.vm.findClass RL = some m.cls := hown
  have hSx : CallFix p m c cL_day 4 s ([.ref (a 0), .int (jI x0), .ref o] : List Value).toArray wsL_day RL := ⟨hx, hb, hml, hown, hts⟩
  have q13 := hts (.classLink RL 13 xI) (by decide +kernel)
  have z13 : (Cond.castable xI xI).before ([.ref (a 0), .int (jI x0), .ref o] : List Value).toArray s = true := xface (State.WarmedH.refl s) (by decide) (by decide) (hE.2.2.2.1 _ (by decide))
  refine lv_aload_n hx hb dL_day_0 rfl (lv_at hl 2 rfl) ?_
  refine lv_iconst (v := jI 0) hx hb dL_day_1 rfl ?_
  refine lv_aload_n hx hb dL_day_2 rfl (lv_at hl 0 rfl) ?_
  refine lv_iload_n hx hb dL_day_3 rfl (lv_at hl 1 rfl) ?_
  refine xw_T (w1 := (w1 cI a f g n b len kd sg nb pt)) (wr := wO cL o ou) (As := [.int (jI x0)]) (rest := [.int (jI 0), .ref o]) hSx (m_X1_day l D cI a f g n b len kd sg nb pt hlt x0 hx0) (cwV 1 hts gL_day_X1_day rfl rfl rfl (by decide +kernel) ⟨Nat.le_of_ble_eq_true rfl, Nat.le_of_ble_eq_true rfl⟩) (va_P_left hP) (va_P_right hP) hD hS hA (hK.sub [0] rfl) hE 0 rfl rfl rfl rfl hl.1 rfl (Nat.le_of_ble_eq_true rfl) dL_day_4 ⟨Nat.le_of_ble_eq_true rfl, Nat.le_of_ble_eq_true rfl⟩ (fun E ce q9 H1 locs1 hc0 hE1 hP1 hR1 hS1 hce hcv hcl => ?_) (fun H1 locs1 hc0 hP1 hR1 hS1 => ?_)
  · rcases c_X1_day f x0 with h | h
    · exact absurd h hc0
    · have hE2 : E = xI := by rw [hE1, h]; rfl
      subst hE2
      refine vx_catch (own := RL) (name := xI) hown [] ⟨0, 9, 12, 13⟩ [] htab (fun _ h9 => absurd h9 List.not_mem_nil) (by decide) (by decide) q13 z13 hce hcv hcl ?_
      refine lv_astore_n hx hb dL_day_12 rfl hl (by decide) rfl (fun ls9 hl9 => ?_)
      refine lv_iconst (v := jI 1) hx hb dL_day_13 rfl ?_
      exact xl_end (u := ou) hx hb hr hlocks (hP1.app hR1) hS1 (by rw [h]; rfl) (fun h9 => absurd (h.symm.trans h9) (by decide)) dL_day_14
  · refine lv_i2l hx hb dL_day_7 rfl ?_
    refine xl_put hx hb hK hP1 hR1 (va_D_perm hD (List.Perm.refl _)) hS1 dL_day_8 (fun H2 locs2 hP2 hS2 => ?_)
    refine lv_goto (tgt := 15) hx hb dL_day_9 (by decide) ?_
    refine lv_iconst (v := jI 0) hx hb dL_day_15 rfl ?_
    exact xl_end hx hb hr hlocks hP2 hS2 (by rw [hc0]; rfl) (fun _ => rfl) dL_day_16
abbrev km_count : Int → Int := fun c => if c = 2 then 1 else 0
abbrev rm_L_count : Room := { frames := 7, cells := 1, slots := 6, locals := 123 }
set_option maxHeartbeats 2000000 in
theorem m_L_count (l : Launch) (D : va_G) (cI : ClassId) (a : Nat → Nat) (f : Nat → Int) (g : Nat → Int) (n : Nat) (b : Nat → Int) (len : Nat) (kd : Nat → Int) (sg : Nat → Int) (nb : Nat → Int) (pt : Nat) (hlt : l.stackTraces = false) (x0 : Int) (hrf : rng f) (hh : 0 ≤ f 0 ∧ f 0 ≤ 99999) (hd : ∀ k : Nat, 14 ≤ k → k < 21 → -1 ≤ f k ∧ f k ≤ 23) (hw : 0 ≤ f 4 ∧ f 4 ≤ 100100) (hx0 : -2147483648 ≤ x0 ∧ x0 < 2147483648) (cL : ClassId) (o : Nat) (ou : Nat → Int64) : MetL l yL_count wsL_count rm_L_count D cI cL [.ref (a 0), .int (jI x0), .ref o] (w1 cI a f g n b len kd sg nb pt) (w1 cI a f g n b len kd sg nb pt) o ou ((s_X1_count f n x0).1) ((s_X1_count f n x0).2) km_count := by
  refine xe_L (cc := cL_count) (maxL := 4) (ret := (some .int)) (by decide) rfl (Nat.le_of_ble_eq_true rfl) ?_
  intro p e s m below meth c hx hb hr hml hts hown hlocks htab hP hK A hA hD hS hE ls hl
  have hl : lv_has ls 4 [(0, .ref (a 0)), (1, .int (jI x0)), (2, .ref o)] := hl
  have hown : s.vm.findClass RL = some m.cls := hown
  have hSx : CallFix p m c cL_count 4 s ([.ref (a 0), .int (jI x0), .ref o] : List Value).toArray wsL_count RL := ⟨hx, hb, hml, hown, hts⟩
  have q15 := hts (.classLink RL 15 xA) (by decide +kernel)
  have z15 : (Cond.castable xA xA).before ([.ref (a 0), .int (jI x0), .ref o] : List Value).toArray s = true := xface (State.WarmedH.refl s) (by decide) (by decide) (hE.2.2.2.1 _ (by decide))
  refine lv_aload_n hx hb dL_count_0 rfl (lv_at hl 2 rfl) ?_
  refine lv_iconst (v := jI 0) hx hb dL_count_1 rfl ?_
  refine lv_aload_n hx hb dL_count_2 rfl (lv_at hl 0 rfl) ?_
  refine lv_iload_n hx hb dL_count_3 rfl (lv_at hl 1 rfl) ?_
  refine xw_T (w1 := (w1 cI a f g n b len kd sg nb pt)) (wr := wO cL o ou) (As := [.int (jI x0)]) (rest := [.int (jI 0), .ref o]) hSx (m_X1_count l D cI a f g n b len kd sg nb pt hlt x0 hrf hh hd hw hx0) (cwV 1 hts gL_count_X1_count rfl rfl rfl (by decide +kernel) ⟨Nat.le_of_ble_eq_true rfl, Nat.le_of_ble_eq_true rfl⟩) (va_P_left hP) (va_P_right hP) hD hS hA (hK.sub [0] rfl) hE 0 rfl rfl rfl rfl hl.1 rfl (Nat.le_of_ble_eq_true rfl) dL_count_4 ⟨Nat.le_of_ble_eq_true rfl, Nat.le_of_ble_eq_true rfl⟩ (fun E ce q9 H1 locs1 hc0 hE1 hP1 hR1 hS1 hce hcv hcl => ?_) (fun H1 locs1 hc0 hP1 hR1 hS1 => ?_)
  · rcases c_X1_count f n x0 with h | h
    · exact absurd h hc0
    · have hE2 : E = xA := by rw [hE1, h]; rfl
      subst hE2
      refine vx_catch (own := RL) (name := xA) hown [] ⟨0, 9, 12, 15⟩ [] htab (fun _ h9 => absurd h9 List.not_mem_nil) (by decide) (by decide) q15 z15 hce hcv hcl ?_
      refine lv_astore_n hx hb dL_count_12 rfl hl (by decide) rfl (fun ls9 hl9 => ?_)
      refine lv_iconst (v := jI 1) hx hb dL_count_13 rfl ?_
      exact xl_end (u := ou) hx hb hr hlocks (hP1.app hR1) hS1 (by rw [h]; rfl) (fun h9 => absurd (h.symm.trans h9) (by decide)) dL_count_14
  · refine lv_i2l hx hb dL_count_7 rfl ?_
    refine xl_put hx hb hK hP1 hR1 (va_D_perm hD (List.Perm.refl _)) hS1 dL_count_8 (fun H2 locs2 hP2 hS2 => ?_)
    refine lv_goto (tgt := 15) hx hb dL_count_9 (by decide) ?_
    refine lv_iconst (v := jI 0) hx hb dL_count_15 rfl ?_
    exact xl_end hx hb hr hlocks hP2 hS2 (by rw [hc0]; rfl) (fun _ => rfl) dL_count_16
abbrev km_setting : Int → Int := fun c => if c = 1 then 1 else 0
abbrev rm_L_setting : Room := { frames := 7, cells := 1, slots := 6, locals := 123 }
set_option maxHeartbeats 2000000 in
theorem m_L_setting (l : Launch) (D : va_G) (cI : ClassId) (a : Nat → Nat) (f : Nat → Int) (g : Nat → Int) (n : Nat) (b : Nat → Int) (len : Nat) (kd : Nat → Int) (sg : Nat → Int) (nb : Nat → Int) (pt : Nat) (hlt : l.stackTraces = false) (x0 : Int) (hx0 : -2147483648 ≤ x0 ∧ x0 < 2147483648) (cL : ClassId) (o : Nat) (ou : Nat → Int64) : MetL l yL_setting wsL_setting rm_L_setting D cI cL [.ref (a 0), .int (jI x0), .ref o] (w1 cI a f g n b len kd sg nb pt) (w1 cI a f g n b len kd sg nb pt) o ou ((s_X1_setting f x0).1) ((s_X1_setting f x0).2) km_setting := by
  refine xe_L (cc := cL_setting) (maxL := 4) (ret := (some .int)) (by decide) rfl (Nat.le_of_ble_eq_true rfl) ?_
  intro p e s m below meth c hx hb hr hml hts hown hlocks htab hP hK A hA hD hS hE ls hl
  have hl : lv_has ls 4 [(0, .ref (a 0)), (1, .int (jI x0)), (2, .ref o)] := hl
  have hown : s.vm.findClass RL = some m.cls := hown
  have hSx : CallFix p m c cL_setting 4 s ([.ref (a 0), .int (jI x0), .ref o] : List Value).toArray wsL_setting RL := ⟨hx, hb, hml, hown, hts⟩
  have q13 := hts (.classLink RL 13 xI) (by decide +kernel)
  have z13 : (Cond.castable xI xI).before ([.ref (a 0), .int (jI x0), .ref o] : List Value).toArray s = true := xface (State.WarmedH.refl s) (by decide) (by decide) (hE.2.2.2.1 _ (by decide))
  refine lv_aload_n hx hb dL_setting_0 rfl (lv_at hl 2 rfl) ?_
  refine lv_iconst (v := jI 0) hx hb dL_setting_1 rfl ?_
  refine lv_aload_n hx hb dL_setting_2 rfl (lv_at hl 0 rfl) ?_
  refine lv_iload_n hx hb dL_setting_3 rfl (lv_at hl 1 rfl) ?_
  refine xw_T (w1 := (w1 cI a f g n b len kd sg nb pt)) (wr := wO cL o ou) (As := [.int (jI x0)]) (rest := [.int (jI 0), .ref o]) hSx (m_X1_setting l D cI a f g n b len kd sg nb pt hlt x0 hx0) (cwV 1 hts gL_setting_X1_setting rfl rfl rfl (by decide +kernel) ⟨Nat.le_of_ble_eq_true rfl, Nat.le_of_ble_eq_true rfl⟩) (va_P_left hP) (va_P_right hP) hD hS hA (hK.sub [0] rfl) hE 0 rfl rfl rfl rfl hl.1 rfl (Nat.le_of_ble_eq_true rfl) dL_setting_4 ⟨Nat.le_of_ble_eq_true rfl, Nat.le_of_ble_eq_true rfl⟩ (fun E ce q9 H1 locs1 hc0 hE1 hP1 hR1 hS1 hce hcv hcl => ?_) (fun H1 locs1 hc0 hP1 hR1 hS1 => ?_)
  · rcases c_X1_setting f x0 with h | h
    · exact absurd h hc0
    · have hE2 : E = xI := by rw [hE1, h]; rfl
      subst hE2
      refine vx_catch (own := RL) (name := xI) hown [] ⟨0, 9, 12, 13⟩ [] htab (fun _ h9 => absurd h9 List.not_mem_nil) (by decide) (by decide) q13 z13 hce hcv hcl ?_
      refine lv_astore_n hx hb dL_setting_12 rfl hl (by decide) rfl (fun ls9 hl9 => ?_)
      refine lv_iconst (v := jI 1) hx hb dL_setting_13 rfl ?_
      exact xl_end (u := ou) hx hb hr hlocks (hP1.app hR1) hS1 (by rw [h]; rfl) (fun h9 => absurd (h.symm.trans h9) (by decide)) dL_setting_14
  · refine lv_i2l hx hb dL_setting_7 rfl ?_
    refine xl_put hx hb hK hP1 hR1 (va_D_perm hD (List.Perm.refl _)) hS1 dL_setting_8 (fun H2 locs2 hP2 hS2 => ?_)
    refine lv_goto (tgt := 15) hx hb dL_setting_9 (by decide) ?_
    refine lv_iconst (v := jI 0) hx hb dL_setting_15 rfl ?_
    exact xl_end hx hb hr hlocks hP2 hS2 (by rw [hc0]; rfl) (fun _ => rfl) dL_setting_16
abbrev km_rightWinding : Int → Int := fun c => if c = 1 then 1 else 0
abbrev rm_L_rightWinding : Room := { frames := 7, cells := 1, slots := 6, locals := 123 }
set_option maxHeartbeats 2000000 in
theorem m_L_rightWinding (l : Launch) (D : va_G) (cI : ClassId) (a : Nat → Nat) (f : Nat → Int) (g : Nat → Int) (n : Nat) (b : Nat → Int) (len : Nat) (kd : Nat → Int) (sg : Nat → Int) (nb : Nat → Int) (pt : Nat) (hlt : l.stackTraces = false) (x0 : Int) (hrf : rng f) (hh : 0 ≤ f 0 ∧ f 0 ≤ 99999) (hd : ∀ k : Nat, 14 ≤ k → k < 21 → -1 ≤ f k ∧ f k ≤ 23) (hm : mvs f) (hx0 : -2147483648 ≤ x0 ∧ x0 < 2147483648) (cL : ClassId) (o : Nat) (ou : Nat → Int64) : MetL l yL_rightWinding wsL_rightWinding rm_L_rightWinding D cI cL [.ref (a 0), .int (jI x0), .ref o] (w1 cI a f g n b len kd sg nb pt) (w1 cI a f g n b len kd sg nb pt) o ou ((s_X1_rightWinding f x0).1) ((s_X1_rightWinding f x0).2) km_rightWinding := by
  refine xe_L (cc := cL_rightWinding) (maxL := 4) (ret := (some .int)) (by decide) rfl (Nat.le_of_ble_eq_true rfl) ?_
  intro p e s m below meth c hx hb hr hml hts hown hlocks htab hP hK A hA hD hS hE ls hl
  have hl : lv_has ls 4 [(0, .ref (a 0)), (1, .int (jI x0)), (2, .ref o)] := hl
  have hown : s.vm.findClass RL = some m.cls := hown
  have hSx : CallFix p m c cL_rightWinding 4 s ([.ref (a 0), .int (jI x0), .ref o] : List Value).toArray wsL_rightWinding RL := ⟨hx, hb, hml, hown, hts⟩
  have q13 := hts (.classLink RL 13 xI) (by decide +kernel)
  have z13 : (Cond.castable xI xI).before ([.ref (a 0), .int (jI x0), .ref o] : List Value).toArray s = true := xface (State.WarmedH.refl s) (by decide) (by decide) (hE.2.2.2.1 _ (by decide))
  refine lv_aload_n hx hb dL_rightWinding_0 rfl (lv_at hl 2 rfl) ?_
  refine lv_iconst (v := jI 0) hx hb dL_rightWinding_1 rfl ?_
  refine lv_aload_n hx hb dL_rightWinding_2 rfl (lv_at hl 0 rfl) ?_
  refine lv_iload_n hx hb dL_rightWinding_3 rfl (lv_at hl 1 rfl) ?_
  refine xw_T (w1 := (w1 cI a f g n b len kd sg nb pt)) (wr := wO cL o ou) (As := [.int (jI x0)]) (rest := [.int (jI 0), .ref o]) hSx (m_X1_rightWinding l D cI a f g n b len kd sg nb pt hlt x0 hrf hh hd hm hx0) (cwV 1 hts gL_rightWinding_X1_rightWinding rfl rfl rfl (by decide +kernel) ⟨Nat.le_of_ble_eq_true rfl, Nat.le_of_ble_eq_true rfl⟩) (va_P_left hP) (va_P_right hP) hD hS hA (hK.sub [0] rfl) hE 0 rfl rfl rfl rfl hl.1 rfl (Nat.le_of_ble_eq_true rfl) dL_rightWinding_4 ⟨Nat.le_of_ble_eq_true rfl, Nat.le_of_ble_eq_true rfl⟩ (fun E ce q9 H1 locs1 hc0 hE1 hP1 hR1 hS1 hce hcv hcl => ?_) (fun H1 locs1 hc0 hP1 hR1 hS1 => ?_)
  · rcases c_X1_rightWinding f x0 with h | h
    · exact absurd h hc0
    · have hE2 : E = xI := by rw [hE1, h]; rfl
      subst hE2
      refine vx_catch (own := RL) (name := xI) hown [] ⟨0, 9, 12, 13⟩ [] htab (fun _ h9 => absurd h9 List.not_mem_nil) (by decide) (by decide) q13 z13 hce hcv hcl ?_
      refine lv_astore_n hx hb dL_rightWinding_12 rfl hl (by decide) rfl (fun ls9 hl9 => ?_)
      refine lv_iconst (v := jI 1) hx hb dL_rightWinding_13 rfl ?_
      exact xl_end (u := ou) hx hb hr hlocks (hP1.app hR1) hS1 (by rw [h]; rfl) (fun h9 => absurd (h.symm.trans h9) (by decide)) dL_rightWinding_14
  · refine lv_i2l hx hb dL_rightWinding_7 rfl ?_
    refine xl_put hx hb hK hP1 hR1 (va_D_perm hD (List.Perm.refl _)) hS1 dL_rightWinding_8 (fun H2 locs2 hP2 hS2 => ?_)
    refine lv_goto (tgt := 15) hx hb dL_rightWinding_9 (by decide) ?_
    refine lv_iconst (v := jI 0) hx hb dL_rightWinding_15 rfl ?_
    exact xl_end hx hb hr hlocks hP2 hS2 (by rw [hc0]; rfl) (fun _ => rfl) dL_rightWinding_16
