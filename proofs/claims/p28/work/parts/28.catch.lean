/-! the law's methods that call and catch -/
abbrev rm_L_lock : Room := { frames := 7, cells := 1, slots := 6, locals := 121 }
set_option maxHeartbeats 2000000 in
theorem m_L_lock (l : Launch) (D : va_G) (cI : ClassId) (a : Nat → Nat) (f : Nat → Int) (g : Nat → Int) (n : Nat) (b : Nat → Int) (len : Nat) (kd : Nat → Int) (sg : Nat → Int) (nb : Nat → Int) (pt : Nat) (hlt : l.stackTraces = false) (hn : n ≤ 6) (hrf : rng f) (hm : mvs f) (hh : 0 ≤ f 0 ∧ f 0 ≤ 99999) (hd : ∀ k : Nat, 14 ≤ k → k < 21 → -1 ≤ f k ∧ f k ≤ 23) : MetJ l yL_lock wsL_lock rm_L_lock D cI [.ref (a 0)] (w1 cI a f g n b len kd sg nb pt) (w1 cI a ((s_X1_lock f g n).2.2.1) ((s_X1_lock f g n).2.2.2.1) ((s_X1_lock f g n).2.2.2.2) b len kd sg nb pt) (if ((s_X1_lock f g n).1) = 0 then ((s_X1_lock f g n).2.1) else -3) := by
  refine xe_J (cc := cL_lock) (maxL := 2) (ret := (some .int)) (by decide) rfl (Nat.le_of_ble_eq_true rfl) ?_
  intro p e s m below meth c hx hb hr hml hts hown hlocks htab hP hK A hA hD hS hE ls hl
  have hl : lv_has ls 2 [(0, .ref (a 0))] := hl
  have hown : s.vm.findClass RL = some m.cls := hown
  have hSx : CallFix p m c cL_lock 2 s ([.ref (a 0)] : List Value).toArray wsL_lock RL := ⟨hx, hb, hml, hown, hts⟩
  have q15 := hts (.classLink RL 15 xS) (by decide +kernel)
  have z15 : (Cond.castable xS xS).before ([.ref (a 0)] : List Value).toArray s = true := xface (State.WarmedH.refl s) (by decide) (by decide) (hE.2.2.2.1 _ (by decide))
  refine lv_aload_n hx hb dL_lock_0 rfl (lv_at hl 0 rfl) ?_
  refine xv_T (w1 := (w1 cI a ((s_X1_lock f g n).2.2.1) ((s_X1_lock f g n).2.2.2.1) ((s_X1_lock f g n).2.2.2.2) b len kd sg nb pt)) (As := []) (rest := []) hSx (m_X1_lock l D cI a f g n b len kd sg nb pt hlt hn hrf hm hh hd) (cwV 0 hts gL_lock_X1_lock rfl rfl rfl (by decide +kernel) ⟨Nat.le_of_ble_eq_true rfl, Nat.le_of_ble_eq_true rfl⟩) hP hD hS hA hK hE 0 rfl rfl rfl rfl hl.1 rfl (Nat.le_of_ble_eq_true rfl) dL_lock_1 ⟨Nat.le_of_ble_eq_true rfl, Nat.le_of_ble_eq_true rfl⟩ (fun E ce q9 H1 locs1 hc0 hE1 hP1 hS1 hce hcv hcl => ?_) (fun H1 locs1 hc0 hP1 hS1 => ?_)
  · have hE2 : E = xS := by
      rcases (z_lock : ((s_X1_lock f g n).1) = 0 ∨ ((s_X1_lock f g n).1) = 3) with h | h
      · exact absurd h hc0
      · rw [hE1, h]; rfl
    subst hE2
    refine vx_catch (own := RL) (name := xS) hown [] ⟨0, 4, 5, 15⟩ [] htab (fun _ h9 => absurd h9 List.not_mem_nil) (by decide) (by decide) q15 z15 hce hcv hcl ?_
    refine lv_astore_n hx hb dL_lock_5 rfl hl (by decide) rfl (fun ls9 hl9 => ?_)
    refine lv_bipush (v := jI (-3)) hx hb dL_lock_6 (by decide) ?_
    exact xj_end hx hb hr hlocks hP1 hS1 (by rw [if_neg hc0]) dL_lock_8
  · exact xj_end hx hb hr hlocks hP1 hS1 (by rw [if_pos hc0]) dL_lock_4
abbrev rm_L_open : Room := { frames := 7, cells := 1, slots := 6, locals := 121 }
set_option maxHeartbeats 2000000 in
theorem m_L_open (l : Launch) (D : va_G) (cI : ClassId) (a : Nat → Nat) (f : Nat → Int) (g : Nat → Int) (n : Nat) (b : Nat → Int) (len : Nat) (kd : Nat → Int) (sg : Nat → Int) (nb : Nat → Int) (pt : Nat) (hlt : l.stackTraces = false) (hn : n ≤ 6) (hrf : rng f) (hm : mvs f) (hh : 0 ≤ f 0 ∧ f 0 ≤ 99999) (hw : 0 ≤ f 4 ∧ f 4 ≤ 100100) (h2 : -1 ≤ f 2 ∧ f 2 ≤ 100300) (h3 : 0 ≤ f 3 ∧ f 3 ≤ 8) (h11 : 1 ≤ f 11 ∧ f 11 ≤ 9) : MetJ l yL_open wsL_open rm_L_open D cI [.ref (a 0)] (w1 cI a f g n b len kd sg nb pt) (w1 cI a ((s_X1_open f g n).2.2.1) ((s_X1_open f g n).2.2.2.1) ((s_X1_open f g n).2.2.2.2) b len kd sg nb pt) (if ((s_X1_open f g n).1) = 0 then ((s_X1_open f g n).2.1) else -3) := by
  refine xe_J (cc := cL_open) (maxL := 2) (ret := (some .int)) (by decide) rfl (Nat.le_of_ble_eq_true rfl) ?_
  intro p e s m below meth c hx hb hr hml hts hown hlocks htab hP hK A hA hD hS hE ls hl
  have hl : lv_has ls 2 [(0, .ref (a 0))] := hl
  have hown : s.vm.findClass RL = some m.cls := hown
  have hSx : CallFix p m c cL_open 2 s ([.ref (a 0)] : List Value).toArray wsL_open RL := ⟨hx, hb, hml, hown, hts⟩
  have q15 := hts (.classLink RL 15 xS) (by decide +kernel)
  have z15 : (Cond.castable xS xS).before ([.ref (a 0)] : List Value).toArray s = true := xface (State.WarmedH.refl s) (by decide) (by decide) (hE.2.2.2.1 _ (by decide))
  refine lv_aload_n hx hb dL_open_0 rfl (lv_at hl 0 rfl) ?_
  refine xv_T (w1 := (w1 cI a ((s_X1_open f g n).2.2.1) ((s_X1_open f g n).2.2.2.1) ((s_X1_open f g n).2.2.2.2) b len kd sg nb pt)) (As := []) (rest := []) hSx (m_X1_open l D cI a f g n b len kd sg nb pt hlt hn hrf hm hh hw h2 h3 h11) (cwV 0 hts gL_open_X1_open rfl rfl rfl (by decide +kernel) ⟨Nat.le_of_ble_eq_true rfl, Nat.le_of_ble_eq_true rfl⟩) hP hD hS hA hK hE 0 rfl rfl rfl rfl hl.1 rfl (Nat.le_of_ble_eq_true rfl) dL_open_1 ⟨Nat.le_of_ble_eq_true rfl, Nat.le_of_ble_eq_true rfl⟩ (fun E ce q9 H1 locs1 hc0 hE1 hP1 hS1 hce hcv hcl => ?_) (fun H1 locs1 hc0 hP1 hS1 => ?_)
  · have hE2 : E = xS := by
      rcases (z_open : ((s_X1_open f g n).1) = 0 ∨ ((s_X1_open f g n).1) = 3) with h | h
      · exact absurd h hc0
      · rw [hE1, h]; rfl
    subst hE2
    refine vx_catch (own := RL) (name := xS) hown [] ⟨0, 4, 5, 15⟩ [] htab (fun _ h9 => absurd h9 List.not_mem_nil) (by decide) (by decide) q15 z15 hce hcv hcl ?_
    refine lv_astore_n hx hb dL_open_5 rfl hl (by decide) rfl (fun ls9 hl9 => ?_)
    refine lv_bipush (v := jI (-3)) hx hb dL_open_6 (by decide) ?_
    exact xj_end hx hb hr hlocks hP1 hS1 (by rw [if_neg hc0]) dL_open_8
  · exact xj_end hx hb hr hlocks hP1 hS1 (by rw [if_pos hc0]) dL_open_4
abbrev rm_L_wind : Room := { frames := 7, cells := 1, slots := 6, locals := 126 }
set_option maxHeartbeats 2000000 in
theorem m_L_wind (l : Launch) (D : va_G) (cI : ClassId) (a : Nat → Nat) (f : Nat → Int) (g : Nat → Int) (n : Nat) (b : Nat → Int) (len : Nat) (kd : Nat → Int) (sg : Nat → Int) (nb : Nat → Int) (pt : Nat) (hlt : l.stackTraces = false) (x0 : Int) (x1 : Int) (hn : n ≤ 6) (hrf : rng f) (hx0 : -2147483648 ≤ x0 ∧ x0 < 2147483648) (hx1 : -2147483648 ≤ x1 ∧ x1 < 2147483648) (hz0 : 0 ≤ x0 ∧ x0 < 3) (hz1 : 1 ≤ x1 ∧ x1 ≤ 200) : MetJ l yL_wind wsL_wind rm_L_wind D cI [.ref (a 0), .int (jI x0), .int (jI x1)] (w1 cI a f g n b len kd sg nb pt) (w1 cI a ((s_X1_wind f g n x0 x1).2.2.1) ((s_X1_wind f g n x0 x1).2.2.2.1) ((s_X1_wind f g n x0 x1).2.2.2.2) b len kd sg nb pt) (if ((s_X1_wind f g n x0 x1).1) = 0 then ((s_X1_wind f g n x0 x1).2.1) else -3) := by
  refine xe_J (cc := cL_wind) (maxL := 4) (ret := (some .int)) (by decide) rfl (Nat.le_of_ble_eq_true rfl) ?_
  intro p e s m below meth c hx hb hr hml hts hown hlocks htab hP hK A hA hD hS hE ls hl
  have hl : lv_has ls 4 [(0, .ref (a 0)), (1, .int (jI x0)), (2, .int (jI x1))] := hl
  have hown : s.vm.findClass RL = some m.cls := hown
  have hSx : CallFix p m c cL_wind 4 s ([.ref (a 0), .int (jI x0), .int (jI x1)] : List Value).toArray wsL_wind RL := ⟨hx, hb, hml, hown, hts⟩
  have q15 := hts (.classLink RL 15 xS) (by decide +kernel)
  have z15 : (Cond.castable xS xS).before ([.ref (a 0), .int (jI x0), .int (jI x1)] : List Value).toArray s = true := xface (State.WarmedH.refl s) (by decide) (by decide) (hE.2.2.2.1 _ (by decide))
  refine lv_aload_n hx hb dL_wind_0 rfl (lv_at hl 0 rfl) ?_
  refine lv_iload_n hx hb dL_wind_1 rfl (lv_at hl 1 rfl) ?_
  refine lv_iload_n hx hb dL_wind_2 rfl (lv_at hl 2 rfl) ?_
  refine xv_T (w1 := (w1 cI a ((s_X1_wind f g n x0 x1).2.2.1) ((s_X1_wind f g n x0 x1).2.2.2.1) ((s_X1_wind f g n x0 x1).2.2.2.2) b len kd sg nb pt)) (As := [.int (jI x0), .int (jI x1)]) (rest := []) hSx (m_X1_wind l D cI a f g n b len kd sg nb pt hlt x0 x1 hn hrf hx0 hx1) (cwV 2 hts gL_wind_X1_wind rfl rfl rfl (by decide +kernel) ⟨Nat.le_of_ble_eq_true rfl, Nat.le_of_ble_eq_true rfl⟩) hP hD hS hA hK hE 0 rfl rfl rfl rfl hl.1 rfl (Nat.le_of_ble_eq_true rfl) dL_wind_3 ⟨Nat.le_of_ble_eq_true rfl, Nat.le_of_ble_eq_true rfl⟩ (fun E ce q9 H1 locs1 hc0 hE1 hP1 hS1 hce hcv hcl => ?_) (fun H1 locs1 hc0 hP1 hS1 => ?_)
  · have hE2 : E = xS := by
      rcases (z_wind x0 x1 hz0 hz1 : ((s_X1_wind f g n x0 x1).1) = 0 ∨ ((s_X1_wind f g n x0 x1).1) = 3) with h | h
      · exact absurd h hc0
      · rw [hE1, h]; rfl
    subst hE2
    refine vx_catch (own := RL) (name := xS) hown [] ⟨0, 6, 7, 15⟩ [] htab (fun _ h9 => absurd h9 List.not_mem_nil) (by decide) (by decide) q15 z15 hce hcv hcl ?_
    refine lv_astore_n hx hb dL_wind_7 rfl hl (by decide) rfl (fun ls9 hl9 => ?_)
    refine lv_bipush (v := jI (-3)) hx hb dL_wind_8 (by decide) ?_
    exact xj_end hx hb hr hlocks hP1 hS1 (by rw [if_neg hc0]) dL_wind_10
  · exact xj_end hx hb hr hlocks hP1 hS1 (by rw [if_pos hc0]) dL_wind_6
abbrev rm_L_service : Room := { frames := 7, cells := 1, slots := 6, locals := 125 }
set_option maxHeartbeats 2000000 in
theorem m_L_service (l : Launch) (D : va_G) (cI : ClassId) (a : Nat → Nat) (f : Nat → Int) (g : Nat → Int) (n : Nat) (b : Nat → Int) (len : Nat) (kd : Nat → Int) (sg : Nat → Int) (nb : Nat → Int) (pt : Nat) (hlt : l.stackTraces = false) (x0 : Int) (hn : n ≤ 6) (hrf : rng f) (hx0 : -2147483648 ≤ x0 ∧ x0 < 2147483648) (hz0 : 0 ≤ x0 ∧ x0 < 3) : MetJ l yL_service wsL_service rm_L_service D cI [.ref (a 0), .int (jI x0)] (w1 cI a f g n b len kd sg nb pt) (w1 cI a ((s_X1_service f g n x0).2.2.1) ((s_X1_service f g n x0).2.2.2.1) ((s_X1_service f g n x0).2.2.2.2) b len kd sg nb pt) (if ((s_X1_service f g n x0).1) = 0 then ((s_X1_service f g n x0).2.1) else -3) := by
  refine xe_J (cc := cL_service) (maxL := 3) (ret := (some .int)) (by decide) rfl (Nat.le_of_ble_eq_true rfl) ?_
  intro p e s m below meth c hx hb hr hml hts hown hlocks htab hP hK A hA hD hS hE ls hl
  have hl : lv_has ls 3 [(0, .ref (a 0)), (1, .int (jI x0))] := hl
  have hown : s.vm.findClass RL = some m.cls := hown
  have hSx : CallFix p m c cL_service 3 s ([.ref (a 0), .int (jI x0)] : List Value).toArray wsL_service RL := ⟨hx, hb, hml, hown, hts⟩
  have q15 := hts (.classLink RL 15 xS) (by decide +kernel)
  have z15 : (Cond.castable xS xS).before ([.ref (a 0), .int (jI x0)] : List Value).toArray s = true := xface (State.WarmedH.refl s) (by decide) (by decide) (hE.2.2.2.1 _ (by decide))
  refine lv_aload_n hx hb dL_service_0 rfl (lv_at hl 0 rfl) ?_
  refine lv_iload_n hx hb dL_service_1 rfl (lv_at hl 1 rfl) ?_
  refine xv_T (w1 := (w1 cI a ((s_X1_service f g n x0).2.2.1) ((s_X1_service f g n x0).2.2.2.1) ((s_X1_service f g n x0).2.2.2.2) b len kd sg nb pt)) (As := [.int (jI x0)]) (rest := []) hSx (m_X1_service l D cI a f g n b len kd sg nb pt hlt x0 hn hrf hx0) (cwV 1 hts gL_service_X1_service rfl rfl rfl (by decide +kernel) ⟨Nat.le_of_ble_eq_true rfl, Nat.le_of_ble_eq_true rfl⟩) hP hD hS hA hK hE 0 rfl rfl rfl rfl hl.1 rfl (Nat.le_of_ble_eq_true rfl) dL_service_2 ⟨Nat.le_of_ble_eq_true rfl, Nat.le_of_ble_eq_true rfl⟩ (fun E ce q9 H1 locs1 hc0 hE1 hP1 hS1 hce hcv hcl => ?_) (fun H1 locs1 hc0 hP1 hS1 => ?_)
  · have hE2 : E = xS := by
      rcases (z_service x0 hz0 : ((s_X1_service f g n x0).1) = 0 ∨ ((s_X1_service f g n x0).1) = 3) with h | h
      · exact absurd h hc0
      · rw [hE1, h]; rfl
    subst hE2
    refine vx_catch (own := RL) (name := xS) hown [] ⟨0, 5, 6, 15⟩ [] htab (fun _ h9 => absurd h9 List.not_mem_nil) (by decide) (by decide) q15 z15 hce hcv hcl ?_
    refine lv_astore_n hx hb dL_service_6 rfl hl (by decide) rfl (fun ls9 hl9 => ?_)
    refine lv_bipush (v := jI (-3)) hx hb dL_service_7 (by decide) ?_
    exact xj_end hx hb hr hlocks hP1 hS1 (by rw [if_neg hc0]) dL_service_9
  · exact xj_end hx hb hr hlocks hP1 hS1 (by rw [if_pos hc0]) dL_service_5
abbrev rm_L_undo : Room := { frames := 7, cells := 1, slots := 6, locals := 121 }
set_option maxHeartbeats 2000000 in
theorem m_L_undo (l : Launch) (D : va_G) (cI : ClassId) (a : Nat → Nat) (f : Nat → Int) (g : Nat → Int) (n : Nat) (b : Nat → Int) (len : Nat) (kd : Nat → Int) (sg : Nat → Int) (nb : Nat → Int) (pt : Nat) (hlt : l.stackTraces = false) (hn : n ≤ 6) : MetJ l yL_undo wsL_undo rm_L_undo D cI [.ref (a 0)] (w1 cI a f g n b len kd sg nb pt) (w1 cI a ((s_X1_undo f g n).2.2.1) ((s_X1_undo f g n).2.2.2.1) ((s_X1_undo f g n).2.2.2.2) b len kd sg nb pt) (if ((s_X1_undo f g n).1) = 0 then ((s_X1_undo f g n).2.1) else -3) := by
  refine xe_J (cc := cL_undo) (maxL := 2) (ret := (some .int)) (by decide) rfl (Nat.le_of_ble_eq_true rfl) ?_
  intro p e s m below meth c hx hb hr hml hts hown hlocks htab hP hK A hA hD hS hE ls hl
  have hl : lv_has ls 2 [(0, .ref (a 0))] := hl
  have hown : s.vm.findClass RL = some m.cls := hown
  have hSx : CallFix p m c cL_undo 2 s ([.ref (a 0)] : List Value).toArray wsL_undo RL := ⟨hx, hb, hml, hown, hts⟩
  have q15 := hts (.classLink RL 15 xS) (by decide +kernel)
  have z15 : (Cond.castable xS xS).before ([.ref (a 0)] : List Value).toArray s = true := xface (State.WarmedH.refl s) (by decide) (by decide) (hE.2.2.2.1 _ (by decide))
  refine lv_aload_n hx hb dL_undo_0 rfl (lv_at hl 0 rfl) ?_
  refine xv_T (w1 := (w1 cI a ((s_X1_undo f g n).2.2.1) ((s_X1_undo f g n).2.2.2.1) ((s_X1_undo f g n).2.2.2.2) b len kd sg nb pt)) (As := []) (rest := []) hSx (m_X1_undo l D cI a f g n b len kd sg nb pt hlt hn) (cwV 0 hts gL_undo_X1_undo rfl rfl rfl (by decide +kernel) ⟨Nat.le_of_ble_eq_true rfl, Nat.le_of_ble_eq_true rfl⟩) hP hD hS hA hK hE 0 rfl rfl rfl rfl hl.1 rfl (Nat.le_of_ble_eq_true rfl) dL_undo_1 ⟨Nat.le_of_ble_eq_true rfl, Nat.le_of_ble_eq_true rfl⟩ (fun E ce q9 H1 locs1 hc0 hE1 hP1 hS1 hce hcv hcl => ?_) (fun H1 locs1 hc0 hP1 hS1 => ?_)
  · have hE2 : E = xS := by
      rcases (z_undo : ((s_X1_undo f g n).1) = 0 ∨ ((s_X1_undo f g n).1) = 3) with h | h
      · exact absurd h hc0
      · rw [hE1, h]; rfl
    subst hE2
    refine vx_catch (own := RL) (name := xS) hown [] ⟨0, 4, 5, 15⟩ [] htab (fun _ h9 => absurd h9 List.not_mem_nil) (by decide) (by decide) q15 z15 hce hcv hcl ?_
    refine lv_astore_n hx hb dL_undo_5 rfl hl (by decide) rfl (fun ls9 hl9 => ?_)
    refine lv_bipush (v := jI (-3)) hx hb dL_undo_6 (by decide) ?_
    exact xj_end hx hb hr hlocks hP1 hS1 (by rw [if_neg hc0]) dL_undo_8
  · exact xj_end hx hb hr hlocks hP1 hS1 (by rw [if_pos hc0]) dL_undo_4
abbrev rm_L_drill : Room := { frames := 7, cells := 1, slots := 6, locals := 121 }
set_option maxHeartbeats 2000000 in
theorem m_L_drill (l : Launch) (D : va_G) (cI : ClassId) (a : Nat → Nat) (f : Nat → Int) (g : Nat → Int) (n : Nat) (b : Nat → Int) (len : Nat) (kd : Nat → Int) (sg : Nat → Int) (nb : Nat → Int) (pt : Nat) (hlt : l.stackTraces = false) (hn : n ≤ 6) (hrf : rng f) : MetJ l yL_drill wsL_drill rm_L_drill D cI [.ref (a 0)] (w1 cI a f g n b len kd sg nb pt) (w1 cI a ((s_X1_drill f g n).2.2.1) ((s_X1_drill f g n).2.2.2.1) ((s_X1_drill f g n).2.2.2.2) b len kd sg nb pt) (if ((s_X1_drill f g n).1) = 0 then ((s_X1_drill f g n).2.1) else -3) := by
  refine xe_J (cc := cL_drill) (maxL := 2) (ret := (some .int)) (by decide) rfl (Nat.le_of_ble_eq_true rfl) ?_
  intro p e s m below meth c hx hb hr hml hts hown hlocks htab hP hK A hA hD hS hE ls hl
  have hl : lv_has ls 2 [(0, .ref (a 0))] := hl
  have hown : s.vm.findClass RL = some m.cls := hown
  have hSx : CallFix p m c cL_drill 2 s ([.ref (a 0)] : List Value).toArray wsL_drill RL := ⟨hx, hb, hml, hown, hts⟩
  have q15 := hts (.classLink RL 15 xS) (by decide +kernel)
  have z15 : (Cond.castable xS xS).before ([.ref (a 0)] : List Value).toArray s = true := xface (State.WarmedH.refl s) (by decide) (by decide) (hE.2.2.2.1 _ (by decide))
  refine lv_aload_n hx hb dL_drill_0 rfl (lv_at hl 0 rfl) ?_
  refine xv_T (w1 := (w1 cI a ((s_X1_drill f g n).2.2.1) ((s_X1_drill f g n).2.2.2.1) ((s_X1_drill f g n).2.2.2.2) b len kd sg nb pt)) (As := []) (rest := []) hSx (m_X1_drill l D cI a f g n b len kd sg nb pt hlt hn hrf) (cwV 0 hts gL_drill_X1_drill rfl rfl rfl (by decide +kernel) ⟨Nat.le_of_ble_eq_true rfl, Nat.le_of_ble_eq_true rfl⟩) hP hD hS hA hK hE 0 rfl rfl rfl rfl hl.1 rfl (Nat.le_of_ble_eq_true rfl) dL_drill_1 ⟨Nat.le_of_ble_eq_true rfl, Nat.le_of_ble_eq_true rfl⟩ (fun E ce q9 H1 locs1 hc0 hE1 hP1 hS1 hce hcv hcl => ?_) (fun H1 locs1 hc0 hP1 hS1 => ?_)
  · have hE2 : E = xS := by
      rcases (z_drill : ((s_X1_drill f g n).1) = 0 ∨ ((s_X1_drill f g n).1) = 3) with h | h
      · exact absurd h hc0
      · rw [hE1, h]; rfl
    subst hE2
    refine vx_catch (own := RL) (name := xS) hown [] ⟨0, 4, 5, 15⟩ [] htab (fun _ h9 => absurd h9 List.not_mem_nil) (by decide) (by decide) q15 z15 hce hcv hcl ?_
    refine lv_astore_n hx hb dL_drill_5 rfl hl (by decide) rfl (fun ls9 hl9 => ?_)
    refine lv_bipush (v := jI (-3)) hx hb dL_drill_6 (by decide) ?_
    exact xj_end hx hb hr hlocks hP1 hS1 (by rw [if_neg hc0]) dL_drill_8
  · exact xj_end hx hb hr hlocks hP1 hS1 (by rw [if_pos hc0]) dL_drill_4
