/-! the law's turn -/
def PA (c n : Nat) (f : Nat → Int) (u : TU) : Prop := (0 ≤ u.1 ∧ u.1 ≤ 200000 ∨ u.1 = -3 ∧ u.2.2.2 = n ∧ u.2.1 0 = f 0) ∧ VI (c + 1) u.2.1 ∧ VG (c + 1) u.2.2.2 u.2.2.1 ∧ u.2.2.2 ≤ 6
theorem pa_J {c n : Nat} {f : Nat → Int} {A : Int × Int × (Nat → Int) × (Nat → Int) × Nat} (h : Good 0 c n f A) : PA c n f (if A.1 = 0 then A.2.1 else -3, A.2.2.1, A.2.2.2.1, A.2.2.2.2) := by
  refine ⟨?_, h.2.2⟩
  by_cases h0 : A.1 = 0
  · left; show 0 ≤ (if A.1 = 0 then A.2.1 else -3) ∧ (if A.1 = 0 then A.2.1 else -3) ≤ 200000; rw [if_pos h0]; have := h.1 h0; omega
  · right; show (if A.1 = 0 then A.2.1 else -3) = -3 ∧ _; rw [if_neg h0]; exact ⟨rfl, h.2.1 h0⟩
theorem pa_T {c n : Nat} {f : Nat → Int} {A : Int × Int × (Nat → Int) × (Nat → Int) × Nat} (h : Good 0 c n f A) (h0 : A.1 = 0) : PA c n f (A.2.1, A.2.2.1, A.2.2.2.1, A.2.2.2.2) := ⟨Or.inl ⟨(h.1 h0).1, Int.le_trans (h.1 h0).2 (by decide)⟩, h.2.2⟩
theorem pa_O {c n : Nat} {f : Nat → Int} {A : Int × Int × (Nat → Int) × (Nat → Int) × Nat} (h : Good (-1) c n f A) (h0 : A.1 = 0) : PA c n f (A.2.1 + 1, A.2.2.1, A.2.2.2.1, A.2.2.2.2) := ⟨Or.inl (by show 0 ≤ A.2.1 + 1 ∧ A.2.1 + 1 ≤ 200000; have := h.1 h0; omega), h.2.2⟩
theorem pa_K {c n : Nat} {f : Nat → Int} {A : Int × Int × (Nat → Int) × (Nat → Int) × Nat} (h : Good (-1) c n f A) (h0 : (if A.1 = 0 then A.2.1 else -3) = -3) : PA c n f (-3, A.2.2.1, A.2.2.2.1, A.2.2.2.2) := by
  have h1 : A.1 ≠ 0 := fun z => by rw [if_pos z] at h0; have := h.1 z; omega
  exact ⟨Or.inr ⟨rfl, h.2.1 h1⟩, h.2.2⟩
theorem pa_L {c n : Nat} {f : Nat → Int} {A : Int × Int × (Nat → Int) × (Nat → Int) × Nat} (h : Good (-1) c n f A) : PA c n f (0, A.2.2.1, A.2.2.2.1, A.2.2.2.2) := ⟨Or.inl ⟨(by decide : (0 : Int) ≤ 0), (by decide : (0 : Int) ≤ 200000)⟩, h.2.2⟩
theorem pa_r {c n : Nat} {f : Nat → Int} {A : Int × Int × (Nat → Int) × (Nat → Int) × Nat} (h : Good (-1) c n f A) : -2147483648 ≤ (if A.1 = 0 then A.2.1 else -3) ∧ (if A.1 = 0 then A.2.1 else -3) < 2147483648 := by
  by_cases h0 : A.1 = 0
  · rw [if_pos h0]; have := h.1 h0; omega
  · rw [if_neg h0]; decide
abbrev rm_L_act : Room := { frames := 8, cells := 1, slots := 6, locals := 149 }
set_option maxHeartbeats 8000000 in
set_option maxRecDepth 100000 in
theorem m_L_act (l : Launch) (D : va_G) (cI : ClassId) (a : Nat → Nat) (f g : Nat → Int) (n : Nat) (b : Nat → Int) (len : Nat) (kd sg nb : Nat → Int) (pt : Nat) (hlt : l.stackTraces = false) (b0 L : Nat) (xs : Nat → Int32) (c k : Nat) (hk : k + 2 < L) (hL : L ≤ 1536) (hc : c ≤ 40) (h : VI c f) (hg : VG c n g) (hn : n ≤ 6) : MetA l yL_act wsL_act rm_L_act D cI [.ref (a 0), .ref b0, .int (jI (k : Int))] (w1 cI a f g n b len kd sg nb pt) b0 L xs (PA c n f) (fun u => w1 cI a u.2.1 u.2.2.1 u.2.2.2 b len kd sg nb pt) := by
  refine xe_A (cc := cL_act) (maxL := 6) (ret := (some .int)) (by decide) rfl (Nat.le_of_ble_eq_true rfl) ?_
  intro p e s m below meth c0 hx hb hr hml hts hown hlocks hP hK A hA hD hS hE hX hbl hbA ls hl
  have hl : lv_has ls 6 [(0, .ref (a 0)), (1, .ref b0), (2, .int (jI (k : Int)))] := hl
  have hown : s.vm.findClass RL = some m.cls := hown
  have hSx : CallFix p m c0 cL_act 6 s ([.ref (a 0), .ref b0, .int (jI (k : Int))] : List Value).toArray wsL_act RL := ⟨hx, hb, hml, hown, hts⟩
  have hA0 := h.1.1
  unfold VA at hA0
  have hc9 : c ≤ 100 := by omega
  have hrf := V_rng hc9 h
  have hm := V_mvs hc9 h
  have hmB : mvB f 100000 := mvB_mono (V_mvB h) (by omega)
  have hd := V_d h
  have hh : 0 ≤ f 0 ∧ f 0 ≤ 99999 := by omega
  have hw : 0 ≤ f 4 ∧ f 4 ≤ 100100 := by omega
  have h2 : -1 ≤ f 2 ∧ f 2 ≤ 100300 := by omega
  have h3 : 0 ≤ f 3 ∧ f 3 ≤ 8 := by omega
  have h11 : 1 ≤ f 11 ∧ f 11 ≤ 9 := by omega
  have fin : ∀ (u : TU) (kk : Int) (H : Heap) (locs : List Loc) (pc : Nat) (ls : Array Slot), va_P D vwCl (w1 cI a u.2.1 u.2.2.1 u.2.2.2 b len kd sg nb pt) H → va_S A s.heap H locs → kk = u.1 → PA c n f u → decode cL_act pc = .ok (.ireturn, 1) → W p l e rm_L_act s m ([.ref (a 0), .ref b0, .int (jI (k : Int))] : List Value).toArray below meth c0 H locs 1 6 (MQ below (va_Qi (fun x (u : TU) => x = jI u.1 ∧ PA c n f u) (fun u t => va_P D vwCl ((fun u : TU => w1 cI a u.2.1 u.2.2.1 u.2.2.2 b len kd sg nb pt) u) t.heap) A) ([.ref (a 0), .ref b0, .int (jI (k : Int))] : List Value).toArray s 1 6 A) (F0 m pc ls [.int (jI kk)]) := fun u kk H locs pc ls q1 q2 q3 q4 q5 => xa_end (W1 := fun u : TU => w1 cI a u.2.1 u.2.2.1 u.2.2.2 b len kd sg nb pt) u hx hb hr hlocks q1 q2 q3 q4 q5
  generalize (MQ below (va_Qi (fun x (u : TU) => x = jI u.1 ∧ PA c n f u) (fun u t => va_P D vwCl ((fun u : TU => w1 cI a u.2.1 u.2.2.1 u.2.2.2 b len kd sg nb pt) u) t.heap) A) ([.ref (a 0), .ref b0, .int (jI (k : Int))] : List Value).toArray s 1 6 A) = Q at fin ⊢
  have hmv := lowI_r (ys xs (k + 1)) (show (0 : Int) < 3 by decide)
  have K96 : ∀ (ls : Array Slot), lv_has ls 6 [(0, .ref (a 0)), (1, .ref b0), (2, .int (jI (k : Int))), (3, .int (jI (ys xs (k + 1)))), (4, .int (jI (ys xs (k + 2)))), (5, .int (jI (lowI (ys xs (k + 1)) 3)))] → W p l e rm_L_act s m ([.ref (a 0), .ref b0, .int (jI (k : Int))] : List Value).toArray below meth c0 s.heap [] 0 0 Q (F0 m 96 ls []) := by
    intro ls hl
    refine lv_aload_n hx hb dL_act_96 rfl (lv_at hl 0 rfl) ?_
    refine lv_iload hx hb dL_act_97 (lv_at hl 5 rfl) ?_
    refine lv_iconst (v := jI 1) hx hb dL_act_99 rfl ?_
    refine lv_iload hx hb dL_act_100 (lv_at hl 4 rfl) ?_
    refine lv_bipush (v := jI 60) hx hb dL_act_102 (by decide) ?_
    have hw104 := lowI_r (ys xs (k + 2)) (show (0 : Int) < 60 by decide)
    refine xc_P (As := [.int (jI (ys xs (k + 2))), .int (jI 60)]) (rest := [.int (jI 1), .int (jI (lowI (ys xs (k + 1)) 3)), .ref (a 0)]) hSx (m_L_low l (ys xs (k + 2)) 60 (by decide)) (va_cwS 2 hts gL_act_L_low rfl rfl rfl (by decide +kernel) ⟨Nat.le_of_ble_eq_true rfl, Nat.le_of_ble_eq_true rfl⟩) rfl hl.1 rfl (Nat.le_of_ble_eq_true rfl) dL_act_104 ⟨Nat.zero_le _, Nat.zero_le _⟩ ?_
    refine x_iadd hx hb dL_act_107 ?_
    refine xc_J (w1 := (w1 cI a ((s_X1_wind f g n (lowI (ys xs (k + 1)) 3) (1 + (lowI (ys xs (k + 2)) 60))).2.2.1) ((s_X1_wind f g n (lowI (ys xs (k + 1)) 3) (1 + (lowI (ys xs (k + 2)) 60))).2.2.2.1) ((s_X1_wind f g n (lowI (ys xs (k + 1)) 3) (1 + (lowI (ys xs (k + 2)) 60))).2.2.2.2) b len kd sg nb pt)) (As := [.ref (a 0), .int (jI (lowI (ys xs (k + 1)) 3)), .int (jI (1 + (lowI (ys xs (k + 2)) 60)))]) (rest := []) hSx (m_L_wind l D cI a f g n b len kd sg nb pt hlt (lowI (ys xs (k + 1)) 3) (1 + (lowI (ys xs (k + 2)) 60)) hn hrf (by omega) (by omega) (by omega) (by omega)) (vx_cwSW 3 hts gL_act_L_wind rfl rfl rfl (by decide +kernel) ⟨Nat.le_of_ble_eq_true rfl, Nat.le_of_ble_eq_true rfl⟩) hP hD hS hA hK hE rfl hl.1 rfl (Nat.le_of_ble_eq_true rfl) dL_act_108 ⟨Nat.le_of_ble_eq_true rfl, Nat.le_of_ble_eq_true rfl⟩ (fun H1 locs1 hP1 hS1 => ?_)
    exact fin ((if ((s_X1_wind f g n (lowI (ys xs (k + 1)) 3) (1 + (lowI (ys xs (k + 2)) 60))).1) = 0 then ((s_X1_wind f g n (lowI (ys xs (k + 1)) 3) (1 + (lowI (ys xs (k + 2)) 60))).2.1) else -3), (s_X1_wind f g n (lowI (ys xs (k + 1)) 3) (1 + (lowI (ys xs (k + 2)) 60))).2.2.1, (s_X1_wind f g n (lowI (ys xs (k + 1)) 3) (1 + (lowI (ys xs (k + 2)) 60))).2.2.2.1, (s_X1_wind f g n (lowI (ys xs (k + 1)) 3) (1 + (lowI (ys xs (k + 2)) 60))).2.2.2.2) _ _ _ _ _ hP1 hS1 rfl (pa_J (o_wind hc9 h hg hn _ _)) dL_act_111
  have K112 : ∀ (ls : Array Slot), lv_has ls 6 [(0, .ref (a 0)), (1, .ref b0), (2, .int (jI (k : Int))), (3, .int (jI (ys xs (k + 1)))), (4, .int (jI (ys xs (k + 2)))), (5, .int (jI (lowI (ys xs (k + 1)) 3)))] → W p l e rm_L_act s m ([.ref (a 0), .ref b0, .int (jI (k : Int))] : List Value).toArray below meth c0 s.heap [] 0 0 Q (F0 m 112 ls []) := by
    intro ls hl
    refine lv_aload_n hx hb dL_act_112 rfl (lv_at hl 0 rfl) ?_
    refine xc_J (w1 := (w1 cI a ((s_X1_lock f g n).2.2.1) ((s_X1_lock f g n).2.2.2.1) ((s_X1_lock f g n).2.2.2.2) b len kd sg nb pt)) (As := [.ref (a 0)]) (rest := []) hSx (m_L_lock l D cI a f g n b len kd sg nb pt hlt hn hrf hm hh hd) (vx_cwSW 1 hts gL_act_L_lock rfl rfl rfl (by decide +kernel) ⟨Nat.le_of_ble_eq_true rfl, Nat.le_of_ble_eq_true rfl⟩) hP hD hS hA hK hE rfl hl.1 rfl (Nat.le_of_ble_eq_true rfl) dL_act_113 ⟨Nat.le_of_ble_eq_true rfl, Nat.le_of_ble_eq_true rfl⟩ (fun H1 locs1 hP1 hS1 => ?_)
    have hG := o_lock hc9 h hg hn
    refine lv_bipush (v := jI (-3)) hx hb dL_act_116 (by decide) ?_
    refine x_icmp_ne (tgt := 126) hx hb dL_act_118 (by decide) ⟨pa_r hG, (by decide)⟩ (fun c118 => ?_) (fun c118 => ?_)
    · refine lv_iconst (v := jI 0) hx hb dL_act_126 rfl ?_
      exact fin (0, (s_X1_lock f g n).2.2.1, (s_X1_lock f g n).2.2.2.1, (s_X1_lock f g n).2.2.2.2) _ _ _ _ _ hP1 hS1 rfl (pa_L hG) dL_act_127
    · refine lv_bipush (v := jI (-3)) hx hb dL_act_121 (by decide) ?_
      refine lv_goto (tgt := 127) hx hb dL_act_123 (by decide) ?_
      exact fin (-3, (s_X1_lock f g n).2.2.1, (s_X1_lock f g n).2.2.2.1, (s_X1_lock f g n).2.2.2.2) _ _ _ _ _ hP1 hS1 rfl (pa_K hG c118) dL_act_127
  have K128 : ∀ (ls : Array Slot), lv_has ls 6 [(0, .ref (a 0)), (1, .ref b0), (2, .int (jI (k : Int))), (3, .int (jI (ys xs (k + 1)))), (4, .int (jI (ys xs (k + 2)))), (5, .int (jI (lowI (ys xs (k + 1)) 3)))] → W p l e rm_L_act s m ([.ref (a 0), .ref b0, .int (jI (k : Int))] : List Value).toArray below meth c0 s.heap [] 0 0 Q (F0 m 128 ls []) := by
    intro ls hl
    refine lv_aload_n hx hb dL_act_128 rfl (lv_at hl 0 rfl) ?_
    refine lv_iload hx hb dL_act_129 (lv_at hl 5 rfl) ?_
    refine lv_iload hx hb dL_act_131 (lv_at hl 4 rfl) ?_
    refine lv_iconst (v := jI 3) hx hb dL_act_133 rfl ?_
    have hw134 := lowI_r (ys xs (k + 2)) (show (0 : Int) < 3 by decide)
    refine xc_P (As := [.int (jI (ys xs (k + 2))), .int (jI 3)]) (rest := [.int (jI (lowI (ys xs (k + 1)) 3)), .ref (a 0)]) hSx (m_L_low l (ys xs (k + 2)) 3 (by decide)) (va_cwS 2 hts gL_act_L_low rfl rfl rfl (by decide +kernel) ⟨Nat.le_of_ble_eq_true rfl, Nat.le_of_ble_eq_true rfl⟩) rfl hl.1 rfl (Nat.le_of_ble_eq_true rfl) dL_act_134 ⟨Nat.zero_le _, Nat.zero_le _⟩ ?_
    refine x_if_le (tgt := 144) hx hb dL_act_137 (by decide) (by omega) (fun c137 => ?_) (fun c137 => ?_)
    · skip
      refine lv_iconst (v := jI 0) hx hb dL_act_144 rfl ?_
      refine xv_T (w1 := (w1 cI a ((s_X1_fault f g n (lowI (ys xs (k + 1)) 3) 0).2.2.1) ((s_X1_fault f g n (lowI (ys xs (k + 1)) 3) 0).2.2.2.1) ((s_X1_fault f g n (lowI (ys xs (k + 1)) 3) 0).2.2.2.2) b len kd sg nb pt)) (As := [.int (jI (lowI (ys xs (k + 1)) 3)), .int (jI 0)]) (rest := []) hSx (m_X1_fault l D cI a f g n b len kd sg nb pt hlt (lowI (ys xs (k + 1)) 3) 0 hn (by omega) (by omega)) (cwV 2 hts gL_act_X1_fault rfl rfl rfl (by decide +kernel) ⟨Nat.le_of_ble_eq_true rfl, Nat.le_of_ble_eq_true rfl⟩) hP hD hS hA hK hE 0 rfl rfl rfl rfl hl.1 rfl (Nat.le_of_ble_eq_true rfl) dL_act_145 ⟨Nat.le_of_ble_eq_true rfl, Nat.le_of_ble_eq_true rfl⟩ (fun E ce q9 H1 locs1 hc0 hE1 hP1 hS1 hce hcv hcl => absurd (z_fault (lowI (ys xs (k + 1)) 3) 0 (by omega) : ((s_X1_fault f g n (lowI (ys xs (k + 1)) 3) 0).1) = 0) hc0) (fun H1 locs1 hc0 hP1 hS1 => ?_)
      exact fin (((s_X1_fault f g n (lowI (ys xs (k + 1)) 3) 0).2.1), (s_X1_fault f g n (lowI (ys xs (k + 1)) 3) 0).2.2.1, (s_X1_fault f g n (lowI (ys xs (k + 1)) 3) 0).2.2.2.1, (s_X1_fault f g n (lowI (ys xs (k + 1)) 3) 0).2.2.2.2) _ _ _ _ _ hP1 hS1 rfl (pa_T (o_fault hc9 h hg hn _ _) hc0) dL_act_148
    · skip
      refine lv_iconst (v := jI 1) hx hb dL_act_140 rfl ?_
      refine lv_goto (tgt := 145) hx hb dL_act_141 (by decide) ?_
      refine xv_T (w1 := (w1 cI a ((s_X1_fault f g n (lowI (ys xs (k + 1)) 3) 1).2.2.1) ((s_X1_fault f g n (lowI (ys xs (k + 1)) 3) 1).2.2.2.1) ((s_X1_fault f g n (lowI (ys xs (k + 1)) 3) 1).2.2.2.2) b len kd sg nb pt)) (As := [.int (jI (lowI (ys xs (k + 1)) 3)), .int (jI 1)]) (rest := []) hSx (m_X1_fault l D cI a f g n b len kd sg nb pt hlt (lowI (ys xs (k + 1)) 3) 1 hn (by omega) (by omega)) (cwV 2 hts gL_act_X1_fault rfl rfl rfl (by decide +kernel) ⟨Nat.le_of_ble_eq_true rfl, Nat.le_of_ble_eq_true rfl⟩) hP hD hS hA hK hE 0 rfl rfl rfl rfl hl.1 rfl (Nat.le_of_ble_eq_true rfl) dL_act_145 ⟨Nat.le_of_ble_eq_true rfl, Nat.le_of_ble_eq_true rfl⟩ (fun E ce q9 H1 locs1 hc0 hE1 hP1 hS1 hce hcv hcl => absurd (z_fault (lowI (ys xs (k + 1)) 3) 1 (by omega) : ((s_X1_fault f g n (lowI (ys xs (k + 1)) 3) 1).1) = 0) hc0) (fun H1 locs1 hc0 hP1 hS1 => ?_)
      exact fin (((s_X1_fault f g n (lowI (ys xs (k + 1)) 3) 1).2.1), (s_X1_fault f g n (lowI (ys xs (k + 1)) 3) 1).2.2.1, (s_X1_fault f g n (lowI (ys xs (k + 1)) 3) 1).2.2.2.1, (s_X1_fault f g n (lowI (ys xs (k + 1)) 3) 1).2.2.2.2) _ _ _ _ _ hP1 hS1 rfl (pa_T (o_fault hc9 h hg hn _ _) hc0) dL_act_148
  have K149 : ∀ (ls : Array Slot), lv_has ls 6 [(0, .ref (a 0)), (1, .ref b0), (2, .int (jI (k : Int))), (3, .int (jI (ys xs (k + 1)))), (4, .int (jI (ys xs (k + 2)))), (5, .int (jI (lowI (ys xs (k + 1)) 3)))] → W p l e rm_L_act s m ([.ref (a 0), .ref b0, .int (jI (k : Int))] : List Value).toArray below meth c0 s.heap [] 0 0 Q (F0 m 149 ls []) := by
    intro ls hl
    refine lv_aload_n hx hb dL_act_149 rfl (lv_at hl 0 rfl) ?_
    refine lv_iload hx hb dL_act_150 (lv_at hl 5 rfl) ?_
    refine lv_iload hx hb dL_act_152 (lv_at hl 4 rfl) ?_
    refine lv_bipush (v := jI 21) hx hb dL_act_154 (by decide) ?_
    have hw156 := lowI_r (ys xs (k + 2)) (show (0 : Int) < 21 by decide)
    refine xc_P (As := [.int (jI (ys xs (k + 2))), .int (jI 21)]) (rest := [.int (jI (lowI (ys xs (k + 1)) 3)), .ref (a 0)]) hSx (m_L_low l (ys xs (k + 2)) 21 (by decide)) (va_cwS 2 hts gL_act_L_low rfl rfl rfl (by decide +kernel) ⟨Nat.le_of_ble_eq_true rfl, Nat.le_of_ble_eq_true rfl⟩) rfl hl.1 rfl (Nat.le_of_ble_eq_true rfl) dL_act_156 ⟨Nat.zero_le _, Nat.zero_le _⟩ ?_
    refine xv_T (w1 := (w1 cI a ((s_X1_loss f g n (lowI (ys xs (k + 1)) 3) (lowI (ys xs (k + 2)) 21)).2.2.1) ((s_X1_loss f g n (lowI (ys xs (k + 1)) 3) (lowI (ys xs (k + 2)) 21)).2.2.2.1) ((s_X1_loss f g n (lowI (ys xs (k + 1)) 3) (lowI (ys xs (k + 2)) 21)).2.2.2.2) b len kd sg nb pt)) (As := [.int (jI (lowI (ys xs (k + 1)) 3)), .int (jI (lowI (ys xs (k + 2)) 21))]) (rest := []) hSx (m_X1_loss l D cI a f g n b len kd sg nb pt hlt (lowI (ys xs (k + 1)) 3) (lowI (ys xs (k + 2)) 21) hn (by omega) (by omega)) (cwV 2 hts gL_act_X1_loss rfl rfl rfl (by decide +kernel) ⟨Nat.le_of_ble_eq_true rfl, Nat.le_of_ble_eq_true rfl⟩) hP hD hS hA hK hE 0 rfl rfl rfl rfl hl.1 rfl (Nat.le_of_ble_eq_true rfl) dL_act_159 ⟨Nat.le_of_ble_eq_true rfl, Nat.le_of_ble_eq_true rfl⟩ (fun E ce q9 H1 locs1 hc0 hE1 hP1 hS1 hce hcv hcl => absurd (z_loss (lowI (ys xs (k + 1)) 3) (lowI (ys xs (k + 2)) 21) (by omega) (by omega) : ((s_X1_loss f g n (lowI (ys xs (k + 1)) 3) (lowI (ys xs (k + 2)) 21)).1) = 0) hc0) (fun H1 locs1 hc0 hP1 hS1 => ?_)
    exact fin (((s_X1_loss f g n (lowI (ys xs (k + 1)) 3) (lowI (ys xs (k + 2)) 21)).2.1), (s_X1_loss f g n (lowI (ys xs (k + 1)) 3) (lowI (ys xs (k + 2)) 21)).2.2.1, (s_X1_loss f g n (lowI (ys xs (k + 1)) 3) (lowI (ys xs (k + 2)) 21)).2.2.2.1, (s_X1_loss f g n (lowI (ys xs (k + 1)) 3) (lowI (ys xs (k + 2)) 21)).2.2.2.2) _ _ _ _ _ hP1 hS1 rfl (pa_T (o_loss hc9 h hg hn _ _) hc0) dL_act_162
  have K163 : ∀ (ls : Array Slot), lv_has ls 6 [(0, .ref (a 0)), (1, .ref b0), (2, .int (jI (k : Int))), (3, .int (jI (ys xs (k + 1)))), (4, .int (jI (ys xs (k + 2)))), (5, .int (jI (lowI (ys xs (k + 1)) 3)))] → W p l e rm_L_act s m ([.ref (a 0), .ref b0, .int (jI (k : Int))] : List Value).toArray below meth c0 s.heap [] 0 0 Q (F0 m 163 ls []) := by
    intro ls hl
    refine lv_aload_n hx hb dL_act_163 rfl (lv_at hl 0 rfl) ?_
    refine lv_iload hx hb dL_act_164 (lv_at hl 5 rfl) ?_
    refine xc_J (w1 := (w1 cI a ((s_X1_service f g n (lowI (ys xs (k + 1)) 3)).2.2.1) ((s_X1_service f g n (lowI (ys xs (k + 1)) 3)).2.2.2.1) ((s_X1_service f g n (lowI (ys xs (k + 1)) 3)).2.2.2.2) b len kd sg nb pt)) (As := [.ref (a 0), .int (jI (lowI (ys xs (k + 1)) 3))]) (rest := []) hSx (m_L_service l D cI a f g n b len kd sg nb pt hlt (lowI (ys xs (k + 1)) 3) hn hrf (by omega) (by omega)) (vx_cwSW 2 hts gL_act_L_service rfl rfl rfl (by decide +kernel) ⟨Nat.le_of_ble_eq_true rfl, Nat.le_of_ble_eq_true rfl⟩) hP hD hS hA hK hE rfl hl.1 rfl (Nat.le_of_ble_eq_true rfl) dL_act_166 ⟨Nat.le_of_ble_eq_true rfl, Nat.le_of_ble_eq_true rfl⟩ (fun H1 locs1 hP1 hS1 => ?_)
    exact fin ((if ((s_X1_service f g n (lowI (ys xs (k + 1)) 3)).1) = 0 then ((s_X1_service f g n (lowI (ys xs (k + 1)) 3)).2.1) else -3), (s_X1_service f g n (lowI (ys xs (k + 1)) 3)).2.2.1, (s_X1_service f g n (lowI (ys xs (k + 1)) 3)).2.2.2.1, (s_X1_service f g n (lowI (ys xs (k + 1)) 3)).2.2.2.2) _ _ _ _ _ hP1 hS1 rfl (pa_J (o_service hc9 h hg hn _)) dL_act_169
  have K170 : ∀ (ls : Array Slot), lv_has ls 6 [(0, .ref (a 0)), (1, .ref b0), (2, .int (jI (k : Int))), (3, .int (jI (ys xs (k + 1)))), (4, .int (jI (ys xs (k + 2)))), (5, .int (jI (lowI (ys xs (k + 1)) 3)))] → W p l e rm_L_act s m ([.ref (a 0), .ref b0, .int (jI (k : Int))] : List Value).toArray below meth c0 s.heap [] 0 0 Q (F0 m 170 ls []) := by
    intro ls hl
    refine lv_aload_n hx hb dL_act_170 rfl (lv_at hl 0 rfl) ?_
    refine lv_iload_n hx hb dL_act_171 rfl (lv_at hl 3 rfl) ?_
    refine lv_bipush (v := jI 7) hx hb dL_act_172 (by decide) ?_
    have hw174 := lowI_r (ys xs (k + 1)) (show (0 : Int) < 7 by decide)
    refine xc_P (As := [.int (jI (ys xs (k + 1))), .int (jI 7)]) (rest := [.ref (a 0)]) hSx (m_L_low l (ys xs (k + 1)) 7 (by decide)) (va_cwS 2 hts gL_act_L_low rfl rfl rfl (by decide +kernel) ⟨Nat.le_of_ble_eq_true rfl, Nat.le_of_ble_eq_true rfl⟩) rfl hl.1 rfl (Nat.le_of_ble_eq_true rfl) dL_act_174 ⟨Nat.zero_le _, Nat.zero_le _⟩ ?_
    refine lv_iload hx hb dL_act_177 (lv_at hl 4 rfl) ?_
    refine lv_bipush (v := jI 25) hx hb dL_act_179 (by decide) ?_
    have hw181 := lowI_r (ys xs (k + 2)) (show (0 : Int) < 25 by decide)
    refine xc_P (As := [.int (jI (ys xs (k + 2))), .int (jI 25)]) (rest := [.int (jI (lowI (ys xs (k + 1)) 7)), .ref (a 0)]) hSx (m_L_low l (ys xs (k + 2)) 25 (by decide)) (va_cwS 2 hts gL_act_L_low rfl rfl rfl (by decide +kernel) ⟨Nat.le_of_ble_eq_true rfl, Nat.le_of_ble_eq_true rfl⟩) rfl hl.1 rfl (Nat.le_of_ble_eq_true rfl) dL_act_181 ⟨Nat.zero_le _, Nat.zero_le _⟩ ?_
    refine lv_iconst (v := jI 1) hx hb dL_act_184 rfl ?_
    refine x_isub hx hb dL_act_185 ?_
    refine xv_T (w1 := (w1 cI a ((s_X1_opening f g n (lowI (ys xs (k + 1)) 7) ((lowI (ys xs (k + 2)) 25) - 1)).2.2.1) ((s_X1_opening f g n (lowI (ys xs (k + 1)) 7) ((lowI (ys xs (k + 2)) 25) - 1)).2.2.2.1) ((s_X1_opening f g n (lowI (ys xs (k + 1)) 7) ((lowI (ys xs (k + 2)) 25) - 1)).2.2.2.2) b len kd sg nb pt)) (As := [.int (jI (lowI (ys xs (k + 1)) 7)), .int (jI ((lowI (ys xs (k + 2)) 25) - 1))]) (rest := []) hSx (m_X1_opening l D cI a f g n b len kd sg nb pt hlt (lowI (ys xs (k + 1)) 7) ((lowI (ys xs (k + 2)) 25) - 1) hn (by omega) (by omega)) (cwV 2 hts gL_act_X1_opening rfl rfl rfl (by decide +kernel) ⟨Nat.le_of_ble_eq_true rfl, Nat.le_of_ble_eq_true rfl⟩) hP hD hS hA hK hE 0 rfl rfl rfl rfl hl.1 rfl (Nat.le_of_ble_eq_true rfl) dL_act_186 ⟨Nat.le_of_ble_eq_true rfl, Nat.le_of_ble_eq_true rfl⟩ (fun E ce q9 H1 locs1 hc0 hE1 hP1 hS1 hce hcv hcl => absurd (z_opening (lowI (ys xs (k + 1)) 7) ((lowI (ys xs (k + 2)) 25) - 1) (by omega) (by omega) : ((s_X1_opening f g n (lowI (ys xs (k + 1)) 7) ((lowI (ys xs (k + 2)) 25) - 1)).1) = 0) hc0) (fun H1 locs1 hc0 hP1 hS1 => ?_)
    refine lv_iconst (v := jI 1) hx hb dL_act_189 rfl ?_
    refine x_iadd hx hb dL_act_190 ?_
    exact fin (((s_X1_opening f g n (lowI (ys xs (k + 1)) 7) ((lowI (ys xs (k + 2)) 25) - 1)).2.1) + 1, (s_X1_opening f g n (lowI (ys xs (k + 1)) 7) ((lowI (ys xs (k + 2)) 25) - 1)).2.2.1, (s_X1_opening f g n (lowI (ys xs (k + 1)) 7) ((lowI (ys xs (k + 2)) 25) - 1)).2.2.2.1, (s_X1_opening f g n (lowI (ys xs (k + 1)) 7) ((lowI (ys xs (k + 2)) 25) - 1)).2.2.2.2) _ _ _ _ _ hP1 hS1 rfl (pa_O (o_opening h hg hn _ _) hc0) dL_act_191
  have K192 : ∀ (ls : Array Slot), lv_has ls 6 [(0, .ref (a 0)), (1, .ref b0), (2, .int (jI (k : Int))), (3, .int (jI (ys xs (k + 1)))), (4, .int (jI (ys xs (k + 2)))), (5, .int (jI (lowI (ys xs (k + 1)) 3)))] → W p l e rm_L_act s m ([.ref (a 0), .ref b0, .int (jI (k : Int))] : List Value).toArray below meth c0 s.heap [] 0 0 Q (F0 m 192 ls []) := by
    intro ls hl
    refine lv_aload_n hx hb dL_act_192 rfl (lv_at hl 0 rfl) ?_
    refine lv_iload_n hx hb dL_act_193 rfl (lv_at hl 3 rfl) ?_
    refine lv_iconst (v := jI 2) hx hb dL_act_194 rfl ?_
    have hw195 := lowI_r (ys xs (k + 1)) (show (0 : Int) < 2 by decide)
    refine xc_P (As := [.int (jI (ys xs (k + 1))), .int (jI 2)]) (rest := [.ref (a 0)]) hSx (m_L_low l (ys xs (k + 1)) 2 (by decide)) (va_cwS 2 hts gL_act_L_low rfl rfl rfl (by decide +kernel) ⟨Nat.le_of_ble_eq_true rfl, Nat.le_of_ble_eq_true rfl⟩) rfl hl.1 rfl (Nat.le_of_ble_eq_true rfl) dL_act_195 ⟨Nat.zero_le _, Nat.zero_le _⟩ ?_
    refine lv_iconst (v := jI 1) hx hb dL_act_198 rfl ?_
    refine lv_iload hx hb dL_act_199 (lv_at hl 4 rfl) ?_
    refine lv_bipush (v := jI 9) hx hb dL_act_201 (by decide) ?_
    have hw203 := lowI_r (ys xs (k + 2)) (show (0 : Int) < 9 by decide)
    refine xc_P (As := [.int (jI (ys xs (k + 2))), .int (jI 9)]) (rest := [.int (jI 1), .int (jI (lowI (ys xs (k + 1)) 2)), .ref (a 0)]) hSx (m_L_low l (ys xs (k + 2)) 9 (by decide)) (va_cwS 2 hts gL_act_L_low rfl rfl rfl (by decide +kernel) ⟨Nat.le_of_ble_eq_true rfl, Nat.le_of_ble_eq_true rfl⟩) rfl hl.1 rfl (Nat.le_of_ble_eq_true rfl) dL_act_203 ⟨Nat.zero_le _, Nat.zero_le _⟩ ?_
    refine x_iadd hx hb dL_act_206 ?_
    have hls : xleast ((lowI (ys xs (k + 1)) 2)).toNat ≤ (1 + (lowI (ys xs (k + 2)) 9)) ∧ (1 + (lowI (ys xs (k + 2)) 9)) ≤ xmost ((lowI (ys xs (k + 1)) 2)).toNat := by
      rcases (show (lowI (ys xs (k + 1)) 2) = 0 ∨ (lowI (ys xs (k + 1)) 2) = 1 by omega) with e | e <;> rw [e]
      · show (1 : Int) ≤ (1 + (lowI (ys xs (k + 2)) 9)) ∧ (1 + (lowI (ys xs (k + 2)) 9)) ≤ 9; omega
      · show (1 : Int) ≤ (1 + (lowI (ys xs (k + 2)) 9)) ∧ (1 + (lowI (ys xs (k + 2)) 9)) ≤ 24; omega
    refine xv_T (w1 := (w1 cI a ((s_X1_set f g n (lowI (ys xs (k + 1)) 2) (1 + (lowI (ys xs (k + 2)) 9))).2.2.1) ((s_X1_set f g n (lowI (ys xs (k + 1)) 2) (1 + (lowI (ys xs (k + 2)) 9))).2.2.2.1) ((s_X1_set f g n (lowI (ys xs (k + 1)) 2) (1 + (lowI (ys xs (k + 2)) 9))).2.2.2.2) b len kd sg nb pt)) (As := [.int (jI (lowI (ys xs (k + 1)) 2)), .int (jI (1 + (lowI (ys xs (k + 2)) 9)))]) (rest := []) hSx (m_X1_set l D cI a f g n b len kd sg nb pt hlt (lowI (ys xs (k + 1)) 2) (1 + (lowI (ys xs (k + 2)) 9)) hn (by omega) (by omega)) (cwV 2 hts gL_act_X1_set rfl rfl rfl (by decide +kernel) ⟨Nat.le_of_ble_eq_true rfl, Nat.le_of_ble_eq_true rfl⟩) hP hD hS hA hK hE 0 rfl rfl rfl rfl hl.1 rfl (Nat.le_of_ble_eq_true rfl) dL_act_207 ⟨Nat.le_of_ble_eq_true rfl, Nat.le_of_ble_eq_true rfl⟩ (fun E ce q9 H1 locs1 hc0 hE1 hP1 hS1 hce hcv hcl => absurd (z_set (lowI (ys xs (k + 1)) 2) (1 + (lowI (ys xs (k + 2)) 9)) (by omega) hls : ((s_X1_set f g n (lowI (ys xs (k + 1)) 2) (1 + (lowI (ys xs (k + 2)) 9))).1) = 0) hc0) (fun H1 locs1 hc0 hP1 hS1 => ?_)
    exact fin (((s_X1_set f g n (lowI (ys xs (k + 1)) 2) (1 + (lowI (ys xs (k + 2)) 9))).2.1), (s_X1_set f g n (lowI (ys xs (k + 1)) 2) (1 + (lowI (ys xs (k + 2)) 9))).2.2.1, (s_X1_set f g n (lowI (ys xs (k + 1)) 2) (1 + (lowI (ys xs (k + 2)) 9))).2.2.2.1, (s_X1_set f g n (lowI (ys xs (k + 1)) 2) (1 + (lowI (ys xs (k + 2)) 9))).2.2.2.2) _ _ _ _ _ hP1 hS1 rfl (pa_T (o_set h hg hn _ _) hc0) dL_act_210
  have K211 : ∀ (ls : Array Slot), lv_has ls 6 [(0, .ref (a 0)), (1, .ref b0), (2, .int (jI (k : Int))), (3, .int (jI (ys xs (k + 1)))), (4, .int (jI (ys xs (k + 2)))), (5, .int (jI (lowI (ys xs (k + 1)) 3)))] → W p l e rm_L_act s m ([.ref (a 0), .ref b0, .int (jI (k : Int))] : List Value).toArray below meth c0 s.heap [] 0 0 Q (F0 m 211 ls []) := by
    intro ls hl
    refine lv_iload hx hb dL_act_211 (lv_at hl 4 rfl) ?_
    refine lv_iconst (v := jI 4) hx hb dL_act_213 rfl ?_
    have hw214 := lowI_r (ys xs (k + 2)) (show (0 : Int) < 4 by decide)
    refine xc_P (As := [.int (jI (ys xs (k + 2))), .int (jI 4)]) (rest := []) hSx (m_L_low l (ys xs (k + 2)) 4 (by decide)) (va_cwS 2 hts gL_act_L_low rfl rfl rfl (by decide +kernel) ⟨Nat.le_of_ble_eq_true rfl, Nat.le_of_ble_eq_true rfl⟩) rfl hl.1 rfl (Nat.le_of_ble_eq_true rfl) dL_act_214 ⟨Nat.zero_le _, Nat.zero_le _⟩ ?_
    refine x_if_ne (tgt := 227) hx hb dL_act_217 (by decide) (by omega) (fun c217 => ?_) (fun c217 => ?_)
    · skip
      refine lv_aload_n hx hb dL_act_227 rfl (lv_at hl 0 rfl) ?_
      refine lv_iconst (v := jI 2) hx hb dL_act_228 rfl ?_
      refine lv_bipush (v := jI 10) hx hb dL_act_229 (by decide) ?_
      refine lv_iload hx hb dL_act_231 (lv_at hl 4 rfl) ?_
      refine lv_bipush (v := jI 90) hx hb dL_act_233 (by decide) ?_
      have hw235 := lowI_r (ys xs (k + 2)) (show (0 : Int) < 90 by decide)
      refine xc_P (As := [.int (jI (ys xs (k + 2))), .int (jI 90)]) (rest := [.int (jI 10), .int (jI 2), .ref (a 0)]) hSx (m_L_low l (ys xs (k + 2)) 90 (by decide)) (va_cwS 2 hts gL_act_L_low rfl rfl rfl (by decide +kernel) ⟨Nat.le_of_ble_eq_true rfl, Nat.le_of_ble_eq_true rfl⟩) rfl hl.1 rfl (Nat.le_of_ble_eq_true rfl) dL_act_235 ⟨Nat.zero_le _, Nat.zero_le _⟩ ?_
      refine x_iadd hx hb dL_act_238 ?_
      have hls : xleast (2 : Int).toNat ≤ (10 + (lowI (ys xs (k + 2)) 90)) ∧ (10 + (lowI (ys xs (k + 2)) 90)) ≤ xmost (2 : Int).toNat := by show (10 : Int) ≤ (10 + (lowI (ys xs (k + 2)) 90)) ∧ (10 + (lowI (ys xs (k + 2)) 90)) ≤ 5000; omega
      refine xv_T (w1 := (w1 cI a ((s_X1_set f g n 2 (10 + (lowI (ys xs (k + 2)) 90))).2.2.1) ((s_X1_set f g n 2 (10 + (lowI (ys xs (k + 2)) 90))).2.2.2.1) ((s_X1_set f g n 2 (10 + (lowI (ys xs (k + 2)) 90))).2.2.2.2) b len kd sg nb pt)) (As := [.int (jI 2), .int (jI (10 + (lowI (ys xs (k + 2)) 90)))]) (rest := []) hSx (m_X1_set l D cI a f g n b len kd sg nb pt hlt 2 (10 + (lowI (ys xs (k + 2)) 90)) hn (by omega) (by omega)) (cwV 2 hts gL_act_X1_set rfl rfl rfl (by decide +kernel) ⟨Nat.le_of_ble_eq_true rfl, Nat.le_of_ble_eq_true rfl⟩) hP hD hS hA hK hE 0 rfl rfl rfl rfl hl.1 rfl (Nat.le_of_ble_eq_true rfl) dL_act_239 ⟨Nat.le_of_ble_eq_true rfl, Nat.le_of_ble_eq_true rfl⟩ (fun E ce q9 H1 locs1 hc0 hE1 hP1 hS1 hce hcv hcl => absurd (z_set 2 (10 + (lowI (ys xs (k + 2)) 90)) (by decide) hls : ((s_X1_set f g n 2 (10 + (lowI (ys xs (k + 2)) 90))).1) = 0) hc0) (fun H1 locs1 hc0 hP1 hS1 => ?_)
      exact fin (((s_X1_set f g n 2 (10 + (lowI (ys xs (k + 2)) 90))).2.1), (s_X1_set f g n 2 (10 + (lowI (ys xs (k + 2)) 90))).2.2.1, (s_X1_set f g n 2 (10 + (lowI (ys xs (k + 2)) 90))).2.2.2.1, (s_X1_set f g n 2 (10 + (lowI (ys xs (k + 2)) 90))).2.2.2.2) _ _ _ _ _ hP1 hS1 rfl (pa_T (o_set h hg hn _ _) hc0) dL_act_242
    · skip
      refine lv_aload_n hx hb dL_act_220 rfl (lv_at hl 0 rfl) ?_
      refine xc_J (w1 := (w1 cI a ((s_X1_drill f g n).2.2.1) ((s_X1_drill f g n).2.2.2.1) ((s_X1_drill f g n).2.2.2.2) b len kd sg nb pt)) (As := [.ref (a 0)]) (rest := []) hSx (m_L_drill l D cI a f g n b len kd sg nb pt hlt hn hrf) (vx_cwSW 1 hts gL_act_L_drill rfl rfl rfl (by decide +kernel) ⟨Nat.le_of_ble_eq_true rfl, Nat.le_of_ble_eq_true rfl⟩) hP hD hS hA hK hE rfl hl.1 rfl (Nat.le_of_ble_eq_true rfl) dL_act_221 ⟨Nat.le_of_ble_eq_true rfl, Nat.le_of_ble_eq_true rfl⟩ (fun H1 locs1 hP1 hS1 => ?_)
      refine lv_goto (tgt := 242) hx hb dL_act_224 (by decide) ?_
      exact fin ((if ((s_X1_drill f g n).1) = 0 then ((s_X1_drill f g n).2.1) else -3), (s_X1_drill f g n).2.2.1, (s_X1_drill f g n).2.2.2.1, (s_X1_drill f g n).2.2.2.2) _ _ _ _ _ hP1 hS1 rfl (pa_J (o_drill hc9 h hg hn)) dL_act_242
  have K243 : ∀ (ls : Array Slot), lv_has ls 6 [(0, .ref (a 0)), (1, .ref b0), (2, .int (jI (k : Int))), (3, .int (jI (ys xs (k + 1)))), (4, .int (jI (ys xs (k + 2)))), (5, .int (jI (lowI (ys xs (k + 1)) 3)))] → W p l e rm_L_act s m ([.ref (a 0), .ref b0, .int (jI (k : Int))] : List Value).toArray below meth c0 s.heap [] 0 0 Q (F0 m 243 ls []) := by
    intro ls hl
    refine lv_aload_n hx hb dL_act_243 rfl (lv_at hl 0 rfl) ?_
    refine xc_J (w1 := (w1 cI a ((s_X1_undo f g n).2.2.1) ((s_X1_undo f g n).2.2.2.1) ((s_X1_undo f g n).2.2.2.2) b len kd sg nb pt)) (As := [.ref (a 0)]) (rest := []) hSx (m_L_undo l D cI a f g n b len kd sg nb pt hlt hn) (vx_cwSW 1 hts gL_act_L_undo rfl rfl rfl (by decide +kernel) ⟨Nat.le_of_ble_eq_true rfl, Nat.le_of_ble_eq_true rfl⟩) hP hD hS hA hK hE rfl hl.1 rfl (Nat.le_of_ble_eq_true rfl) dL_act_244 ⟨Nat.le_of_ble_eq_true rfl, Nat.le_of_ble_eq_true rfl⟩ (fun H1 locs1 hP1 hS1 => ?_)
    exact fin ((if ((s_X1_undo f g n).1) = 0 then ((s_X1_undo f g n).2.1) else -3), (s_X1_undo f g n).2.2.1, (s_X1_undo f g n).2.2.2.1, (s_X1_undo f g n).2.2.2.2) _ _ _ _ _ hP1 hS1 rfl (pa_J (o_undo h hg hn)) dL_act_247
  have K248 : ∀ (ls : Array Slot), lv_has ls 6 [(0, .ref (a 0)), (1, .ref b0), (2, .int (jI (k : Int))), (3, .int (jI (ys xs (k + 1)))), (4, .int (jI (ys xs (k + 2)))), (5, .int (jI (lowI (ys xs (k + 1)) 3)))] → W p l e rm_L_act s m ([.ref (a 0), .ref b0, .int (jI (k : Int))] : List Value).toArray below meth c0 s.heap [] 0 0 Q (F0 m 248 ls []) := by
    intro ls hl
    refine lv_aload_n hx hb dL_act_248 rfl (lv_at hl 0 rfl) ?_
    refine lv_iconst (v := jI 1) hx hb dL_act_249 rfl ?_
    refine lv_iload hx hb dL_act_250 (lv_at hl 4 rfl) ?_
    refine lv_bipush (v := jI 30) hx hb dL_act_252 (by decide) ?_
    have hw254 := lowI_r (ys xs (k + 2)) (show (0 : Int) < 30 by decide)
    refine xc_P (As := [.int (jI (ys xs (k + 2))), .int (jI 30)]) (rest := [.int (jI 1), .ref (a 0)]) hSx (m_L_low l (ys xs (k + 2)) 30 (by decide)) (va_cwS 2 hts gL_act_L_low rfl rfl rfl (by decide +kernel) ⟨Nat.le_of_ble_eq_true rfl, Nat.le_of_ble_eq_true rfl⟩) rfl hl.1 rfl (Nat.le_of_ble_eq_true rfl) dL_act_254 ⟨Nat.zero_le _, Nat.zero_le _⟩ ?_
    refine x_iadd hx hb dL_act_257 ?_
    refine xv_T (w1 := (w1 cI a ((s_X1_pass f g n (1 + (lowI (ys xs (k + 2)) 30))).2.2.1) ((s_X1_pass f g n (1 + (lowI (ys xs (k + 2)) 30))).2.2.2.1) ((s_X1_pass f g n (1 + (lowI (ys xs (k + 2)) 30))).2.2.2.2) b len kd sg nb pt)) (As := [.int (jI (1 + (lowI (ys xs (k + 2)) 30)))]) (rest := []) hSx (m_X1_pass l D cI a f g n b len kd sg nb pt hlt (1 + (lowI (ys xs (k + 2)) 30)) hn hrf hh hmB (by omega)) (cwV 1 hts gL_act_X1_pass rfl rfl rfl (by decide +kernel) ⟨Nat.le_of_ble_eq_true rfl, Nat.le_of_ble_eq_true rfl⟩) hP hD hS hA hK hE 0 rfl rfl rfl rfl hl.1 rfl (Nat.le_of_ble_eq_true rfl) dL_act_258 ⟨Nat.le_of_ble_eq_true rfl, Nat.le_of_ble_eq_true rfl⟩ (fun E ce q9 H1 locs1 hc0 hE1 hP1 hS1 hce hcv hcl => absurd ((o_pass hc9 h hg hn (1 + (lowI (ys xs (k + 2)) 30)) (by omega) (by omega)).2 : ((s_X1_pass f g n (1 + (lowI (ys xs (k + 2)) 30))).1) = 0) hc0) (fun H1 locs1 hc0 hP1 hS1 => ?_)
    exact fin (((s_X1_pass f g n (1 + (lowI (ys xs (k + 2)) 30))).2.1), (s_X1_pass f g n (1 + (lowI (ys xs (k + 2)) 30))).2.2.1, (s_X1_pass f g n (1 + (lowI (ys xs (k + 2)) 30))).2.2.2.1, (s_X1_pass f g n (1 + (lowI (ys xs (k + 2)) 30))).2.2.2.2) _ _ _ _ _ hP1 hS1 rfl (pa_T (o_pass hc9 h hg hn _ (by omega) (by omega)).1 hc0) dL_act_261
  refine lv_aload_n hx hb dL_act_0 rfl (lv_at hl 1 rfl) ?_
  refine lv_iload_n hx hb dL_act_1 rfl (lv_at hl 2 rfl) ?_
  refine lv_iconst (v := jI 1) hx hb dL_act_2 rfl ?_
  refine x_iadd hx hb dL_act_3 ?_
  rw [show (k : Int) + 1 = ((k + 1 : Nat) : Int) by omega]
  refine xc_C (As := [.ref b0, .int (jI ((k + 1 : Nat) : Int))]) (rest := []) hSx (m_L_cell l b0 L xs (k + 1) (by omega) hL) (va_cwS 2 hts gL_act_L_cell rfl rfl rfl (by decide +kernel) ⟨Nat.le_of_ble_eq_true rfl, Nat.le_of_ble_eq_true rfl⟩) hX hbl hbA hS rfl hl.1 rfl (Nat.le_of_ble_eq_true rfl) dL_act_4 ⟨Nat.zero_le _, Nat.zero_le _⟩ ?_
  refine lv_istore_n (lv' := [(3, .int (jI (ys xs (k + 1)))), (0, .ref (a 0)), (1, .ref b0), (2, .int (jI (k : Int)))]) hx hb dL_act_7 rfl hl (by decide) rfl (fun ls hl => ?_)
  refine lv_aload_n hx hb dL_act_8 rfl (lv_at hl 2 rfl) ?_
  refine lv_iload_n hx hb dL_act_9 rfl (lv_at hl 3 rfl) ?_
  refine lv_iconst (v := jI 2) hx hb dL_act_10 rfl ?_
  refine x_iadd hx hb dL_act_11 ?_
  rw [show (k : Int) + 2 = ((k + 2 : Nat) : Int) by omega]
  refine xc_C (As := [.ref b0, .int (jI ((k + 2 : Nat) : Int))]) (rest := []) hSx (m_L_cell l b0 L xs (k + 2) (by omega) hL) (va_cwS 2 hts gL_act_L_cell rfl rfl rfl (by decide +kernel) ⟨Nat.le_of_ble_eq_true rfl, Nat.le_of_ble_eq_true rfl⟩) hX hbl hbA hS rfl hl.1 rfl (Nat.le_of_ble_eq_true rfl) dL_act_12 ⟨Nat.zero_le _, Nat.zero_le _⟩ ?_
  refine lv_istore (lv' := [(4, .int (jI (ys xs (k + 2)))), (3, .int (jI (ys xs (k + 1)))), (0, .ref (a 0)), (1, .ref b0), (2, .int (jI (k : Int)))]) hx hb dL_act_15 hl (by decide) rfl (fun ls hl => ?_)
  refine lv_iload_n hx hb dL_act_17 rfl (lv_at hl 1 rfl) ?_
  refine lv_iconst (v := jI 3) hx hb dL_act_18 rfl ?_
  have hw19 := lowI_r (ys xs (k + 1)) (show (0 : Int) < 3 by decide)
  refine xc_P (As := [.int (jI (ys xs (k + 1))), .int (jI 3)]) (rest := []) hSx (m_L_low l (ys xs (k + 1)) 3 (by decide)) (va_cwS 2 hts gL_act_L_low rfl rfl rfl (by decide +kernel) ⟨Nat.le_of_ble_eq_true rfl, Nat.le_of_ble_eq_true rfl⟩) rfl hl.1 rfl (Nat.le_of_ble_eq_true rfl) dL_act_19 ⟨Nat.zero_le _, Nat.zero_le _⟩ ?_
  refine lv_istore (lv' := [(5, .int (jI (lowI (ys xs (k + 1)) 3))), (4, .int (jI (ys xs (k + 2)))), (3, .int (jI (ys xs (k + 1)))), (0, .ref (a 0)), (1, .ref b0), (2, .int (jI (k : Int)))]) hx hb dL_act_22 hl (by decide) rfl (fun ls hl => ?_)
  refine lv_aload_n hx hb dL_act_24 rfl (lv_at hl 4 rfl) ?_
  refine lv_iload_n hx hb dL_act_25 rfl (lv_at hl 5 rfl) ?_
  refine xc_C (As := [.ref b0, .int (jI ((k : Nat) : Int))]) (rest := []) hSx (m_L_cell l b0 L xs k (by omega) hL) (va_cwS 2 hts gL_act_L_cell rfl rfl rfl (by decide +kernel) ⟨Nat.le_of_ble_eq_true rfl, Nat.le_of_ble_eq_true rfl⟩) hX hbl hbA hS rfl hl.1 rfl (Nat.le_of_ble_eq_true rfl) dL_act_26 ⟨Nat.zero_le _, Nat.zero_le _⟩ ?_
  refine lv_bipush (v := jI 16) hx hb dL_act_29 (by decide) ?_
  have hw31 := lowI_r (ys xs k) (show (0 : Int) < 16 by decide)
  refine xc_P (As := [.int (jI (ys xs k)), .int (jI 16)]) (rest := []) hSx (m_L_low l (ys xs k) 16 (by decide)) (va_cwS 2 hts gL_act_L_low rfl rfl rfl (by decide +kernel) ⟨Nat.le_of_ble_eq_true rfl, Nat.le_of_ble_eq_true rfl⟩) rfl hl.1 rfl (Nat.le_of_ble_eq_true rfl) dL_act_31 ⟨Nat.zero_le _, Nat.zero_le _⟩ ?_
  have hl : lv_has ls 6 [(0, .ref (a 0)), (1, .ref b0), (2, .int (jI (k : Int))), (3, .int (jI (ys xs (k + 1)))), (4, .int (jI (ys xs (k + 2)))), (5, .int (jI (lowI (ys xs (k + 1)) 3)))] := lv_sub hl [3, 4, 5, 2, 1, 0] rfl
  rcases (show lowI (ys xs k) 16 = 0 ∨ lowI (ys xs k) 16 = 1 ∨ lowI (ys xs k) 16 = 2 ∨ lowI (ys xs k) 16 = 3 ∨ lowI (ys xs k) 16 = 4 ∨ lowI (ys xs k) 16 = 5 ∨ lowI (ys xs k) 16 = 6 ∨ lowI (ys xs k) 16 = 7 ∨ lowI (ys xs k) 16 = 8 ∨ lowI (ys xs k) 16 = 9 ∨ lowI (ys xs k) 16 = 10 ∨ lowI (ys xs k) 16 = 11 ∨ lowI (ys xs k) 16 = 12 ∨ lowI (ys xs k) 16 = 13 ∨ lowI (ys xs k) 16 = 14 ∨ lowI (ys xs k) 16 = 15 by omega) with e | e | e | e | e | e | e | e | e | e | e | e | e | e | e | e
  · rw [e]; exact lv_tableIn (off := 62) (tgt := 96) hx hb dL_act_34 (by decide) (by decide) (by decide) (by decide) (K96 ls hl)
  · rw [e]; exact lv_tableIn (off := 62) (tgt := 96) hx hb dL_act_34 (by decide) (by decide) (by decide) (by decide) (K96 ls hl)
  · rw [e]; exact lv_tableIn (off := 62) (tgt := 96) hx hb dL_act_34 (by decide) (by decide) (by decide) (by decide) (K96 ls hl)
  · rw [e]; exact lv_tableIn (off := 78) (tgt := 112) hx hb dL_act_34 (by decide) (by decide) (by decide) (by decide) (K112 ls hl)
  · rw [e]; exact lv_tableIn (off := 78) (tgt := 112) hx hb dL_act_34 (by decide) (by decide) (by decide) (by decide) (K112 ls hl)
  · rw [e]; exact lv_tableIn (off := 94) (tgt := 128) hx hb dL_act_34 (by decide) (by decide) (by decide) (by decide) (K128 ls hl)
  · rw [e]; exact lv_tableIn (off := 115) (tgt := 149) hx hb dL_act_34 (by decide) (by decide) (by decide) (by decide) (K149 ls hl)
  · rw [e]; exact lv_tableIn (off := 129) (tgt := 163) hx hb dL_act_34 (by decide) (by decide) (by decide) (by decide) (K163 ls hl)
  · rw [e]; exact lv_tableIn (off := 136) (tgt := 170) hx hb dL_act_34 (by decide) (by decide) (by decide) (by decide) (K170 ls hl)
  · rw [e]; exact lv_tableIn (off := 158) (tgt := 192) hx hb dL_act_34 (by decide) (by decide) (by decide) (by decide) (K192 ls hl)
  · rw [e]; exact lv_tableIn (off := 177) (tgt := 211) hx hb dL_act_34 (by decide) (by decide) (by decide) (by decide) (K211 ls hl)
  · rw [e]; exact lv_tableIn (off := 209) (tgt := 243) hx hb dL_act_34 (by decide) (by decide) (by decide) (by decide) (K243 ls hl)
  · rw [e]; exact lv_tableOut (tgt := 248) hx hb dL_act_34 (Or.inr (by decide)) (by decide) (K248 ls hl)
  · rw [e]; exact lv_tableOut (tgt := 248) hx hb dL_act_34 (Or.inr (by decide)) (by decide) (K248 ls hl)
  · rw [e]; exact lv_tableOut (tgt := 248) hx hb dL_act_34 (Or.inr (by decide)) (by decide) (K248 ls hl)
  · rw [e]; exact lv_tableOut (tgt := 248) hx hb dL_act_34 (Or.inr (by decide)) (by decide) (K248 ls hl)
