theorem upz_0 {F : Nat → Int} {k : Nat} {j : Nat} : upz F k 0 j = 0 ∨ upz F k 0 j = F j := by
  unfold upz
  split
  · exact Or.inl rfl
  · exact Or.inr rfl
theorem r_hTO_lp (f : Nat → Int) (hh : 0 ≤ f 0 ∧ f 0 ≤ 99999) (hd : ∀ k : Nat, 14 ≤ k → k < 21 → -1 ≤ f k ∧ f k ≤ 23) : ∀ k i : Nat, i + k = 9 → -1 ≤ s_X1_hoursToOpening_lp2 f k i ∧ s_X1_hoursToOpening_lp2 f k i ≤ 300 := by
  intro k
  induction k with
  | zero => intro i h; unfold s_X1_hoursToOpening_lp2; decide
  | succ k ih =>
    intro i h
    have hd1 := hd (14 + (f 0 / 24 % 7 + (i : Int)) % 7).toNat (by omega) (by omega)
    have h9 := ih (i + 1) (by omega)
    rw [s_X1_hoursToOpening_lp2]
    split
    · omega
    split
    · exact h9
    split
    · exact h9
    · omega
theorem r_X1_hoursToOpening (f : Nat → Int) (hh : 0 ≤ f 0 ∧ f 0 ≤ 99999) (hd : ∀ k : Nat, 14 ≤ k → k < 21 → -1 ≤ f k ∧ f k ≤ 23) : -1 ≤ s_X1_hoursToOpening f ∧ s_X1_hoursToOpening f ≤ 300 := r_hTO_lp f hh hd _ _ (by decide)
def s_X1_hoursToWind (f : Nat → Int) (j : Nat) : Int := if (s_X1_hoursToOpening f) = (-1) then (-1) else (if (s_X1_goes f j) = 0 then (-1) else (if (s_X1_isLostHour ((f ((21 + (j * 4)) + 3)) + (s_X1_hoursToOpening f)) (f ((21 + (j * 4)) + 2))) = 0 then (if 0 < (f ((21 + (j * 4)) + 2)) then (if (s_X1_areWindingHours ((s_X1_hoursToOpening f) - ((((f ((21 + (j * 4)) + 3)) + (s_X1_hoursToOpening f)) / (f ((21 + (j * 4)) + 2))) - ((f ((21 + (j * 4)) + 3)) / (f ((21 + (j * 4)) + 2)))))) = 0 then (-1) else ((s_X1_hoursToOpening f) - ((((f ((21 + (j * 4)) + 3)) + (s_X1_hoursToOpening f)) / (f ((21 + (j * 4)) + 2))) - ((f ((21 + (j * 4)) + 3)) / (f ((21 + (j * 4)) + 2)))))) else (if (s_X1_areWindingHours ((s_X1_hoursToOpening f) - 0)) = 0 then (-1) else ((s_X1_hoursToOpening f) - 0))) else (-1)))
abbrev rm_X1_hoursToWind : Room := { frames := 2, cells := 0, slots := 0, locals := 43 }
set_option maxHeartbeats 4000000 in
set_option maxRecDepth 100000 in
theorem m_X1_hoursToWind (l : Launch) (D : va_G) (cI : ClassId) (a : Nat → Nat) (f : Nat → Int) (g : Nat → Int) (n : Nat) (b : Nat → Int) (len : Nat) (kd : Nat → Int) (sg : Nat → Int) (nb : Nat → Int) (pt : Nat) (j : Nat) (hj : j < 3) (hrf : rng f) (hh : 0 ≤ f 0 ∧ f 0 ≤ 99999) (hd : ∀ k : Nat, 14 ≤ k → k < 21 → -1 ≤ f k ∧ f k ≤ 23) (hm : mvs f) : MetR l yX1_hoursToWind wsX1_hoursToWind rm_X1_hoursToWind D cI [.ref (a 0), .int (jI (j : Int))] (w1 cI a f g n b len kd sg nb pt) (s_X1_hoursToWind f j) := by
  refine xe_R (cc := cX1_hoursToWind) (maxL := 6) (ret := (some .int)) (by decide) rfl (Nat.le_of_ble_eq_true rfl) ?_
  intro p e s m below meth c hx hb hr hml hts hown hlocks hP hK ls hl
  have hl : lv_has ls 6 [(0, .ref (a 0)), (1, .int (jI (j : Int)))] := hl
  have hown : s.vm.findClass RX1 = some m.cls := hown
  have hSx : CallFix p m c cX1_hoursToWind 6 s ([.ref (a 0), .int (jI (j : Int))] : List Value).toArray wsX1_hoursToWind RX1 := ⟨hx, hb, hml, hown, hts⟩
  have inRX1 : ∀ w ∈ u_ws RX1 TX1 6, w ∈ wsX1_hoursToWind := by decide +kernel
  have qf9 := hts (.fieldLink RX1 9 "VaultMovements" "now" "[I") (by decide +kernel)
  have hm1 := hm j hj
  obtain ⟨z, hz⟩ : ∃ z, z = (s_X1_hoursToWind f j) := ⟨_, rfl⟩
  rw [← hz]
  unfold s_X1_hoursToWind at hz
  refine lv_aload_n hx hb dX1_hoursToWind_0 rfl (lv_at hl 0 rfl) ?_
  refine xc_R (As := []) (rest := []) hSx (m_X1_hoursToOpening l D cI a f g n b len kd sg nb pt  (by omega) (by omega) (by omega)) (cwV 0 hts gX1_hoursToWind_X1_hoursToOpening rfl rfl rfl (by decide +kernel) ⟨Nat.le_of_ble_eq_true rfl, Nat.le_of_ble_eq_true rfl⟩) hP hK 0 rfl rfl rfl rfl hl.1 rfl (Nat.le_of_ble_eq_true rfl) dX1_hoursToWind_1 ⟨Nat.zero_le _, Nat.zero_le _⟩ ?_
  have hrd := r_X1_hoursToOpening f hh hd
  refine lv_istore_n (lv' := [(2, .int (jI (s_X1_hoursToOpening f))), (0, .ref (a 0)), (1, .int (jI (j : Int)))]) hx hb dX1_hoursToWind_4 rfl hl (by decide) rfl (fun ls hl => ?_)
  refine lv_aload_n hx hb dX1_hoursToWind_5 rfl (lv_at hl 1 rfl) ?_
  refine va_get (D := D) (ci := 1) (v := .ref (a 1)) (C := RX1) (T := TX1) (N := 6) hx hb hts inRX1 hown hK hP 0 rfl rfl 0 (by decide) qf9 (fun _ h9 => h9) rfl dX1_hoursToWind_6 ?_
  refine lv_iload_n hx hb dX1_hoursToWind_9 rfl (lv_at hl 2 rfl) ?_
  refine lv_iconst (v := jI 2) hx hb dX1_hoursToWind_10 rfl ?_
  refine xc_P (As := [.int (jI (j : Int)), .int (jI 2)]) (rest := [.ref (a 1)]) hSx (m_X1_place l (j : Int) 2 ) (va_cwS 2 hts gX1_hoursToWind_X1_place rfl rfl rfl (by decide +kernel) ⟨Nat.le_of_ble_eq_true rfl, Nat.le_of_ble_eq_true rfl⟩) rfl hl.1 rfl (Nat.le_of_ble_eq_true rfl) dX1_hoursToWind_11 ⟨Nat.zero_le _, Nat.zero_le _⟩ ?_
  refine x_iald hx hb hK hP 1 0 rfl rfl ((21 + (j * 4)) + 2) (by omega) (by omega) (by decide) dX1_hoursToWind_14 ?_
  refine lv_istore_n (lv' := [(3, .int (jI (f ((21 + (j * 4)) + 2)))), (2, .int (jI (s_X1_hoursToOpening f))), (0, .ref (a 0)), (1, .int (jI (j : Int)))]) hx hb dX1_hoursToWind_15 rfl hl (by decide) rfl (fun ls hl => ?_)
  refine lv_aload_n hx hb dX1_hoursToWind_16 rfl (lv_at hl 2 rfl) ?_
  refine va_get (D := D) (ci := 1) (v := .ref (a 1)) (C := RX1) (T := TX1) (N := 6) hx hb hts inRX1 hown hK hP 0 rfl rfl 0 (by decide) qf9 (fun _ h9 => h9) rfl dX1_hoursToWind_17 ?_
  refine lv_iload_n hx hb dX1_hoursToWind_20 rfl (lv_at hl 3 rfl) ?_
  refine lv_iconst (v := jI 3) hx hb dX1_hoursToWind_21 rfl ?_
  refine xc_P (As := [.int (jI (j : Int)), .int (jI 3)]) (rest := [.ref (a 1)]) hSx (m_X1_place l (j : Int) 3 ) (va_cwS 2 hts gX1_hoursToWind_X1_place rfl rfl rfl (by decide +kernel) ⟨Nat.le_of_ble_eq_true rfl, Nat.le_of_ble_eq_true rfl⟩) rfl hl.1 rfl (Nat.le_of_ble_eq_true rfl) dX1_hoursToWind_22 ⟨Nat.zero_le _, Nat.zero_le _⟩ ?_
  refine x_iald hx hb hK hP 1 0 rfl rfl ((21 + (j * 4)) + 3) (by omega) (by omega) (by decide) dX1_hoursToWind_25 ?_
  refine lv_istore (lv' := [(4, .int (jI (f ((21 + (j * 4)) + 3)))), (3, .int (jI (f ((21 + (j * 4)) + 2)))), (2, .int (jI (s_X1_hoursToOpening f))), (0, .ref (a 0)), (1, .int (jI (j : Int)))]) hx hb dX1_hoursToWind_26 hl (by decide) rfl (fun ls hl => ?_)
  refine lv_iload_n hx hb dX1_hoursToWind_28 rfl (lv_at hl 2 rfl) ?_
  refine lv_iconst (v := jI (-1)) hx hb dX1_hoursToWind_29 rfl ?_
  refine x_icmp_eq (tgt := 52) hx hb dX1_hoursToWind_30 (by decide) ⟨(by omega), (by decide)⟩ (fun c30 => ?_) (fun c30 => ?_)
  · rw [if_pos c30] at hz
    refine lv_iconst (v := jI (-1)) hx hb dX1_hoursToWind_52 rfl ?_
    subst hz
    exact xr_i hx hb hr hlocks rfl dX1_hoursToWind_53
  · rw [if_neg c30] at hz
    refine lv_aload_n hx hb dX1_hoursToWind_33 rfl (lv_at hl 3 rfl) ?_
    refine lv_iload_n hx hb dX1_hoursToWind_34 rfl (lv_at hl 4 rfl) ?_
    refine xc_R (As := [.int (jI (j : Int))]) (rest := []) hSx (m_X1_goes l D cI a f g n b len kd sg nb pt j (by omega) (by omega)) (cwV 1 hts gX1_hoursToWind_X1_goes rfl rfl rfl (by decide +kernel) ⟨Nat.le_of_ble_eq_true rfl, Nat.le_of_ble_eq_true rfl⟩) hP hK 0 rfl rfl rfl rfl hl.1 rfl (Nat.le_of_ble_eq_true rfl) dX1_hoursToWind_35 ⟨Nat.zero_le _, Nat.zero_le _⟩ ?_
    refine x_if_eq (tgt := 52) hx hb dX1_hoursToWind_38 (by decide) (b01 (b_X1_goes f j)) (fun c38 => ?_) (fun c38 => ?_)
    · rw [if_pos c38] at hz
      refine lv_iconst (v := jI (-1)) hx hb dX1_hoursToWind_52 rfl ?_
      subst hz
      exact xr_i hx hb hr hlocks rfl dX1_hoursToWind_53
    · rw [if_neg c38] at hz
      refine lv_iload hx hb dX1_hoursToWind_41 (lv_at hl 0 rfl) ?_
      refine lv_iload_n hx hb dX1_hoursToWind_43 rfl (lv_at hl 2 rfl) ?_
      refine x_iadd hx hb dX1_hoursToWind_44 ?_
      refine lv_iload_n hx hb dX1_hoursToWind_45 rfl (lv_at hl 1 rfl) ?_
      refine xc_P (As := [.int (jI ((f ((21 + (j * 4)) + 3)) + (s_X1_hoursToOpening f))), .int (jI (f ((21 + (j * 4)) + 2)))]) (rest := []) hSx (m_X1_isLostHour l ((f ((21 + (j * 4)) + 3)) + (s_X1_hoursToOpening f)) (f ((21 + (j * 4)) + 2)) (by omega) (hrf _)) (va_cwS 2 hts gX1_hoursToWind_X1_isLostHour rfl rfl rfl (by decide +kernel) ⟨Nat.le_of_ble_eq_true rfl, Nat.le_of_ble_eq_true rfl⟩) rfl hl.1 rfl (Nat.le_of_ble_eq_true rfl) dX1_hoursToWind_46 ⟨Nat.zero_le _, Nat.zero_le _⟩ ?_
      refine x_if_eq (tgt := 54) hx hb dX1_hoursToWind_49 (by decide) (b01 (b_X1_isLostHour ((f ((21 + (j * 4)) + 3)) + (s_X1_hoursToOpening f)) (f ((21 + (j * 4)) + 2)))) (fun c49 => ?_) (fun c49 => ?_)
      · rw [if_pos c49] at hz
        refine lv_iload_n hx hb dX1_hoursToWind_54 rfl (lv_at hl 1 rfl) ?_
        refine x_if_gt (tgt := 62) hx hb dX1_hoursToWind_55 (by decide) (hrf _) (fun c55 => ?_) (fun c55 => ?_)
        · rw [if_pos c55] at hz
          refine lv_iload hx hb dX1_hoursToWind_62 (lv_at hl 0 rfl) ?_
          refine lv_iload_n hx hb dX1_hoursToWind_64 rfl (lv_at hl 2 rfl) ?_
          refine x_iadd hx hb dX1_hoursToWind_65 ?_
          refine lv_iload_n hx hb dX1_hoursToWind_66 rfl (lv_at hl 1 rfl) ?_
          refine x_idiv hx hb dX1_hoursToWind_67 (by omega) ?_
          refine lv_iload hx hb dX1_hoursToWind_68 (lv_at hl 0 rfl) ?_
          refine lv_iload_n hx hb dX1_hoursToWind_70 rfl (lv_at hl 1 rfl) ?_
          refine x_idiv hx hb dX1_hoursToWind_71 (by omega) ?_
          refine x_isub hx hb dX1_hoursToWind_72 ?_
          try have hq1 := Int.ediv_le_self (f (21 + j * 4 + 2)) (show 0 ≤ f (21 + j * 4 + 3) + s_X1_hoursToOpening f by omega)
          try have hq2 := Int.ediv_nonneg (show 0 ≤ f (21 + j * 4 + 3) + s_X1_hoursToOpening f by omega) (show 0 ≤ f (21 + j * 4 + 2) by omega)
          try have hq3 := Int.ediv_le_self (f (21 + j * 4 + 2)) (show 0 ≤ f (21 + j * 4 + 3) by omega)
          try have hq4 := Int.ediv_nonneg (show 0 ≤ f (21 + j * 4 + 3) by omega) (show 0 ≤ f (21 + j * 4 + 2) by omega)
          refine lv_istore (lv' := [(5, .int (jI ((((f ((21 + (j * 4)) + 3)) + (s_X1_hoursToOpening f)) / (f ((21 + (j * 4)) + 2))) - ((f ((21 + (j * 4)) + 3)) / (f ((21 + (j * 4)) + 2)))))), (4, .int (jI (f ((21 + (j * 4)) + 3)))), (3, .int (jI (f ((21 + (j * 4)) + 2)))), (2, .int (jI (s_X1_hoursToOpening f))), (0, .ref (a 0)), (1, .int (jI (j : Int)))]) hx hb dX1_hoursToWind_73 hl (by decide) rfl (fun ls hl => ?_)
          refine lv_iload_n hx hb dX1_hoursToWind_75 rfl (lv_at hl 3 rfl) ?_
          refine lv_iload hx hb dX1_hoursToWind_76 (lv_at hl 0 rfl) ?_
          refine x_isub hx hb dX1_hoursToWind_78 ?_
          refine xc_P (As := [.int (jI ((s_X1_hoursToOpening f) - ((((f ((21 + (j * 4)) + 3)) + (s_X1_hoursToOpening f)) / (f ((21 + (j * 4)) + 2))) - ((f ((21 + (j * 4)) + 3)) / (f ((21 + (j * 4)) + 2))))))]) (rest := []) hSx (m_X1_areWindingHours l ((s_X1_hoursToOpening f) - ((((f ((21 + (j * 4)) + 3)) + (s_X1_hoursToOpening f)) / (f ((21 + (j * 4)) + 2))) - ((f ((21 + (j * 4)) + 3)) / (f ((21 + (j * 4)) + 2))))) (by omega)) (va_cwS 1 hts gX1_hoursToWind_X1_areWindingHours rfl rfl rfl (by decide +kernel) ⟨Nat.le_of_ble_eq_true rfl, Nat.le_of_ble_eq_true rfl⟩) rfl hl.1 rfl (Nat.le_of_ble_eq_true rfl) dX1_hoursToWind_79 ⟨Nat.zero_le _, Nat.zero_le _⟩ ?_
          refine x_if_eq (tgt := 92) hx hb dX1_hoursToWind_82 (by decide) (b01 (b_X1_areWindingHours ((s_X1_hoursToOpening f) - ((((f ((21 + (j * 4)) + 3)) + (s_X1_hoursToOpening f)) / (f ((21 + (j * 4)) + 2))) - ((f ((21 + (j * 4)) + 3)) / (f ((21 + (j * 4)) + 2))))))) (fun c82 => ?_) (fun c82 => ?_)
          · rw [if_pos c82] at hz
            refine lv_iconst (v := jI (-1)) hx hb dX1_hoursToWind_92 rfl ?_
            subst hz
            exact xr_i hx hb hr hlocks rfl dX1_hoursToWind_93
          · rw [if_neg c82] at hz
            refine lv_iload_n hx hb dX1_hoursToWind_85 rfl (lv_at hl 3 rfl) ?_
            refine lv_iload hx hb dX1_hoursToWind_86 (lv_at hl 0 rfl) ?_
            refine x_isub hx hb dX1_hoursToWind_88 ?_
            refine lv_goto (tgt := 93) hx hb dX1_hoursToWind_89 (by decide) ?_
            subst hz
            exact xr_i hx hb hr hlocks rfl dX1_hoursToWind_93
        · rw [if_neg c55] at hz
          refine lv_iconst (v := jI 0) hx hb dX1_hoursToWind_58 rfl ?_
          refine lv_goto (tgt := 73) hx hb dX1_hoursToWind_59 (by decide) ?_
          try have hq1 := Int.ediv_le_self (f (21 + j * 4 + 2)) (show 0 ≤ f (21 + j * 4 + 3) + s_X1_hoursToOpening f by omega)
          try have hq2 := Int.ediv_nonneg (show 0 ≤ f (21 + j * 4 + 3) + s_X1_hoursToOpening f by omega) (show 0 ≤ f (21 + j * 4 + 2) by omega)
          try have hq3 := Int.ediv_le_self (f (21 + j * 4 + 2)) (show 0 ≤ f (21 + j * 4 + 3) by omega)
          try have hq4 := Int.ediv_nonneg (show 0 ≤ f (21 + j * 4 + 3) by omega) (show 0 ≤ f (21 + j * 4 + 2) by omega)
          refine lv_istore (lv' := [(5, .int (jI 0)), (4, .int (jI (f ((21 + (j * 4)) + 3)))), (3, .int (jI (f ((21 + (j * 4)) + 2)))), (2, .int (jI (s_X1_hoursToOpening f))), (0, .ref (a 0)), (1, .int (jI (j : Int)))]) hx hb dX1_hoursToWind_73 hl (by decide) rfl (fun ls hl => ?_)
          refine lv_iload_n hx hb dX1_hoursToWind_75 rfl (lv_at hl 3 rfl) ?_
          refine lv_iload hx hb dX1_hoursToWind_76 (lv_at hl 0 rfl) ?_
          refine x_isub hx hb dX1_hoursToWind_78 ?_
          refine xc_P (As := [.int (jI ((s_X1_hoursToOpening f) - 0))]) (rest := []) hSx (m_X1_areWindingHours l ((s_X1_hoursToOpening f) - 0) (by omega)) (va_cwS 1 hts gX1_hoursToWind_X1_areWindingHours rfl rfl rfl (by decide +kernel) ⟨Nat.le_of_ble_eq_true rfl, Nat.le_of_ble_eq_true rfl⟩) rfl hl.1 rfl (Nat.le_of_ble_eq_true rfl) dX1_hoursToWind_79 ⟨Nat.zero_le _, Nat.zero_le _⟩ ?_
          refine x_if_eq (tgt := 92) hx hb dX1_hoursToWind_82 (by decide) (b01 (b_X1_areWindingHours ((s_X1_hoursToOpening f) - 0))) (fun c82 => ?_) (fun c82 => ?_)
          · rw [if_pos c82] at hz
            refine lv_iconst (v := jI (-1)) hx hb dX1_hoursToWind_92 rfl ?_
            subst hz
            exact xr_i hx hb hr hlocks rfl dX1_hoursToWind_93
          · rw [if_neg c82] at hz
            refine lv_iload_n hx hb dX1_hoursToWind_85 rfl (lv_at hl 3 rfl) ?_
            refine lv_iload hx hb dX1_hoursToWind_86 (lv_at hl 0 rfl) ?_
            refine x_isub hx hb dX1_hoursToWind_88 ?_
            refine lv_goto (tgt := 93) hx hb dX1_hoursToWind_89 (by decide) ?_
            subst hz
            exact xr_i hx hb hr hlocks rfl dX1_hoursToWind_93
      · rw [if_neg c49] at hz
        refine lv_iconst (v := jI (-1)) hx hb dX1_hoursToWind_52 rfl ?_
        subst hz
        exact xr_i hx hb hr hlocks rfl dX1_hoursToWind_53
def s_X1_hoursToOpen_lp13 (f : Nat → Int) (x1 : Int) : Nat → Nat → Int → Int
  | 0, _, _ => default
  | k + 1, i, v => if 3 ≤ (i : Int) then (if v = (-1) then (-1) else (if v < (if ((f 4) - (f 0)) < 0 then 0 else ((f 4) - (f 0))) then (if ((f 4) - (f 0)) < 0 then 0 else ((f 4) - (f 0))) else v)) else (if (s_X1_goes f i) = 0 then (if (s_X1_hoursToRunDown f i 0) = (-1) then (s_X1_hoursToOpen_lp13 f x1 k (i + 1) v) else (if v = (-1) then (s_X1_hoursToOpen_lp13 f x1 k (i + 1) (s_X1_hoursToRunDown f i 0)) else (if v ≤ (s_X1_hoursToRunDown f i 0) then (s_X1_hoursToOpen_lp13 f x1 k (i + 1) v) else (s_X1_hoursToOpen_lp13 f x1 k (i + 1) (s_X1_hoursToRunDown f i 0))))) else (if (i : Int) = x1 then (if (s_X1_hoursToRunDown f i 0) = (-1) then (s_X1_hoursToOpen_lp13 f x1 k (i + 1) v) else (if v = (-1) then (s_X1_hoursToOpen_lp13 f x1 k (i + 1) (s_X1_hoursToRunDown f i 0)) else (if v ≤ (s_X1_hoursToRunDown f i 0) then (s_X1_hoursToOpen_lp13 f x1 k (i + 1) v) else (s_X1_hoursToOpen_lp13 f x1 k (i + 1) (s_X1_hoursToRunDown f i 0))))) else (if (s_X1_hoursToRunDown f i 1) = (-1) then (s_X1_hoursToOpen_lp13 f x1 k (i + 1) v) else (if v = (-1) then (s_X1_hoursToOpen_lp13 f x1 k (i + 1) (s_X1_hoursToRunDown f i 1)) else (if v ≤ (s_X1_hoursToRunDown f i 1) then (s_X1_hoursToOpen_lp13 f x1 k (i + 1) v) else (s_X1_hoursToOpen_lp13 f x1 k (i + 1) (s_X1_hoursToRunDown f i 1)))))))
def s_X1_hoursToOpen (f : Nat → Int) (x1 : Int) : Int := if (s_X1_isLocked f) = 0 then (-1) else (s_X1_hoursToOpen_lp13 f x1 (3 + 1 - 0) 0 (-1))
abbrev rm_X1_hoursToOpen : Room := { frames := 2, cells := 0, slots := 0, locals := 60 }
set_option maxHeartbeats 4000000 in
set_option maxRecDepth 100000 in
theorem m_X1_hoursToOpen (l : Launch) (D : va_G) (cI : ClassId) (a : Nat → Nat) (f : Nat → Int) (g : Nat → Int) (n : Nat) (b : Nat → Int) (len : Nat) (kd : Nat → Int) (sg : Nat → Int) (nb : Nat → Int) (pt : Nat) (x1 : Int) (hrf : rng f) (hm : mvs f) (hh : 0 ≤ f 0 ∧ f 0 ≤ 99999) (hw : 0 ≤ f 4 ∧ f 4 ≤ 100100) (hx1 : -2147483648 ≤ x1 ∧ x1 < 2147483648) : MetR l yX1_hoursToOpen wsX1_hoursToOpen rm_X1_hoursToOpen D cI [.ref (a 0), .int (jI x1)] (w1 cI a f g n b len kd sg nb pt) (s_X1_hoursToOpen f x1) := by
  refine xe_R (cc := cX1_hoursToOpen) (maxL := 5) (ret := (some .int)) (by decide) rfl (Nat.le_of_ble_eq_true rfl) ?_
  intro p e s m below meth c hx hb hr hml hts hown hlocks hP hK ls hl
  have hl : lv_has ls 5 [(0, .ref (a 0)), (1, .int (jI x1))] := hl
  have hown : s.vm.findClass RX1 = some m.cls := hown
  have hSx : CallFix p m c cX1_hoursToOpen 5 s ([.ref (a 0), .int (jI x1)] : List Value).toArray wsX1_hoursToOpen RX1 := ⟨hx, hb, hml, hown, hts⟩
  have qm179 := hts (.methodLink RX1 179 Lib.Math.max.name) (by decide +kernel)
  have qmC := hts (.code Lib.Math.max.name Lib.Math.max.code 2 (some .int)) (by decide +kernel)
  have qmI := hts (.initialized "java/lang/Math") (by decide +kernel)
  have qmS := hts (.static Lib.Math.max.name) (by decide +kernel)
  obtain ⟨z, hz⟩ : ∃ z, z = (s_X1_hoursToOpen f x1) := ⟨_, rfl⟩
  rw [← hz]
  unfold s_X1_hoursToOpen at hz
  refine lv_aload_n hx hb dX1_hoursToOpen_0 rfl (lv_at hl 0 rfl) ?_
  refine xc_R (As := []) (rest := []) hSx (m_X1_isLocked l D cI a f g n b len kd sg nb pt  (by omega)) (cwV 0 hts gX1_hoursToOpen_X1_isLocked rfl rfl rfl (by decide +kernel) ⟨Nat.le_of_ble_eq_true rfl, Nat.le_of_ble_eq_true rfl⟩) hP hK 0 rfl rfl rfl rfl hl.1 rfl (Nat.le_of_ble_eq_true rfl) dX1_hoursToOpen_1 ⟨Nat.zero_le _, Nat.zero_le _⟩ ?_
  refine x_if_ne (tgt := 9) hx hb dX1_hoursToOpen_4 (by decide) (b01 (b_X1_isLocked f)) (fun c4 => ?_) (fun c4 => ?_)
  · rw [if_neg c4] at hz
    refine lv_iconst (v := jI (-1)) hx hb dX1_hoursToOpen_9 rfl ?_
    refine lv_istore_n (lv' := [(2, .int (jI (-1))), (0, .ref (a 0)), (1, .int (jI x1))]) hx hb dX1_hoursToOpen_10 rfl hl (by decide) rfl (fun ls hl => ?_)
    refine lv_iconst (v := jI 0) hx hb dX1_hoursToOpen_11 rfl ?_
    refine lv_istore_n (lv' := [(3, .int (jI 0)), (2, .int (jI (-1))), (0, .ref (a 0)), (1, .int (jI x1))]) hx hb dX1_hoursToOpen_12 rfl hl (by decide) rfl (fun ls hl => ?_)
    have LP13 : ∀ (k i : Nat) (v : Int) (ls : Array Slot), i ≤ 3 → i + k = 3 + 1 → z = (s_X1_hoursToOpen_lp13 f x1) k i v → (-1 ≤ v ∧ v ≤ 500) → lv_has ls 5 [(0, .ref (a 0)), (1, .int (jI x1)), (2, .int (jI v)), (3, .int (jI (i : Int)))] → W p l e rm_X1_hoursToOpen s m ([.ref (a 0), .int (jI x1)] : List Value).toArray below meth c s.heap [] 0 0 (MQ below (vp_Si (fun x => x = jI z)) ([.ref (a 0), .int (jI x1)] : List Value).toArray s 0 0 (fun _ => False)) (F0 m 13 ls []) := by
      intro k
      induction k with
      | zero => intro i v ls h1 h2; exact absurd h2 (by omega)
      | succ k ih =>
        intro i v  ls h1 h2 hz hv hl
        rw [s_X1_hoursToOpen_lp13] at hz
        refine lv_iload_n hx hb dX1_hoursToOpen_13 rfl (lv_at hl 3 rfl) ?_
        refine lv_iconst (v := jI 3) hx hb dX1_hoursToOpen_14 rfl ?_
        refine x_icmp_ge (tgt := 69) hx hb dX1_hoursToOpen_15 (by decide) ⟨(by omega), (by decide)⟩ (fun c15 => ?_) (fun c15 => ?_)
        · rw [if_pos c15] at hz
          refine lv_iload_n hx hb dX1_hoursToOpen_69 rfl (lv_at hl 2 rfl) ?_
          refine lv_iconst (v := jI (-1)) hx hb dX1_hoursToOpen_70 rfl ?_
          refine x_icmp_ne (tgt := 78) hx hb dX1_hoursToOpen_71 (by decide) ⟨(by omega), (by decide)⟩ (fun c71 => ?_) (fun c71 => ?_)
          · rw [if_neg c71] at hz
            refine lv_iload_n hx hb dX1_hoursToOpen_78 rfl (lv_at hl 2 rfl) ?_
            refine lv_aload_n hx hb dX1_hoursToOpen_79 rfl (lv_at hl 0 rfl) ?_
            refine xc_R (As := []) (rest := [.int (jI v)]) hSx (m_X1_hoursToWait l D cI a f g n b len kd sg nb pt  (by omega) (by omega)) (cwV 0 hts gX1_hoursToOpen_X1_hoursToWait rfl rfl rfl (by decide +kernel) ⟨Nat.le_of_ble_eq_true rfl, Nat.le_of_ble_eq_true rfl⟩) hP hK 0 rfl rfl rfl rfl hl.1 rfl (Nat.le_of_ble_eq_true rfl) dX1_hoursToOpen_80 ⟨Nat.zero_le _, Nat.zero_le _⟩ ?_
            refine x_mmax hx hb (hml.trans hl.1.symm) hown qm179 qmS qmI qmC (Nat.le_of_ble_eq_true rfl) (Nat.le_of_ble_eq_true rfl) (Nat.zero_le _) (Nat.zero_le _) dX1_hoursToOpen_83 ⟨(by omega), (by omega)⟩ ?_
            subst hz
            exact xr_i hx hb hr hlocks rfl dX1_hoursToOpen_86
          · rw [if_pos c71] at hz
            refine lv_iconst (v := jI (-1)) hx hb dX1_hoursToOpen_74 rfl ?_
            refine lv_goto (tgt := 86) hx hb dX1_hoursToOpen_75 (by decide) ?_
            subst hz
            exact xr_i hx hb hr hlocks rfl dX1_hoursToOpen_86
        · rw [if_neg c15] at hz
          refine lv_aload_n hx hb dX1_hoursToOpen_18 rfl (lv_at hl 0 rfl) ?_
          refine lv_iload_n hx hb dX1_hoursToOpen_19 rfl (lv_at hl 3 rfl) ?_
          refine lv_aload_n hx hb dX1_hoursToOpen_20 rfl (lv_at hl 0 rfl) ?_
          refine lv_iload_n hx hb dX1_hoursToOpen_21 rfl (lv_at hl 3 rfl) ?_
          refine xc_R (As := [.int (jI (i : Int))]) (rest := [.int (jI (i : Int)), .ref (a 0)]) hSx (m_X1_goes l D cI a f g n b len kd sg nb pt i (by omega) (by omega)) (cwV 1 hts gX1_hoursToOpen_X1_goes rfl rfl rfl (by decide +kernel) ⟨Nat.le_of_ble_eq_true rfl, Nat.le_of_ble_eq_true rfl⟩) hP hK 0 rfl rfl rfl rfl hl.1 rfl (Nat.le_of_ble_eq_true rfl) dX1_hoursToOpen_22 ⟨Nat.zero_le _, Nat.zero_le _⟩ ?_
          refine x_if_eq (tgt := 37) hx hb dX1_hoursToOpen_25 (by decide) (b01 (b_X1_goes f i)) (fun c25 => ?_) (fun c25 => ?_)
          · rw [if_pos c25] at hz
            refine lv_iconst (v := jI 0) hx hb dX1_hoursToOpen_37 rfl ?_
            refine xc_R (As := [.int (jI (i : Int)), .int (jI 0)]) (rest := []) hSx (m_X1_hoursToRunDown l D cI a f g n b len kd sg nb pt i 0 (by omega) (by omega) (by omega) (by decide)) (cwV 2 hts gX1_hoursToOpen_X1_hoursToRunDown rfl rfl rfl (by decide +kernel) ⟨Nat.le_of_ble_eq_true rfl, Nat.le_of_ble_eq_true rfl⟩) hP hK 0 rfl rfl rfl rfl hl.1 rfl (Nat.le_of_ble_eq_true rfl) dX1_hoursToOpen_38 ⟨Nat.zero_le _, Nat.zero_le _⟩ ?_
            have hrd := r_X1_hoursToRunDown f i 0 (by omega) hm
            refine lv_istore (lv' := [(4, .int (jI (s_X1_hoursToRunDown f i 0))), (0, .ref (a 0)), (1, .int (jI x1)), (2, .int (jI v)), (3, .int (jI (i : Int)))]) hx hb dX1_hoursToOpen_41 hl (by decide) rfl (fun ls hl => ?_)
            refine lv_iload hx hb dX1_hoursToOpen_43 (lv_at hl 0 rfl) ?_
            refine lv_iconst (v := jI (-1)) hx hb dX1_hoursToOpen_45 rfl ?_
            refine x_icmp_eq (tgt := 63) hx hb dX1_hoursToOpen_46 (by decide) ⟨(by omega), (by decide)⟩ (fun c46 => ?_) (fun c46 => ?_)
            · rw [if_pos c46] at hz
              refine lv_iinc (v := jI ((i + 1 : Nat) : Int)) (lv' := [(3, .int (jI ((i + 1 : Nat) : Int))), (4, .int (jI (s_X1_hoursToRunDown f i 0))), (0, .ref (a 0)), (1, .int (jI x1)), (2, .int (jI v))]) hx hb dX1_hoursToOpen_63 hl (k := 4) rfl (jI_inc _ 1) (by decide) rfl (fun ls hl => ?_)
              refine lv_goto (tgt := 13) hx hb dX1_hoursToOpen_66 (by decide) ?_
              exact ih (i + 1) v ls (by omega) (by omega) hz (by omega) (lv_sub hl [2, 3, 4, 0] rfl)
            · rw [if_neg c46] at hz
              refine lv_iload_n hx hb dX1_hoursToOpen_49 rfl (lv_at hl 3 rfl) ?_
              refine lv_iconst (v := jI (-1)) hx hb dX1_hoursToOpen_50 rfl ?_
              refine x_icmp_eq (tgt := 60) hx hb dX1_hoursToOpen_51 (by decide) ⟨(by omega), (by decide)⟩ (fun c51 => ?_) (fun c51 => ?_)
              · rw [if_pos c51] at hz
                refine lv_iload hx hb dX1_hoursToOpen_60 (lv_at hl 0 rfl) ?_
                refine lv_istore_n (lv' := [(2, .int (jI (s_X1_hoursToRunDown f i 0))), (4, .int (jI (s_X1_hoursToRunDown f i 0))), (0, .ref (a 0)), (1, .int (jI x1)), (3, .int (jI (i : Int)))]) hx hb dX1_hoursToOpen_62 rfl hl (by decide) rfl (fun ls hl => ?_)
                refine lv_iinc (v := jI ((i + 1 : Nat) : Int)) (lv' := [(3, .int (jI ((i + 1 : Nat) : Int))), (2, .int (jI (s_X1_hoursToRunDown f i 0))), (4, .int (jI (s_X1_hoursToRunDown f i 0))), (0, .ref (a 0)), (1, .int (jI x1))]) hx hb dX1_hoursToOpen_63 hl (k := 4) rfl (jI_inc _ 1) (by decide) rfl (fun ls hl => ?_)
                refine lv_goto (tgt := 13) hx hb dX1_hoursToOpen_66 (by decide) ?_
                exact ih (i + 1) (s_X1_hoursToRunDown f i 0) ls (by omega) (by omega) hz (by omega) (lv_sub hl [3, 4, 1, 0] rfl)
              · rw [if_neg c51] at hz
                refine lv_iload hx hb dX1_hoursToOpen_54 (lv_at hl 0 rfl) ?_
                refine lv_iload_n hx hb dX1_hoursToOpen_56 rfl (lv_at hl 3 rfl) ?_
                refine x_icmp_ge (tgt := 63) hx hb dX1_hoursToOpen_57 (by decide) ⟨(by omega), (by omega)⟩ (fun c57 => ?_) (fun c57 => ?_)
                · rw [if_pos c57] at hz
                  refine lv_iinc (v := jI ((i + 1 : Nat) : Int)) (lv' := [(3, .int (jI ((i + 1 : Nat) : Int))), (4, .int (jI (s_X1_hoursToRunDown f i 0))), (0, .ref (a 0)), (1, .int (jI x1)), (2, .int (jI v))]) hx hb dX1_hoursToOpen_63 hl (k := 4) rfl (jI_inc _ 1) (by decide) rfl (fun ls hl => ?_)
                  refine lv_goto (tgt := 13) hx hb dX1_hoursToOpen_66 (by decide) ?_
                  exact ih (i + 1) v ls (by omega) (by omega) hz (by omega) (lv_sub hl [2, 3, 4, 0] rfl)
                · rw [if_neg c57] at hz
                  refine lv_iload hx hb dX1_hoursToOpen_60 (lv_at hl 0 rfl) ?_
                  refine lv_istore_n (lv' := [(2, .int (jI (s_X1_hoursToRunDown f i 0))), (4, .int (jI (s_X1_hoursToRunDown f i 0))), (0, .ref (a 0)), (1, .int (jI x1)), (3, .int (jI (i : Int)))]) hx hb dX1_hoursToOpen_62 rfl hl (by decide) rfl (fun ls hl => ?_)
                  refine lv_iinc (v := jI ((i + 1 : Nat) : Int)) (lv' := [(3, .int (jI ((i + 1 : Nat) : Int))), (2, .int (jI (s_X1_hoursToRunDown f i 0))), (4, .int (jI (s_X1_hoursToRunDown f i 0))), (0, .ref (a 0)), (1, .int (jI x1))]) hx hb dX1_hoursToOpen_63 hl (k := 4) rfl (jI_inc _ 1) (by decide) rfl (fun ls hl => ?_)
                  refine lv_goto (tgt := 13) hx hb dX1_hoursToOpen_66 (by decide) ?_
                  exact ih (i + 1) (s_X1_hoursToRunDown f i 0) ls (by omega) (by omega) hz (by omega) (lv_sub hl [3, 4, 1, 0] rfl)
          · rw [if_neg c25] at hz
            refine lv_iload_n hx hb dX1_hoursToOpen_28 rfl (lv_at hl 3 rfl) ?_
            refine lv_iload_n hx hb dX1_hoursToOpen_29 rfl (lv_at hl 1 rfl) ?_
            refine x_icmp_eq (tgt := 37) hx hb dX1_hoursToOpen_30 (by decide) ⟨(by omega), (by omega)⟩ (fun c30 => ?_) (fun c30 => ?_)
            · rw [if_pos c30] at hz
              refine lv_iconst (v := jI 0) hx hb dX1_hoursToOpen_37 rfl ?_
              refine xc_R (As := [.int (jI (i : Int)), .int (jI 0)]) (rest := []) hSx (m_X1_hoursToRunDown l D cI a f g n b len kd sg nb pt i 0 (by omega) (by omega) (by omega) (by decide)) (cwV 2 hts gX1_hoursToOpen_X1_hoursToRunDown rfl rfl rfl (by decide +kernel) ⟨Nat.le_of_ble_eq_true rfl, Nat.le_of_ble_eq_true rfl⟩) hP hK 0 rfl rfl rfl rfl hl.1 rfl (Nat.le_of_ble_eq_true rfl) dX1_hoursToOpen_38 ⟨Nat.zero_le _, Nat.zero_le _⟩ ?_
              have hrd := r_X1_hoursToRunDown f i 0 (by omega) hm
              refine lv_istore (lv' := [(4, .int (jI (s_X1_hoursToRunDown f i 0))), (0, .ref (a 0)), (1, .int (jI x1)), (2, .int (jI v)), (3, .int (jI (i : Int)))]) hx hb dX1_hoursToOpen_41 hl (by decide) rfl (fun ls hl => ?_)
              refine lv_iload hx hb dX1_hoursToOpen_43 (lv_at hl 0 rfl) ?_
              refine lv_iconst (v := jI (-1)) hx hb dX1_hoursToOpen_45 rfl ?_
              refine x_icmp_eq (tgt := 63) hx hb dX1_hoursToOpen_46 (by decide) ⟨(by omega), (by decide)⟩ (fun c46 => ?_) (fun c46 => ?_)
              · rw [if_pos c46] at hz
                refine lv_iinc (v := jI ((i + 1 : Nat) : Int)) (lv' := [(3, .int (jI ((i + 1 : Nat) : Int))), (4, .int (jI (s_X1_hoursToRunDown f i 0))), (0, .ref (a 0)), (1, .int (jI x1)), (2, .int (jI v))]) hx hb dX1_hoursToOpen_63 hl (k := 4) rfl (jI_inc _ 1) (by decide) rfl (fun ls hl => ?_)
                refine lv_goto (tgt := 13) hx hb dX1_hoursToOpen_66 (by decide) ?_
                exact ih (i + 1) v ls (by omega) (by omega) hz (by omega) (lv_sub hl [2, 3, 4, 0] rfl)
              · rw [if_neg c46] at hz
                refine lv_iload_n hx hb dX1_hoursToOpen_49 rfl (lv_at hl 3 rfl) ?_
                refine lv_iconst (v := jI (-1)) hx hb dX1_hoursToOpen_50 rfl ?_
                refine x_icmp_eq (tgt := 60) hx hb dX1_hoursToOpen_51 (by decide) ⟨(by omega), (by decide)⟩ (fun c51 => ?_) (fun c51 => ?_)
                · rw [if_pos c51] at hz
                  refine lv_iload hx hb dX1_hoursToOpen_60 (lv_at hl 0 rfl) ?_
                  refine lv_istore_n (lv' := [(2, .int (jI (s_X1_hoursToRunDown f i 0))), (4, .int (jI (s_X1_hoursToRunDown f i 0))), (0, .ref (a 0)), (1, .int (jI x1)), (3, .int (jI (i : Int)))]) hx hb dX1_hoursToOpen_62 rfl hl (by decide) rfl (fun ls hl => ?_)
                  refine lv_iinc (v := jI ((i + 1 : Nat) : Int)) (lv' := [(3, .int (jI ((i + 1 : Nat) : Int))), (2, .int (jI (s_X1_hoursToRunDown f i 0))), (4, .int (jI (s_X1_hoursToRunDown f i 0))), (0, .ref (a 0)), (1, .int (jI x1))]) hx hb dX1_hoursToOpen_63 hl (k := 4) rfl (jI_inc _ 1) (by decide) rfl (fun ls hl => ?_)
                  refine lv_goto (tgt := 13) hx hb dX1_hoursToOpen_66 (by decide) ?_
                  exact ih (i + 1) (s_X1_hoursToRunDown f i 0) ls (by omega) (by omega) hz (by omega) (lv_sub hl [3, 4, 1, 0] rfl)
                · rw [if_neg c51] at hz
                  refine lv_iload hx hb dX1_hoursToOpen_54 (lv_at hl 0 rfl) ?_
                  refine lv_iload_n hx hb dX1_hoursToOpen_56 rfl (lv_at hl 3 rfl) ?_
                  refine x_icmp_ge (tgt := 63) hx hb dX1_hoursToOpen_57 (by decide) ⟨(by omega), (by omega)⟩ (fun c57 => ?_) (fun c57 => ?_)
                  · rw [if_pos c57] at hz
                    refine lv_iinc (v := jI ((i + 1 : Nat) : Int)) (lv' := [(3, .int (jI ((i + 1 : Nat) : Int))), (4, .int (jI (s_X1_hoursToRunDown f i 0))), (0, .ref (a 0)), (1, .int (jI x1)), (2, .int (jI v))]) hx hb dX1_hoursToOpen_63 hl (k := 4) rfl (jI_inc _ 1) (by decide) rfl (fun ls hl => ?_)
                    refine lv_goto (tgt := 13) hx hb dX1_hoursToOpen_66 (by decide) ?_
                    exact ih (i + 1) v ls (by omega) (by omega) hz (by omega) (lv_sub hl [2, 3, 4, 0] rfl)
                  · rw [if_neg c57] at hz
                    refine lv_iload hx hb dX1_hoursToOpen_60 (lv_at hl 0 rfl) ?_
                    refine lv_istore_n (lv' := [(2, .int (jI (s_X1_hoursToRunDown f i 0))), (4, .int (jI (s_X1_hoursToRunDown f i 0))), (0, .ref (a 0)), (1, .int (jI x1)), (3, .int (jI (i : Int)))]) hx hb dX1_hoursToOpen_62 rfl hl (by decide) rfl (fun ls hl => ?_)
                    refine lv_iinc (v := jI ((i + 1 : Nat) : Int)) (lv' := [(3, .int (jI ((i + 1 : Nat) : Int))), (2, .int (jI (s_X1_hoursToRunDown f i 0))), (4, .int (jI (s_X1_hoursToRunDown f i 0))), (0, .ref (a 0)), (1, .int (jI x1))]) hx hb dX1_hoursToOpen_63 hl (k := 4) rfl (jI_inc _ 1) (by decide) rfl (fun ls hl => ?_)
                    refine lv_goto (tgt := 13) hx hb dX1_hoursToOpen_66 (by decide) ?_
                    exact ih (i + 1) (s_X1_hoursToRunDown f i 0) ls (by omega) (by omega) hz (by omega) (lv_sub hl [3, 4, 1, 0] rfl)
            · rw [if_neg c30] at hz
              refine lv_iconst (v := jI 1) hx hb dX1_hoursToOpen_33 rfl ?_
              refine lv_goto (tgt := 38) hx hb dX1_hoursToOpen_34 (by decide) ?_
              refine xc_R (As := [.int (jI (i : Int)), .int (jI 1)]) (rest := []) hSx (m_X1_hoursToRunDown l D cI a f g n b len kd sg nb pt i 1 (by omega) (by omega) (by omega) (by decide)) (cwV 2 hts gX1_hoursToOpen_X1_hoursToRunDown rfl rfl rfl (by decide +kernel) ⟨Nat.le_of_ble_eq_true rfl, Nat.le_of_ble_eq_true rfl⟩) hP hK 0 rfl rfl rfl rfl hl.1 rfl (Nat.le_of_ble_eq_true rfl) dX1_hoursToOpen_38 ⟨Nat.zero_le _, Nat.zero_le _⟩ ?_
              have hrd := r_X1_hoursToRunDown f i 1 (by omega) hm
              refine lv_istore (lv' := [(4, .int (jI (s_X1_hoursToRunDown f i 1))), (0, .ref (a 0)), (1, .int (jI x1)), (2, .int (jI v)), (3, .int (jI (i : Int)))]) hx hb dX1_hoursToOpen_41 hl (by decide) rfl (fun ls hl => ?_)
              refine lv_iload hx hb dX1_hoursToOpen_43 (lv_at hl 0 rfl) ?_
              refine lv_iconst (v := jI (-1)) hx hb dX1_hoursToOpen_45 rfl ?_
              refine x_icmp_eq (tgt := 63) hx hb dX1_hoursToOpen_46 (by decide) ⟨(by omega), (by decide)⟩ (fun c46 => ?_) (fun c46 => ?_)
              · rw [if_pos c46] at hz
                refine lv_iinc (v := jI ((i + 1 : Nat) : Int)) (lv' := [(3, .int (jI ((i + 1 : Nat) : Int))), (4, .int (jI (s_X1_hoursToRunDown f i 1))), (0, .ref (a 0)), (1, .int (jI x1)), (2, .int (jI v))]) hx hb dX1_hoursToOpen_63 hl (k := 4) rfl (jI_inc _ 1) (by decide) rfl (fun ls hl => ?_)
                refine lv_goto (tgt := 13) hx hb dX1_hoursToOpen_66 (by decide) ?_
                exact ih (i + 1) v ls (by omega) (by omega) hz (by omega) (lv_sub hl [2, 3, 4, 0] rfl)
              · rw [if_neg c46] at hz
                refine lv_iload_n hx hb dX1_hoursToOpen_49 rfl (lv_at hl 3 rfl) ?_
                refine lv_iconst (v := jI (-1)) hx hb dX1_hoursToOpen_50 rfl ?_
                refine x_icmp_eq (tgt := 60) hx hb dX1_hoursToOpen_51 (by decide) ⟨(by omega), (by decide)⟩ (fun c51 => ?_) (fun c51 => ?_)
                · rw [if_pos c51] at hz
                  refine lv_iload hx hb dX1_hoursToOpen_60 (lv_at hl 0 rfl) ?_
                  refine lv_istore_n (lv' := [(2, .int (jI (s_X1_hoursToRunDown f i 1))), (4, .int (jI (s_X1_hoursToRunDown f i 1))), (0, .ref (a 0)), (1, .int (jI x1)), (3, .int (jI (i : Int)))]) hx hb dX1_hoursToOpen_62 rfl hl (by decide) rfl (fun ls hl => ?_)
                  refine lv_iinc (v := jI ((i + 1 : Nat) : Int)) (lv' := [(3, .int (jI ((i + 1 : Nat) : Int))), (2, .int (jI (s_X1_hoursToRunDown f i 1))), (4, .int (jI (s_X1_hoursToRunDown f i 1))), (0, .ref (a 0)), (1, .int (jI x1))]) hx hb dX1_hoursToOpen_63 hl (k := 4) rfl (jI_inc _ 1) (by decide) rfl (fun ls hl => ?_)
                  refine lv_goto (tgt := 13) hx hb dX1_hoursToOpen_66 (by decide) ?_
                  exact ih (i + 1) (s_X1_hoursToRunDown f i 1) ls (by omega) (by omega) hz (by omega) (lv_sub hl [3, 4, 1, 0] rfl)
                · rw [if_neg c51] at hz
                  refine lv_iload hx hb dX1_hoursToOpen_54 (lv_at hl 0 rfl) ?_
                  refine lv_iload_n hx hb dX1_hoursToOpen_56 rfl (lv_at hl 3 rfl) ?_
                  refine x_icmp_ge (tgt := 63) hx hb dX1_hoursToOpen_57 (by decide) ⟨(by omega), (by omega)⟩ (fun c57 => ?_) (fun c57 => ?_)
                  · rw [if_pos c57] at hz
                    refine lv_iinc (v := jI ((i + 1 : Nat) : Int)) (lv' := [(3, .int (jI ((i + 1 : Nat) : Int))), (4, .int (jI (s_X1_hoursToRunDown f i 1))), (0, .ref (a 0)), (1, .int (jI x1)), (2, .int (jI v))]) hx hb dX1_hoursToOpen_63 hl (k := 4) rfl (jI_inc _ 1) (by decide) rfl (fun ls hl => ?_)
                    refine lv_goto (tgt := 13) hx hb dX1_hoursToOpen_66 (by decide) ?_
                    exact ih (i + 1) v ls (by omega) (by omega) hz (by omega) (lv_sub hl [2, 3, 4, 0] rfl)
                  · rw [if_neg c57] at hz
                    refine lv_iload hx hb dX1_hoursToOpen_60 (lv_at hl 0 rfl) ?_
                    refine lv_istore_n (lv' := [(2, .int (jI (s_X1_hoursToRunDown f i 1))), (4, .int (jI (s_X1_hoursToRunDown f i 1))), (0, .ref (a 0)), (1, .int (jI x1)), (3, .int (jI (i : Int)))]) hx hb dX1_hoursToOpen_62 rfl hl (by decide) rfl (fun ls hl => ?_)
                    refine lv_iinc (v := jI ((i + 1 : Nat) : Int)) (lv' := [(3, .int (jI ((i + 1 : Nat) : Int))), (2, .int (jI (s_X1_hoursToRunDown f i 1))), (4, .int (jI (s_X1_hoursToRunDown f i 1))), (0, .ref (a 0)), (1, .int (jI x1))]) hx hb dX1_hoursToOpen_63 hl (k := 4) rfl (jI_inc _ 1) (by decide) rfl (fun ls hl => ?_)
                    refine lv_goto (tgt := 13) hx hb dX1_hoursToOpen_66 (by decide) ?_
                    exact ih (i + 1) (s_X1_hoursToRunDown f i 1) ls (by omega) (by omega) hz (by omega) (lv_sub hl [3, 4, 1, 0] rfl)
    exact LP13 (3 + 1 - 0) 0 (-1) ls (by omega) (by omega) hz (by omega) (lv_sub hl [2, 3, 1, 0] rfl)
  · rw [if_pos c4] at hz
    refine lv_iconst (v := jI (-1)) hx hb dX1_hoursToOpen_7 rfl ?_
    subst hz
    exact xr_i hx hb hr hlocks rfl dX1_hoursToOpen_8
theorem r_hTOp_lp (f : Nat → Int) (hm : mvs f) (hh : 0 ≤ f 0 ∧ f 0 ≤ 99999) (hw : 0 ≤ f 4 ∧ f 4 ≤ 100100) (x1 : Int) : ∀ (k i : Nat) (v : Int), -1 ≤ v ∧ v ≤ 500 → i + k ≤ 4 → -1 ≤ s_X1_hoursToOpen_lp13 f x1 k i v ∧ s_X1_hoursToOpen_lp13 f x1 k i v ≤ 100100 := by
  intro k
  induction k with
  | zero => intro i v hv h; unfold s_X1_hoursToOpen_lp13; decide
  | succ k ih =>
    intro i v hv h
    rw [s_X1_hoursToOpen_lp13]
    split
    · (repeat' split) <;> omega
    · have hi : i < 3 := by omega
      have r0 := r_X1_hoursToRunDown f i 0 hi hm
      have r1 := r_X1_hoursToRunDown f i 1 hi hm
      (repeat' split) <;> exact ih _ _ (by omega) (by omega)
theorem r_X1_hoursToOpen (f : Nat → Int) (x1 : Int) (hm : mvs f) (hh : 0 ≤ f 0 ∧ f 0 ≤ 99999) (hw : 0 ≤ f 4 ∧ f 4 ≤ 100100) : -1 ≤ s_X1_hoursToOpen f x1 ∧ s_X1_hoursToOpen f x1 ≤ 100100 := by
  unfold s_X1_hoursToOpen
  split
  · omega
  · exact r_hTOp_lp f hm hh hw x1 _ _ _ (by omega) (by omega)
abbrev rm_X1_opensIn : Room := { frames := 3, cells := 0, slots := 0, locals := 84 }
set_option maxHeartbeats 4000000 in
set_option maxRecDepth 100000 in
theorem m_X1_opensIn (l : Launch) (D : va_G) (cI : ClassId) (a : Nat → Nat) (f : Nat → Int) (g : Nat → Int) (n : Nat) (b : Nat → Int) (len : Nat) (kd : Nat → Int) (sg : Nat → Int) (nb : Nat → Int) (pt : Nat) (hrf : rng f) (hm : mvs f) (hh : 0 ≤ f 0 ∧ f 0 ≤ 99999) (hw : 0 ≤ f 4 ∧ f 4 ≤ 100100) : MetR l yX1_opensIn wsX1_opensIn rm_X1_opensIn D cI [.ref (a 0)] (w1 cI a f g n b len kd sg nb pt) (s_X1_hoursToOpen f (-1)) := by
  refine xe_R (cc := cX1_opensIn) (maxL := 1) (ret := (some .int)) (by decide) rfl (Nat.le_of_ble_eq_true rfl) ?_
  intro p e s m below meth c hx hb hr hml hts hown hlocks hP hK ls hl
  have hl : lv_has ls 1 [(0, .ref (a 0))] := hl
  have hown : s.vm.findClass RX1 = some m.cls := hown
  have hSx : CallFix p m c cX1_opensIn 1 s ([.ref (a 0)] : List Value).toArray wsX1_opensIn RX1 := ⟨hx, hb, hml, hown, hts⟩
  obtain ⟨z, hz⟩ : ∃ z, z = (s_X1_hoursToOpen f (-1)) := ⟨_, rfl⟩
  rw [← hz]
  refine lv_aload_n hx hb dX1_opensIn_0 rfl (lv_at hl 0 rfl) ?_
  refine lv_iconst (v := jI (-1)) hx hb dX1_opensIn_1 rfl ?_
  refine xc_R (As := [.int (jI (-1))]) (rest := []) hSx (m_X1_hoursToOpen l D cI a f g n b len kd sg nb pt (-1) (by omega) (by omega) (by omega) (by omega) (by decide)) (cwV 1 hts gX1_opensIn_X1_hoursToOpen rfl rfl rfl (by decide +kernel) ⟨Nat.le_of_ble_eq_true rfl, Nat.le_of_ble_eq_true rfl⟩) hP hK 0 rfl rfl rfl rfl hl.1 rfl (Nat.le_of_ble_eq_true rfl) dX1_opensIn_2 ⟨Nat.zero_le _, Nat.zero_le _⟩ ?_
  subst hz
  exact xr_i hx hb hr hlocks rfl dX1_opensIn_5
def s_X1_lateness (f : Nat → Int) : Int := if (s_X1_isLocked f) = 0 then 0 else (if (s_X1_hoursToOpen f (-1)) = (-1) then 1000 else (s_X1_latenessAfter f (if (s_X1_hoursToOpen f (-1)) < 1 then 1 else (s_X1_hoursToOpen f (-1)))))
abbrev rm_X1_lateness : Room := { frames := 3, cells := 0, slots := 0, locals := 84 }
set_option maxHeartbeats 4000000 in
set_option maxRecDepth 100000 in
theorem m_X1_lateness (l : Launch) (D : va_G) (cI : ClassId) (a : Nat → Nat) (f : Nat → Int) (g : Nat → Int) (n : Nat) (b : Nat → Int) (len : Nat) (kd : Nat → Int) (sg : Nat → Int) (nb : Nat → Int) (pt : Nat) (hrf : rng f) (hm : mvs f) (hh : 0 ≤ f 0 ∧ f 0 ≤ 99999) (hw : 0 ≤ f 4 ∧ f 4 ≤ 100100) : MetR l yX1_lateness wsX1_lateness rm_X1_lateness D cI [.ref (a 0)] (w1 cI a f g n b len kd sg nb pt) (s_X1_lateness f) := by
  refine xe_R (cc := cX1_lateness) (maxL := 2) (ret := (some .int)) (by decide) rfl (Nat.le_of_ble_eq_true rfl) ?_
  intro p e s m below meth c hx hb hr hml hts hown hlocks hP hK ls hl
  have hl : lv_has ls 2 [(0, .ref (a 0))] := hl
  have hown : s.vm.findClass RX1 = some m.cls := hown
  have hSx : CallFix p m c cX1_lateness 2 s ([.ref (a 0)] : List Value).toArray wsX1_lateness RX1 := ⟨hx, hb, hml, hown, hts⟩
  have qm179 := hts (.methodLink RX1 179 Lib.Math.max.name) (by decide +kernel)
  have qmC := hts (.code Lib.Math.max.name Lib.Math.max.code 2 (some .int)) (by decide +kernel)
  have qmI := hts (.initialized "java/lang/Math") (by decide +kernel)
  have qmS := hts (.static Lib.Math.max.name) (by decide +kernel)
  obtain ⟨z, hz⟩ : ∃ z, z = (s_X1_lateness f) := ⟨_, rfl⟩
  rw [← hz]
  unfold s_X1_lateness at hz
  refine lv_aload_n hx hb dX1_lateness_0 rfl (lv_at hl 0 rfl) ?_
  refine xc_R (As := []) (rest := []) hSx (m_X1_isLocked l D cI a f g n b len kd sg nb pt  (by omega)) (cwV 0 hts gX1_lateness_X1_isLocked rfl rfl rfl (by decide +kernel) ⟨Nat.le_of_ble_eq_true rfl, Nat.le_of_ble_eq_true rfl⟩) hP hK 0 rfl rfl rfl rfl hl.1 rfl (Nat.le_of_ble_eq_true rfl) dX1_lateness_1 ⟨Nat.zero_le _, Nat.zero_le _⟩ ?_
  refine x_if_ne (tgt := 9) hx hb dX1_lateness_4 (by decide) (b01 (b_X1_isLocked f)) (fun c4 => ?_) (fun c4 => ?_)
  · rw [if_neg c4] at hz
    refine lv_aload_n hx hb dX1_lateness_9 rfl (lv_at hl 0 rfl) ?_
    refine lv_iconst (v := jI (-1)) hx hb dX1_lateness_10 rfl ?_
    refine xc_R (As := [.int (jI (-1))]) (rest := []) hSx (m_X1_hoursToOpen l D cI a f g n b len kd sg nb pt (-1) (by omega) (by omega) (by omega) (by omega) (by decide)) (cwV 1 hts gX1_lateness_X1_hoursToOpen rfl rfl rfl (by decide +kernel) ⟨Nat.le_of_ble_eq_true rfl, Nat.le_of_ble_eq_true rfl⟩) hP hK 0 rfl rfl rfl rfl hl.1 rfl (Nat.le_of_ble_eq_true rfl) dX1_lateness_11 ⟨Nat.zero_le _, Nat.zero_le _⟩ ?_
    have hrd := r_X1_hoursToOpen f (-1) hm hh hw
    refine lv_istore_n (lv' := [(1, .int (jI (s_X1_hoursToOpen f (-1)))), (0, .ref (a 0))]) hx hb dX1_lateness_14 rfl hl (by decide) rfl (fun ls hl => ?_)
    refine lv_iload_n hx hb dX1_lateness_15 rfl (lv_at hl 0 rfl) ?_
    refine lv_iconst (v := jI (-1)) hx hb dX1_lateness_16 rfl ?_
    refine x_icmp_ne (tgt := 26) hx hb dX1_lateness_17 (by decide) ⟨(by omega), (by decide)⟩ (fun c17 => ?_) (fun c17 => ?_)
    · rw [if_neg c17] at hz
      refine lv_aload_n hx hb dX1_lateness_26 rfl (lv_at hl 1 rfl) ?_
      refine lv_iload_n hx hb dX1_lateness_27 rfl (lv_at hl 0 rfl) ?_
      refine lv_iconst (v := jI 1) hx hb dX1_lateness_28 rfl ?_
      refine x_mmax hx hb (hml.trans hl.1.symm) hown qm179 qmS qmI qmC (Nat.le_of_ble_eq_true rfl) (Nat.le_of_ble_eq_true rfl) (Nat.zero_le _) (Nat.zero_le _) dX1_lateness_29 ⟨(by omega), (by decide)⟩ ?_
      refine xc_R (As := [.int (jI (if (s_X1_hoursToOpen f (-1)) < 1 then 1 else (s_X1_hoursToOpen f (-1))))]) (rest := []) hSx (m_X1_latenessAfter l D cI a f g n b len kd sg nb pt (if (s_X1_hoursToOpen f (-1)) < 1 then 1 else (s_X1_hoursToOpen f (-1))) (by omega)) (cwV 1 hts gX1_lateness_X1_latenessAfter rfl rfl rfl (by decide +kernel) ⟨Nat.le_of_ble_eq_true rfl, Nat.le_of_ble_eq_true rfl⟩) hP hK 0 rfl rfl rfl rfl hl.1 rfl (Nat.le_of_ble_eq_true rfl) dX1_lateness_32 ⟨Nat.zero_le _, Nat.zero_le _⟩ ?_
      subst hz
      exact xr_i hx hb hr hlocks rfl dX1_lateness_35
    · rw [if_pos c17] at hz
      refine lv_sipush (v := jI 1000) hx hb dX1_lateness_20 (by decide) ?_
      refine lv_goto (tgt := 35) hx hb dX1_lateness_23 (by decide) ?_
      subst hz
      exact xr_i hx hb hr hlocks rfl dX1_lateness_35
  · rw [if_pos c4] at hz
    refine lv_iconst (v := jI 0) hx hb dX1_lateness_7 rfl ?_
    subst hz
    exact xr_i hx hb hr hlocks rfl dX1_lateness_8
def s_X1_keyMovement_lp8 (f : Nat → Int) : Nat → Nat → Int → Int
  | 0, _, _ => default
  | k + 1, i, v => if 3 ≤ (i : Int) then (-1) else (if (s_X1_hoursToOpen f (i : Int)) = v then (s_X1_keyMovement_lp8 f k (i + 1) v) else (i : Int))
def s_X1_keyMovement (f : Nat → Int) : Int := s_X1_keyMovement_lp8 f (3 + 1 - 0) 0 (s_X1_hoursToOpen f (-1))
abbrev rm_X1_keyMovement : Room := { frames := 3, cells := 0, slots := 0, locals := 84 }
set_option maxHeartbeats 4000000 in
set_option maxRecDepth 100000 in
theorem m_X1_keyMovement (l : Launch) (D : va_G) (cI : ClassId) (a : Nat → Nat) (f : Nat → Int) (g : Nat → Int) (n : Nat) (b : Nat → Int) (len : Nat) (kd : Nat → Int) (sg : Nat → Int) (nb : Nat → Int) (pt : Nat) (hrf : rng f) (hm : mvs f) (hh : 0 ≤ f 0 ∧ f 0 ≤ 99999) (hw : 0 ≤ f 4 ∧ f 4 ≤ 100100) : MetR l yX1_keyMovement wsX1_keyMovement rm_X1_keyMovement D cI [.ref (a 0)] (w1 cI a f g n b len kd sg nb pt) (s_X1_keyMovement f) := by
  refine xe_R (cc := cX1_keyMovement) (maxL := 3) (ret := (some .int)) (by decide) rfl (Nat.le_of_ble_eq_true rfl) ?_
  intro p e s m below meth c hx hb hr hml hts hown hlocks hP hK ls hl
  have hl : lv_has ls 3 [(0, .ref (a 0))] := hl
  have hown : s.vm.findClass RX1 = some m.cls := hown
  have hSx : CallFix p m c cX1_keyMovement 3 s ([.ref (a 0)] : List Value).toArray wsX1_keyMovement RX1 := ⟨hx, hb, hml, hown, hts⟩
  obtain ⟨z, hz⟩ : ∃ z, z = (s_X1_keyMovement f) := ⟨_, rfl⟩
  rw [← hz]
  unfold s_X1_keyMovement at hz
  refine lv_aload_n hx hb dX1_keyMovement_0 rfl (lv_at hl 0 rfl) ?_
  refine lv_iconst (v := jI (-1)) hx hb dX1_keyMovement_1 rfl ?_
  refine xc_R (As := [.int (jI (-1))]) (rest := []) hSx (m_X1_hoursToOpen l D cI a f g n b len kd sg nb pt (-1) (by omega) (by omega) (by omega) (by omega) (by decide)) (cwV 1 hts gX1_keyMovement_X1_hoursToOpen rfl rfl rfl (by decide +kernel) ⟨Nat.le_of_ble_eq_true rfl, Nat.le_of_ble_eq_true rfl⟩) hP hK 0 rfl rfl rfl rfl hl.1 rfl (Nat.le_of_ble_eq_true rfl) dX1_keyMovement_2 ⟨Nat.zero_le _, Nat.zero_le _⟩ ?_
  have hrd := r_X1_hoursToOpen f (-1) hm hh hw
  refine lv_istore_n (lv' := [(1, .int (jI (s_X1_hoursToOpen f (-1)))), (0, .ref (a 0))]) hx hb dX1_keyMovement_5 rfl hl (by decide) rfl (fun ls hl => ?_)
  refine lv_iconst (v := jI 0) hx hb dX1_keyMovement_6 rfl ?_
  refine lv_istore_n (lv' := [(2, .int (jI 0)), (1, .int (jI (s_X1_hoursToOpen f (-1)))), (0, .ref (a 0))]) hx hb dX1_keyMovement_7 rfl hl (by decide) rfl (fun ls hl => ?_)
  have LP8 : ∀ (k i : Nat) (v : Int) (ls : Array Slot), i ≤ 3 → i + k = 3 + 1 → z = (s_X1_keyMovement_lp8 f) k i v → (-1 ≤ v ∧ v ≤ 100100) → lv_has ls 3 [(0, .ref (a 0)), (1, .int (jI v)), (2, .int (jI (i : Int)))] → W p l e rm_X1_keyMovement s m ([.ref (a 0)] : List Value).toArray below meth c s.heap [] 0 0 (MQ below (vp_Si (fun x => x = jI z)) ([.ref (a 0)] : List Value).toArray s 0 0 (fun _ => False)) (F0 m 8 ls []) := by
    intro k
    induction k with
    | zero => intro i v ls h1 h2; exact absurd h2 (by omega)
    | succ k ih =>
      intro i v  ls h1 h2 hz hv hl
      rw [s_X1_keyMovement_lp8] at hz
      refine lv_iload_n hx hb dX1_keyMovement_8 rfl (lv_at hl 2 rfl) ?_
      refine lv_iconst (v := jI 3) hx hb dX1_keyMovement_9 rfl ?_
      refine x_icmp_ge (tgt := 30) hx hb dX1_keyMovement_10 (by decide) ⟨(by omega), (by decide)⟩ (fun c10 => ?_) (fun c10 => ?_)
      · rw [if_pos c10] at hz
        refine lv_iconst (v := jI (-1)) hx hb dX1_keyMovement_30 rfl ?_
        subst hz
        exact xr_i hx hb hr hlocks rfl dX1_keyMovement_31
      · rw [if_neg c10] at hz
        refine lv_aload_n hx hb dX1_keyMovement_13 rfl (lv_at hl 0 rfl) ?_
        refine lv_iload_n hx hb dX1_keyMovement_14 rfl (lv_at hl 2 rfl) ?_
        refine xc_R (As := [.int (jI (i : Int))]) (rest := []) hSx (m_X1_hoursToOpen l D cI a f g n b len kd sg nb pt (i : Int) (by omega) (by omega) (by omega) (by omega) (by omega)) (cwV 1 hts gX1_keyMovement_X1_hoursToOpen rfl rfl rfl (by decide +kernel) ⟨Nat.le_of_ble_eq_true rfl, Nat.le_of_ble_eq_true rfl⟩) hP hK 0 rfl rfl rfl rfl hl.1 rfl (Nat.le_of_ble_eq_true rfl) dX1_keyMovement_15 ⟨Nat.zero_le _, Nat.zero_le _⟩ ?_
        have hrd := r_X1_hoursToOpen f (i : Int) hm hh hw
        refine lv_iload_n hx hb dX1_keyMovement_18 rfl (lv_at hl 1 rfl) ?_
        refine x_icmp_eq (tgt := 24) hx hb dX1_keyMovement_19 (by decide) ⟨(by omega), (by omega)⟩ (fun c19 => ?_) (fun c19 => ?_)
        · rw [if_pos c19] at hz
          refine lv_iinc (v := jI ((i + 1 : Nat) : Int)) (lv' := [(2, .int (jI ((i + 1 : Nat) : Int))), (0, .ref (a 0)), (1, .int (jI v))]) hx hb dX1_keyMovement_24 hl (k := 2) rfl (jI_inc _ 1) (by decide) rfl (fun ls hl => ?_)
          refine lv_goto (tgt := 8) hx hb dX1_keyMovement_27 (by decide) ?_
          exact ih (i + 1) v ls (by omega) (by omega) hz (by omega) (lv_sub hl [1, 2, 0] rfl)
        · rw [if_neg c19] at hz
          refine lv_iload_n hx hb dX1_keyMovement_22 rfl (lv_at hl 2 rfl) ?_
          subst hz
          exact xr_i hx hb hr hlocks rfl dX1_keyMovement_23
  exact LP8 (3 + 1 - 0) 0 (s_X1_hoursToOpen f (-1)) ls (by omega) (by omega) hz (by omega) (lv_sub hl [2, 1, 0] rfl)
def s_X1_property (f : Nat → Int) (j : Nat) (x1 : Nat) : Int := if (x1 : Int) = 4 then (if (f ((21 + (j * 4)) + 3)) < (f 13) then 0 else 1) else (if (x1 : Int) = 5 then (s_X1_hoursToRunDown f j (s_X1_goes f j)) else (f ((21 + (j * 4)) + x1)))
abbrev rm_X1_property : Room := { frames := 2, cells := 0, slots := 0, locals := 46 }
set_option maxHeartbeats 4000000 in
set_option maxRecDepth 100000 in
theorem m_X1_property (l : Launch) (D : va_G) (cI : ClassId) (a : Nat → Nat) (f : Nat → Int) (g : Nat → Int) (n : Nat) (b : Nat → Int) (len : Nat) (kd : Nat → Int) (sg : Nat → Int) (nb : Nat → Int) (pt : Nat) (j : Nat) (x1 : Nat) (hj : j < 3) (hx1 : x1 ≤ 5) (hrf : rng f) (hm : mvs f) : MetR l yX1_property wsX1_property rm_X1_property D cI [.ref (a 0), .int (jI (j : Int)), .int (jI (x1 : Int))] (w1 cI a f g n b len kd sg nb pt) (s_X1_property f j x1) := by
  refine xe_R (cc := cX1_property) (maxL := 3) (ret := (some .int)) (by decide) rfl (Nat.le_of_ble_eq_true rfl) ?_
  intro p e s m below meth c hx hb hr hml hts hown hlocks hP hK ls hl
  have hl : lv_has ls 3 [(0, .ref (a 0)), (1, .int (jI (j : Int))), (2, .int (jI (x1 : Int)))] := hl
  have hown : s.vm.findClass RX1 = some m.cls := hown
  have hSx : CallFix p m c cX1_property 3 s ([.ref (a 0), .int (jI (j : Int)), .int (jI (x1 : Int))] : List Value).toArray wsX1_property RX1 := ⟨hx, hb, hml, hown, hts⟩
  have inRX1 : ∀ w ∈ u_ws RX1 TX1 6, w ∈ wsX1_property := by decide +kernel
  have qf9 := hts (.fieldLink RX1 9 "VaultMovements" "now" "[I") (by decide +kernel)
  obtain ⟨z, hz⟩ : ∃ z, z = (s_X1_property f j x1) := ⟨_, rfl⟩
  rw [← hz]
  unfold s_X1_property at hz
  refine lv_iload_n hx hb dX1_property_0 rfl (lv_at hl 2 rfl) ?_
  refine lv_iconst (v := jI 4) hx hb dX1_property_1 rfl ?_
  refine x_icmp_ne (tgt := 31) hx hb dX1_property_2 (by decide) ⟨(by omega), (by decide)⟩ (fun c2 => ?_) (fun c2 => ?_)
  · rw [if_neg c2] at hz
    refine lv_iload_n hx hb dX1_property_31 rfl (lv_at hl 2 rfl) ?_
    refine lv_iconst (v := jI 5) hx hb dX1_property_32 rfl ?_
    refine x_icmp_ne (tgt := 47) hx hb dX1_property_33 (by decide) ⟨(by omega), (by decide)⟩ (fun c33 => ?_) (fun c33 => ?_)
    · rw [if_neg c33] at hz
      refine lv_aload_n hx hb dX1_property_47 rfl (lv_at hl 0 rfl) ?_
      refine va_get (D := D) (ci := 1) (v := .ref (a 1)) (C := RX1) (T := TX1) (N := 6) hx hb hts inRX1 hown hK hP 0 rfl rfl 0 (by decide) qf9 (fun _ h9 => h9) rfl dX1_property_48 ?_
      refine lv_iload_n hx hb dX1_property_51 rfl (lv_at hl 1 rfl) ?_
      refine lv_iload_n hx hb dX1_property_52 rfl (lv_at hl 2 rfl) ?_
      refine xc_P (As := [.int (jI (j : Int)), .int (jI (x1 : Int))]) (rest := [.ref (a 1)]) hSx (m_X1_place l (j : Int) (x1 : Int) ) (va_cwS 2 hts gX1_property_X1_place rfl rfl rfl (by decide +kernel) ⟨Nat.le_of_ble_eq_true rfl, Nat.le_of_ble_eq_true rfl⟩) rfl hl.1 rfl (Nat.le_of_ble_eq_true rfl) dX1_property_53 ⟨Nat.zero_le _, Nat.zero_le _⟩ ?_
      refine x_iald hx hb hK hP 1 0 rfl rfl ((21 + (j * 4)) + x1) (by omega) (by omega) (by decide) dX1_property_56 ?_
      subst hz
      exact xr_i hx hb hr hlocks rfl dX1_property_57
    · rw [if_pos c33] at hz
      refine lv_aload_n hx hb dX1_property_36 rfl (lv_at hl 0 rfl) ?_
      refine lv_iload_n hx hb dX1_property_37 rfl (lv_at hl 1 rfl) ?_
      refine lv_aload_n hx hb dX1_property_38 rfl (lv_at hl 0 rfl) ?_
      refine lv_iload_n hx hb dX1_property_39 rfl (lv_at hl 1 rfl) ?_
      refine xc_R (As := [.int (jI (j : Int))]) (rest := [.int (jI (j : Int)), .ref (a 0)]) hSx (m_X1_goes l D cI a f g n b len kd sg nb pt j (by omega) (by omega)) (cwV 1 hts gX1_property_X1_goes rfl rfl rfl (by decide +kernel) ⟨Nat.le_of_ble_eq_true rfl, Nat.le_of_ble_eq_true rfl⟩) hP hK 0 rfl rfl rfl rfl hl.1 rfl (Nat.le_of_ble_eq_true rfl) dX1_property_40 ⟨Nat.zero_le _, Nat.zero_le _⟩ ?_
      refine xc_R (As := [.int (jI (j : Int)), .int (jI (s_X1_goes f j))]) (rest := []) hSx (m_X1_hoursToRunDown l D cI a f g n b len kd sg nb pt j (s_X1_goes f j) (by omega) (by omega) (by omega) (b01 (b_X1_goes f j))) (cwV 2 hts gX1_property_X1_hoursToRunDown rfl rfl rfl (by decide +kernel) ⟨Nat.le_of_ble_eq_true rfl, Nat.le_of_ble_eq_true rfl⟩) hP hK 0 rfl rfl rfl rfl hl.1 rfl (Nat.le_of_ble_eq_true rfl) dX1_property_43 ⟨Nat.zero_le _, Nat.zero_le _⟩ ?_
      subst hz
      exact xr_i hx hb hr hlocks rfl dX1_property_46
  · rw [if_pos c2] at hz
    refine lv_aload_n hx hb dX1_property_5 rfl (lv_at hl 0 rfl) ?_
    refine va_get (D := D) (ci := 1) (v := .ref (a 1)) (C := RX1) (T := TX1) (N := 6) hx hb hts inRX1 hown hK hP 0 rfl rfl 0 (by decide) qf9 (fun _ h9 => h9) rfl dX1_property_6 ?_
    refine lv_iload_n hx hb dX1_property_9 rfl (lv_at hl 1 rfl) ?_
    refine lv_iconst (v := jI 3) hx hb dX1_property_10 rfl ?_
    refine xc_P (As := [.int (jI (j : Int)), .int (jI 3)]) (rest := [.ref (a 1)]) hSx (m_X1_place l (j : Int) 3 ) (va_cwS 2 hts gX1_property_X1_place rfl rfl rfl (by decide +kernel) ⟨Nat.le_of_ble_eq_true rfl, Nat.le_of_ble_eq_true rfl⟩) rfl hl.1 rfl (Nat.le_of_ble_eq_true rfl) dX1_property_11 ⟨Nat.zero_le _, Nat.zero_le _⟩ ?_
    refine x_iald hx hb hK hP 1 0 rfl rfl ((21 + (j * 4)) + 3) (by omega) (by omega) (by decide) dX1_property_14 ?_
    refine lv_aload_n hx hb dX1_property_15 rfl (lv_at hl 0 rfl) ?_
    refine va_get (D := D) (ci := 1) (v := .ref (a 1)) (C := RX1) (T := TX1) (N := 6) hx hb hts inRX1 hown hK hP 0 rfl rfl 0 (by decide) qf9 (fun _ h9 => h9) rfl dX1_property_16 ?_
    refine lv_bipush (v := jI 13) hx hb dX1_property_19 (by decide) ?_
    refine x_iald hx hb hK hP 1 0 rfl rfl 13 rfl (by decide) (by decide) dX1_property_21 ?_
    refine x_icmp_lt (tgt := 29) hx hb dX1_property_22 (by decide) ⟨(hrf _), (hrf _)⟩ (fun c22 => ?_) (fun c22 => ?_)
    · rw [if_pos c22] at hz
      refine lv_iconst (v := jI 0) hx hb dX1_property_29 rfl ?_
      subst hz
      exact xr_i hx hb hr hlocks rfl dX1_property_30
    · rw [if_neg c22] at hz
      refine lv_iconst (v := jI 1) hx hb dX1_property_25 rfl ?_
      refine lv_goto (tgt := 30) hx hb dX1_property_26 (by decide) ?_
      subst hz
      exact xr_i hx hb hr hlocks rfl dX1_property_30
def s_X1_number (f : Nat → Int) (n : Nat) (x1 : Nat) : Int := if (x1 : Int) = 0 then (f 0) else (if (x1 : Int) = 1 then (((f 0) / 24) % 7) else (if (x1 : Int) = 2 then ((f 0) % 24) else (if (x1 : Int) = 3 then (f 1) else (if (x1 : Int) = 4 then (s_X1_hoursToOpening f) else (if (x1 : Int) = 5 then (f 2) else (if (x1 : Int) = 6 then (f 3) else (if (x1 : Int) = 7 then (if ((f 4) - (f 0)) < 0 then 0 else ((f 4) - (f 0))) else (if (x1 : Int) = 8 then (f 5) else (if (x1 : Int) = 9 then (f 6) else (if (x1 : Int) = 10 then (f 7) else (if (x1 : Int) = 11 then (f 8) else (if (x1 : Int) = 12 then (f 9) else (if (x1 : Int) = 13 then (f 10) else ((n : Int)))))))))))))))
abbrev rm_X1_number : Room := { frames := 2, cells := 0, slots := 0, locals := 60 }
set_option maxHeartbeats 4000000 in
set_option maxRecDepth 100000 in
theorem m_X1_number (l : Launch) (D : va_G) (cI : ClassId) (a : Nat → Nat) (f : Nat → Int) (g : Nat → Int) (n : Nat) (b : Nat → Int) (len : Nat) (kd : Nat → Int) (sg : Nat → Int) (nb : Nat → Int) (pt : Nat) (x1 : Nat) (hx1 : x1 ≤ 14) (hrf : rng f) (hh : 0 ≤ f 0 ∧ f 0 ≤ 99999) (hd : ∀ k : Nat, 14 ≤ k → k < 21 → -1 ≤ f k ∧ f k ≤ 23) (hw : 0 ≤ f 4 ∧ f 4 ≤ 100100) : MetR l yX1_number wsX1_number rm_X1_number D cI [.ref (a 0), .int (jI (x1 : Int))] (w1 cI a f g n b len kd sg nb pt) (s_X1_number f n x1) := by
  refine xe_R (cc := cX1_number) (maxL := 2) (ret := (some .int)) (by decide) rfl (Nat.le_of_ble_eq_true rfl) ?_
  intro p e s m below meth c hx hb hr hml hts hown hlocks hP hK ls hl
  have hl : lv_has ls 2 [(0, .ref (a 0)), (1, .int (jI (x1 : Int)))] := hl
  have hown : s.vm.findClass RX1 = some m.cls := hown
  have hSx : CallFix p m c cX1_number 2 s ([.ref (a 0), .int (jI (x1 : Int))] : List Value).toArray wsX1_number RX1 := ⟨hx, hb, hml, hown, hts⟩
  have inRX1 : ∀ w ∈ u_ws RX1 TX1 6, w ∈ wsX1_number := by decide +kernel
  have qf16 := hts (.fieldLink RX1 16 "VaultMovements" "savedStates" "I") (by decide +kernel)
  have qf9 := hts (.fieldLink RX1 9 "VaultMovements" "now" "[I") (by decide +kernel)
  obtain ⟨z, hz⟩ : ∃ z, z = (s_X1_number f n x1) := ⟨_, rfl⟩
  rw [← hz]
  unfold s_X1_number at hz
  refine lv_iload_n hx hb dX1_number_0 rfl (lv_at hl 1 rfl) ?_
  refine lv_topi (fun y9 ey9 => ?_)
  by_cases e0 : (x1 : Int) = 0
  · rw [if_pos e0] at hz
    obtain rfl : y9 = jI 0 := ey9.trans (congrArg jI e0)
    refine lv_tableIn (off := 71) (tgt := 72) hx hb dX1_number_1 (by decide) (by decide) (by decide) (by decide) ?_
    refine lv_aload_n hx hb dX1_number_72 rfl (lv_at hl 0 rfl) ?_
    refine va_get (D := D) (ci := 1) (v := .ref (a 1)) (C := RX1) (T := TX1) (N := 6) hx hb hts inRX1 hown hK hP 0 rfl rfl 0 (by decide) qf9 (fun _ h9 => h9) rfl dX1_number_73 ?_
    refine lv_iconst (v := jI 0) hx hb dX1_number_76 rfl ?_
    refine x_iald hx hb hK hP 1 0 rfl rfl 0 rfl (by decide) (by decide) dX1_number_77 ?_
    subst hz
    exact xr_i hx hb hr hlocks rfl dX1_number_78
  rw [if_neg e0] at hz
  by_cases e1 : (x1 : Int) = 1
  · rw [if_pos e1] at hz
    obtain rfl : y9 = jI 1 := ey9.trans (congrArg jI e1)
    refine lv_tableIn (off := 78) (tgt := 79) hx hb dX1_number_1 (by decide) (by decide) (by decide) (by decide) ?_
    refine lv_aload_n hx hb dX1_number_79 rfl (lv_at hl 0 rfl) ?_
    refine xc_R (As := []) (rest := []) hSx (m_X1_today l D cI a f g n b len kd sg nb pt  (by omega)) (cwV 0 hts gX1_number_X1_today rfl rfl rfl (by decide +kernel) ⟨Nat.le_of_ble_eq_true rfl, Nat.le_of_ble_eq_true rfl⟩) hP hK 0 rfl rfl rfl rfl hl.1 rfl (Nat.le_of_ble_eq_true rfl) dX1_number_80 ⟨Nat.zero_le _, Nat.zero_le _⟩ ?_
    subst hz
    exact xr_i hx hb hr hlocks rfl dX1_number_83
  rw [if_neg e1] at hz
  by_cases e2 : (x1 : Int) = 2
  · rw [if_pos e2] at hz
    obtain rfl : y9 = jI 2 := ey9.trans (congrArg jI e2)
    refine lv_tableIn (off := 83) (tgt := 84) hx hb dX1_number_1 (by decide) (by decide) (by decide) (by decide) ?_
    refine lv_aload_n hx hb dX1_number_84 rfl (lv_at hl 0 rfl) ?_
    refine xc_R (As := []) (rest := []) hSx (m_X1_timeOfDay l D cI a f g n b len kd sg nb pt  (by omega)) (cwV 0 hts gX1_number_X1_timeOfDay rfl rfl rfl (by decide +kernel) ⟨Nat.le_of_ble_eq_true rfl, Nat.le_of_ble_eq_true rfl⟩) hP hK 0 rfl rfl rfl rfl hl.1 rfl (Nat.le_of_ble_eq_true rfl) dX1_number_85 ⟨Nat.zero_le _, Nat.zero_le _⟩ ?_
    subst hz
    exact xr_i hx hb hr hlocks rfl dX1_number_88
  rw [if_neg e2] at hz
  by_cases e3 : (x1 : Int) = 3
  · rw [if_pos e3] at hz
    obtain rfl : y9 = jI 3 := ey9.trans (congrArg jI e3)
    refine lv_tableIn (off := 88) (tgt := 89) hx hb dX1_number_1 (by decide) (by decide) (by decide) (by decide) ?_
    refine lv_aload_n hx hb dX1_number_89 rfl (lv_at hl 0 rfl) ?_
    refine va_get (D := D) (ci := 1) (v := .ref (a 1)) (C := RX1) (T := TX1) (N := 6) hx hb hts inRX1 hown hK hP 0 rfl rfl 0 (by decide) qf9 (fun _ h9 => h9) rfl dX1_number_90 ?_
    refine lv_iconst (v := jI 1) hx hb dX1_number_93 rfl ?_
    refine x_iald hx hb hK hP 1 0 rfl rfl 1 rfl (by decide) (by decide) dX1_number_94 ?_
    subst hz
    exact xr_i hx hb hr hlocks rfl dX1_number_95
  rw [if_neg e3] at hz
  by_cases e4 : (x1 : Int) = 4
  · rw [if_pos e4] at hz
    obtain rfl : y9 = jI 4 := ey9.trans (congrArg jI e4)
    refine lv_tableIn (off := 95) (tgt := 96) hx hb dX1_number_1 (by decide) (by decide) (by decide) (by decide) ?_
    refine lv_aload_n hx hb dX1_number_96 rfl (lv_at hl 0 rfl) ?_
    refine xc_R (As := []) (rest := []) hSx (m_X1_hoursToOpening l D cI a f g n b len kd sg nb pt  (by omega) (by omega) (by omega)) (cwV 0 hts gX1_number_X1_hoursToOpening rfl rfl rfl (by decide +kernel) ⟨Nat.le_of_ble_eq_true rfl, Nat.le_of_ble_eq_true rfl⟩) hP hK 0 rfl rfl rfl rfl hl.1 rfl (Nat.le_of_ble_eq_true rfl) dX1_number_97 ⟨Nat.zero_le _, Nat.zero_le _⟩ ?_
    subst hz
    exact xr_i hx hb hr hlocks rfl dX1_number_100
  rw [if_neg e4] at hz
  by_cases e5 : (x1 : Int) = 5
  · rw [if_pos e5] at hz
    obtain rfl : y9 = jI 5 := ey9.trans (congrArg jI e5)
    refine lv_tableIn (off := 100) (tgt := 101) hx hb dX1_number_1 (by decide) (by decide) (by decide) (by decide) ?_
    refine lv_aload_n hx hb dX1_number_101 rfl (lv_at hl 0 rfl) ?_
    refine va_get (D := D) (ci := 1) (v := .ref (a 1)) (C := RX1) (T := TX1) (N := 6) hx hb hts inRX1 hown hK hP 0 rfl rfl 0 (by decide) qf9 (fun _ h9 => h9) rfl dX1_number_102 ?_
    refine lv_iconst (v := jI 2) hx hb dX1_number_105 rfl ?_
    refine x_iald hx hb hK hP 1 0 rfl rfl 2 rfl (by decide) (by decide) dX1_number_106 ?_
    subst hz
    exact xr_i hx hb hr hlocks rfl dX1_number_107
  rw [if_neg e5] at hz
  by_cases e6 : (x1 : Int) = 6
  · rw [if_pos e6] at hz
    obtain rfl : y9 = jI 6 := ey9.trans (congrArg jI e6)
    refine lv_tableIn (off := 107) (tgt := 108) hx hb dX1_number_1 (by decide) (by decide) (by decide) (by decide) ?_
    refine lv_aload_n hx hb dX1_number_108 rfl (lv_at hl 0 rfl) ?_
    refine va_get (D := D) (ci := 1) (v := .ref (a 1)) (C := RX1) (T := TX1) (N := 6) hx hb hts inRX1 hown hK hP 0 rfl rfl 0 (by decide) qf9 (fun _ h9 => h9) rfl dX1_number_109 ?_
    refine lv_iconst (v := jI 3) hx hb dX1_number_112 rfl ?_
    refine x_iald hx hb hK hP 1 0 rfl rfl 3 rfl (by decide) (by decide) dX1_number_113 ?_
    subst hz
    exact xr_i hx hb hr hlocks rfl dX1_number_114
  rw [if_neg e6] at hz
  by_cases e7 : (x1 : Int) = 7
  · rw [if_pos e7] at hz
    obtain rfl : y9 = jI 7 := ey9.trans (congrArg jI e7)
    refine lv_tableIn (off := 114) (tgt := 115) hx hb dX1_number_1 (by decide) (by decide) (by decide) (by decide) ?_
    refine lv_aload_n hx hb dX1_number_115 rfl (lv_at hl 0 rfl) ?_
    refine xc_R (As := []) (rest := []) hSx (m_X1_hoursToWait l D cI a f g n b len kd sg nb pt  (by omega) (by omega)) (cwV 0 hts gX1_number_X1_hoursToWait rfl rfl rfl (by decide +kernel) ⟨Nat.le_of_ble_eq_true rfl, Nat.le_of_ble_eq_true rfl⟩) hP hK 0 rfl rfl rfl rfl hl.1 rfl (Nat.le_of_ble_eq_true rfl) dX1_number_116 ⟨Nat.zero_le _, Nat.zero_le _⟩ ?_
    subst hz
    exact xr_i hx hb hr hlocks rfl dX1_number_119
  rw [if_neg e7] at hz
  by_cases e8 : (x1 : Int) = 8
  · rw [if_pos e8] at hz
    obtain rfl : y9 = jI 8 := ey9.trans (congrArg jI e8)
    refine lv_tableIn (off := 119) (tgt := 120) hx hb dX1_number_1 (by decide) (by decide) (by decide) (by decide) ?_
    refine lv_aload_n hx hb dX1_number_120 rfl (lv_at hl 0 rfl) ?_
    refine va_get (D := D) (ci := 1) (v := .ref (a 1)) (C := RX1) (T := TX1) (N := 6) hx hb hts inRX1 hown hK hP 0 rfl rfl 0 (by decide) qf9 (fun _ h9 => h9) rfl dX1_number_121 ?_
    refine lv_iconst (v := jI 5) hx hb dX1_number_124 rfl ?_
    refine x_iald hx hb hK hP 1 0 rfl rfl 5 rfl (by decide) (by decide) dX1_number_125 ?_
    subst hz
    exact xr_i hx hb hr hlocks rfl dX1_number_126
  rw [if_neg e8] at hz
  by_cases e9 : (x1 : Int) = 9
  · rw [if_pos e9] at hz
    obtain rfl : y9 = jI 9 := ey9.trans (congrArg jI e9)
    refine lv_tableIn (off := 126) (tgt := 127) hx hb dX1_number_1 (by decide) (by decide) (by decide) (by decide) ?_
    refine lv_aload_n hx hb dX1_number_127 rfl (lv_at hl 0 rfl) ?_
    refine va_get (D := D) (ci := 1) (v := .ref (a 1)) (C := RX1) (T := TX1) (N := 6) hx hb hts inRX1 hown hK hP 0 rfl rfl 0 (by decide) qf9 (fun _ h9 => h9) rfl dX1_number_128 ?_
    refine lv_bipush (v := jI 6) hx hb dX1_number_131 (by decide) ?_
    refine x_iald hx hb hK hP 1 0 rfl rfl 6 rfl (by decide) (by decide) dX1_number_133 ?_
    subst hz
    exact xr_i hx hb hr hlocks rfl dX1_number_134
  rw [if_neg e9] at hz
  by_cases e10 : (x1 : Int) = 10
  · rw [if_pos e10] at hz
    obtain rfl : y9 = jI 10 := ey9.trans (congrArg jI e10)
    refine lv_tableIn (off := 134) (tgt := 135) hx hb dX1_number_1 (by decide) (by decide) (by decide) (by decide) ?_
    refine lv_aload_n hx hb dX1_number_135 rfl (lv_at hl 0 rfl) ?_
    refine va_get (D := D) (ci := 1) (v := .ref (a 1)) (C := RX1) (T := TX1) (N := 6) hx hb hts inRX1 hown hK hP 0 rfl rfl 0 (by decide) qf9 (fun _ h9 => h9) rfl dX1_number_136 ?_
    refine lv_bipush (v := jI 7) hx hb dX1_number_139 (by decide) ?_
    refine x_iald hx hb hK hP 1 0 rfl rfl 7 rfl (by decide) (by decide) dX1_number_141 ?_
    subst hz
    exact xr_i hx hb hr hlocks rfl dX1_number_142
  rw [if_neg e10] at hz
  by_cases e11 : (x1 : Int) = 11
  · rw [if_pos e11] at hz
    obtain rfl : y9 = jI 11 := ey9.trans (congrArg jI e11)
    refine lv_tableIn (off := 142) (tgt := 143) hx hb dX1_number_1 (by decide) (by decide) (by decide) (by decide) ?_
    refine lv_aload_n hx hb dX1_number_143 rfl (lv_at hl 0 rfl) ?_
    refine va_get (D := D) (ci := 1) (v := .ref (a 1)) (C := RX1) (T := TX1) (N := 6) hx hb hts inRX1 hown hK hP 0 rfl rfl 0 (by decide) qf9 (fun _ h9 => h9) rfl dX1_number_144 ?_
    refine lv_bipush (v := jI 8) hx hb dX1_number_147 (by decide) ?_
    refine x_iald hx hb hK hP 1 0 rfl rfl 8 rfl (by decide) (by decide) dX1_number_149 ?_
    subst hz
    exact xr_i hx hb hr hlocks rfl dX1_number_150
  rw [if_neg e11] at hz
  by_cases e12 : (x1 : Int) = 12
  · rw [if_pos e12] at hz
    obtain rfl : y9 = jI 12 := ey9.trans (congrArg jI e12)
    refine lv_tableIn (off := 150) (tgt := 151) hx hb dX1_number_1 (by decide) (by decide) (by decide) (by decide) ?_
    refine lv_aload_n hx hb dX1_number_151 rfl (lv_at hl 0 rfl) ?_
    refine va_get (D := D) (ci := 1) (v := .ref (a 1)) (C := RX1) (T := TX1) (N := 6) hx hb hts inRX1 hown hK hP 0 rfl rfl 0 (by decide) qf9 (fun _ h9 => h9) rfl dX1_number_152 ?_
    refine lv_bipush (v := jI 9) hx hb dX1_number_155 (by decide) ?_
    refine x_iald hx hb hK hP 1 0 rfl rfl 9 rfl (by decide) (by decide) dX1_number_157 ?_
    subst hz
    exact xr_i hx hb hr hlocks rfl dX1_number_158
  rw [if_neg e12] at hz
  by_cases e13 : (x1 : Int) = 13
  · rw [if_pos e13] at hz
    obtain rfl : y9 = jI 13 := ey9.trans (congrArg jI e13)
    refine lv_tableIn (off := 158) (tgt := 159) hx hb dX1_number_1 (by decide) (by decide) (by decide) (by decide) ?_
    refine lv_aload_n hx hb dX1_number_159 rfl (lv_at hl 0 rfl) ?_
    refine va_get (D := D) (ci := 1) (v := .ref (a 1)) (C := RX1) (T := TX1) (N := 6) hx hb hts inRX1 hown hK hP 0 rfl rfl 0 (by decide) qf9 (fun _ h9 => h9) rfl dX1_number_160 ?_
    refine lv_bipush (v := jI 10) hx hb dX1_number_163 (by decide) ?_
    refine x_iald hx hb hK hP 1 0 rfl rfl 10 rfl (by decide) (by decide) dX1_number_165 ?_
    subst hz
    exact xr_i hx hb hr hlocks rfl dX1_number_166
  rw [if_neg e13] at hz
  obtain rfl : y9 = jI 14 := ey9.trans (congrArg jI (by omega))
  refine lv_tableOut (tgt := 167) hx hb dX1_number_1 (by decide) (by decide) ?_
  refine lv_aload_n hx hb dX1_number_167 rfl (lv_at hl 0 rfl) ?_
  refine va_get (D := D) (ci := 1) (v := .int (jI (n : Int))) (C := RX1) (T := TX1) (N := 6) hx hb hts inRX1 hown hK hP 0 rfl rfl 2 (by decide) qf16 (fun _ h9 => h9) rfl dX1_number_168 ?_
  subst hz
  exact xr_i hx hb hr hlocks rfl dX1_number_171
abbrev rm_X1_canWindAll : Room := { frames := 2, cells := 0, slots := 0, locals := 42 }
abbrev rm_X1_readBuffer : Room := { frames := 3, cells := 0, slots := 0, locals := 61 }
