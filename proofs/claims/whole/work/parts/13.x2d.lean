/-- what the reference's two rows hold -/
def wo2 (so ma : Nat → Int) : Prop := ∀ k : Nat, (0 ≤ so k ∧ so k ≤ 2) ∧ -9 ≤ ma k ∧ ma k ≤ 200
theorem wo2_up {so ma : Nat → Int} {j : Nat} {x y : Int} (h : wo2 so ma) (hx : 0 ≤ x ∧ x ≤ 2) (hy : -9 ≤ y ∧ y ≤ 200) : wo2 (upz so j x) (upz ma j y) := fun k => by
  have := h k
  dsimp only [upz]
  (repeat' split) <;> omega
theorem wo2_s {so ma : Nat → Int} {j : Nat} {x : Int} (h : wo2 so ma) (hx : 0 ≤ x ∧ x ≤ 2) : wo2 (upz so j x) ma := fun k => by
  have := h k
  dsimp only [upz]
  (repeat' split) <;> omega
theorem wo2_m {so ma : Nat → Int} {j : Nat} {y : Int} (h : wo2 so ma) (hy : -9 ≤ y ∧ y ≤ 200) : wo2 so (upz ma j y) := fun k => by
  have := h k
  dsimp only [upz]
  (repeat' split) <;> omega
theorem ok_X2_stops (len at_ : Nat) : (s_X2_stops len at_).2 = 0 ∨ (s_X2_stops len at_).2 = 1 := by
  unfold s_X2_stops
  split
  · exact Or.inl rfl
  · exact Or.inr rfl
theorem ok_X2_isWinding (b : Nat → Int) (len at_ : Nat) (fl va : Int) (so ma : Nat → Int) (j : Nat) (h : at_ ≤ len) (hfl : fl = 0 ∨ fl = 1) (hva : 0 ≤ va ∧ va ≤ 200) (hw : wo2 so ma) : (s_X2_isWinding b len at_ fl va so ma j).2.1 ≤ len ∧ ((s_X2_isWinding b len at_ fl va so ma j).2.2.1 = 0 ∨ (s_X2_isWinding b len at_ fl va so ma j).2.2.1 = 1) ∧ (0 ≤ (s_X2_isWinding b len at_ fl va so ma j).2.2.2.1 ∧ (s_X2_isWinding b len at_ fl va so ma j).2.2.2.1 ≤ 200) ∧ wo2 (s_X2_isWinding b len at_ fl va so ma j).2.2.2.2.1 (s_X2_isWinding b len at_ fl va so ma j).2.2.2.2.2 := by
  have h0 : wo2 (upz so j 0) (upz ma j 0) := wo2_up hw (by decide) (by decide)
  have h1 := le_X2_isSign b len at_ 45 h
  have h2 := le_X2_isSign b len _ 110 h1
  have h3 := ok_X2_isNumber b len _ fl va h2 hfl hva
  unfold s_X2_isWinding
  generalize (s_X2_isSign b len ((s_X2_isSign b len at_ 45).2) 110).2 = q at h2 h3 ⊢
  have hst := ok_X2_stops len (q + 1)
  split
  · split
    · exact ⟨h3.1, h3.2.1, h3.2.2, wo2_up h0 (by decide) (by omega)⟩
    split
    · split
      · exact ⟨h2, hfl, hva, wo2_s h0 (by decide)⟩
      rename_i c1
      have a1 := ok_X2_isAt c1
      split
      · exact ⟨by dsimp only; omega, hst, hva, wo2_s h0 (by decide)⟩
      rename_i c2
      have a2 := ok_X2_isAt c2
      (repeat' split) <;> exact ⟨by dsimp only; omega, hfl, hva, wo2_up h0 (by decide) (by omega)⟩
    · rename_i c1
      have a1 := ok_X2_isAt c1
      split
      · exact ⟨by dsimp only; omega, hst, hva, wo2_s h0 (by decide)⟩
      rename_i c2
      have a2 := ok_X2_isAt c2
      (repeat' split) <;> exact ⟨by dsimp only; omega, hfl, hva, wo2_up h0 (by decide) (by omega)⟩
  · exact ⟨h1, hfl, hva, h0⟩
theorem le_X2_isWinding (b : Nat → Int) (len at_ : Nat) (fl va : Int) (so ma : Nat → Int) (j : Nat) (h : at_ ≤ len) (hfl : fl = 0 ∨ fl = 1) (hva : 0 ≤ va ∧ va ≤ 200) (hw : wo2 so ma) : (s_X2_isWinding b len at_ fl va so ma j).2.1 ≤ len := (ok_X2_isWinding b len at_ fl va so ma j h hfl hva hw).1
def s_X2_isText_lp12 (b : Nat → Int) (len : Nat) : Nat → Nat → Nat → Int → Int → (Nat → Int) → (Nat → Int) → Int × Nat × Int × Int × (Nat → Int) × (Nat → Int)
  | 0, _, _, _, _, _, _ => default
  | k + 1, i, at9, fl9, va9, so9, ma9 => if 3 ≤ (i : Int) then (if (len : Int) ≤ (at9 : Int) then (if (at9 : Int) = (len : Int) then (1, at9, 0, va9, so9, ma9) else (0, at9, 0, va9, so9, ma9)) else (if (at9 : Int) = (len : Int) then (1, at9, 1, va9, so9, ma9) else (0, at9, 1, va9, so9, ma9))) else (if (i : Int) ≤ 0 then (if ((s_X2_isWinding b len at9 fl9 va9 so9 ma9 i).1) = 0 then (0, (s_X2_isWinding b len at9 fl9 va9 so9 ma9 i).2.1, (s_X2_isWinding b len at9 fl9 va9 so9 ma9 i).2.2.1, (s_X2_isWinding b len at9 fl9 va9 so9 ma9 i).2.2.2.1, (s_X2_isWinding b len at9 fl9 va9 so9 ma9 i).2.2.2.2.1, (s_X2_isWinding b len at9 fl9 va9 so9 ma9 i).2.2.2.2.2) else (s_X2_isText_lp12 b len k (i + 1) ((s_X2_isWinding b len at9 fl9 va9 so9 ma9 i).2.1) ((s_X2_isWinding b len at9 fl9 va9 so9 ma9 i).2.2.1) ((s_X2_isWinding b len at9 fl9 va9 so9 ma9 i).2.2.2.1) ((s_X2_isWinding b len at9 fl9 va9 so9 ma9 i).2.2.2.2.1) ((s_X2_isWinding b len at9 fl9 va9 so9 ma9 i).2.2.2.2.2))) else (if ((s_X2_isSign b len at9 44).1) = 0 then ((s_X2_stops len ((s_X2_isSign b len at9 44).2)).1, (s_X2_isSign b len at9 44).2, (s_X2_stops len ((s_X2_isSign b len at9 44).2)).2, va9, so9, ma9) else (if ((s_X2_isWinding b len ((s_X2_isSign b len at9 44).2) fl9 va9 so9 ma9 i).1) = 0 then (0, (s_X2_isWinding b len ((s_X2_isSign b len at9 44).2) fl9 va9 so9 ma9 i).2.1, (s_X2_isWinding b len ((s_X2_isSign b len at9 44).2) fl9 va9 so9 ma9 i).2.2.1, (s_X2_isWinding b len ((s_X2_isSign b len at9 44).2) fl9 va9 so9 ma9 i).2.2.2.1, (s_X2_isWinding b len ((s_X2_isSign b len at9 44).2) fl9 va9 so9 ma9 i).2.2.2.2.1, (s_X2_isWinding b len ((s_X2_isSign b len at9 44).2) fl9 va9 so9 ma9 i).2.2.2.2.2) else (s_X2_isText_lp12 b len k (i + 1) ((s_X2_isWinding b len ((s_X2_isSign b len at9 44).2) fl9 va9 so9 ma9 i).2.1) ((s_X2_isWinding b len ((s_X2_isSign b len at9 44).2) fl9 va9 so9 ma9 i).2.2.1) ((s_X2_isWinding b len ((s_X2_isSign b len at9 44).2) fl9 va9 so9 ma9 i).2.2.2.1) ((s_X2_isWinding b len ((s_X2_isSign b len at9 44).2) fl9 va9 so9 ma9 i).2.2.2.2.1) ((s_X2_isWinding b len ((s_X2_isSign b len at9 44).2) fl9 va9 so9 ma9 i).2.2.2.2.2)))))
theorem b_X2_isText_lp12 (b : Nat → Int) (len : Nat) : ∀ (k i : Nat) (v0 : Nat) (v1 : Int) (v2 : Int) (v3 : Nat → Int) (v4 : Nat → Int), (s_X2_isText_lp12 b len k i v0 v1 v2 v3 v4).1 = 0 ∨ (s_X2_isText_lp12 b len k i v0 v1 v2 v3 v4).1 = 1 := by
  intro k
  induction k with
  | zero => intro i v0 v1 v2 v3 v4; exact Or.inl rfl
  | succ k ih =>
    intro i v0 v1 v2 v3 v4
    rw [s_X2_isText_lp12]
    (repeat' split) <;> first | exact Or.inl rfl | exact Or.inr rfl | exact ih _ _ _ _ _ _ | exact b_X2_isWinding _ _ _ _ _ _ _ _ | exact b_X2_isSign _ _ _ _ | exact b_X2_stops _ _
def s_X2_isText (b : Nat → Int) (len : Nat) (va : Int) (so : Nat → Int) (ma : Nat → Int) : Int × Nat × Int × Int × (Nat → Int) × (Nat → Int) := s_X2_isText_lp12 b len (3 + 1 - 0) 0 0 0 va so ma
theorem b_X2_isText (b : Nat → Int) (len : Nat) (va : Int) (so : Nat → Int) (ma : Nat → Int) : (s_X2_isText b len va so ma).1 = 0 ∨ (s_X2_isText b len va so ma).1 = 1 := by unfold s_X2_isText; (repeat' split) <;> first | exact Or.inl rfl | exact Or.inr rfl | exact b_X2_isWinding _ _ _ _ _ _ _ _ | exact b_X2_isSign _ _ _ _ | exact b_X2_stops _ _ | exact b_X2_isText_lp12 _ _ _ _ _ _ _ _ _
abbrev rm_X2_isText : Room := { frames := 4, cells := 0, slots := 0, locals := 88 }
set_option maxHeartbeats 4000000 in
set_option maxRecDepth 100000 in
theorem m_X2_isText (l : Launch) (D : va_G) (cI : ClassId) (a : Nat → Nat) (f : Nat → Int) (g : Nat → Int) (n : Nat) (b : Nat → Int) (len : Nat) (th : Int) (at_ : Nat) (fl : Int) (va : Int) (so : Nat → Int) (ma : Nat → Int) (hbf : ∀ k : Nat, k < len → 33 ≤ b k ∧ b k ≤ 126) (hln : len ≤ 60) (hva : 0 ≤ va ∧ va ≤ 200) (hw2 : wo2 so ma) : MetI l yX2_isText wsX2_isText rm_X2_isText D cI [.ref (a 0)] (w2 cI a f g n b len th at_ fl va so ma) (w2 cI a f g n b len th ((s_X2_isText b len va so ma).2.1) ((s_X2_isText b len va so ma).2.2.1) ((s_X2_isText b len va so ma).2.2.2.1) ((s_X2_isText b len va so ma).2.2.2.2.1) ((s_X2_isText b len va so ma).2.2.2.2.2)) ((s_X2_isText b len va so ma).1) := by
  refine xe_I (cc := cX2_isText) (maxL := 2) (ret := (some .boolean)) (by decide) rfl (Nat.le_of_ble_eq_true rfl) ?_
  intro p e s m below meth c hx hb hr hml hts hown hlocks hP hK A hA hD hS ls hl
  have hl : lv_has ls 2 [(0, .ref (a 0))] := hl
  have hown : s.vm.findClass RX2 = some m.cls := hown
  have hSx : CallFix p m c cX2_isText 2 s ([.ref (a 0)] : List Value).toArray wsX2_isText RX2 := ⟨hx, hb, hml, hown, hts⟩
  have inRX2 : ∀ w ∈ u_ws RX2 TX2 11, w ∈ wsX2_isText := by decide +kernel
  have qf91 := hts (.fieldLink RX2 91 "VaultMovementsModel" "typed" "I") (by decide +kernel)
  have qf94 := hts (.fieldLink RX2 94 "VaultMovementsModel" "at" "I") (by decide +kernel)
  have qf97 := hts (.fieldLink RX2 97 "VaultMovementsModel" "isFault" "Z") (by decide +kernel)
  obtain ⟨z, hz⟩ : ∃ z, z = (s_X2_isText b len va so ma) := ⟨_, rfl⟩
  rw [← hz]
  unfold s_X2_isText at hz
  refine lv_aload_n hx hb dX2_isText_0 rfl (lv_at hl 0 rfl) ?_
  refine lv_iconst (v := jI 0) hx hb dX2_isText_1 rfl ?_
  refine va_put (D := D) (ci := 2) (v := .int (jI 0)) (ty := .int) (C := RX2) (T := TX2) (N := 11) hx hb hts inRX2 tyX2 tyX2_ok nmX2 hown hK hP hD hS 0 rfl rfl 6 (by decide) qf94 (fun _ h9 => h9) rfl (by decide +kernel) rfl rfl (Nat.le_of_ble_eq_true rfl) dX2_isText_2 (fun H locs hP hD hS => ?_)
  have hP : va_P D vwCl (w2 cI a f g n b len th 0 fl va so ma) H := hP
  have hD : va_D A (w2 cI a f g n b len th 0 fl va so ma) := hD
  refine lv_aload_n hx hb dX2_isText_5 rfl (lv_at hl 0 rfl) ?_
  refine lv_iconst (v := jI 0) hx hb dX2_isText_6 rfl ?_
  refine va_put (D := D) (ci := 2) (v := .int (jI 0)) (ty := .boolean) (C := RX2) (T := TX2) (N := 11) hx hb hts inRX2 tyX2 tyX2_ok nmX2 hown hK hP hD hS 0 rfl rfl 7 (by decide) qf97 (fun _ h9 => h9) rfl (by decide +kernel) rfl rfl (Nat.le_of_ble_eq_true rfl) dX2_isText_7 (fun H locs hP hD hS => ?_)
  have hP : va_P D vwCl (w2 cI a f g n b len th 0 0 va so ma) H := hP
  have hD : va_D A (w2 cI a f g n b len th 0 0 va so ma) := hD
  refine lv_iconst (v := jI 0) hx hb dX2_isText_10 rfl ?_
  refine lv_istore_n (lv' := [(1, .int (jI 0)), (0, .ref (a 0))]) hx hb dX2_isText_11 rfl hl (by decide) rfl (fun ls hl => ?_)
  have LP12 : ∀ (k i : Nat) (at9 : Nat) (fl9 : Int) (va9 : Int) (so9 : Nat → Int) (ma9 : Nat → Int) (H : Heap) (locs : List Loc) (ls : Array Slot), i ≤ 3 → i + k = 3 + 1 → z = (s_X2_isText_lp12 b len) k i at9 fl9 va9 so9 ma9 → (at9 ≤ len ∧ (fl9 = 0 ∨ fl9 = 1) ∧ (0 ≤ va9 ∧ va9 ≤ 200) ∧ wo2 so9 ma9) → va_P D vwCl (w2 cI a f g n b len th at9 fl9 va9 so9 ma9) H → va_D A (w2 cI a f g n b len th at9 fl9 va9 so9 ma9) → va_S A s.heap H locs → lv_has ls 2 [(0, .ref (a 0)), (1, .int (jI (i : Int)))] → W p l e rm_X2_isText s m ([.ref (a 0)] : List Value).toArray below meth c H locs 0 0 (MQ below (va_Qi (fun x (_ : Unit) => x = jI z.1) (xq_B D cI A (w2 cI a f g n b len th z.2.1 z.2.2.1 z.2.2.2.1 z.2.2.2.2.1 z.2.2.2.2.2)) A) ([.ref (a 0)] : List Value).toArray s 0 0 A) (F0 m 12 ls []) := by
    intro k
    induction k with
    | zero => intro i at9 fl9 va9 so9 ma9 _ _ ls h1 h2; exact absurd h2 (by omega)
    | succ k ih =>
      intro i at9 fl9 va9 so9 ma9 H locs ls h1 h2 hz hi2 hP hD hS hl
      rw [s_X2_isText_lp12] at hz
      refine lv_iload_n hx hb dX2_isText_12 rfl (lv_at hl 1 rfl) ?_
      refine lv_iconst (v := jI 3) hx hb dX2_isText_13 rfl ?_
      refine x_icmp_ge (tgt := 51) hx hb dX2_isText_14 (by decide) ⟨(by omega), (by decide)⟩ (fun c14 => ?_) (fun c14 => ?_)
      · rw [if_pos c14] at hz
        refine lv_aload_n hx hb dX2_isText_51 rfl (lv_at hl 0 rfl) ?_
        refine lv_aload_n hx hb dX2_isText_52 rfl (lv_at hl 0 rfl) ?_
        refine va_get (D := D) (ci := 2) (v := .int (jI (at9 : Int))) (C := RX2) (T := TX2) (N := 11) hx hb hts inRX2 hown hK hP 0 rfl rfl 6 (by decide) qf94 (fun _ h9 => h9) rfl dX2_isText_53 ?_
        refine lv_aload_n hx hb dX2_isText_56 rfl (lv_at hl 0 rfl) ?_
        refine va_get (D := D) (ci := 2) (v := .int (jI (len : Int))) (C := RX2) (T := TX2) (N := 11) hx hb hts inRX2 hown hK hP 0 rfl rfl 4 (by decide) qf91 (fun _ h9 => h9) rfl dX2_isText_57 ?_
        refine x_icmp_ge (tgt := 67) hx hb dX2_isText_60 (by decide) ⟨(by omega), (by omega)⟩ (fun c60 => ?_) (fun c60 => ?_)
        · rw [if_pos c60] at hz
          refine lv_iconst (v := jI 0) hx hb dX2_isText_67 rfl ?_
          refine va_put (D := D) (ci := 2) (v := .int (jI 0)) (ty := .boolean) (C := RX2) (T := TX2) (N := 11) hx hb hts inRX2 tyX2 tyX2_ok nmX2 hown hK hP hD hS 0 rfl rfl 7 (by decide) qf97 (fun _ h9 => h9) rfl (by decide +kernel) rfl rfl (Nat.le_of_ble_eq_true rfl) dX2_isText_68 (fun H locs hP hD hS => ?_)
          have hP : va_P D vwCl (w2 cI a f g n b len th at9 0 va9 so9 ma9) H := hP
          have hD : va_D A (w2 cI a f g n b len th at9 0 va9 so9 ma9) := hD
          refine lv_aload_n hx hb dX2_isText_71 rfl (lv_at hl 0 rfl) ?_
          refine va_get (D := D) (ci := 2) (v := .int (jI (at9 : Int))) (C := RX2) (T := TX2) (N := 11) hx hb hts inRX2 hown hK hP 0 rfl rfl 6 (by decide) qf94 (fun _ h9 => h9) rfl dX2_isText_72 ?_
          refine lv_aload_n hx hb dX2_isText_75 rfl (lv_at hl 0 rfl) ?_
          refine va_get (D := D) (ci := 2) (v := .int (jI (len : Int))) (C := RX2) (T := TX2) (N := 11) hx hb hts inRX2 hown hK hP 0 rfl rfl 4 (by decide) qf91 (fun _ h9 => h9) rfl dX2_isText_76 ?_
          refine x_icmp_ne (tgt := 86) hx hb dX2_isText_79 (by decide) ⟨(by omega), (by omega)⟩ (fun c79 => ?_) (fun c79 => ?_)
          · rw [if_neg c79] at hz
            refine lv_iconst (v := jI 0) hx hb dX2_isText_86 rfl ?_
            subst hz
            exact xi_z hx hb hr hlocks (Or.inl rfl) hK hP hD hS rfl rfl dX2_isText_87
          · rw [if_pos c79] at hz
            refine lv_iconst (v := jI 1) hx hb dX2_isText_82 rfl ?_
            refine lv_goto (tgt := 87) hx hb dX2_isText_83 (by decide) ?_
            subst hz
            exact xi_z hx hb hr hlocks (Or.inr rfl) hK hP hD hS rfl rfl dX2_isText_87
        · rw [if_neg c60] at hz
          refine lv_iconst (v := jI 1) hx hb dX2_isText_63 rfl ?_
          refine lv_goto (tgt := 68) hx hb dX2_isText_64 (by decide) ?_
          refine va_put (D := D) (ci := 2) (v := .int (jI 1)) (ty := .boolean) (C := RX2) (T := TX2) (N := 11) hx hb hts inRX2 tyX2 tyX2_ok nmX2 hown hK hP hD hS 0 rfl rfl 7 (by decide) qf97 (fun _ h9 => h9) rfl (by decide +kernel) rfl rfl (Nat.le_of_ble_eq_true rfl) dX2_isText_68 (fun H locs hP hD hS => ?_)
          have hP : va_P D vwCl (w2 cI a f g n b len th at9 1 va9 so9 ma9) H := hP
          have hD : va_D A (w2 cI a f g n b len th at9 1 va9 so9 ma9) := hD
          refine lv_aload_n hx hb dX2_isText_71 rfl (lv_at hl 0 rfl) ?_
          refine va_get (D := D) (ci := 2) (v := .int (jI (at9 : Int))) (C := RX2) (T := TX2) (N := 11) hx hb hts inRX2 hown hK hP 0 rfl rfl 6 (by decide) qf94 (fun _ h9 => h9) rfl dX2_isText_72 ?_
          refine lv_aload_n hx hb dX2_isText_75 rfl (lv_at hl 0 rfl) ?_
          refine va_get (D := D) (ci := 2) (v := .int (jI (len : Int))) (C := RX2) (T := TX2) (N := 11) hx hb hts inRX2 hown hK hP 0 rfl rfl 4 (by decide) qf91 (fun _ h9 => h9) rfl dX2_isText_76 ?_
          refine x_icmp_ne (tgt := 86) hx hb dX2_isText_79 (by decide) ⟨(by omega), (by omega)⟩ (fun c79 => ?_) (fun c79 => ?_)
          · rw [if_neg c79] at hz
            refine lv_iconst (v := jI 0) hx hb dX2_isText_86 rfl ?_
            subst hz
            exact xi_z hx hb hr hlocks (Or.inl rfl) hK hP hD hS rfl rfl dX2_isText_87
          · rw [if_pos c79] at hz
            refine lv_iconst (v := jI 1) hx hb dX2_isText_82 rfl ?_
            refine lv_goto (tgt := 87) hx hb dX2_isText_83 (by decide) ?_
            subst hz
            exact xi_z hx hb hr hlocks (Or.inr rfl) hK hP hD hS rfl rfl dX2_isText_87
      · rw [if_neg c14] at hz
        refine lv_iload_n hx hb dX2_isText_17 rfl (lv_at hl 1 rfl) ?_
        refine x_if_le (tgt := 35) hx hb dX2_isText_18 (by decide) (by omega) (fun c18 => ?_) (fun c18 => ?_)
        · rw [if_pos c18] at hz
          refine lv_aload_n hx hb dX2_isText_35 rfl (lv_at hl 0 rfl) ?_
          refine lv_iload_n hx hb dX2_isText_36 rfl (lv_at hl 1 rfl) ?_
          refine xc_I (As := [.int (jI (i : Int))]) (rest := []) hSx (m_X2_isWinding l D cI a f g n b len th at9 fl9 va9 so9 ma9 i (by omega) (by omega) (by omega) (by omega)) (cwV 1 hts gX2_isText_X2_isWinding rfl rfl rfl (by decide +kernel) ⟨Nat.le_of_ble_eq_true rfl, Nat.le_of_ble_eq_true rfl⟩) hP hD hS hA hK 0 rfl rfl rfl rfl hl.1 rfl (Nat.le_of_ble_eq_true rfl) dX2_isText_37 ⟨Nat.zero_le _, Nat.zero_le _⟩ (fun H locs hP hD hS => ?_)
          have haw := ok_X2_isWinding b len at9 fl9 va9 so9 ma9 i hi2.1 hi2.2.1 hi2.2.2.1 hi2.2.2.2
          refine x_if_ne (tgt := 45) hx hb dX2_isText_40 (by decide) (b01 (b_X2_isWinding b len at9 fl9 va9 so9 ma9 i)) (fun c40 => ?_) (fun c40 => ?_)
          · rw [if_neg c40] at hz
            refine lv_iinc (v := jI ((i + 1 : Nat) : Int)) (lv' := [(1, .int (jI ((i + 1 : Nat) : Int))), (0, .ref (a 0))]) hx hb dX2_isText_45 hl (k := 1) rfl (jI_inc _ 1) (by decide) rfl (fun ls hl => ?_)
            refine lv_goto (tgt := 12) hx hb dX2_isText_48 (by decide) ?_
            exact ih (i + 1) ((s_X2_isWinding b len at9 fl9 va9 so9 ma9 i).2.1) ((s_X2_isWinding b len at9 fl9 va9 so9 ma9 i).2.2.1) ((s_X2_isWinding b len at9 fl9 va9 so9 ma9 i).2.2.2.1) ((s_X2_isWinding b len at9 fl9 va9 so9 ma9 i).2.2.2.2.1) ((s_X2_isWinding b len at9 fl9 va9 so9 ma9 i).2.2.2.2.2) _ _ ls (by omega) (by omega) hz haw hP hD hS (lv_sub hl [1, 0] rfl)
          · rw [if_pos c40] at hz
            refine lv_iconst (v := jI 0) hx hb dX2_isText_43 rfl ?_
            subst hz
            exact xi_z hx hb hr hlocks (Or.inl rfl) hK hP hD hS rfl rfl dX2_isText_44
        · rw [if_neg c18] at hz
          refine lv_aload_n hx hb dX2_isText_21 rfl (lv_at hl 0 rfl) ?_
          refine lv_bipush (v := jI 44) hx hb dX2_isText_22 (by decide) ?_
          refine xc_I (As := [.int (jI 44)]) (rest := []) hSx (m_X2_isSign l D cI a f g n b len th at9 fl9 va9 so9 ma9 44 (by omega) (by omega) hi2.1 (by decide)) (cwV 1 hts gX2_isText_X2_isSign rfl rfl rfl (by decide +kernel) ⟨Nat.le_of_ble_eq_true rfl, Nat.le_of_ble_eq_true rfl⟩) hP hD hS hA hK 0 rfl rfl rfl rfl hl.1 rfl (Nat.le_of_ble_eq_true rfl) dX2_isText_24 ⟨Nat.zero_le _, Nat.zero_le _⟩ (fun H locs hP hD hS => ?_)
          have ha1 := le_X2_isSign b len at9 44 hi2.1
          refine x_if_ne (tgt := 35) hx hb dX2_isText_27 (by decide) (b01 (b_X2_isSign b len at9 44)) (fun c27 => ?_) (fun c27 => ?_)
          · rw [if_neg c27] at hz
            refine lv_aload_n hx hb dX2_isText_35 rfl (lv_at hl 0 rfl) ?_
            refine lv_iload_n hx hb dX2_isText_36 rfl (lv_at hl 1 rfl) ?_
            refine xc_I (As := [.int (jI (i : Int))]) (rest := []) hSx (m_X2_isWinding l D cI a f g n b len th ((s_X2_isSign b len at9 44).2) fl9 va9 so9 ma9 i (by omega) (by omega) (by omega) (by omega)) (cwV 1 hts gX2_isText_X2_isWinding rfl rfl rfl (by decide +kernel) ⟨Nat.le_of_ble_eq_true rfl, Nat.le_of_ble_eq_true rfl⟩) hP hD hS hA hK 0 rfl rfl rfl rfl hl.1 rfl (Nat.le_of_ble_eq_true rfl) dX2_isText_37 ⟨Nat.zero_le _, Nat.zero_le _⟩ (fun H locs hP hD hS => ?_)
            have haw := ok_X2_isWinding b len ((s_X2_isSign b len at9 44).2) fl9 va9 so9 ma9 i ha1 hi2.2.1 hi2.2.2.1 hi2.2.2.2
            refine x_if_ne (tgt := 45) hx hb dX2_isText_40 (by decide) (b01 (b_X2_isWinding b len ((s_X2_isSign b len at9 44).2) fl9 va9 so9 ma9 i)) (fun c40 => ?_) (fun c40 => ?_)
            · rw [if_neg c40] at hz
              refine lv_iinc (v := jI ((i + 1 : Nat) : Int)) (lv' := [(1, .int (jI ((i + 1 : Nat) : Int))), (0, .ref (a 0))]) hx hb dX2_isText_45 hl (k := 1) rfl (jI_inc _ 1) (by decide) rfl (fun ls hl => ?_)
              refine lv_goto (tgt := 12) hx hb dX2_isText_48 (by decide) ?_
              exact ih (i + 1) ((s_X2_isWinding b len ((s_X2_isSign b len at9 44).2) fl9 va9 so9 ma9 i).2.1) ((s_X2_isWinding b len ((s_X2_isSign b len at9 44).2) fl9 va9 so9 ma9 i).2.2.1) ((s_X2_isWinding b len ((s_X2_isSign b len at9 44).2) fl9 va9 so9 ma9 i).2.2.2.1) ((s_X2_isWinding b len ((s_X2_isSign b len at9 44).2) fl9 va9 so9 ma9 i).2.2.2.2.1) ((s_X2_isWinding b len ((s_X2_isSign b len at9 44).2) fl9 va9 so9 ma9 i).2.2.2.2.2) _ _ ls (by omega) (by omega) hz haw hP hD hS (lv_sub hl [1, 0] rfl)
            · rw [if_pos c40] at hz
              refine lv_iconst (v := jI 0) hx hb dX2_isText_43 rfl ?_
              subst hz
              exact xi_z hx hb hr hlocks (Or.inl rfl) hK hP hD hS rfl rfl dX2_isText_44
          · rw [if_pos c27] at hz
            refine lv_aload_n hx hb dX2_isText_30 rfl (lv_at hl 0 rfl) ?_
            refine xc_I (As := []) (rest := []) hSx (m_X2_stops l D cI a f g n b len th ((s_X2_isSign b len at9 44).2) fl9 va9 so9 ma9  (by omega) (by omega)) (cwV 0 hts gX2_isText_X2_stops rfl rfl rfl (by decide +kernel) ⟨Nat.le_of_ble_eq_true rfl, Nat.le_of_ble_eq_true rfl⟩) hP hD hS hA hK 0 rfl rfl rfl rfl hl.1 rfl (Nat.le_of_ble_eq_true rfl) dX2_isText_31 ⟨Nat.zero_le _, Nat.zero_le _⟩ (fun H locs hP hD hS => ?_)
            subst hz
            exact xi_z hx hb hr hlocks (b_X2_stops len ((s_X2_isSign b len at9 44).2)) hK hP hD hS rfl rfl dX2_isText_34
  exact LP12 (3 + 1 - 0) 0 0 0 va so ma _ _ ls (by omega) (by omega) hz ⟨Nat.zero_le _, Or.inl rfl, hva, hw2⟩ hP hD hS (lv_sub hl [1, 0] rfl)
theorem ok_X2_tx_lp (b : Nat → Int) (len : Nat) : ∀ (k i at_ : Nat) (fl va : Int) (so ma : Nat → Int), i ≤ 3 → i + k = 4 → at_ ≤ len ∧ (fl = 0 ∨ fl = 1) ∧ (0 ≤ va ∧ va ≤ 200) ∧ wo2 so ma → (s_X2_isText_lp12 b len k i at_ fl va so ma).2.1 ≤ len ∧ ((s_X2_isText_lp12 b len k i at_ fl va so ma).2.2.1 = 0 ∨ (s_X2_isText_lp12 b len k i at_ fl va so ma).2.2.1 = 1) ∧ (0 ≤ (s_X2_isText_lp12 b len k i at_ fl va so ma).2.2.2.1 ∧ (s_X2_isText_lp12 b len k i at_ fl va so ma).2.2.2.1 ≤ 200) ∧ wo2 (s_X2_isText_lp12 b len k i at_ fl va so ma).2.2.2.2.1 (s_X2_isText_lp12 b len k i at_ fl va so ma).2.2.2.2.2 := by
  intro k
  induction k with
  | zero => intro i at_ fl va so ma h0 h; exact absurd h (by omega)
  | succ k ih =>
    intro i at_ fl va so ma h0 h hi
    have h1 := le_X2_isSign b len at_ 44 hi.1
    have h2 := ok_X2_isWinding b len at_ fl va so ma i hi.1 hi.2.1 hi.2.2.1 hi.2.2.2
    have h3 := ok_X2_isWinding b len (s_X2_isSign b len at_ 44).2 fl va so ma i h1 hi.2.1 hi.2.2.1 hi.2.2.2
    have h4 := ok_X2_stops len (s_X2_isSign b len at_ 44).2
    rw [s_X2_isText_lp12]
    (repeat' split) <;> first
      | exact ⟨hi.1, Or.inl rfl, hi.2.2⟩
      | exact ⟨hi.1, Or.inr rfl, hi.2.2⟩
      | exact ⟨h1, h4, hi.2.2⟩
      | exact h2
      | exact h3
      | exact ih _ _ _ _ _ _ (by omega) (by omega) h2
      | exact ih _ _ _ _ _ _ (by omega) (by omega) h3
theorem ok_X2_isText (b : Nat → Int) (len : Nat) (va : Int) (so ma : Nat → Int) (hva : 0 ≤ va ∧ va ≤ 200) (hw : wo2 so ma) : (s_X2_isText b len va so ma).2.1 ≤ len ∧ ((s_X2_isText b len va so ma).2.2.1 = 0 ∨ (s_X2_isText b len va so ma).2.2.1 = 1) ∧ (0 ≤ (s_X2_isText b len va so ma).2.2.2.1 ∧ (s_X2_isText b len va so ma).2.2.2.1 ≤ 200) ∧ wo2 (s_X2_isText b len va so ma).2.2.2.2.1 (s_X2_isText b len va so ma).2.2.2.2.2 :=
  ok_X2_tx_lp b len (3 + 1 - 0) 0 0 0 va so ma (by decide) (by decide) ⟨Nat.zero_le _, Or.inl rfl, hva, hw⟩
def s_X2_firstError (b : Nat → Int) (len : Nat) (va : Int) (so : Nat → Int) (ma : Nat → Int) : Int × Int × Nat × Int × Int × (Nat → Int) × (Nat → Int) := if ((s_X2_isText b len va so ma).1) = 0 then (if ((s_X2_isText b len va so ma).2.2.1) = 0 then ((len : Int), 0, (s_X2_isText b len va so ma).2.1, (s_X2_isText b len va so ma).2.2.1, (s_X2_isText b len va so ma).2.2.2.1, (s_X2_isText b len va so ma).2.2.2.2.1, (s_X2_isText b len va so ma).2.2.2.2.2) else ((((s_X2_isText b len va so ma).2.1 : Nat) : Int), 0, (s_X2_isText b len va so ma).2.1, (s_X2_isText b len va so ma).2.2.1, (s_X2_isText b len va so ma).2.2.2.1, (s_X2_isText b len va so ma).2.2.2.2.1, (s_X2_isText b len va so ma).2.2.2.2.2)) else ((len : Int), 0, (s_X2_isText b len va so ma).2.1, (s_X2_isText b len va so ma).2.2.1, (s_X2_isText b len va so ma).2.2.2.1, (s_X2_isText b len va so ma).2.2.2.2.1, (s_X2_isText b len va so ma).2.2.2.2.2)
abbrev rm_X2_firstError : Room := { frames := 5, cells := 0, slots := 0, locals := 109 }
set_option maxHeartbeats 4000000 in
set_option maxRecDepth 100000 in
theorem m_X2_firstError (l : Launch) (D : va_G) (cI : ClassId) (a : Nat → Nat) (f : Nat → Int) (g : Nat → Int) (n : Nat) (b : Nat → Int) (len : Nat) (th : Int) (at_ : Nat) (fl : Int) (va : Int) (so : Nat → Int) (ma : Nat → Int) (hbf : ∀ k : Nat, k < len → 33 ≤ b k ∧ b k ≤ 126) (hln : len ≤ 60) (hva : 0 ≤ va ∧ va ≤ 200) (hw2 : wo2 so ma) : MetI l yX2_firstError wsX2_firstError rm_X2_firstError D cI [.ref (a 0)] (w2 cI a f g n b len th at_ fl va so ma) (w2 cI a f g n b len ((s_X2_firstError b len va so ma).2.1) ((s_X2_firstError b len va so ma).2.2.1) ((s_X2_firstError b len va so ma).2.2.2.1) ((s_X2_firstError b len va so ma).2.2.2.2.1) ((s_X2_firstError b len va so ma).2.2.2.2.2.1) ((s_X2_firstError b len va so ma).2.2.2.2.2.2)) ((s_X2_firstError b len va so ma).1) := by
  refine xe_I (cc := cX2_firstError) (maxL := 2) (ret := (some .int)) (by decide) rfl (Nat.le_of_ble_eq_true rfl) ?_
  intro p e s m below meth c hx hb hr hml hts hown hlocks hP hK A hA hD hS ls hl
  have hl : lv_has ls 2 [(0, .ref (a 0))] := hl
  have hown : s.vm.findClass RX2 = some m.cls := hown
  have hSx : CallFix p m c cX2_firstError 2 s ([.ref (a 0)] : List Value).toArray wsX2_firstError RX2 := ⟨hx, hb, hml, hown, hts⟩
  have inRX2 : ∀ w ∈ u_ws RX2 TX2 11, w ∈ wsX2_firstError := by decide +kernel
  have qf25 := hts (.fieldLink RX2 25 "VaultMovementsModel" "thrown" "I") (by decide +kernel)
  have qf91 := hts (.fieldLink RX2 91 "VaultMovementsModel" "typed" "I") (by decide +kernel)
  have qf94 := hts (.fieldLink RX2 94 "VaultMovementsModel" "at" "I") (by decide +kernel)
  have qf97 := hts (.fieldLink RX2 97 "VaultMovementsModel" "isFault" "Z") (by decide +kernel)
  obtain ⟨z, hz⟩ : ∃ z, z = (s_X2_firstError b len va so ma) := ⟨_, rfl⟩
  rw [← hz]
  unfold s_X2_firstError at hz
  refine lv_aload_n hx hb dX2_firstError_0 rfl (lv_at hl 0 rfl) ?_
  refine lv_iconst (v := jI 0) hx hb dX2_firstError_1 rfl ?_
  refine va_put (D := D) (ci := 2) (v := .int (jI 0)) (ty := .int) (C := RX2) (T := TX2) (N := 11) hx hb hts inRX2 tyX2 tyX2_ok nmX2 hown hK hP hD hS 0 rfl rfl 5 (by decide) qf25 (fun _ h9 => h9) rfl (by decide +kernel) rfl rfl (Nat.le_of_ble_eq_true rfl) dX2_firstError_2 (fun H locs hP hD hS => ?_)
  have hP : va_P D vwCl (w2 cI a f g n b len 0 at_ fl va so ma) H := hP
  have hD : va_D A (w2 cI a f g n b len 0 at_ fl va so ma) := hD
  refine lv_aload_n hx hb dX2_firstError_5 rfl (lv_at hl 0 rfl) ?_
  refine xc_I (As := []) (rest := []) hSx (m_X2_isText l D cI a f g n b len 0 at_ fl va so ma  (by omega) (by omega) (by omega) (by omega)) (cwV 0 hts gX2_firstError_X2_isText rfl rfl rfl (by decide +kernel) ⟨Nat.le_of_ble_eq_true rfl, Nat.le_of_ble_eq_true rfl⟩) hP hD hS hA hK 0 rfl rfl rfl rfl hl.1 rfl (Nat.le_of_ble_eq_true rfl) dX2_firstError_6 ⟨Nat.zero_le _, Nat.zero_le _⟩ (fun H locs hP hD hS => ?_)
  have hok := ok_X2_isText b len va so ma hva hw2
  refine lv_istore_n (lv' := [(1, .int (jI ((s_X2_isText b len va so ma).1))), (0, .ref (a 0))]) hx hb dX2_firstError_9 rfl hl (by decide) rfl (fun ls hl => ?_)
  refine lv_iload_n hx hb dX2_firstError_10 rfl (lv_at hl 0 rfl) ?_
  refine x_if_ne (tgt := 28) hx hb dX2_firstError_11 (by decide) (b01 (b_X2_isText b len va so ma)) (fun c11 => ?_) (fun c11 => ?_)
  · rw [if_neg c11] at hz
    refine lv_aload_n hx hb dX2_firstError_28 rfl (lv_at hl 1 rfl) ?_
    refine va_get (D := D) (ci := 2) (v := .int (jI (len : Int))) (C := RX2) (T := TX2) (N := 11) hx hb hts inRX2 hown hK hP 0 rfl rfl 4 (by decide) qf91 (fun _ h9 => h9) rfl dX2_firstError_29 ?_
    subst hz
    exact xi_i hx hb hr hlocks hK hP hD hS rfl rfl dX2_firstError_32
  · rw [if_pos c11] at hz
    refine lv_aload_n hx hb dX2_firstError_14 rfl (lv_at hl 1 rfl) ?_
    refine va_get (D := D) (ci := 2) (v := .int (jI ((s_X2_isText b len va so ma).2.2.1))) (C := RX2) (T := TX2) (N := 11) hx hb hts inRX2 hown hK hP 0 rfl rfl 7 (by decide) qf97 (fun _ h9 => h9) rfl dX2_firstError_15 ?_
    refine x_if_eq (tgt := 28) hx hb dX2_firstError_18 (by decide) (by omega) (fun c18 => ?_) (fun c18 => ?_)
    · rw [if_pos c18] at hz
      refine lv_aload_n hx hb dX2_firstError_28 rfl (lv_at hl 1 rfl) ?_
      refine va_get (D := D) (ci := 2) (v := .int (jI (len : Int))) (C := RX2) (T := TX2) (N := 11) hx hb hts inRX2 hown hK hP 0 rfl rfl 4 (by decide) qf91 (fun _ h9 => h9) rfl dX2_firstError_29 ?_
      subst hz
      exact xi_i hx hb hr hlocks hK hP hD hS rfl rfl dX2_firstError_32
    · rw [if_neg c18] at hz
      refine lv_aload_n hx hb dX2_firstError_21 rfl (lv_at hl 1 rfl) ?_
      refine va_get (D := D) (ci := 2) (v := .int (jI (((s_X2_isText b len va so ma).2.1 : Nat) : Int))) (C := RX2) (T := TX2) (N := 11) hx hb hts inRX2 hown hK hP 0 rfl rfl 6 (by decide) qf94 (fun _ h9 => h9) rfl dX2_firstError_22 ?_
      refine lv_goto (tgt := 32) hx hb dX2_firstError_25 (by decide) ?_
      subst hz
      exact xi_i hx hb hr hlocks hK hP hD hS rfl rfl dX2_firstError_32
def s_X2_woundBy (f : Nat → Int) (so : Nat → Int) (ma : Nat → Int) (j : Nat) : Int := if (so j) = 2 then ((s_X2_toOpening f) + (ma j)) else (ma j)
abbrev rm_X2_woundBy : Room := { frames := 1, cells := 0, slots := 0, locals := 22 }
set_option maxHeartbeats 4000000 in
set_option maxRecDepth 100000 in
theorem m_X2_woundBy (l : Launch) (D : va_G) (cI : ClassId) (a : Nat → Nat) (f : Nat → Int) (g : Nat → Int) (n : Nat) (b : Nat → Int) (len : Nat) (th : Int) (at_ : Nat) (fl : Int) (va : Int) (so : Nat → Int) (ma : Nat → Int) (j : Nat) (hj : j < 3) (hrf : rng f) (hh : 0 ≤ f 0 ∧ f 0 ≤ 99999) (hw2 : wo2 so ma) : MetR l yX2_woundBy wsX2_woundBy rm_X2_woundBy D cI [.ref (a 0), .int (jI (j : Int))] (w2 cI a f g n b len th at_ fl va so ma) (s_X2_woundBy f so ma j) := by
  refine xe_R (cc := cX2_woundBy) (maxL := 2) (ret := (some .int)) (by decide) rfl (Nat.le_of_ble_eq_true rfl) ?_
  intro p e s m below meth c hx hb hr hml hts hown hlocks hP hK ls hl
  have hl : lv_has ls 2 [(0, .ref (a 0)), (1, .int (jI (j : Int)))] := hl
  have hown : s.vm.findClass RX2 = some m.cls := hown
  have hSx : CallFix p m c cX2_woundBy 2 s ([.ref (a 0), .int (jI (j : Int))] : List Value).toArray wsX2_woundBy RX2 := ⟨hx, hb, hml, hown, hts⟩
  have inRX2 : ∀ w ∈ u_ws RX2 TX2 11, w ∈ wsX2_woundBy := by decide +kernel
  have qf19 := hts (.fieldLink RX2 19 "VaultMovementsModel" "sorts" "[I") (by decide +kernel)
  have qf22 := hts (.fieldLink RX2 22 "VaultMovementsModel" "many" "[I") (by decide +kernel)
  have hw9 := hw2 j
  obtain ⟨z, hz⟩ : ∃ z, z = (s_X2_woundBy f so ma j) := ⟨_, rfl⟩
  rw [← hz]
  unfold s_X2_woundBy at hz
  refine lv_aload_n hx hb dX2_woundBy_0 rfl (lv_at hl 0 rfl) ?_
  refine va_get (D := D) (ci := 2) (v := .ref (a 4)) (C := RX2) (T := TX2) (N := 11) hx hb hts inRX2 hown hK hP 0 rfl rfl 9 (by decide) qf19 (fun _ h9 => h9) rfl dX2_woundBy_1 ?_
  refine lv_iload_n hx hb dX2_woundBy_4 rfl (lv_at hl 1 rfl) ?_
  refine x_iald hx hb hK hP 4 0 rfl rfl j (by omega) (by omega) (by decide) dX2_woundBy_5 ?_
  refine lv_iconst (v := jI 2) hx hb dX2_woundBy_6 rfl ?_
  refine x_icmp_ne (tgt := 24) hx hb dX2_woundBy_7 (by decide) ⟨(by omega), (by decide)⟩ (fun c7 => ?_) (fun c7 => ?_)
  · rw [if_neg c7] at hz
    refine lv_aload_n hx hb dX2_woundBy_24 rfl (lv_at hl 0 rfl) ?_
    refine va_get (D := D) (ci := 2) (v := .ref (a 5)) (C := RX2) (T := TX2) (N := 11) hx hb hts inRX2 hown hK hP 0 rfl rfl 10 (by decide) qf22 (fun _ h9 => h9) rfl dX2_woundBy_25 ?_
    refine lv_iload_n hx hb dX2_woundBy_28 rfl (lv_at hl 1 rfl) ?_
    refine x_iald hx hb hK hP 5 0 rfl rfl j (by omega) (by omega) (by decide) dX2_woundBy_29 ?_
    subst hz
    exact xr_i hx hb hr hlocks rfl dX2_woundBy_30
  · rw [if_pos c7] at hz
    refine lv_aload_n hx hb dX2_woundBy_10 rfl (lv_at hl 0 rfl) ?_
    refine xc_R (As := []) (rest := []) hSx (m_X2_toOpening l D cI a f g n b len th at_ fl va so ma  (by omega) (by omega)) (cwV 0 hts gX2_woundBy_X2_toOpening rfl rfl rfl (by decide +kernel) ⟨Nat.le_of_ble_eq_true rfl, Nat.le_of_ble_eq_true rfl⟩) hP hK 0 rfl rfl rfl rfl hl.1 rfl (Nat.le_of_ble_eq_true rfl) dX2_woundBy_11 ⟨Nat.zero_le _, Nat.zero_le _⟩ ?_
    refine lv_aload_n hx hb dX2_woundBy_14 rfl (lv_at hl 0 rfl) ?_
    refine va_get (D := D) (ci := 2) (v := .ref (a 5)) (C := RX2) (T := TX2) (N := 11) hx hb hts inRX2 hown hK hP 0 rfl rfl 10 (by decide) qf22 (fun _ h9 => h9) rfl dX2_woundBy_15 ?_
    refine lv_iload_n hx hb dX2_woundBy_18 rfl (lv_at hl 1 rfl) ?_
    refine x_iald hx hb hK hP 5 0 rfl rfl j (by omega) (by omega) (by decide) dX2_woundBy_19 ?_
    refine x_iadd hx hb dX2_woundBy_20 ?_
    refine lv_goto (tgt := 30) hx hb dX2_woundBy_21 (by decide) ?_
    subst hz
    exact xr_i hx hb hr hlocks rfl dX2_woundBy_30
theorem r_X2_woundBy (f so ma : Nat → Int) (j : Nat) (hw2 : wo2 so ma) : -20 ≤ s_X2_woundBy f so ma j ∧ s_X2_woundBy f so ma j ≤ 600 := by
  have := hw2 j
  have := r_X2_toOpening f
  unfold s_X2_woundBy
  split <;> omega
def s_X2_mayWind_lp18 (f : Nat → Int) (so : Nat → Int) (ma : Nat → Int) : Nat → Nat → Int → Int
  | 0, _, _ => default
  | k + 1, i, v => if 3 ≤ (i : Int) then v else (if (s_X2_goes f i) = 0 then (if v = 0 then (s_X2_mayWind_lp18 f so ma k (i + 1) 0) else (if (so i) = 0 then (s_X2_mayWind_lp18 f so ma k (i + 1) 1) else (s_X2_mayWind_lp18 f so ma k (i + 1) 0))) else (if (so i) = 2 then (if (s_X2_toOpening f) = (-1) then (if v = 0 then (s_X2_mayWind_lp18 f so ma k (i + 1) 0) else (if (so i) = 0 then (s_X2_mayWind_lp18 f so ma k (i + 1) 1) else (s_X2_mayWind_lp18 f so ma k (i + 1) 0))) else (if (s_X2_in (s_X2_woundBy f so ma i) 1 200) = 0 then (if v = 0 then (s_X2_mayWind_lp18 f so ma k (i + 1) 0) else (if (so i) = 0 then (s_X2_mayWind_lp18 f so ma k (i + 1) 1) else (s_X2_mayWind_lp18 f so ma k (i + 1) 0))) else (if v = 0 then (s_X2_mayWind_lp18 f so ma k (i + 1) 0) else (if (so i) = 0 then (s_X2_mayWind_lp18 f so ma k (i + 1) 1) else (s_X2_mayWind_lp18 f so ma k (i + 1) 1))))) else (if (s_X2_in (s_X2_woundBy f so ma i) 1 200) = 0 then (if v = 0 then (s_X2_mayWind_lp18 f so ma k (i + 1) 0) else (if (so i) = 0 then (s_X2_mayWind_lp18 f so ma k (i + 1) 1) else (s_X2_mayWind_lp18 f so ma k (i + 1) 0))) else (if v = 0 then (s_X2_mayWind_lp18 f so ma k (i + 1) 0) else (if (so i) = 0 then (s_X2_mayWind_lp18 f so ma k (i + 1) 1) else (s_X2_mayWind_lp18 f so ma k (i + 1) 1))))))
def s_X2_mayWind (f : Nat → Int) (so : Nat → Int) (ma : Nat → Int) : Int := if (f 11) = 0 then (s_X2_mayWind_lp18 f so ma (3 + 1 - 0) 0 1) else (s_X2_mayWind_lp18 f so ma (3 + 1 - 0) 0 0)
theorem b_mw_lp (f so ma : Nat → Int) : ∀ (k i : Nat) (v : Int), v = 0 ∨ v = 1 → s_X2_mayWind_lp18 f so ma k i v = 0 ∨ s_X2_mayWind_lp18 f so ma k i v = 1 := by
  intro k
  induction k with
  | zero => intro i v h; exact Or.inl rfl
  | succ k ih =>
    intro i v h
    rw [s_X2_mayWind_lp18]
    (repeat' split) <;> first
      | exact h
      | exact ih _ _ (Or.inl rfl)
      | exact ih _ _ (Or.inr rfl)
theorem b_X2_mayWind (f so ma : Nat → Int) : s_X2_mayWind f so ma = 0 ∨ s_X2_mayWind f so ma = 1 := by
  unfold s_X2_mayWind
  split
  · exact b_mw_lp f so ma _ _ _ (Or.inr rfl)
  · exact b_mw_lp f so ma _ _ _ (Or.inl rfl)
abbrev rm_X2_mayWind : Room := { frames := 2, cells := 0, slots := 0, locals := 43 }
set_option maxHeartbeats 4000000 in
set_option maxRecDepth 100000 in
theorem m_X2_mayWind (l : Launch) (D : va_G) (cI : ClassId) (a : Nat → Nat) (f : Nat → Int) (g : Nat → Int) (n : Nat) (b : Nat → Int) (len : Nat) (th : Int) (at_ : Nat) (fl : Int) (va : Int) (so : Nat → Int) (ma : Nat → Int) (hrf : rng f) (hh : 0 ≤ f 0 ∧ f 0 ≤ 99999) (hw2 : wo2 so ma) : MetR l yX2_mayWind wsX2_mayWind rm_X2_mayWind D cI [.ref (a 0)] (w2 cI a f g n b len th at_ fl va so ma) (s_X2_mayWind f so ma) := by
  refine xe_R (cc := cX2_mayWind) (maxL := 4) (ret := (some .boolean)) (by decide) rfl (Nat.le_of_ble_eq_true rfl) ?_
  intro p e s m below meth c hx hb hr hml hts hown hlocks hP hK ls hl
  have hl : lv_has ls 4 [(0, .ref (a 0))] := hl
  have hown : s.vm.findClass RX2 = some m.cls := hown
  have hSx : CallFix p m c cX2_mayWind 4 s ([.ref (a 0)] : List Value).toArray wsX2_mayWind RX2 := ⟨hx, hb, hml, hown, hts⟩
  have inRX2 : ∀ w ∈ u_ws RX2 TX2 11, w ∈ wsX2_mayWind := by decide +kernel
  have qf19 := hts (.fieldLink RX2 19 "VaultMovementsModel" "sorts" "[I") (by decide +kernel)
  have qf7 := hts (.fieldLink RX2 7 "VaultMovementsModel" "now" "[I") (by decide +kernel)
  obtain ⟨z, hz⟩ : ∃ z, z = (s_X2_mayWind f so ma) := ⟨_, rfl⟩
  rw [← hz]
  unfold s_X2_mayWind at hz
  refine lv_aload_n hx hb dX2_mayWind_0 rfl (lv_at hl 0 rfl) ?_
  refine va_get (D := D) (ci := 2) (v := .ref (a 1)) (C := RX2) (T := TX2) (N := 11) hx hb hts inRX2 hown hK hP 0 rfl rfl 0 (by decide) qf7 (fun _ h9 => h9) rfl dX2_mayWind_1 ?_
  refine lv_bipush (v := jI 11) hx hb dX2_mayWind_4 (by decide) ?_
  refine x_iald hx hb hK hP 1 0 rfl rfl 11 rfl (by decide) (by decide) dX2_mayWind_6 ?_
  refine x_if_ne (tgt := 14) hx hb dX2_mayWind_7 (by decide) (hrf _) (fun c7 => ?_) (fun c7 => ?_)
  · rw [if_neg c7] at hz
    refine lv_iconst (v := jI 0) hx hb dX2_mayWind_14 rfl ?_
    refine lv_istore_n (lv' := [(1, .int (jI 0)), (0, .ref (a 0))]) hx hb dX2_mayWind_15 rfl hl (by decide) rfl (fun ls hl => ?_)
    refine lv_iconst (v := jI 0) hx hb dX2_mayWind_16 rfl ?_
    refine lv_istore_n (lv' := [(2, .int (jI 0)), (1, .int (jI 0)), (0, .ref (a 0))]) hx hb dX2_mayWind_17 rfl hl (by decide) rfl (fun ls hl => ?_)
    have LP18 : ∀ (k i : Nat) (v : Int) (ls : Array Slot), i ≤ 3 → i + k = 3 + 1 → z = (s_X2_mayWind_lp18 f so ma) k i v → (v = 0 ∨ v = 1) → lv_has ls 4 [(0, .ref (a 0)), (1, .int (jI v)), (2, .int (jI (i : Int)))] → W p l e rm_X2_mayWind s m ([.ref (a 0)] : List Value).toArray below meth c s.heap [] 0 0 (MQ below (vp_Si (fun x => x = jI z)) ([.ref (a 0)] : List Value).toArray s 0 0 (fun _ => False)) (F0 m 18 ls []) := by
      intro k
      induction k with
      | zero => intro i v ls h1 h2; exact absurd h2 (by omega)
      | succ k ih =>
        intro i v  ls h1 h2 hz hv hl
        rw [s_X2_mayWind_lp18] at hz
        refine lv_iload_n hx hb dX2_mayWind_18 rfl (lv_at hl 2 rfl) ?_
        refine lv_iconst (v := jI 3) hx hb dX2_mayWind_19 rfl ?_
        refine x_icmp_ge (tgt := 99) hx hb dX2_mayWind_20 (by decide) ⟨(by omega), (by decide)⟩ (fun c20 => ?_) (fun c20 => ?_)
        · rw [if_pos c20] at hz
          refine lv_iload_n hx hb dX2_mayWind_99 rfl (lv_at hl 1 rfl) ?_
          subst hz
          exact xr_z hx hb hr hlocks hv rfl dX2_mayWind_100
        · rw [if_neg c20] at hz
          have hw9 := hw2 i
          refine lv_aload_n hx hb dX2_mayWind_23 rfl (lv_at hl 0 rfl) ?_
          refine lv_iload_n hx hb dX2_mayWind_24 rfl (lv_at hl 2 rfl) ?_
          refine xc_R (As := [.int (jI (i : Int))]) (rest := []) hSx (m_X2_goes l D cI a f g n b len th at_ fl va so ma i (by omega) (by omega)) (cwV 1 hts gX2_mayWind_X2_goes rfl rfl rfl (by decide +kernel) ⟨Nat.le_of_ble_eq_true rfl, Nat.le_of_ble_eq_true rfl⟩) hP hK 0 rfl rfl rfl rfl hl.1 rfl (Nat.le_of_ble_eq_true rfl) dX2_mayWind_25 ⟨Nat.zero_le _, Nat.zero_le _⟩ ?_
          refine x_if_eq (tgt := 68) hx hb dX2_mayWind_28 (by decide) (b01 (b_X2_goes f i)) (fun c28 => ?_) (fun c28 => ?_)
          · rw [if_pos c28] at hz
            refine lv_iconst (v := jI 0) hx hb dX2_mayWind_68 rfl ?_
            refine lv_istore_n (lv' := [(3, .int (jI 0)), (0, .ref (a 0)), (1, .int (jI v)), (2, .int (jI (i : Int)))]) hx hb dX2_mayWind_69 rfl hl (by decide) rfl (fun ls hl => ?_)
            refine lv_iload_n hx hb dX2_mayWind_70 rfl (lv_at hl 2 rfl) ?_
            refine x_if_eq (tgt := 91) hx hb dX2_mayWind_71 (by decide) (by omega) (fun c71 => ?_) (fun c71 => ?_)
            · rw [if_pos c71] at hz
              refine lv_iconst (v := jI 0) hx hb dX2_mayWind_91 rfl ?_
              refine lv_istore_n (lv' := [(1, .int (jI 0)), (3, .int (jI 0)), (0, .ref (a 0)), (2, .int (jI (i : Int)))]) hx hb dX2_mayWind_92 rfl hl (by decide) rfl (fun ls hl => ?_)
              refine lv_iinc (v := jI ((i + 1 : Nat) : Int)) (lv' := [(2, .int (jI ((i + 1 : Nat) : Int))), (1, .int (jI 0)), (3, .int (jI 0)), (0, .ref (a 0))]) hx hb dX2_mayWind_93 hl (k := 3) rfl (jI_inc _ 1) (by decide) rfl (fun ls hl => ?_)
              refine lv_goto (tgt := 18) hx hb dX2_mayWind_96 (by decide) ?_
              exact ih (i + 1) 0 ls (by omega) (by omega) hz (by omega) (lv_sub hl [3, 1, 0] rfl)
            · rw [if_neg c71] at hz
              refine lv_aload_n hx hb dX2_mayWind_74 rfl (lv_at hl 1 rfl) ?_
              refine va_get (D := D) (ci := 2) (v := .ref (a 4)) (C := RX2) (T := TX2) (N := 11) hx hb hts inRX2 hown hK hP 0 rfl rfl 9 (by decide) qf19 (fun _ h9 => h9) rfl dX2_mayWind_75 ?_
              refine lv_iload_n hx hb dX2_mayWind_78 rfl (lv_at hl 3 rfl) ?_
              refine x_iald hx hb hK hP 4 0 rfl rfl i (by omega) (by omega) (by decide) dX2_mayWind_79 ?_
              refine x_if_eq (tgt := 87) hx hb dX2_mayWind_80 (by decide) (by omega) (fun c80 => ?_) (fun c80 => ?_)
              · rw [if_pos c80] at hz
                refine lv_iconst (v := jI 1) hx hb dX2_mayWind_87 rfl ?_
                refine lv_goto (tgt := 92) hx hb dX2_mayWind_88 (by decide) ?_
                refine lv_istore_n (lv' := [(1, .int (jI 1)), (3, .int (jI 0)), (0, .ref (a 0)), (2, .int (jI (i : Int)))]) hx hb dX2_mayWind_92 rfl hl (by decide) rfl (fun ls hl => ?_)
                refine lv_iinc (v := jI ((i + 1 : Nat) : Int)) (lv' := [(2, .int (jI ((i + 1 : Nat) : Int))), (1, .int (jI 1)), (3, .int (jI 0)), (0, .ref (a 0))]) hx hb dX2_mayWind_93 hl (k := 3) rfl (jI_inc _ 1) (by decide) rfl (fun ls hl => ?_)
                refine lv_goto (tgt := 18) hx hb dX2_mayWind_96 (by decide) ?_
                exact ih (i + 1) 1 ls (by omega) (by omega) hz (by omega) (lv_sub hl [3, 1, 0] rfl)
              · rw [if_neg c80] at hz
                refine lv_iload_n hx hb dX2_mayWind_83 rfl (lv_at hl 0 rfl) ?_
                refine x_if_eq (tgt := 91) hx hb dX2_mayWind_84 (by decide) (by decide) (fun c84 => ?_) (fun c84 => absurd c84 (by decide))
                refine lv_iconst (v := jI 0) hx hb dX2_mayWind_91 rfl ?_
                refine lv_istore_n (lv' := [(1, .int (jI 0)), (3, .int (jI 0)), (0, .ref (a 0)), (2, .int (jI (i : Int)))]) hx hb dX2_mayWind_92 rfl hl (by decide) rfl (fun ls hl => ?_)
                refine lv_iinc (v := jI ((i + 1 : Nat) : Int)) (lv' := [(2, .int (jI ((i + 1 : Nat) : Int))), (1, .int (jI 0)), (3, .int (jI 0)), (0, .ref (a 0))]) hx hb dX2_mayWind_93 hl (k := 3) rfl (jI_inc _ 1) (by decide) rfl (fun ls hl => ?_)
                refine lv_goto (tgt := 18) hx hb dX2_mayWind_96 (by decide) ?_
                exact ih (i + 1) 0 ls (by omega) (by omega) hz (by omega) (lv_sub hl [3, 1, 0] rfl)
          · rw [if_neg c28] at hz
            refine lv_aload_n hx hb dX2_mayWind_31 rfl (lv_at hl 0 rfl) ?_
            refine va_get (D := D) (ci := 2) (v := .ref (a 4)) (C := RX2) (T := TX2) (N := 11) hx hb hts inRX2 hown hK hP 0 rfl rfl 9 (by decide) qf19 (fun _ h9 => h9) rfl dX2_mayWind_32 ?_
            refine lv_iload_n hx hb dX2_mayWind_35 rfl (lv_at hl 2 rfl) ?_
            refine x_iald hx hb hK hP 4 0 rfl rfl i (by omega) (by omega) (by decide) dX2_mayWind_36 ?_
            refine lv_iconst (v := jI 2) hx hb dX2_mayWind_37 rfl ?_
            refine x_icmp_ne (tgt := 49) hx hb dX2_mayWind_38 (by decide) ⟨(by omega), (by decide)⟩ (fun c38 => ?_) (fun c38 => ?_)
            · rw [if_neg c38] at hz
              refine lv_aload_n hx hb dX2_mayWind_49 rfl (lv_at hl 0 rfl) ?_
              refine lv_iload_n hx hb dX2_mayWind_50 rfl (lv_at hl 2 rfl) ?_
              refine xc_R (As := [.int (jI (i : Int))]) (rest := []) hSx (m_X2_woundBy l D cI a f g n b len th at_ fl va so ma i (by omega) (by omega) (by omega) (by omega)) (cwV 1 hts gX2_mayWind_X2_woundBy rfl rfl rfl (by decide +kernel) ⟨Nat.le_of_ble_eq_true rfl, Nat.le_of_ble_eq_true rfl⟩) hP hK 0 rfl rfl rfl rfl hl.1 rfl (Nat.le_of_ble_eq_true rfl) dX2_mayWind_51 ⟨Nat.zero_le _, Nat.zero_le _⟩ ?_
              have hwb := r_X2_woundBy f so ma i hw2
              refine lv_iconst (v := jI 1) hx hb dX2_mayWind_54 rfl ?_
              refine lv_sipush (v := jI 200) hx hb dX2_mayWind_55 (by decide) ?_
              refine xc_P (As := [.int (jI (s_X2_woundBy f so ma i)), .int (jI 1), .int (jI 200)]) (rest := []) hSx (m_X2_in l (s_X2_woundBy f so ma i) 1 200 (by omega) (by decide) (by decide)) (va_cwS 3 hts gX2_mayWind_X2_in rfl rfl rfl (by decide +kernel) ⟨Nat.le_of_ble_eq_true rfl, Nat.le_of_ble_eq_true rfl⟩) rfl hl.1 rfl (Nat.le_of_ble_eq_true rfl) dX2_mayWind_58 ⟨Nat.zero_le _, Nat.zero_le _⟩ ?_
              refine x_if_eq (tgt := 68) hx hb dX2_mayWind_61 (by decide) (b01 (b_X2_in (s_X2_woundBy f so ma i) 1 200)) (fun c61 => ?_) (fun c61 => ?_)
              · rw [if_pos c61] at hz
                refine lv_iconst (v := jI 0) hx hb dX2_mayWind_68 rfl ?_
                refine lv_istore_n (lv' := [(3, .int (jI 0)), (0, .ref (a 0)), (1, .int (jI v)), (2, .int (jI (i : Int)))]) hx hb dX2_mayWind_69 rfl hl (by decide) rfl (fun ls hl => ?_)
                refine lv_iload_n hx hb dX2_mayWind_70 rfl (lv_at hl 2 rfl) ?_
                refine x_if_eq (tgt := 91) hx hb dX2_mayWind_71 (by decide) (by omega) (fun c71 => ?_) (fun c71 => ?_)
                · rw [if_pos c71] at hz
                  refine lv_iconst (v := jI 0) hx hb dX2_mayWind_91 rfl ?_
                  refine lv_istore_n (lv' := [(1, .int (jI 0)), (3, .int (jI 0)), (0, .ref (a 0)), (2, .int (jI (i : Int)))]) hx hb dX2_mayWind_92 rfl hl (by decide) rfl (fun ls hl => ?_)
                  refine lv_iinc (v := jI ((i + 1 : Nat) : Int)) (lv' := [(2, .int (jI ((i + 1 : Nat) : Int))), (1, .int (jI 0)), (3, .int (jI 0)), (0, .ref (a 0))]) hx hb dX2_mayWind_93 hl (k := 3) rfl (jI_inc _ 1) (by decide) rfl (fun ls hl => ?_)
                  refine lv_goto (tgt := 18) hx hb dX2_mayWind_96 (by decide) ?_
                  exact ih (i + 1) 0 ls (by omega) (by omega) hz (by omega) (lv_sub hl [3, 1, 0] rfl)
                · rw [if_neg c71] at hz
                  refine lv_aload_n hx hb dX2_mayWind_74 rfl (lv_at hl 1 rfl) ?_
                  refine va_get (D := D) (ci := 2) (v := .ref (a 4)) (C := RX2) (T := TX2) (N := 11) hx hb hts inRX2 hown hK hP 0 rfl rfl 9 (by decide) qf19 (fun _ h9 => h9) rfl dX2_mayWind_75 ?_
                  refine lv_iload_n hx hb dX2_mayWind_78 rfl (lv_at hl 3 rfl) ?_
                  refine x_iald hx hb hK hP 4 0 rfl rfl i (by omega) (by omega) (by decide) dX2_mayWind_79 ?_
                  refine x_if_eq (tgt := 87) hx hb dX2_mayWind_80 (by decide) (by omega) (fun c80 => ?_) (fun c80 => ?_)
                  · rw [if_pos c80] at hz
                    refine lv_iconst (v := jI 1) hx hb dX2_mayWind_87 rfl ?_
                    refine lv_goto (tgt := 92) hx hb dX2_mayWind_88 (by decide) ?_
                    refine lv_istore_n (lv' := [(1, .int (jI 1)), (3, .int (jI 0)), (0, .ref (a 0)), (2, .int (jI (i : Int)))]) hx hb dX2_mayWind_92 rfl hl (by decide) rfl (fun ls hl => ?_)
                    refine lv_iinc (v := jI ((i + 1 : Nat) : Int)) (lv' := [(2, .int (jI ((i + 1 : Nat) : Int))), (1, .int (jI 1)), (3, .int (jI 0)), (0, .ref (a 0))]) hx hb dX2_mayWind_93 hl (k := 3) rfl (jI_inc _ 1) (by decide) rfl (fun ls hl => ?_)
                    refine lv_goto (tgt := 18) hx hb dX2_mayWind_96 (by decide) ?_
                    exact ih (i + 1) 1 ls (by omega) (by omega) hz (by omega) (lv_sub hl [3, 1, 0] rfl)
                  · rw [if_neg c80] at hz
                    refine lv_iload_n hx hb dX2_mayWind_83 rfl (lv_at hl 0 rfl) ?_
                    refine x_if_eq (tgt := 91) hx hb dX2_mayWind_84 (by decide) (by decide) (fun c84 => ?_) (fun c84 => absurd c84 (by decide))
                    refine lv_iconst (v := jI 0) hx hb dX2_mayWind_91 rfl ?_
                    refine lv_istore_n (lv' := [(1, .int (jI 0)), (3, .int (jI 0)), (0, .ref (a 0)), (2, .int (jI (i : Int)))]) hx hb dX2_mayWind_92 rfl hl (by decide) rfl (fun ls hl => ?_)
                    refine lv_iinc (v := jI ((i + 1 : Nat) : Int)) (lv' := [(2, .int (jI ((i + 1 : Nat) : Int))), (1, .int (jI 0)), (3, .int (jI 0)), (0, .ref (a 0))]) hx hb dX2_mayWind_93 hl (k := 3) rfl (jI_inc _ 1) (by decide) rfl (fun ls hl => ?_)
                    refine lv_goto (tgt := 18) hx hb dX2_mayWind_96 (by decide) ?_
                    exact ih (i + 1) 0 ls (by omega) (by omega) hz (by omega) (lv_sub hl [3, 1, 0] rfl)
              · rw [if_neg c61] at hz
                refine lv_iconst (v := jI 1) hx hb dX2_mayWind_64 rfl ?_
                refine lv_goto (tgt := 69) hx hb dX2_mayWind_65 (by decide) ?_
                refine lv_istore_n (lv' := [(3, .int (jI 1)), (0, .ref (a 0)), (1, .int (jI v)), (2, .int (jI (i : Int)))]) hx hb dX2_mayWind_69 rfl hl (by decide) rfl (fun ls hl => ?_)
                refine lv_iload_n hx hb dX2_mayWind_70 rfl (lv_at hl 2 rfl) ?_
                refine x_if_eq (tgt := 91) hx hb dX2_mayWind_71 (by decide) (by omega) (fun c71 => ?_) (fun c71 => ?_)
                · rw [if_pos c71] at hz
                  refine lv_iconst (v := jI 0) hx hb dX2_mayWind_91 rfl ?_
                  refine lv_istore_n (lv' := [(1, .int (jI 0)), (3, .int (jI 1)), (0, .ref (a 0)), (2, .int (jI (i : Int)))]) hx hb dX2_mayWind_92 rfl hl (by decide) rfl (fun ls hl => ?_)
                  refine lv_iinc (v := jI ((i + 1 : Nat) : Int)) (lv' := [(2, .int (jI ((i + 1 : Nat) : Int))), (1, .int (jI 0)), (3, .int (jI 1)), (0, .ref (a 0))]) hx hb dX2_mayWind_93 hl (k := 3) rfl (jI_inc _ 1) (by decide) rfl (fun ls hl => ?_)
                  refine lv_goto (tgt := 18) hx hb dX2_mayWind_96 (by decide) ?_
                  exact ih (i + 1) 0 ls (by omega) (by omega) hz (by omega) (lv_sub hl [3, 1, 0] rfl)
                · rw [if_neg c71] at hz
                  refine lv_aload_n hx hb dX2_mayWind_74 rfl (lv_at hl 1 rfl) ?_
                  refine va_get (D := D) (ci := 2) (v := .ref (a 4)) (C := RX2) (T := TX2) (N := 11) hx hb hts inRX2 hown hK hP 0 rfl rfl 9 (by decide) qf19 (fun _ h9 => h9) rfl dX2_mayWind_75 ?_
                  refine lv_iload_n hx hb dX2_mayWind_78 rfl (lv_at hl 3 rfl) ?_
                  refine x_iald hx hb hK hP 4 0 rfl rfl i (by omega) (by omega) (by decide) dX2_mayWind_79 ?_
                  refine x_if_eq (tgt := 87) hx hb dX2_mayWind_80 (by decide) (by omega) (fun c80 => ?_) (fun c80 => ?_)
                  · rw [if_pos c80] at hz
                    refine lv_iconst (v := jI 1) hx hb dX2_mayWind_87 rfl ?_
                    refine lv_goto (tgt := 92) hx hb dX2_mayWind_88 (by decide) ?_
                    refine lv_istore_n (lv' := [(1, .int (jI 1)), (3, .int (jI 1)), (0, .ref (a 0)), (2, .int (jI (i : Int)))]) hx hb dX2_mayWind_92 rfl hl (by decide) rfl (fun ls hl => ?_)
                    refine lv_iinc (v := jI ((i + 1 : Nat) : Int)) (lv' := [(2, .int (jI ((i + 1 : Nat) : Int))), (1, .int (jI 1)), (3, .int (jI 1)), (0, .ref (a 0))]) hx hb dX2_mayWind_93 hl (k := 3) rfl (jI_inc _ 1) (by decide) rfl (fun ls hl => ?_)
                    refine lv_goto (tgt := 18) hx hb dX2_mayWind_96 (by decide) ?_
                    exact ih (i + 1) 1 ls (by omega) (by omega) hz (by omega) (lv_sub hl [3, 1, 0] rfl)
                  · rw [if_neg c80] at hz
                    refine lv_iload_n hx hb dX2_mayWind_83 rfl (lv_at hl 0 rfl) ?_
                    refine x_if_eq (tgt := 91) hx hb dX2_mayWind_84 (by decide) (by decide) (fun c84 => absurd c84 (by decide)) (fun c84 => ?_)
                    refine lv_iconst (v := jI 1) hx hb dX2_mayWind_87 rfl ?_
                    refine lv_goto (tgt := 92) hx hb dX2_mayWind_88 (by decide) ?_
                    refine lv_istore_n (lv' := [(1, .int (jI 1)), (3, .int (jI 1)), (0, .ref (a 0)), (2, .int (jI (i : Int)))]) hx hb dX2_mayWind_92 rfl hl (by decide) rfl (fun ls hl => ?_)
                    refine lv_iinc (v := jI ((i + 1 : Nat) : Int)) (lv' := [(2, .int (jI ((i + 1 : Nat) : Int))), (1, .int (jI 1)), (3, .int (jI 1)), (0, .ref (a 0))]) hx hb dX2_mayWind_93 hl (k := 3) rfl (jI_inc _ 1) (by decide) rfl (fun ls hl => ?_)
                    refine lv_goto (tgt := 18) hx hb dX2_mayWind_96 (by decide) ?_
                    exact ih (i + 1) 1 ls (by omega) (by omega) hz (by omega) (lv_sub hl [3, 1, 0] rfl)
            · rw [if_pos c38] at hz
              refine lv_aload_n hx hb dX2_mayWind_41 rfl (lv_at hl 0 rfl) ?_
              refine xc_R (As := []) (rest := []) hSx (m_X2_toOpening l D cI a f g n b len th at_ fl va so ma  (by omega) (by omega)) (cwV 0 hts gX2_mayWind_X2_toOpening rfl rfl rfl (by decide +kernel) ⟨Nat.le_of_ble_eq_true rfl, Nat.le_of_ble_eq_true rfl⟩) hP hK 0 rfl rfl rfl rfl hl.1 rfl (Nat.le_of_ble_eq_true rfl) dX2_mayWind_42 ⟨Nat.zero_le _, Nat.zero_le _⟩ ?_
              have hto := r_X2_toOpening f
              refine lv_iconst (v := jI (-1)) hx hb dX2_mayWind_45 rfl ?_
              refine x_icmp_eq (tgt := 68) hx hb dX2_mayWind_46 (by decide) ⟨(by omega), (by decide)⟩ (fun c46 => ?_) (fun c46 => ?_)
              · rw [if_pos c46] at hz
                refine lv_iconst (v := jI 0) hx hb dX2_mayWind_68 rfl ?_
                refine lv_istore_n (lv' := [(3, .int (jI 0)), (0, .ref (a 0)), (1, .int (jI v)), (2, .int (jI (i : Int)))]) hx hb dX2_mayWind_69 rfl hl (by decide) rfl (fun ls hl => ?_)
                refine lv_iload_n hx hb dX2_mayWind_70 rfl (lv_at hl 2 rfl) ?_
                refine x_if_eq (tgt := 91) hx hb dX2_mayWind_71 (by decide) (by omega) (fun c71 => ?_) (fun c71 => ?_)
                · rw [if_pos c71] at hz
                  refine lv_iconst (v := jI 0) hx hb dX2_mayWind_91 rfl ?_
                  refine lv_istore_n (lv' := [(1, .int (jI 0)), (3, .int (jI 0)), (0, .ref (a 0)), (2, .int (jI (i : Int)))]) hx hb dX2_mayWind_92 rfl hl (by decide) rfl (fun ls hl => ?_)
                  refine lv_iinc (v := jI ((i + 1 : Nat) : Int)) (lv' := [(2, .int (jI ((i + 1 : Nat) : Int))), (1, .int (jI 0)), (3, .int (jI 0)), (0, .ref (a 0))]) hx hb dX2_mayWind_93 hl (k := 3) rfl (jI_inc _ 1) (by decide) rfl (fun ls hl => ?_)
                  refine lv_goto (tgt := 18) hx hb dX2_mayWind_96 (by decide) ?_
                  exact ih (i + 1) 0 ls (by omega) (by omega) hz (by omega) (lv_sub hl [3, 1, 0] rfl)
                · rw [if_neg c71] at hz
                  refine lv_aload_n hx hb dX2_mayWind_74 rfl (lv_at hl 1 rfl) ?_
                  refine va_get (D := D) (ci := 2) (v := .ref (a 4)) (C := RX2) (T := TX2) (N := 11) hx hb hts inRX2 hown hK hP 0 rfl rfl 9 (by decide) qf19 (fun _ h9 => h9) rfl dX2_mayWind_75 ?_
                  refine lv_iload_n hx hb dX2_mayWind_78 rfl (lv_at hl 3 rfl) ?_
                  refine x_iald hx hb hK hP 4 0 rfl rfl i (by omega) (by omega) (by decide) dX2_mayWind_79 ?_
                  refine x_if_eq (tgt := 87) hx hb dX2_mayWind_80 (by decide) (by omega) (fun c80 => ?_) (fun c80 => ?_)
                  · rw [if_pos c80] at hz
                    refine lv_iconst (v := jI 1) hx hb dX2_mayWind_87 rfl ?_
                    refine lv_goto (tgt := 92) hx hb dX2_mayWind_88 (by decide) ?_
                    refine lv_istore_n (lv' := [(1, .int (jI 1)), (3, .int (jI 0)), (0, .ref (a 0)), (2, .int (jI (i : Int)))]) hx hb dX2_mayWind_92 rfl hl (by decide) rfl (fun ls hl => ?_)
                    refine lv_iinc (v := jI ((i + 1 : Nat) : Int)) (lv' := [(2, .int (jI ((i + 1 : Nat) : Int))), (1, .int (jI 1)), (3, .int (jI 0)), (0, .ref (a 0))]) hx hb dX2_mayWind_93 hl (k := 3) rfl (jI_inc _ 1) (by decide) rfl (fun ls hl => ?_)
                    refine lv_goto (tgt := 18) hx hb dX2_mayWind_96 (by decide) ?_
                    exact ih (i + 1) 1 ls (by omega) (by omega) hz (by omega) (lv_sub hl [3, 1, 0] rfl)
                  · rw [if_neg c80] at hz
                    refine lv_iload_n hx hb dX2_mayWind_83 rfl (lv_at hl 0 rfl) ?_
                    refine x_if_eq (tgt := 91) hx hb dX2_mayWind_84 (by decide) (by decide) (fun c84 => ?_) (fun c84 => absurd c84 (by decide))
                    refine lv_iconst (v := jI 0) hx hb dX2_mayWind_91 rfl ?_
                    refine lv_istore_n (lv' := [(1, .int (jI 0)), (3, .int (jI 0)), (0, .ref (a 0)), (2, .int (jI (i : Int)))]) hx hb dX2_mayWind_92 rfl hl (by decide) rfl (fun ls hl => ?_)
                    refine lv_iinc (v := jI ((i + 1 : Nat) : Int)) (lv' := [(2, .int (jI ((i + 1 : Nat) : Int))), (1, .int (jI 0)), (3, .int (jI 0)), (0, .ref (a 0))]) hx hb dX2_mayWind_93 hl (k := 3) rfl (jI_inc _ 1) (by decide) rfl (fun ls hl => ?_)
                    refine lv_goto (tgt := 18) hx hb dX2_mayWind_96 (by decide) ?_
                    exact ih (i + 1) 0 ls (by omega) (by omega) hz (by omega) (lv_sub hl [3, 1, 0] rfl)
              · rw [if_neg c46] at hz
                refine lv_aload_n hx hb dX2_mayWind_49 rfl (lv_at hl 0 rfl) ?_
                refine lv_iload_n hx hb dX2_mayWind_50 rfl (lv_at hl 2 rfl) ?_
                refine xc_R (As := [.int (jI (i : Int))]) (rest := []) hSx (m_X2_woundBy l D cI a f g n b len th at_ fl va so ma i (by omega) (by omega) (by omega) (by omega)) (cwV 1 hts gX2_mayWind_X2_woundBy rfl rfl rfl (by decide +kernel) ⟨Nat.le_of_ble_eq_true rfl, Nat.le_of_ble_eq_true rfl⟩) hP hK 0 rfl rfl rfl rfl hl.1 rfl (Nat.le_of_ble_eq_true rfl) dX2_mayWind_51 ⟨Nat.zero_le _, Nat.zero_le _⟩ ?_
                have hwb := r_X2_woundBy f so ma i hw2
                refine lv_iconst (v := jI 1) hx hb dX2_mayWind_54 rfl ?_
                refine lv_sipush (v := jI 200) hx hb dX2_mayWind_55 (by decide) ?_
                refine xc_P (As := [.int (jI (s_X2_woundBy f so ma i)), .int (jI 1), .int (jI 200)]) (rest := []) hSx (m_X2_in l (s_X2_woundBy f so ma i) 1 200 (by omega) (by decide) (by decide)) (va_cwS 3 hts gX2_mayWind_X2_in rfl rfl rfl (by decide +kernel) ⟨Nat.le_of_ble_eq_true rfl, Nat.le_of_ble_eq_true rfl⟩) rfl hl.1 rfl (Nat.le_of_ble_eq_true rfl) dX2_mayWind_58 ⟨Nat.zero_le _, Nat.zero_le _⟩ ?_
                refine x_if_eq (tgt := 68) hx hb dX2_mayWind_61 (by decide) (b01 (b_X2_in (s_X2_woundBy f so ma i) 1 200)) (fun c61 => ?_) (fun c61 => ?_)
                · rw [if_pos c61] at hz
                  refine lv_iconst (v := jI 0) hx hb dX2_mayWind_68 rfl ?_
                  refine lv_istore_n (lv' := [(3, .int (jI 0)), (0, .ref (a 0)), (1, .int (jI v)), (2, .int (jI (i : Int)))]) hx hb dX2_mayWind_69 rfl hl (by decide) rfl (fun ls hl => ?_)
                  refine lv_iload_n hx hb dX2_mayWind_70 rfl (lv_at hl 2 rfl) ?_
                  refine x_if_eq (tgt := 91) hx hb dX2_mayWind_71 (by decide) (by omega) (fun c71 => ?_) (fun c71 => ?_)
                  · rw [if_pos c71] at hz
                    refine lv_iconst (v := jI 0) hx hb dX2_mayWind_91 rfl ?_
                    refine lv_istore_n (lv' := [(1, .int (jI 0)), (3, .int (jI 0)), (0, .ref (a 0)), (2, .int (jI (i : Int)))]) hx hb dX2_mayWind_92 rfl hl (by decide) rfl (fun ls hl => ?_)
                    refine lv_iinc (v := jI ((i + 1 : Nat) : Int)) (lv' := [(2, .int (jI ((i + 1 : Nat) : Int))), (1, .int (jI 0)), (3, .int (jI 0)), (0, .ref (a 0))]) hx hb dX2_mayWind_93 hl (k := 3) rfl (jI_inc _ 1) (by decide) rfl (fun ls hl => ?_)
                    refine lv_goto (tgt := 18) hx hb dX2_mayWind_96 (by decide) ?_
                    exact ih (i + 1) 0 ls (by omega) (by omega) hz (by omega) (lv_sub hl [3, 1, 0] rfl)
                  · rw [if_neg c71] at hz
                    refine lv_aload_n hx hb dX2_mayWind_74 rfl (lv_at hl 1 rfl) ?_
                    refine va_get (D := D) (ci := 2) (v := .ref (a 4)) (C := RX2) (T := TX2) (N := 11) hx hb hts inRX2 hown hK hP 0 rfl rfl 9 (by decide) qf19 (fun _ h9 => h9) rfl dX2_mayWind_75 ?_
                    refine lv_iload_n hx hb dX2_mayWind_78 rfl (lv_at hl 3 rfl) ?_
                    refine x_iald hx hb hK hP 4 0 rfl rfl i (by omega) (by omega) (by decide) dX2_mayWind_79 ?_
                    refine x_if_eq (tgt := 87) hx hb dX2_mayWind_80 (by decide) (by omega) (fun c80 => ?_) (fun c80 => ?_)
                    · rw [if_pos c80] at hz
                      refine lv_iconst (v := jI 1) hx hb dX2_mayWind_87 rfl ?_
                      refine lv_goto (tgt := 92) hx hb dX2_mayWind_88 (by decide) ?_
                      refine lv_istore_n (lv' := [(1, .int (jI 1)), (3, .int (jI 0)), (0, .ref (a 0)), (2, .int (jI (i : Int)))]) hx hb dX2_mayWind_92 rfl hl (by decide) rfl (fun ls hl => ?_)
                      refine lv_iinc (v := jI ((i + 1 : Nat) : Int)) (lv' := [(2, .int (jI ((i + 1 : Nat) : Int))), (1, .int (jI 1)), (3, .int (jI 0)), (0, .ref (a 0))]) hx hb dX2_mayWind_93 hl (k := 3) rfl (jI_inc _ 1) (by decide) rfl (fun ls hl => ?_)
                      refine lv_goto (tgt := 18) hx hb dX2_mayWind_96 (by decide) ?_
                      exact ih (i + 1) 1 ls (by omega) (by omega) hz (by omega) (lv_sub hl [3, 1, 0] rfl)
                    · rw [if_neg c80] at hz
                      refine lv_iload_n hx hb dX2_mayWind_83 rfl (lv_at hl 0 rfl) ?_
                      refine x_if_eq (tgt := 91) hx hb dX2_mayWind_84 (by decide) (by decide) (fun c84 => ?_) (fun c84 => absurd c84 (by decide))
                      refine lv_iconst (v := jI 0) hx hb dX2_mayWind_91 rfl ?_
                      refine lv_istore_n (lv' := [(1, .int (jI 0)), (3, .int (jI 0)), (0, .ref (a 0)), (2, .int (jI (i : Int)))]) hx hb dX2_mayWind_92 rfl hl (by decide) rfl (fun ls hl => ?_)
                      refine lv_iinc (v := jI ((i + 1 : Nat) : Int)) (lv' := [(2, .int (jI ((i + 1 : Nat) : Int))), (1, .int (jI 0)), (3, .int (jI 0)), (0, .ref (a 0))]) hx hb dX2_mayWind_93 hl (k := 3) rfl (jI_inc _ 1) (by decide) rfl (fun ls hl => ?_)
                      refine lv_goto (tgt := 18) hx hb dX2_mayWind_96 (by decide) ?_
                      exact ih (i + 1) 0 ls (by omega) (by omega) hz (by omega) (lv_sub hl [3, 1, 0] rfl)
                · rw [if_neg c61] at hz
                  refine lv_iconst (v := jI 1) hx hb dX2_mayWind_64 rfl ?_
                  refine lv_goto (tgt := 69) hx hb dX2_mayWind_65 (by decide) ?_
                  refine lv_istore_n (lv' := [(3, .int (jI 1)), (0, .ref (a 0)), (1, .int (jI v)), (2, .int (jI (i : Int)))]) hx hb dX2_mayWind_69 rfl hl (by decide) rfl (fun ls hl => ?_)
                  refine lv_iload_n hx hb dX2_mayWind_70 rfl (lv_at hl 2 rfl) ?_
                  refine x_if_eq (tgt := 91) hx hb dX2_mayWind_71 (by decide) (by omega) (fun c71 => ?_) (fun c71 => ?_)
                  · rw [if_pos c71] at hz
                    refine lv_iconst (v := jI 0) hx hb dX2_mayWind_91 rfl ?_
                    refine lv_istore_n (lv' := [(1, .int (jI 0)), (3, .int (jI 1)), (0, .ref (a 0)), (2, .int (jI (i : Int)))]) hx hb dX2_mayWind_92 rfl hl (by decide) rfl (fun ls hl => ?_)
                    refine lv_iinc (v := jI ((i + 1 : Nat) : Int)) (lv' := [(2, .int (jI ((i + 1 : Nat) : Int))), (1, .int (jI 0)), (3, .int (jI 1)), (0, .ref (a 0))]) hx hb dX2_mayWind_93 hl (k := 3) rfl (jI_inc _ 1) (by decide) rfl (fun ls hl => ?_)
                    refine lv_goto (tgt := 18) hx hb dX2_mayWind_96 (by decide) ?_
                    exact ih (i + 1) 0 ls (by omega) (by omega) hz (by omega) (lv_sub hl [3, 1, 0] rfl)
                  · rw [if_neg c71] at hz
                    refine lv_aload_n hx hb dX2_mayWind_74 rfl (lv_at hl 1 rfl) ?_
                    refine va_get (D := D) (ci := 2) (v := .ref (a 4)) (C := RX2) (T := TX2) (N := 11) hx hb hts inRX2 hown hK hP 0 rfl rfl 9 (by decide) qf19 (fun _ h9 => h9) rfl dX2_mayWind_75 ?_
                    refine lv_iload_n hx hb dX2_mayWind_78 rfl (lv_at hl 3 rfl) ?_
                    refine x_iald hx hb hK hP 4 0 rfl rfl i (by omega) (by omega) (by decide) dX2_mayWind_79 ?_
                    refine x_if_eq (tgt := 87) hx hb dX2_mayWind_80 (by decide) (by omega) (fun c80 => ?_) (fun c80 => ?_)
                    · rw [if_pos c80] at hz
                      refine lv_iconst (v := jI 1) hx hb dX2_mayWind_87 rfl ?_
                      refine lv_goto (tgt := 92) hx hb dX2_mayWind_88 (by decide) ?_
                      refine lv_istore_n (lv' := [(1, .int (jI 1)), (3, .int (jI 1)), (0, .ref (a 0)), (2, .int (jI (i : Int)))]) hx hb dX2_mayWind_92 rfl hl (by decide) rfl (fun ls hl => ?_)
                      refine lv_iinc (v := jI ((i + 1 : Nat) : Int)) (lv' := [(2, .int (jI ((i + 1 : Nat) : Int))), (1, .int (jI 1)), (3, .int (jI 1)), (0, .ref (a 0))]) hx hb dX2_mayWind_93 hl (k := 3) rfl (jI_inc _ 1) (by decide) rfl (fun ls hl => ?_)
                      refine lv_goto (tgt := 18) hx hb dX2_mayWind_96 (by decide) ?_
                      exact ih (i + 1) 1 ls (by omega) (by omega) hz (by omega) (lv_sub hl [3, 1, 0] rfl)
                    · rw [if_neg c80] at hz
                      refine lv_iload_n hx hb dX2_mayWind_83 rfl (lv_at hl 0 rfl) ?_
                      refine x_if_eq (tgt := 91) hx hb dX2_mayWind_84 (by decide) (by decide) (fun c84 => absurd c84 (by decide)) (fun c84 => ?_)
                      refine lv_iconst (v := jI 1) hx hb dX2_mayWind_87 rfl ?_
                      refine lv_goto (tgt := 92) hx hb dX2_mayWind_88 (by decide) ?_
                      refine lv_istore_n (lv' := [(1, .int (jI 1)), (3, .int (jI 1)), (0, .ref (a 0)), (2, .int (jI (i : Int)))]) hx hb dX2_mayWind_92 rfl hl (by decide) rfl (fun ls hl => ?_)
                      refine lv_iinc (v := jI ((i + 1 : Nat) : Int)) (lv' := [(2, .int (jI ((i + 1 : Nat) : Int))), (1, .int (jI 1)), (3, .int (jI 1)), (0, .ref (a 0))]) hx hb dX2_mayWind_93 hl (k := 3) rfl (jI_inc _ 1) (by decide) rfl (fun ls hl => ?_)
                      refine lv_goto (tgt := 18) hx hb dX2_mayWind_96 (by decide) ?_
                      exact ih (i + 1) 1 ls (by omega) (by omega) hz (by omega) (lv_sub hl [3, 1, 0] rfl)
    exact LP18 (3 + 1 - 0) 0 0 ls (by omega) (by omega) hz (by omega) (lv_sub hl [2, 1, 0] rfl)
  · rw [if_pos c7] at hz
    refine lv_iconst (v := jI 1) hx hb dX2_mayWind_10 rfl ?_
    refine lv_goto (tgt := 15) hx hb dX2_mayWind_11 (by decide) ?_
    refine lv_istore_n (lv' := [(1, .int (jI 1)), (0, .ref (a 0))]) hx hb dX2_mayWind_15 rfl hl (by decide) rfl (fun ls hl => ?_)
    refine lv_iconst (v := jI 0) hx hb dX2_mayWind_16 rfl ?_
    refine lv_istore_n (lv' := [(2, .int (jI 0)), (1, .int (jI 1)), (0, .ref (a 0))]) hx hb dX2_mayWind_17 rfl hl (by decide) rfl (fun ls hl => ?_)
    have LP18 : ∀ (k i : Nat) (v : Int) (ls : Array Slot), i ≤ 3 → i + k = 3 + 1 → z = (s_X2_mayWind_lp18 f so ma) k i v → (v = 0 ∨ v = 1) → lv_has ls 4 [(0, .ref (a 0)), (1, .int (jI v)), (2, .int (jI (i : Int)))] → W p l e rm_X2_mayWind s m ([.ref (a 0)] : List Value).toArray below meth c s.heap [] 0 0 (MQ below (vp_Si (fun x => x = jI z)) ([.ref (a 0)] : List Value).toArray s 0 0 (fun _ => False)) (F0 m 18 ls []) := by
      intro k
      induction k with
      | zero => intro i v ls h1 h2; exact absurd h2 (by omega)
      | succ k ih =>
        intro i v  ls h1 h2 hz hv hl
        rw [s_X2_mayWind_lp18] at hz
        refine lv_iload_n hx hb dX2_mayWind_18 rfl (lv_at hl 2 rfl) ?_
        refine lv_iconst (v := jI 3) hx hb dX2_mayWind_19 rfl ?_
        refine x_icmp_ge (tgt := 99) hx hb dX2_mayWind_20 (by decide) ⟨(by omega), (by decide)⟩ (fun c20 => ?_) (fun c20 => ?_)
        · rw [if_pos c20] at hz
          refine lv_iload_n hx hb dX2_mayWind_99 rfl (lv_at hl 1 rfl) ?_
          subst hz
          exact xr_z hx hb hr hlocks hv rfl dX2_mayWind_100
        · rw [if_neg c20] at hz
          have hw9 := hw2 i
          refine lv_aload_n hx hb dX2_mayWind_23 rfl (lv_at hl 0 rfl) ?_
          refine lv_iload_n hx hb dX2_mayWind_24 rfl (lv_at hl 2 rfl) ?_
          refine xc_R (As := [.int (jI (i : Int))]) (rest := []) hSx (m_X2_goes l D cI a f g n b len th at_ fl va so ma i (by omega) (by omega)) (cwV 1 hts gX2_mayWind_X2_goes rfl rfl rfl (by decide +kernel) ⟨Nat.le_of_ble_eq_true rfl, Nat.le_of_ble_eq_true rfl⟩) hP hK 0 rfl rfl rfl rfl hl.1 rfl (Nat.le_of_ble_eq_true rfl) dX2_mayWind_25 ⟨Nat.zero_le _, Nat.zero_le _⟩ ?_
          refine x_if_eq (tgt := 68) hx hb dX2_mayWind_28 (by decide) (b01 (b_X2_goes f i)) (fun c28 => ?_) (fun c28 => ?_)
          · rw [if_pos c28] at hz
            refine lv_iconst (v := jI 0) hx hb dX2_mayWind_68 rfl ?_
            refine lv_istore_n (lv' := [(3, .int (jI 0)), (0, .ref (a 0)), (1, .int (jI v)), (2, .int (jI (i : Int)))]) hx hb dX2_mayWind_69 rfl hl (by decide) rfl (fun ls hl => ?_)
            refine lv_iload_n hx hb dX2_mayWind_70 rfl (lv_at hl 2 rfl) ?_
            refine x_if_eq (tgt := 91) hx hb dX2_mayWind_71 (by decide) (by omega) (fun c71 => ?_) (fun c71 => ?_)
            · rw [if_pos c71] at hz
              refine lv_iconst (v := jI 0) hx hb dX2_mayWind_91 rfl ?_
              refine lv_istore_n (lv' := [(1, .int (jI 0)), (3, .int (jI 0)), (0, .ref (a 0)), (2, .int (jI (i : Int)))]) hx hb dX2_mayWind_92 rfl hl (by decide) rfl (fun ls hl => ?_)
              refine lv_iinc (v := jI ((i + 1 : Nat) : Int)) (lv' := [(2, .int (jI ((i + 1 : Nat) : Int))), (1, .int (jI 0)), (3, .int (jI 0)), (0, .ref (a 0))]) hx hb dX2_mayWind_93 hl (k := 3) rfl (jI_inc _ 1) (by decide) rfl (fun ls hl => ?_)
              refine lv_goto (tgt := 18) hx hb dX2_mayWind_96 (by decide) ?_
              exact ih (i + 1) 0 ls (by omega) (by omega) hz (by omega) (lv_sub hl [3, 1, 0] rfl)
            · rw [if_neg c71] at hz
              refine lv_aload_n hx hb dX2_mayWind_74 rfl (lv_at hl 1 rfl) ?_
              refine va_get (D := D) (ci := 2) (v := .ref (a 4)) (C := RX2) (T := TX2) (N := 11) hx hb hts inRX2 hown hK hP 0 rfl rfl 9 (by decide) qf19 (fun _ h9 => h9) rfl dX2_mayWind_75 ?_
              refine lv_iload_n hx hb dX2_mayWind_78 rfl (lv_at hl 3 rfl) ?_
              refine x_iald hx hb hK hP 4 0 rfl rfl i (by omega) (by omega) (by decide) dX2_mayWind_79 ?_
              refine x_if_eq (tgt := 87) hx hb dX2_mayWind_80 (by decide) (by omega) (fun c80 => ?_) (fun c80 => ?_)
              · rw [if_pos c80] at hz
                refine lv_iconst (v := jI 1) hx hb dX2_mayWind_87 rfl ?_
                refine lv_goto (tgt := 92) hx hb dX2_mayWind_88 (by decide) ?_
                refine lv_istore_n (lv' := [(1, .int (jI 1)), (3, .int (jI 0)), (0, .ref (a 0)), (2, .int (jI (i : Int)))]) hx hb dX2_mayWind_92 rfl hl (by decide) rfl (fun ls hl => ?_)
                refine lv_iinc (v := jI ((i + 1 : Nat) : Int)) (lv' := [(2, .int (jI ((i + 1 : Nat) : Int))), (1, .int (jI 1)), (3, .int (jI 0)), (0, .ref (a 0))]) hx hb dX2_mayWind_93 hl (k := 3) rfl (jI_inc _ 1) (by decide) rfl (fun ls hl => ?_)
                refine lv_goto (tgt := 18) hx hb dX2_mayWind_96 (by decide) ?_
                exact ih (i + 1) 1 ls (by omega) (by omega) hz (by omega) (lv_sub hl [3, 1, 0] rfl)
              · rw [if_neg c80] at hz
                refine lv_iload_n hx hb dX2_mayWind_83 rfl (lv_at hl 0 rfl) ?_
                refine x_if_eq (tgt := 91) hx hb dX2_mayWind_84 (by decide) (by decide) (fun c84 => ?_) (fun c84 => absurd c84 (by decide))
                refine lv_iconst (v := jI 0) hx hb dX2_mayWind_91 rfl ?_
                refine lv_istore_n (lv' := [(1, .int (jI 0)), (3, .int (jI 0)), (0, .ref (a 0)), (2, .int (jI (i : Int)))]) hx hb dX2_mayWind_92 rfl hl (by decide) rfl (fun ls hl => ?_)
                refine lv_iinc (v := jI ((i + 1 : Nat) : Int)) (lv' := [(2, .int (jI ((i + 1 : Nat) : Int))), (1, .int (jI 0)), (3, .int (jI 0)), (0, .ref (a 0))]) hx hb dX2_mayWind_93 hl (k := 3) rfl (jI_inc _ 1) (by decide) rfl (fun ls hl => ?_)
                refine lv_goto (tgt := 18) hx hb dX2_mayWind_96 (by decide) ?_
                exact ih (i + 1) 0 ls (by omega) (by omega) hz (by omega) (lv_sub hl [3, 1, 0] rfl)
          · rw [if_neg c28] at hz
            refine lv_aload_n hx hb dX2_mayWind_31 rfl (lv_at hl 0 rfl) ?_
            refine va_get (D := D) (ci := 2) (v := .ref (a 4)) (C := RX2) (T := TX2) (N := 11) hx hb hts inRX2 hown hK hP 0 rfl rfl 9 (by decide) qf19 (fun _ h9 => h9) rfl dX2_mayWind_32 ?_
            refine lv_iload_n hx hb dX2_mayWind_35 rfl (lv_at hl 2 rfl) ?_
            refine x_iald hx hb hK hP 4 0 rfl rfl i (by omega) (by omega) (by decide) dX2_mayWind_36 ?_
            refine lv_iconst (v := jI 2) hx hb dX2_mayWind_37 rfl ?_
            refine x_icmp_ne (tgt := 49) hx hb dX2_mayWind_38 (by decide) ⟨(by omega), (by decide)⟩ (fun c38 => ?_) (fun c38 => ?_)
            · rw [if_neg c38] at hz
              refine lv_aload_n hx hb dX2_mayWind_49 rfl (lv_at hl 0 rfl) ?_
              refine lv_iload_n hx hb dX2_mayWind_50 rfl (lv_at hl 2 rfl) ?_
              refine xc_R (As := [.int (jI (i : Int))]) (rest := []) hSx (m_X2_woundBy l D cI a f g n b len th at_ fl va so ma i (by omega) (by omega) (by omega) (by omega)) (cwV 1 hts gX2_mayWind_X2_woundBy rfl rfl rfl (by decide +kernel) ⟨Nat.le_of_ble_eq_true rfl, Nat.le_of_ble_eq_true rfl⟩) hP hK 0 rfl rfl rfl rfl hl.1 rfl (Nat.le_of_ble_eq_true rfl) dX2_mayWind_51 ⟨Nat.zero_le _, Nat.zero_le _⟩ ?_
              have hwb := r_X2_woundBy f so ma i hw2
              refine lv_iconst (v := jI 1) hx hb dX2_mayWind_54 rfl ?_
              refine lv_sipush (v := jI 200) hx hb dX2_mayWind_55 (by decide) ?_
              refine xc_P (As := [.int (jI (s_X2_woundBy f so ma i)), .int (jI 1), .int (jI 200)]) (rest := []) hSx (m_X2_in l (s_X2_woundBy f so ma i) 1 200 (by omega) (by decide) (by decide)) (va_cwS 3 hts gX2_mayWind_X2_in rfl rfl rfl (by decide +kernel) ⟨Nat.le_of_ble_eq_true rfl, Nat.le_of_ble_eq_true rfl⟩) rfl hl.1 rfl (Nat.le_of_ble_eq_true rfl) dX2_mayWind_58 ⟨Nat.zero_le _, Nat.zero_le _⟩ ?_
              refine x_if_eq (tgt := 68) hx hb dX2_mayWind_61 (by decide) (b01 (b_X2_in (s_X2_woundBy f so ma i) 1 200)) (fun c61 => ?_) (fun c61 => ?_)
              · rw [if_pos c61] at hz
                refine lv_iconst (v := jI 0) hx hb dX2_mayWind_68 rfl ?_
                refine lv_istore_n (lv' := [(3, .int (jI 0)), (0, .ref (a 0)), (1, .int (jI v)), (2, .int (jI (i : Int)))]) hx hb dX2_mayWind_69 rfl hl (by decide) rfl (fun ls hl => ?_)
                refine lv_iload_n hx hb dX2_mayWind_70 rfl (lv_at hl 2 rfl) ?_
                refine x_if_eq (tgt := 91) hx hb dX2_mayWind_71 (by decide) (by omega) (fun c71 => ?_) (fun c71 => ?_)
                · rw [if_pos c71] at hz
                  refine lv_iconst (v := jI 0) hx hb dX2_mayWind_91 rfl ?_
                  refine lv_istore_n (lv' := [(1, .int (jI 0)), (3, .int (jI 0)), (0, .ref (a 0)), (2, .int (jI (i : Int)))]) hx hb dX2_mayWind_92 rfl hl (by decide) rfl (fun ls hl => ?_)
                  refine lv_iinc (v := jI ((i + 1 : Nat) : Int)) (lv' := [(2, .int (jI ((i + 1 : Nat) : Int))), (1, .int (jI 0)), (3, .int (jI 0)), (0, .ref (a 0))]) hx hb dX2_mayWind_93 hl (k := 3) rfl (jI_inc _ 1) (by decide) rfl (fun ls hl => ?_)
                  refine lv_goto (tgt := 18) hx hb dX2_mayWind_96 (by decide) ?_
                  exact ih (i + 1) 0 ls (by omega) (by omega) hz (by omega) (lv_sub hl [3, 1, 0] rfl)
                · rw [if_neg c71] at hz
                  refine lv_aload_n hx hb dX2_mayWind_74 rfl (lv_at hl 1 rfl) ?_
                  refine va_get (D := D) (ci := 2) (v := .ref (a 4)) (C := RX2) (T := TX2) (N := 11) hx hb hts inRX2 hown hK hP 0 rfl rfl 9 (by decide) qf19 (fun _ h9 => h9) rfl dX2_mayWind_75 ?_
                  refine lv_iload_n hx hb dX2_mayWind_78 rfl (lv_at hl 3 rfl) ?_
                  refine x_iald hx hb hK hP 4 0 rfl rfl i (by omega) (by omega) (by decide) dX2_mayWind_79 ?_
                  refine x_if_eq (tgt := 87) hx hb dX2_mayWind_80 (by decide) (by omega) (fun c80 => ?_) (fun c80 => ?_)
                  · rw [if_pos c80] at hz
                    refine lv_iconst (v := jI 1) hx hb dX2_mayWind_87 rfl ?_
                    refine lv_goto (tgt := 92) hx hb dX2_mayWind_88 (by decide) ?_
                    refine lv_istore_n (lv' := [(1, .int (jI 1)), (3, .int (jI 0)), (0, .ref (a 0)), (2, .int (jI (i : Int)))]) hx hb dX2_mayWind_92 rfl hl (by decide) rfl (fun ls hl => ?_)
                    refine lv_iinc (v := jI ((i + 1 : Nat) : Int)) (lv' := [(2, .int (jI ((i + 1 : Nat) : Int))), (1, .int (jI 1)), (3, .int (jI 0)), (0, .ref (a 0))]) hx hb dX2_mayWind_93 hl (k := 3) rfl (jI_inc _ 1) (by decide) rfl (fun ls hl => ?_)
                    refine lv_goto (tgt := 18) hx hb dX2_mayWind_96 (by decide) ?_
                    exact ih (i + 1) 1 ls (by omega) (by omega) hz (by omega) (lv_sub hl [3, 1, 0] rfl)
                  · rw [if_neg c80] at hz
                    refine lv_iload_n hx hb dX2_mayWind_83 rfl (lv_at hl 0 rfl) ?_
                    refine x_if_eq (tgt := 91) hx hb dX2_mayWind_84 (by decide) (by decide) (fun c84 => ?_) (fun c84 => absurd c84 (by decide))
                    refine lv_iconst (v := jI 0) hx hb dX2_mayWind_91 rfl ?_
                    refine lv_istore_n (lv' := [(1, .int (jI 0)), (3, .int (jI 0)), (0, .ref (a 0)), (2, .int (jI (i : Int)))]) hx hb dX2_mayWind_92 rfl hl (by decide) rfl (fun ls hl => ?_)
                    refine lv_iinc (v := jI ((i + 1 : Nat) : Int)) (lv' := [(2, .int (jI ((i + 1 : Nat) : Int))), (1, .int (jI 0)), (3, .int (jI 0)), (0, .ref (a 0))]) hx hb dX2_mayWind_93 hl (k := 3) rfl (jI_inc _ 1) (by decide) rfl (fun ls hl => ?_)
                    refine lv_goto (tgt := 18) hx hb dX2_mayWind_96 (by decide) ?_
                    exact ih (i + 1) 0 ls (by omega) (by omega) hz (by omega) (lv_sub hl [3, 1, 0] rfl)
              · rw [if_neg c61] at hz
                refine lv_iconst (v := jI 1) hx hb dX2_mayWind_64 rfl ?_
                refine lv_goto (tgt := 69) hx hb dX2_mayWind_65 (by decide) ?_
                refine lv_istore_n (lv' := [(3, .int (jI 1)), (0, .ref (a 0)), (1, .int (jI v)), (2, .int (jI (i : Int)))]) hx hb dX2_mayWind_69 rfl hl (by decide) rfl (fun ls hl => ?_)
                refine lv_iload_n hx hb dX2_mayWind_70 rfl (lv_at hl 2 rfl) ?_
                refine x_if_eq (tgt := 91) hx hb dX2_mayWind_71 (by decide) (by omega) (fun c71 => ?_) (fun c71 => ?_)
                · rw [if_pos c71] at hz
                  refine lv_iconst (v := jI 0) hx hb dX2_mayWind_91 rfl ?_
                  refine lv_istore_n (lv' := [(1, .int (jI 0)), (3, .int (jI 1)), (0, .ref (a 0)), (2, .int (jI (i : Int)))]) hx hb dX2_mayWind_92 rfl hl (by decide) rfl (fun ls hl => ?_)
                  refine lv_iinc (v := jI ((i + 1 : Nat) : Int)) (lv' := [(2, .int (jI ((i + 1 : Nat) : Int))), (1, .int (jI 0)), (3, .int (jI 1)), (0, .ref (a 0))]) hx hb dX2_mayWind_93 hl (k := 3) rfl (jI_inc _ 1) (by decide) rfl (fun ls hl => ?_)
                  refine lv_goto (tgt := 18) hx hb dX2_mayWind_96 (by decide) ?_
                  exact ih (i + 1) 0 ls (by omega) (by omega) hz (by omega) (lv_sub hl [3, 1, 0] rfl)
                · rw [if_neg c71] at hz
                  refine lv_aload_n hx hb dX2_mayWind_74 rfl (lv_at hl 1 rfl) ?_
                  refine va_get (D := D) (ci := 2) (v := .ref (a 4)) (C := RX2) (T := TX2) (N := 11) hx hb hts inRX2 hown hK hP 0 rfl rfl 9 (by decide) qf19 (fun _ h9 => h9) rfl dX2_mayWind_75 ?_
                  refine lv_iload_n hx hb dX2_mayWind_78 rfl (lv_at hl 3 rfl) ?_
                  refine x_iald hx hb hK hP 4 0 rfl rfl i (by omega) (by omega) (by decide) dX2_mayWind_79 ?_
                  refine x_if_eq (tgt := 87) hx hb dX2_mayWind_80 (by decide) (by omega) (fun c80 => ?_) (fun c80 => ?_)
                  · rw [if_pos c80] at hz
                    refine lv_iconst (v := jI 1) hx hb dX2_mayWind_87 rfl ?_
                    refine lv_goto (tgt := 92) hx hb dX2_mayWind_88 (by decide) ?_
                    refine lv_istore_n (lv' := [(1, .int (jI 1)), (3, .int (jI 1)), (0, .ref (a 0)), (2, .int (jI (i : Int)))]) hx hb dX2_mayWind_92 rfl hl (by decide) rfl (fun ls hl => ?_)
                    refine lv_iinc (v := jI ((i + 1 : Nat) : Int)) (lv' := [(2, .int (jI ((i + 1 : Nat) : Int))), (1, .int (jI 1)), (3, .int (jI 1)), (0, .ref (a 0))]) hx hb dX2_mayWind_93 hl (k := 3) rfl (jI_inc _ 1) (by decide) rfl (fun ls hl => ?_)
                    refine lv_goto (tgt := 18) hx hb dX2_mayWind_96 (by decide) ?_
                    exact ih (i + 1) 1 ls (by omega) (by omega) hz (by omega) (lv_sub hl [3, 1, 0] rfl)
                  · rw [if_neg c80] at hz
                    refine lv_iload_n hx hb dX2_mayWind_83 rfl (lv_at hl 0 rfl) ?_
                    refine x_if_eq (tgt := 91) hx hb dX2_mayWind_84 (by decide) (by decide) (fun c84 => absurd c84 (by decide)) (fun c84 => ?_)
                    refine lv_iconst (v := jI 1) hx hb dX2_mayWind_87 rfl ?_
                    refine lv_goto (tgt := 92) hx hb dX2_mayWind_88 (by decide) ?_
                    refine lv_istore_n (lv' := [(1, .int (jI 1)), (3, .int (jI 1)), (0, .ref (a 0)), (2, .int (jI (i : Int)))]) hx hb dX2_mayWind_92 rfl hl (by decide) rfl (fun ls hl => ?_)
                    refine lv_iinc (v := jI ((i + 1 : Nat) : Int)) (lv' := [(2, .int (jI ((i + 1 : Nat) : Int))), (1, .int (jI 1)), (3, .int (jI 1)), (0, .ref (a 0))]) hx hb dX2_mayWind_93 hl (k := 3) rfl (jI_inc _ 1) (by decide) rfl (fun ls hl => ?_)
                    refine lv_goto (tgt := 18) hx hb dX2_mayWind_96 (by decide) ?_
                    exact ih (i + 1) 1 ls (by omega) (by omega) hz (by omega) (lv_sub hl [3, 1, 0] rfl)
            · rw [if_pos c38] at hz
              refine lv_aload_n hx hb dX2_mayWind_41 rfl (lv_at hl 0 rfl) ?_
              refine xc_R (As := []) (rest := []) hSx (m_X2_toOpening l D cI a f g n b len th at_ fl va so ma  (by omega) (by omega)) (cwV 0 hts gX2_mayWind_X2_toOpening rfl rfl rfl (by decide +kernel) ⟨Nat.le_of_ble_eq_true rfl, Nat.le_of_ble_eq_true rfl⟩) hP hK 0 rfl rfl rfl rfl hl.1 rfl (Nat.le_of_ble_eq_true rfl) dX2_mayWind_42 ⟨Nat.zero_le _, Nat.zero_le _⟩ ?_
              have hto := r_X2_toOpening f
              refine lv_iconst (v := jI (-1)) hx hb dX2_mayWind_45 rfl ?_
              refine x_icmp_eq (tgt := 68) hx hb dX2_mayWind_46 (by decide) ⟨(by omega), (by decide)⟩ (fun c46 => ?_) (fun c46 => ?_)
              · rw [if_pos c46] at hz
                refine lv_iconst (v := jI 0) hx hb dX2_mayWind_68 rfl ?_
                refine lv_istore_n (lv' := [(3, .int (jI 0)), (0, .ref (a 0)), (1, .int (jI v)), (2, .int (jI (i : Int)))]) hx hb dX2_mayWind_69 rfl hl (by decide) rfl (fun ls hl => ?_)
                refine lv_iload_n hx hb dX2_mayWind_70 rfl (lv_at hl 2 rfl) ?_
                refine x_if_eq (tgt := 91) hx hb dX2_mayWind_71 (by decide) (by omega) (fun c71 => ?_) (fun c71 => ?_)
                · rw [if_pos c71] at hz
                  refine lv_iconst (v := jI 0) hx hb dX2_mayWind_91 rfl ?_
                  refine lv_istore_n (lv' := [(1, .int (jI 0)), (3, .int (jI 0)), (0, .ref (a 0)), (2, .int (jI (i : Int)))]) hx hb dX2_mayWind_92 rfl hl (by decide) rfl (fun ls hl => ?_)
                  refine lv_iinc (v := jI ((i + 1 : Nat) : Int)) (lv' := [(2, .int (jI ((i + 1 : Nat) : Int))), (1, .int (jI 0)), (3, .int (jI 0)), (0, .ref (a 0))]) hx hb dX2_mayWind_93 hl (k := 3) rfl (jI_inc _ 1) (by decide) rfl (fun ls hl => ?_)
                  refine lv_goto (tgt := 18) hx hb dX2_mayWind_96 (by decide) ?_
                  exact ih (i + 1) 0 ls (by omega) (by omega) hz (by omega) (lv_sub hl [3, 1, 0] rfl)
                · rw [if_neg c71] at hz
                  refine lv_aload_n hx hb dX2_mayWind_74 rfl (lv_at hl 1 rfl) ?_
                  refine va_get (D := D) (ci := 2) (v := .ref (a 4)) (C := RX2) (T := TX2) (N := 11) hx hb hts inRX2 hown hK hP 0 rfl rfl 9 (by decide) qf19 (fun _ h9 => h9) rfl dX2_mayWind_75 ?_
                  refine lv_iload_n hx hb dX2_mayWind_78 rfl (lv_at hl 3 rfl) ?_
                  refine x_iald hx hb hK hP 4 0 rfl rfl i (by omega) (by omega) (by decide) dX2_mayWind_79 ?_
                  refine x_if_eq (tgt := 87) hx hb dX2_mayWind_80 (by decide) (by omega) (fun c80 => ?_) (fun c80 => ?_)
                  · rw [if_pos c80] at hz
                    refine lv_iconst (v := jI 1) hx hb dX2_mayWind_87 rfl ?_
                    refine lv_goto (tgt := 92) hx hb dX2_mayWind_88 (by decide) ?_
                    refine lv_istore_n (lv' := [(1, .int (jI 1)), (3, .int (jI 0)), (0, .ref (a 0)), (2, .int (jI (i : Int)))]) hx hb dX2_mayWind_92 rfl hl (by decide) rfl (fun ls hl => ?_)
                    refine lv_iinc (v := jI ((i + 1 : Nat) : Int)) (lv' := [(2, .int (jI ((i + 1 : Nat) : Int))), (1, .int (jI 1)), (3, .int (jI 0)), (0, .ref (a 0))]) hx hb dX2_mayWind_93 hl (k := 3) rfl (jI_inc _ 1) (by decide) rfl (fun ls hl => ?_)
                    refine lv_goto (tgt := 18) hx hb dX2_mayWind_96 (by decide) ?_
                    exact ih (i + 1) 1 ls (by omega) (by omega) hz (by omega) (lv_sub hl [3, 1, 0] rfl)
                  · rw [if_neg c80] at hz
                    refine lv_iload_n hx hb dX2_mayWind_83 rfl (lv_at hl 0 rfl) ?_
                    refine x_if_eq (tgt := 91) hx hb dX2_mayWind_84 (by decide) (by decide) (fun c84 => ?_) (fun c84 => absurd c84 (by decide))
                    refine lv_iconst (v := jI 0) hx hb dX2_mayWind_91 rfl ?_
                    refine lv_istore_n (lv' := [(1, .int (jI 0)), (3, .int (jI 0)), (0, .ref (a 0)), (2, .int (jI (i : Int)))]) hx hb dX2_mayWind_92 rfl hl (by decide) rfl (fun ls hl => ?_)
                    refine lv_iinc (v := jI ((i + 1 : Nat) : Int)) (lv' := [(2, .int (jI ((i + 1 : Nat) : Int))), (1, .int (jI 0)), (3, .int (jI 0)), (0, .ref (a 0))]) hx hb dX2_mayWind_93 hl (k := 3) rfl (jI_inc _ 1) (by decide) rfl (fun ls hl => ?_)
                    refine lv_goto (tgt := 18) hx hb dX2_mayWind_96 (by decide) ?_
                    exact ih (i + 1) 0 ls (by omega) (by omega) hz (by omega) (lv_sub hl [3, 1, 0] rfl)
              · rw [if_neg c46] at hz
                refine lv_aload_n hx hb dX2_mayWind_49 rfl (lv_at hl 0 rfl) ?_
                refine lv_iload_n hx hb dX2_mayWind_50 rfl (lv_at hl 2 rfl) ?_
                refine xc_R (As := [.int (jI (i : Int))]) (rest := []) hSx (m_X2_woundBy l D cI a f g n b len th at_ fl va so ma i (by omega) (by omega) (by omega) (by omega)) (cwV 1 hts gX2_mayWind_X2_woundBy rfl rfl rfl (by decide +kernel) ⟨Nat.le_of_ble_eq_true rfl, Nat.le_of_ble_eq_true rfl⟩) hP hK 0 rfl rfl rfl rfl hl.1 rfl (Nat.le_of_ble_eq_true rfl) dX2_mayWind_51 ⟨Nat.zero_le _, Nat.zero_le _⟩ ?_
                have hwb := r_X2_woundBy f so ma i hw2
                refine lv_iconst (v := jI 1) hx hb dX2_mayWind_54 rfl ?_
                refine lv_sipush (v := jI 200) hx hb dX2_mayWind_55 (by decide) ?_
                refine xc_P (As := [.int (jI (s_X2_woundBy f so ma i)), .int (jI 1), .int (jI 200)]) (rest := []) hSx (m_X2_in l (s_X2_woundBy f so ma i) 1 200 (by omega) (by decide) (by decide)) (va_cwS 3 hts gX2_mayWind_X2_in rfl rfl rfl (by decide +kernel) ⟨Nat.le_of_ble_eq_true rfl, Nat.le_of_ble_eq_true rfl⟩) rfl hl.1 rfl (Nat.le_of_ble_eq_true rfl) dX2_mayWind_58 ⟨Nat.zero_le _, Nat.zero_le _⟩ ?_
                refine x_if_eq (tgt := 68) hx hb dX2_mayWind_61 (by decide) (b01 (b_X2_in (s_X2_woundBy f so ma i) 1 200)) (fun c61 => ?_) (fun c61 => ?_)
                · rw [if_pos c61] at hz
                  refine lv_iconst (v := jI 0) hx hb dX2_mayWind_68 rfl ?_
                  refine lv_istore_n (lv' := [(3, .int (jI 0)), (0, .ref (a 0)), (1, .int (jI v)), (2, .int (jI (i : Int)))]) hx hb dX2_mayWind_69 rfl hl (by decide) rfl (fun ls hl => ?_)
                  refine lv_iload_n hx hb dX2_mayWind_70 rfl (lv_at hl 2 rfl) ?_
                  refine x_if_eq (tgt := 91) hx hb dX2_mayWind_71 (by decide) (by omega) (fun c71 => ?_) (fun c71 => ?_)
                  · rw [if_pos c71] at hz
                    refine lv_iconst (v := jI 0) hx hb dX2_mayWind_91 rfl ?_
                    refine lv_istore_n (lv' := [(1, .int (jI 0)), (3, .int (jI 0)), (0, .ref (a 0)), (2, .int (jI (i : Int)))]) hx hb dX2_mayWind_92 rfl hl (by decide) rfl (fun ls hl => ?_)
                    refine lv_iinc (v := jI ((i + 1 : Nat) : Int)) (lv' := [(2, .int (jI ((i + 1 : Nat) : Int))), (1, .int (jI 0)), (3, .int (jI 0)), (0, .ref (a 0))]) hx hb dX2_mayWind_93 hl (k := 3) rfl (jI_inc _ 1) (by decide) rfl (fun ls hl => ?_)
                    refine lv_goto (tgt := 18) hx hb dX2_mayWind_96 (by decide) ?_
                    exact ih (i + 1) 0 ls (by omega) (by omega) hz (by omega) (lv_sub hl [3, 1, 0] rfl)
                  · rw [if_neg c71] at hz
                    refine lv_aload_n hx hb dX2_mayWind_74 rfl (lv_at hl 1 rfl) ?_
                    refine va_get (D := D) (ci := 2) (v := .ref (a 4)) (C := RX2) (T := TX2) (N := 11) hx hb hts inRX2 hown hK hP 0 rfl rfl 9 (by decide) qf19 (fun _ h9 => h9) rfl dX2_mayWind_75 ?_
                    refine lv_iload_n hx hb dX2_mayWind_78 rfl (lv_at hl 3 rfl) ?_
                    refine x_iald hx hb hK hP 4 0 rfl rfl i (by omega) (by omega) (by decide) dX2_mayWind_79 ?_
                    refine x_if_eq (tgt := 87) hx hb dX2_mayWind_80 (by decide) (by omega) (fun c80 => ?_) (fun c80 => ?_)
                    · rw [if_pos c80] at hz
                      refine lv_iconst (v := jI 1) hx hb dX2_mayWind_87 rfl ?_
                      refine lv_goto (tgt := 92) hx hb dX2_mayWind_88 (by decide) ?_
                      refine lv_istore_n (lv' := [(1, .int (jI 1)), (3, .int (jI 0)), (0, .ref (a 0)), (2, .int (jI (i : Int)))]) hx hb dX2_mayWind_92 rfl hl (by decide) rfl (fun ls hl => ?_)
                      refine lv_iinc (v := jI ((i + 1 : Nat) : Int)) (lv' := [(2, .int (jI ((i + 1 : Nat) : Int))), (1, .int (jI 1)), (3, .int (jI 0)), (0, .ref (a 0))]) hx hb dX2_mayWind_93 hl (k := 3) rfl (jI_inc _ 1) (by decide) rfl (fun ls hl => ?_)
                      refine lv_goto (tgt := 18) hx hb dX2_mayWind_96 (by decide) ?_
                      exact ih (i + 1) 1 ls (by omega) (by omega) hz (by omega) (lv_sub hl [3, 1, 0] rfl)
                    · rw [if_neg c80] at hz
                      refine lv_iload_n hx hb dX2_mayWind_83 rfl (lv_at hl 0 rfl) ?_
                      refine x_if_eq (tgt := 91) hx hb dX2_mayWind_84 (by decide) (by decide) (fun c84 => ?_) (fun c84 => absurd c84 (by decide))
                      refine lv_iconst (v := jI 0) hx hb dX2_mayWind_91 rfl ?_
                      refine lv_istore_n (lv' := [(1, .int (jI 0)), (3, .int (jI 0)), (0, .ref (a 0)), (2, .int (jI (i : Int)))]) hx hb dX2_mayWind_92 rfl hl (by decide) rfl (fun ls hl => ?_)
                      refine lv_iinc (v := jI ((i + 1 : Nat) : Int)) (lv' := [(2, .int (jI ((i + 1 : Nat) : Int))), (1, .int (jI 0)), (3, .int (jI 0)), (0, .ref (a 0))]) hx hb dX2_mayWind_93 hl (k := 3) rfl (jI_inc _ 1) (by decide) rfl (fun ls hl => ?_)
                      refine lv_goto (tgt := 18) hx hb dX2_mayWind_96 (by decide) ?_
                      exact ih (i + 1) 0 ls (by omega) (by omega) hz (by omega) (lv_sub hl [3, 1, 0] rfl)
                · rw [if_neg c61] at hz
                  refine lv_iconst (v := jI 1) hx hb dX2_mayWind_64 rfl ?_
                  refine lv_goto (tgt := 69) hx hb dX2_mayWind_65 (by decide) ?_
                  refine lv_istore_n (lv' := [(3, .int (jI 1)), (0, .ref (a 0)), (1, .int (jI v)), (2, .int (jI (i : Int)))]) hx hb dX2_mayWind_69 rfl hl (by decide) rfl (fun ls hl => ?_)
                  refine lv_iload_n hx hb dX2_mayWind_70 rfl (lv_at hl 2 rfl) ?_
                  refine x_if_eq (tgt := 91) hx hb dX2_mayWind_71 (by decide) (by omega) (fun c71 => ?_) (fun c71 => ?_)
                  · rw [if_pos c71] at hz
                    refine lv_iconst (v := jI 0) hx hb dX2_mayWind_91 rfl ?_
                    refine lv_istore_n (lv' := [(1, .int (jI 0)), (3, .int (jI 1)), (0, .ref (a 0)), (2, .int (jI (i : Int)))]) hx hb dX2_mayWind_92 rfl hl (by decide) rfl (fun ls hl => ?_)
                    refine lv_iinc (v := jI ((i + 1 : Nat) : Int)) (lv' := [(2, .int (jI ((i + 1 : Nat) : Int))), (1, .int (jI 0)), (3, .int (jI 1)), (0, .ref (a 0))]) hx hb dX2_mayWind_93 hl (k := 3) rfl (jI_inc _ 1) (by decide) rfl (fun ls hl => ?_)
                    refine lv_goto (tgt := 18) hx hb dX2_mayWind_96 (by decide) ?_
                    exact ih (i + 1) 0 ls (by omega) (by omega) hz (by omega) (lv_sub hl [3, 1, 0] rfl)
                  · rw [if_neg c71] at hz
                    refine lv_aload_n hx hb dX2_mayWind_74 rfl (lv_at hl 1 rfl) ?_
                    refine va_get (D := D) (ci := 2) (v := .ref (a 4)) (C := RX2) (T := TX2) (N := 11) hx hb hts inRX2 hown hK hP 0 rfl rfl 9 (by decide) qf19 (fun _ h9 => h9) rfl dX2_mayWind_75 ?_
                    refine lv_iload_n hx hb dX2_mayWind_78 rfl (lv_at hl 3 rfl) ?_
                    refine x_iald hx hb hK hP 4 0 rfl rfl i (by omega) (by omega) (by decide) dX2_mayWind_79 ?_
                    refine x_if_eq (tgt := 87) hx hb dX2_mayWind_80 (by decide) (by omega) (fun c80 => ?_) (fun c80 => ?_)
                    · rw [if_pos c80] at hz
                      refine lv_iconst (v := jI 1) hx hb dX2_mayWind_87 rfl ?_
                      refine lv_goto (tgt := 92) hx hb dX2_mayWind_88 (by decide) ?_
                      refine lv_istore_n (lv' := [(1, .int (jI 1)), (3, .int (jI 1)), (0, .ref (a 0)), (2, .int (jI (i : Int)))]) hx hb dX2_mayWind_92 rfl hl (by decide) rfl (fun ls hl => ?_)
                      refine lv_iinc (v := jI ((i + 1 : Nat) : Int)) (lv' := [(2, .int (jI ((i + 1 : Nat) : Int))), (1, .int (jI 1)), (3, .int (jI 1)), (0, .ref (a 0))]) hx hb dX2_mayWind_93 hl (k := 3) rfl (jI_inc _ 1) (by decide) rfl (fun ls hl => ?_)
                      refine lv_goto (tgt := 18) hx hb dX2_mayWind_96 (by decide) ?_
                      exact ih (i + 1) 1 ls (by omega) (by omega) hz (by omega) (lv_sub hl [3, 1, 0] rfl)
                    · rw [if_neg c80] at hz
                      refine lv_iload_n hx hb dX2_mayWind_83 rfl (lv_at hl 0 rfl) ?_
                      refine x_if_eq (tgt := 91) hx hb dX2_mayWind_84 (by decide) (by decide) (fun c84 => absurd c84 (by decide)) (fun c84 => ?_)
                      refine lv_iconst (v := jI 1) hx hb dX2_mayWind_87 rfl ?_
                      refine lv_goto (tgt := 92) hx hb dX2_mayWind_88 (by decide) ?_
                      refine lv_istore_n (lv' := [(1, .int (jI 1)), (3, .int (jI 1)), (0, .ref (a 0)), (2, .int (jI (i : Int)))]) hx hb dX2_mayWind_92 rfl hl (by decide) rfl (fun ls hl => ?_)
                      refine lv_iinc (v := jI ((i + 1 : Nat) : Int)) (lv' := [(2, .int (jI ((i + 1 : Nat) : Int))), (1, .int (jI 1)), (3, .int (jI 1)), (0, .ref (a 0))]) hx hb dX2_mayWind_93 hl (k := 3) rfl (jI_inc _ 1) (by decide) rfl (fun ls hl => ?_)
                      refine lv_goto (tgt := 18) hx hb dX2_mayWind_96 (by decide) ?_
                      exact ih (i + 1) 1 ls (by omega) (by omega) hz (by omega) (lv_sub hl [3, 1, 0] rfl)
    exact LP18 (3 + 1 - 0) 0 1 ls (by omega) (by omega) hz (by omega) (lv_sub hl [2, 1, 0] rfl)
def s_X2_windAll_lp44 (f : Nat → Int) (g : Nat → Int) (n : Nat) (b : Nat → Int) (len : Nat) (va : Int) (so : Nat → Int) (ma : Nat → Int) : Nat → Nat → (Nat → Int) → Int → Int × Int × (Nat → Int) × (Nat → Int) × Nat × Nat × Nat × Int × Int × (Nat → Int) × (Nat → Int)
  | 0, _, _, _ => default
  | k + 1, i, f9, v => if 3 ≤ (i : Int) then (v, 0, f9, (s_X2_saves f g n).1, (s_X2_saves f g n).2, 0, (s_X2_isText b len va so ma).2.1, (s_X2_isText b len va so ma).2.2.1, (s_X2_isText b len va so ma).2.2.2.1, (s_X2_isText b len va so ma).2.2.2.2.1, (s_X2_isText b len va so ma).2.2.2.2.2) else (if (((s_X2_isText b len va so ma).2.2.2.2.1) i) ≤ 0 then (s_X2_windAll_lp44 f g n b len va so ma k (i + 1) f9 v) else (s_X2_windAll_lp44 f g n b len va so ma k (i + 1) (upz f9 (21 + (4 * i)) (s_X2_woundBy f9 ((s_X2_isText b len va so ma).2.2.2.2.1) ((s_X2_isText b len va so ma).2.2.2.2.2) i)) (v + 1)))
def s_X2_windAll (f : Nat → Int) (g : Nat → Int) (n : Nat) (b : Nat → Int) (len : Nat) (va : Int) (so : Nat → Int) (ma : Nat → Int) : Int × Int × (Nat → Int) × (Nat → Int) × Nat × Nat × Nat × Int × Int × (Nat → Int) × (Nat → Int) := if ((s_X2_isText b len va so ma).1) = 0 then ((s_X2_fails 1).1, (s_X2_fails 1).2, f, g, n, len, (s_X2_isText b len va so ma).2.1, (s_X2_isText b len va so ma).2.2.1, (s_X2_isText b len va so ma).2.2.2.1, (s_X2_isText b len va so ma).2.2.2.2.1, (s_X2_isText b len va so ma).2.2.2.2.2) else (if (s_X2_mayWind f ((s_X2_isText b len va so ma).2.2.2.2.1) ((s_X2_isText b len va so ma).2.2.2.2.2)) = 0 then ((s_X2_fails 2).1, (s_X2_fails 2).2, f, g, n, len, (s_X2_isText b len va so ma).2.1, (s_X2_isText b len va so ma).2.2.1, (s_X2_isText b len va so ma).2.2.2.1, (s_X2_isText b len va so ma).2.2.2.2.1, (s_X2_isText b len va so ma).2.2.2.2.2) else (s_X2_windAll_lp44 f g n b len va so ma (3 + 1 - 0) 0 f 0))
abbrev rm_X2_windAll : Room := { frames := 5, cells := 0, slots := 0, locals := 109 }
set_option maxHeartbeats 4000000 in
set_option maxRecDepth 100000 in
theorem m_X2_windAll (l : Launch) (D : va_G) (cI : ClassId) (a : Nat → Nat) (f : Nat → Int) (g : Nat → Int) (n : Nat) (b : Nat → Int) (len : Nat) (th : Int) (at_ : Nat) (fl : Int) (va : Int) (so : Nat → Int) (ma : Nat → Int) (hn : n ≤ 6) (hrf : rng f) (hh : 0 ≤ f 0 ∧ f 0 ≤ 99999) (hbf : ∀ k : Nat, k < len → 33 ≤ b k ∧ b k ≤ 126) (hln : len ≤ 60) (hva : 0 ≤ va ∧ va ≤ 200) (hw2 : wo2 so ma) : MetI l yX2_windAll wsX2_windAll rm_X2_windAll D cI [.ref (a 0)] (w2 cI a f g n b len th at_ fl va so ma) (w2 cI a ((s_X2_windAll f g n b len va so ma).2.2.1) ((s_X2_windAll f g n b len va so ma).2.2.2.1) ((s_X2_windAll f g n b len va so ma).2.2.2.2.1) b ((s_X2_windAll f g n b len va so ma).2.2.2.2.2.1) ((s_X2_windAll f g n b len va so ma).2.1) ((s_X2_windAll f g n b len va so ma).2.2.2.2.2.2.1) ((s_X2_windAll f g n b len va so ma).2.2.2.2.2.2.2.1) ((s_X2_windAll f g n b len va so ma).2.2.2.2.2.2.2.2.1) ((s_X2_windAll f g n b len va so ma).2.2.2.2.2.2.2.2.2.1) ((s_X2_windAll f g n b len va so ma).2.2.2.2.2.2.2.2.2.2)) ((s_X2_windAll f g n b len va so ma).1) := by
  refine xe_I (cc := cX2_windAll) (maxL := 3) (ret := (some .int)) (by decide) rfl (Nat.le_of_ble_eq_true rfl) ?_
  intro p e s m below meth c hx hb hr hml hts hown hlocks hP hK A hA hD hS ls hl
  have hl : lv_has ls 3 [(0, .ref (a 0))] := hl
  have hown : s.vm.findClass RX2 = some m.cls := hown
  have hSx : CallFix p m c cX2_windAll 3 s ([.ref (a 0)] : List Value).toArray wsX2_windAll RX2 := ⟨hx, hb, hml, hown, hts⟩
  have inRX2 : ∀ w ∈ u_ws RX2 TX2 11, w ∈ wsX2_windAll := by decide +kernel
  have qf19 := hts (.fieldLink RX2 19 "VaultMovementsModel" "sorts" "[I") (by decide +kernel)
  have qf25 := hts (.fieldLink RX2 25 "VaultMovementsModel" "thrown" "I") (by decide +kernel)
  have qf7 := hts (.fieldLink RX2 7 "VaultMovementsModel" "now" "[I") (by decide +kernel)
  have qf91 := hts (.fieldLink RX2 91 "VaultMovementsModel" "typed" "I") (by decide +kernel)
  obtain ⟨z, hz⟩ : ∃ z, z = (s_X2_windAll f g n b len va so ma) := ⟨_, rfl⟩
  rw [← hz]
  unfold s_X2_windAll at hz
  refine lv_aload_n hx hb dX2_windAll_0 rfl (lv_at hl 0 rfl) ?_
  refine lv_iconst (v := jI 0) hx hb dX2_windAll_1 rfl ?_
  refine va_put (D := D) (ci := 2) (v := .int (jI 0)) (ty := .int) (C := RX2) (T := TX2) (N := 11) hx hb hts inRX2 tyX2 tyX2_ok nmX2 hown hK hP hD hS 0 rfl rfl 5 (by decide) qf25 (fun _ h9 => h9) rfl (by decide +kernel) rfl rfl (Nat.le_of_ble_eq_true rfl) dX2_windAll_2 (fun H locs hP hD hS => ?_)
  have hP : va_P D vwCl (w2 cI a f g n b len 0 at_ fl va so ma) H := hP
  have hD : va_D A (w2 cI a f g n b len 0 at_ fl va so ma) := hD
  refine lv_aload_n hx hb dX2_windAll_5 rfl (lv_at hl 0 rfl) ?_
  refine xc_I (As := []) (rest := []) hSx (m_X2_isText l D cI a f g n b len 0 at_ fl va so ma  (by omega) (by omega) (by omega) (by omega)) (cwV 0 hts gX2_windAll_X2_isText rfl rfl rfl (by decide +kernel) ⟨Nat.le_of_ble_eq_true rfl, Nat.le_of_ble_eq_true rfl⟩) hP hD hS hA hK 0 rfl rfl rfl rfl hl.1 rfl (Nat.le_of_ble_eq_true rfl) dX2_windAll_6 ⟨Nat.zero_le _, Nat.zero_le _⟩ (fun H locs hP hD hS => ?_)
  have hok := ok_X2_isText b len va so ma hva hw2
  refine x_if_ne (tgt := 18) hx hb dX2_windAll_9 (by decide) (b01 (b_X2_isText b len va so ma)) (fun c9 => ?_) (fun c9 => ?_)
  · rw [if_neg c9] at hz
    refine lv_aload_n hx hb dX2_windAll_18 rfl (lv_at hl 0 rfl) ?_
    refine xc_R (As := []) (rest := []) hSx (m_X2_mayWind l D cI a f g n b len 0 ((s_X2_isText b len va so ma).2.1) ((s_X2_isText b len va so ma).2.2.1) ((s_X2_isText b len va so ma).2.2.2.1) ((s_X2_isText b len va so ma).2.2.2.2.1) ((s_X2_isText b len va so ma).2.2.2.2.2)  (by omega) (by omega) hok.2.2.2) (cwV 0 hts gX2_windAll_X2_mayWind rfl rfl rfl (by decide +kernel) ⟨Nat.le_of_ble_eq_true rfl, Nat.le_of_ble_eq_true rfl⟩) hP hK 0 rfl rfl rfl rfl hl.1 rfl (Nat.le_of_ble_eq_true rfl) dX2_windAll_19 ⟨Nat.zero_le _, Nat.zero_le _⟩ ?_
    refine x_if_ne (tgt := 31) hx hb dX2_windAll_22 (by decide) (b01 (b_X2_mayWind f ((s_X2_isText b len va so ma).2.2.2.2.1) ((s_X2_isText b len va so ma).2.2.2.2.2))) (fun c22 => ?_) (fun c22 => ?_)
    · rw [if_neg c22] at hz
      refine lv_aload_n hx hb dX2_windAll_31 rfl (lv_at hl 0 rfl) ?_
      refine xc_V (As := []) (rest := []) hSx (m_X2_saves l D cI a f g n b len 0 ((s_X2_isText b len va so ma).2.1) ((s_X2_isText b len va so ma).2.2.1) ((s_X2_isText b len va so ma).2.2.2.1) ((s_X2_isText b len va so ma).2.2.2.2.1) ((s_X2_isText b len va so ma).2.2.2.2.2)  (by omega)) (cwV 0 hts gX2_windAll_X2_saves rfl rfl rfl (by decide +kernel) ⟨Nat.le_of_ble_eq_true rfl, Nat.le_of_ble_eq_true rfl⟩) hP hD hS hA hK 0 rfl rfl rfl rfl hl.1 rfl (Nat.le_of_ble_eq_true rfl) dX2_windAll_32 ⟨Nat.zero_le _, Nat.zero_le _⟩ (fun H locs hP hD hS => ?_)
      refine lv_aload_n hx hb dX2_windAll_35 rfl (lv_at hl 0 rfl) ?_
      refine lv_iconst (v := jI 0) hx hb dX2_windAll_36 rfl ?_
      refine va_put (D := D) (ci := 2) (v := .int (jI 0)) (ty := .int) (C := RX2) (T := TX2) (N := 11) hx hb hts inRX2 tyX2 tyX2_ok nmX2 hown hK hP hD hS 0 rfl rfl 4 (by decide) qf91 (fun _ h9 => h9) rfl (by decide +kernel) rfl rfl (Nat.le_of_ble_eq_true rfl) dX2_windAll_37 (fun H locs hP hD hS => ?_)
      have hP : va_P D vwCl (w2 cI a f ((s_X2_saves f g n).1) ((s_X2_saves f g n).2) b 0 0 ((s_X2_isText b len va so ma).2.1) ((s_X2_isText b len va so ma).2.2.1) ((s_X2_isText b len va so ma).2.2.2.1) ((s_X2_isText b len va so ma).2.2.2.2.1) ((s_X2_isText b len va so ma).2.2.2.2.2)) H := hP
      have hD : va_D A (w2 cI a f ((s_X2_saves f g n).1) ((s_X2_saves f g n).2) b 0 0 ((s_X2_isText b len va so ma).2.1) ((s_X2_isText b len va so ma).2.2.1) ((s_X2_isText b len va so ma).2.2.2.1) ((s_X2_isText b len va so ma).2.2.2.2.1) ((s_X2_isText b len va so ma).2.2.2.2.2)) := hD
      refine lv_iconst (v := jI 0) hx hb dX2_windAll_40 rfl ?_
      refine lv_istore_n (lv' := [(1, .int (jI 0)), (0, .ref (a 0))]) hx hb dX2_windAll_41 rfl hl (by decide) rfl (fun ls hl => ?_)
      refine lv_iconst (v := jI 0) hx hb dX2_windAll_42 rfl ?_
      refine lv_istore_n (lv' := [(2, .int (jI 0)), (1, .int (jI 0)), (0, .ref (a 0))]) hx hb dX2_windAll_43 rfl hl (by decide) rfl (fun ls hl => ?_)
      have LP44 : ∀ (k i : Nat) (f9 : Nat → Int) (v : Int) (H : Heap) (locs : List Loc) (ls : Array Slot), i ≤ 3 → i + k = 3 + 1 → z = (s_X2_windAll_lp44 f g n b len va so ma) k i f9 v → (rng f9 ∧ f9 0 = f 0) → va_P D vwCl (w2 cI a f9 ((s_X2_saves f g n).1) ((s_X2_saves f g n).2) b 0 0 ((s_X2_isText b len va so ma).2.1) ((s_X2_isText b len va so ma).2.2.1) ((s_X2_isText b len va so ma).2.2.2.1) ((s_X2_isText b len va so ma).2.2.2.2.1) ((s_X2_isText b len va so ma).2.2.2.2.2)) H → va_D A (w2 cI a f9 ((s_X2_saves f g n).1) ((s_X2_saves f g n).2) b 0 0 ((s_X2_isText b len va so ma).2.1) ((s_X2_isText b len va so ma).2.2.1) ((s_X2_isText b len va so ma).2.2.2.1) ((s_X2_isText b len va so ma).2.2.2.2.1) ((s_X2_isText b len va so ma).2.2.2.2.2)) → va_S A s.heap H locs → lv_has ls 3 [(0, .ref (a 0)), (1, .int (jI v)), (2, .int (jI (i : Int)))] → W p l e rm_X2_windAll s m ([.ref (a 0)] : List Value).toArray below meth c H locs 0 0 (MQ below (va_Qi (fun x (_ : Unit) => x = jI z.1) (xq_B D cI A (w2 cI a z.2.2.1 z.2.2.2.1 z.2.2.2.2.1 b z.2.2.2.2.2.1 z.2.1 z.2.2.2.2.2.2.1 z.2.2.2.2.2.2.2.1 z.2.2.2.2.2.2.2.2.1 z.2.2.2.2.2.2.2.2.2.1 z.2.2.2.2.2.2.2.2.2.2)) A) ([.ref (a 0)] : List Value).toArray s 0 0 A) (F0 m 44 ls []) := by
        intro k
        induction k with
        | zero => intro i f9 v _ _ ls h1 h2; exact absurd h2 (by omega)
        | succ k ih =>
          intro i f9 v H locs ls h1 h2 hz hi2 hP hD hS hl
          rw [s_X2_windAll_lp44] at hz
          refine lv_iload_n hx hb dX2_windAll_44 rfl (lv_at hl 2 rfl) ?_
          refine lv_iconst (v := jI 3) hx hb dX2_windAll_45 rfl ?_
          refine x_icmp_ge (tgt := 83) hx hb dX2_windAll_46 (by decide) ⟨(by omega), (by decide)⟩ (fun c46 => ?_) (fun c46 => ?_)
          · rw [if_pos c46] at hz
            refine lv_iload_n hx hb dX2_windAll_83 rfl (lv_at hl 1 rfl) ?_
            subst hz
            exact xi_i hx hb hr hlocks hK hP hD hS rfl rfl dX2_windAll_84
          · rw [if_neg c46] at hz
            have hw9 := hok.2.2.2 i
            refine lv_aload_n hx hb dX2_windAll_49 rfl (lv_at hl 0 rfl) ?_
            refine va_get (D := D) (ci := 2) (v := .ref (a 4)) (C := RX2) (T := TX2) (N := 11) hx hb hts inRX2 hown hK hP 0 rfl rfl 9 (by decide) qf19 (fun _ h9 => h9) rfl dX2_windAll_50 ?_
            refine lv_iload_n hx hb dX2_windAll_53 rfl (lv_at hl 2 rfl) ?_
            refine x_iald hx hb hK hP 4 0 rfl rfl i (by omega) (by omega) (by decide) dX2_windAll_54 ?_
            refine x_if_le (tgt := 77) hx hb dX2_windAll_55 (by decide) (by omega) (fun c55 => ?_) (fun c55 => ?_)
            · rw [if_pos c55] at hz
              refine lv_iinc (v := jI ((i + 1 : Nat) : Int)) (lv' := [(2, .int (jI ((i + 1 : Nat) : Int))), (0, .ref (a 0)), (1, .int (jI v))]) hx hb dX2_windAll_77 hl (k := 2) rfl (jI_inc _ 1) (by decide) rfl (fun ls hl => ?_)
              refine lv_goto (tgt := 44) hx hb dX2_windAll_80 (by decide) ?_
              exact ih (i + 1) f9 v _ _ ls (by omega) (by omega) hz hi2 hP hD hS (lv_sub hl [1, 2, 0] rfl)
            · rw [if_neg c55] at hz
              refine lv_aload_n hx hb dX2_windAll_58 rfl (lv_at hl 0 rfl) ?_
              refine va_get (D := D) (ci := 2) (v := .ref (a 1)) (C := RX2) (T := TX2) (N := 11) hx hb hts inRX2 hown hK hP 0 rfl rfl 0 (by decide) qf7 (fun _ h9 => h9) rfl dX2_windAll_59 ?_
              refine lv_bipush (v := jI 21) hx hb dX2_windAll_62 (by decide) ?_
              refine lv_iconst (v := jI 4) hx hb dX2_windAll_64 rfl ?_
              refine lv_iload_n hx hb dX2_windAll_65 rfl (lv_at hl 2 rfl) ?_
              refine x_imul hx hb dX2_windAll_66 ?_
              refine x_iadd hx hb dX2_windAll_67 ?_
              refine lv_aload_n hx hb dX2_windAll_68 rfl (lv_at hl 0 rfl) ?_
              refine lv_iload_n hx hb dX2_windAll_69 rfl (lv_at hl 2 rfl) ?_
              refine xc_R (As := [.int (jI (i : Int))]) (rest := [.int (jI (21 + (4 * (i : Int)))), .ref (a 1)]) hSx (m_X2_woundBy l D cI a f9 ((s_X2_saves f g n).1) ((s_X2_saves f g n).2) b 0 0 ((s_X2_isText b len va so ma).2.1) ((s_X2_isText b len va so ma).2.2.1) ((s_X2_isText b len va so ma).2.2.2.1) ((s_X2_isText b len va so ma).2.2.2.2.1) ((s_X2_isText b len va so ma).2.2.2.2.2) i (by omega) hi2.1 (by have := hi2.2; omega) hok.2.2.2) (cwV 1 hts gX2_windAll_X2_woundBy rfl rfl rfl (by decide +kernel) ⟨Nat.le_of_ble_eq_true rfl, Nat.le_of_ble_eq_true rfl⟩) hP hK 0 rfl rfl rfl rfl hl.1 rfl (Nat.le_of_ble_eq_true rfl) dX2_windAll_70 ⟨Nat.zero_le _, Nat.zero_le _⟩ ?_
              have hwb := r_X2_woundBy f9 ((s_X2_isText b len va so ma).2.2.2.2.1) ((s_X2_isText b len va so ma).2.2.2.2.2) i hok.2.2.2
              refine x_iast (w1 := (w2 cI a (upz f9 (21 + (4 * i)) (s_X2_woundBy f9 ((s_X2_isText b len va so ma).2.2.2.2.1) ((s_X2_isText b len va so ma).2.2.2.2.2) i)) ((s_X2_saves f g n).1) ((s_X2_saves f g n).2) b 0 0 ((s_X2_isText b len va so ma).2.1) ((s_X2_isText b len va so ma).2.2.1) ((s_X2_isText b len va so ma).2.2.2.1) ((s_X2_isText b len va so ma).2.2.2.2.1) ((s_X2_isText b len va so ma).2.2.2.2.2))) hx hb hK hP hD hS 1 0 rfl rfl (21 + (4 * i)) (by omega) (by omega) (by decide) dX2_windAll_73 rfl (fun H locs hP hD hS => ?_)
              refine lv_iinc (v := jI (v + 1)) (lv' := [(1, .int (jI (v + 1))), (0, .ref (a 0)), (2, .int (jI (i : Int)))]) hx hb dX2_windAll_74 hl (k := 1) rfl (jI_add _ 1) (by decide) rfl (fun ls hl => ?_)
              refine lv_iinc (v := jI ((i + 1 : Nat) : Int)) (lv' := [(2, .int (jI ((i + 1 : Nat) : Int))), (1, .int (jI (v + 1))), (0, .ref (a 0))]) hx hb dX2_windAll_77 hl (k := 2) rfl (jI_inc _ 1) (by decide) rfl (fun ls hl => ?_)
              refine lv_goto (tgt := 44) hx hb dX2_windAll_80 (by decide) ?_
              exact ih (i + 1) (upz f9 (21 + (4 * i)) (s_X2_woundBy f9 ((s_X2_isText b len va so ma).2.2.2.2.1) ((s_X2_isText b len va so ma).2.2.2.2.2) i)) (v + 1) _ _ ls (by omega) (by omega) hz ⟨rng_upz hi2.1 (by omega), (upz_n (by omega)).trans hi2.2⟩ hP hD hS (lv_sub hl [2, 1, 0] rfl)
      exact LP44 (3 + 1 - 0) 0 f 0 _ _ ls (by omega) (by omega) hz ⟨hrf, rfl⟩ hP hD hS (lv_sub hl [2, 1, 0] rfl)
    · rw [if_pos c22] at hz
      refine lv_aload_n hx hb dX2_windAll_25 rfl (lv_at hl 0 rfl) ?_
      refine lv_iconst (v := jI 2) hx hb dX2_windAll_26 rfl ?_
      refine xc_I (As := [.int (jI 2)]) (rest := []) hSx (m_X2_fails l D cI a f g n b len 0 ((s_X2_isText b len va so ma).2.1) ((s_X2_isText b len va so ma).2.2.1) ((s_X2_isText b len va so ma).2.2.2.1) ((s_X2_isText b len va so ma).2.2.2.2.1) ((s_X2_isText b len va so ma).2.2.2.2.2) 2 ) (cwV 1 hts gX2_windAll_X2_fails rfl rfl rfl (by decide +kernel) ⟨Nat.le_of_ble_eq_true rfl, Nat.le_of_ble_eq_true rfl⟩) hP hD hS hA hK 0 rfl rfl rfl rfl hl.1 rfl (Nat.le_of_ble_eq_true rfl) dX2_windAll_27 ⟨Nat.zero_le _, Nat.zero_le _⟩ (fun H locs hP hD hS => ?_)
      subst hz
      exact xi_i hx hb hr hlocks hK hP hD hS rfl rfl dX2_windAll_30
  · rw [if_pos c9] at hz
    refine lv_aload_n hx hb dX2_windAll_12 rfl (lv_at hl 0 rfl) ?_
    refine lv_iconst (v := jI 1) hx hb dX2_windAll_13 rfl ?_
    refine xc_I (As := [.int (jI 1)]) (rest := []) hSx (m_X2_fails l D cI a f g n b len 0 ((s_X2_isText b len va so ma).2.1) ((s_X2_isText b len va so ma).2.2.1) ((s_X2_isText b len va so ma).2.2.2.1) ((s_X2_isText b len va so ma).2.2.2.2.1) ((s_X2_isText b len va so ma).2.2.2.2.2) 1 ) (cwV 1 hts gX2_windAll_X2_fails rfl rfl rfl (by decide +kernel) ⟨Nat.le_of_ble_eq_true rfl, Nat.le_of_ble_eq_true rfl⟩) hP hD hS hA hK 0 rfl rfl rfl rfl hl.1 rfl (Nat.le_of_ble_eq_true rfl) dX2_windAll_14 ⟨Nat.zero_le _, Nat.zero_le _⟩ (fun H locs hP hD hS => ?_)
    subst hz
    exact xi_i hx hb hr hlocks hK hP hD hS rfl rfl dX2_windAll_17
