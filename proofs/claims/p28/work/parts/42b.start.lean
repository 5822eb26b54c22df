/-! the law's start -/
set_option maxHeartbeats 8000000 in
set_option maxRecDepth 100000 in
theorem whole_start {p : Program} {e : Env} {s : State} {m : MethodId} {below : List Frame} {meth : Method} {c : Code} (l : Launch) (hflags : l.flags = flags0) {b L : Nat} {xs : Nat → Int32} (hL : L ≤ 260) (C0 : lw_At p s m meth c b L xs) : W p l e room_1 s m #[Value.ref b] below meth c s.heap [] 0 0 (lw_Z below #[Value.ref b] s) (entryFrame m ([Value.ref b] : List Value).toArray 11) := by
  obtain ⟨hx, hb, hr, hml, hown, hts, hX, hbl, hlocks, hgv⟩ := id C0
  have hlt : l.stackTraces = false := by
    unfold Launch.stackTraces
    rw [hflags]
    decide
  have hown : s.vm.findClass RL = some m.cls := hown
  have hA : ∀ q : Nat, s.heap.size ≤ q → (fun q : Nat => s.heap.size ≤ q) q := fun _ h => h
  have hbA : ¬ (fun q : Nat => s.heap.size ≤ q) b := Nat.not_le.mpr hbl
  have htL : ∀ w ∈ wsL_law, w.before #[Value.ref b] s = true := fun w h => hts w (wsL_law_in w h)
  obtain ⟨c0, iS0, hKn0⟩ := u_known (C := RX0) (T := TX0) (N := 4) (n := 4) hts inX0 (hts (.instantiable RX0 4) (by decide +kernel))
  obtain ⟨c1, iS1, hKn1⟩ := u_known (C := RX1) (T := TX1) (N := 6) (n := 6) hts inX1 (hts (.instantiable RX1 6) (by decide +kernel))
  obtain ⟨D, hKc⟩ : ∃ D : va_G, ∀ (k : Nat) (q : vw_C), vwCl[k]? = some q → u_Kn s q.1 q.2.1 q.2.2 (D.1 k) (D.2 k) := by
    refine ⟨(fun k => if k = 0 then c0 else c1, fun k => if k = 0 then iS0 else iS1), ?_⟩
    intro k q hq
    match k, hq with
    | 0, hq => cases hq; exact hKn0
    | 1, hq => cases hq; exact hKn1
    | k + 2, hq => simp [vwCl] at hq
  obtain ⟨cI, hcI⟩ := cI_of (hts (.arrayClass .int) (by decide +kernel))
  have hE : xenv (fun q : Nat => s.heap.size ≤ q) s := env_x hts hgv hKn1.2.1
  have hY : yenv (fun q : Nat => s.heap.size ≤ q) s := env_y hts hgv
  have hK : va_K D vwCl [(cI, .int)] s := ⟨hKc, fun k q h => by
    match k, h with
    | 0, h => cases h; exact hcI
    | k + 1, h => simp at h⟩
  have hS : va_S (fun q : Nat => s.heap.size ≤ q) s.heap s.heap [] := va_S.rf
  have hP : va_P D vwCl [] s.heap := fun k q h => by simp at h
  have hD : va_D (fun q : Nat => s.heap.size ≤ q) [] := ⟨fun i j p q h => by simp at h, fun k q h => by simp at h⟩
  have hl := lv_entry ([.ref b] : List Value) (n := 11) (Nat.le_of_ble_eq_true rfl)
  rw [lg_entry_eq]
  generalize (lg_sl ([.ref b] : List Value) ++ List.replicate (11 - (lg_sl ([.ref b] : List Value)).length) Slot.unset).toArray = ls at hl ⊢
  have hl : lv_has ls 11 [(0, .ref b)] := hl
  -- the class
  refine va_new (ci := 1) (fs := [.null, .null, .int (jI 0), .null, .int (jI 0), .null]) (C := RX1) (T := TX1) (N := 6) hx hb hts inX1 tyX1 tyX1_ok hown (hts (.classLink RL 10 RX1) (by decide +kernel)) (hts (.instantiable RX1 6) (by decide +kernel)) (hts (.initialized RX1) (by decide +kernel)) hK hP hD hS hA rfl (fun j hj => by rcases (show j = 0 ∨ j = 1 ∨ j = 2 ∨ j = 3 ∨ j = 4 ∨ j = 5 by omega) with rfl | rfl | rfl | rfl | rfl | rfl <;> rfl) (Nat.le_of_ble_eq_true rfl) (Nat.le_of_ble_eq_true rfl) dL_law_0 (fun q1 H hP hD hS => ?_)
  have hP : va_P D vwCl [(q1, .inr (1, [.null, .null, .int (jI 0), .null, .int (jI 0), .null]))] H := hP
  have hD : va_D (fun q : Nat => s.heap.size ≤ q) [(q1, .inr (1, [.null, .null, .int (jI 0), .null, .int (jI 0), .null]))] := hD
  refine lv_dup hx hb dL_law_3 rfl ?_
  have hFc := va_free (wc := [(q1, .inr (1, [.null, .null, .int (jI 0), .null, .int (jI 0), .null]))]) hD hS hA [0] rfl
  refine va_callv (va_runI (As := []) (rest := [.ref q1]) ⟨hx, hb, hml, hown, htL⟩ (m_X1_init l D cI q1 H.size) (cwI 0 htL gL_law_X1_init rfl rfl rfl (hts (.initialized RX1) (by decide +kernel)) (hts (.methodLink RL 100 yX1_init) (by decide +kernel)) (hts (.instanceMethod yX1_init) (by decide +kernel)) rfl (by decide +kernel) ⟨Nat.le_of_ble_eq_true rfl, Nat.le_of_ble_eq_true rfl⟩) ⟨xq_Nbl yenv_ok, fun U hU hW => ⟨rfl, by rw [hU], by rw [hU]; exact hP, va_K.moved hW.alike hK, hD.weaken (fun _ _ _ _ => trivial), hY.to hS hU hW hFc⟩⟩ rfl rfl hl.1 rfl (lv_room (Nat.le_of_ble_eq_true rfl)) dL_law_4 ⟨Nat.le_of_ble_eq_true rfl, Nat.le_of_ble_eq_true rfl⟩) hS (fun q _ h => hFc q h) hFc (fun a1 t H1 locs ht hvm hw hB hz1 hk1 hS => ?_)
  obtain ⟨hP1, hD1⟩ := hB
  rw [ht] at hP1
  have hw : a1 0 = q1 := hw
  subst hw
  obtain ⟨hP, hD⟩ := va_join (wr := []) (w1 := w1 cI a1 F1_0 Z0 0 Z0 0 Z0 Z0 Z0 0) hP hD [0] [] rfl rfl (by decide) (by decide) hk1 hFc hP1 hD1
  have hP : va_P D vwCl (w1 cI a1 F1_0 Z0 0 Z0 0 Z0 Z0 Z0 0) H1 := hP
  have hD : va_D (fun q : Nat => s.heap.size ≤ q) (w1 cI a1 F1_0 Z0 0 Z0 0 Z0 Z0 Z0 0) := hD
  refine lv_astore_n (lv' := [(1, .ref (a1 0)), (0, .ref b)]) hx hb dL_law_7 rfl hl (by decide) rfl (fun ls hl => ?_)
  refine lv_iconst (v := jI 1) hx hb dL_law_8 rfl ?_
  refine lv_istore_n (lv' := [(2, .int (jI 1)), (1, .ref (a1 0)), (0, .ref b)]) hx hb dL_law_9 rfl hl (by decide) rfl (fun ls hl => ?_)
  have K28 : ∀ (T : Nat) (ls : Array Slot), T ≤ 40 → 3 * T ≤ L → lv_has ls 11 [(2, .int (jI 1)), (1, .ref (a1 0)), (0, .ref b)] → W p l e room_1 s m #[Value.ref b] below meth c H1 locs (0 + 1 + 7) (0 + 6 + 304) (lw_Z below #[Value.ref b] s) (F0 m 28 ls [.int (jI (T : Int))]) := by
    intro T ls hT hTL hl
    refine lv_istore_n (lv' := [(3, .int (jI (T : Int))), (2, .int (jI 1)), (1, .ref (a1 0)), (0, .ref b)]) hx hb dL_law_28 rfl hl (by decide) rfl (fun ls hl => ?_)
    refine lv_iconst (v := jI ((0 : Nat) : Int)) hx hb dL_law_29 rfl ?_
    refine lv_istore (lv' := [(4, .int (jI ((0 : Nat) : Int))), (3, .int (jI (T : Int))), (2, .int (jI 1)), (1, .ref (a1 0)), (0, .ref b)]) hx hb dL_law_30 hl (by decide) rfl (fun ls hl => ?_)
    exact law_loop (T := T) ⟨hx, hb, hml, hown, htL, hX, hbl, hbA, hL, hA, hlt, hE, hK, va_D_perm hD (List.Perm.refl _)⟩ hr hlocks hT hTL (T + 1) 0 F1_0 Z0 0 H1 _ ls (by omega) (Nat.zero_le _) VI_0 (fun s hs => absurd hs (Nat.not_lt_zero s)) (by decide) hP hS (lv_sub hl [4, 3, 2, 1, 0] rfl)
  refine lv_aload_n hx hb dL_law_10 rfl (lv_at hl 2 rfl) ?_
  refine va_slen hx hb hX hbl hbA hS dL_law_11 ?_
  rw [show Int32.ofNat L = jI (L : Int) from (jI_nat L).symm]
  refine lv_iconst (v := jI 3) hx hb dL_law_12 rfl ?_
  refine x_idiv hx hb dL_law_13 (by omega) ?_
  refine lv_bipush (v := jI 40) hx hb dL_law_14 (by decide) ?_
  refine x_icmp_le (tgt := 24) hx hb dL_law_16 (by decide) ⟨(by omega), (by decide)⟩ (fun c16 => ?_) (fun c16 => ?_)
  · refine lv_aload_n hx hb dL_law_24 rfl (lv_at hl 2 rfl) ?_
    refine va_slen hx hb hX hbl hbA hS dL_law_25 ?_
    rw [show Int32.ofNat L = jI (L : Int) from (jI_nat L).symm]
    refine lv_iconst (v := jI 3) hx hb dL_law_26 rfl ?_
    refine x_idiv hx hb dL_law_27 (by omega) ?_
    rw [show (L : Int) / 3 = ((L / 3 : Nat) : Int) by omega]
    exact K28 (L / 3) ls (by omega) (by omega) hl
  · refine lv_bipush (v := jI ((40 : Nat) : Int)) hx hb dL_law_19 (by decide) ?_
    refine lv_goto (tgt := 28) hx hb dL_law_21 (by decide) ?_
    exact K28 40 ls (by decide) (by omega) hl
