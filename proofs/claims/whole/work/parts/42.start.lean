/-! the loop of the law, and its start -/
theorem wok_0 : wok (fun _ => 0) (fun _ => 0) (fun _ => 0) := by
  intro k
  simp
theorem wo2_0 : wo2 (fun _ => 0) (fun _ => 0) := by
  intro k
  simp
theorem LI_more {D : va_G} {cI cL : ClassId} {a1 a2 : Nat → Nat} {o c : Nat} {H : Heap} (h : LI D cI cL a1 o a2 c H) : LI D cI cL a1 o a2 (c + 1) H := by
  obtain ⟨f1, g1, n, b, len, kd, sg, nb, pt, f2, g2, th, at_, fl, va, so, ma, u, hRI, hRG, h⟩ := h
  exact ⟨f1, g1, n, b, len, kd, sg, nb, pt, f2, g2, th, at_, fl, va, so, ma, u, RI_more hRI, RG_more hRG, h⟩
theorem D_mid {A : Nat → Prop} {x y z : va_W} (h : va_D A ((x ++ y) ++ z)) : va_D A ((x ++ z) ++ y) := va_D_perm h (by
  simp only [List.map_append, List.append_assoc]
  exact List.Perm.append_left _ List.perm_append_comm)
section LOOP
variable {p : Program} {l : Launch} {e : Env} {s : State} {m : MethodId} {below : List Frame} {meth : Method} {c : Code} {D : va_G} {cI cL : ClassId} {a1 a2 : Nat → Nat} {o b0 L : Nat} {xs : Nat → Int32}
set_option maxHeartbeats 8000000 in
set_option maxRecDepth 100000 in
theorem law_loop (X : LX p l s m c b0 L xs D cI cL (fun q => s.heap.size ≤ q) a1 o a2) (hr : meth.sig.returnType = ret) (hlocks : meth.locks = false) : ∀ (k i : Nat) (H : Heap) (locs : List Loc) (ls : Array Slot), i + k = 514 → i ≤ 512 → LI D cI cL a1 o a2 i H → va_S (fun q => s.heap.size ≤ q) s.heap H locs → lv_has ls 9 [(0, .ref b0), (1, .ref (a1 0)), (2, .ref (a2 0)), (3, .ref o), (4, .int (jI ((3 * i : Nat) : Int)))] → W p l e room_1 s m #[Value.ref b0] below meth c H locs (15 + i) (619 + 6 * i) (lw_Z below #[Value.ref b0] s) (F0 m 23 ls []) := by
  obtain ⟨hx, hb, hml, hown, hts, hX, hbl, hbA, hL, hA, hlt, hE, hK2, hDD⟩ := id X
  intro k
  induction k with
  | zero => intro i H locs ls h1 h2; exact absurd h1 (by omega)
  | succ k ih =>
    intro i H locs ls h1 h2 hI hS hl
    refine lv_iload hx hb dL_law_23 (lv_at hl 4 rfl) ?_
    refine lv_aload_n hx hb dL_law_25 rfl (lv_at hl 0 rfl) ?_
    refine va_slen hx hb hX hbl hbA hS dL_law_26 ?_
    rw [show Int32.ofNat L = jI (L : Int) from (jI_nat L).symm]
    refine lv_iconst (v := jI 3) hx hb dL_law_27 rfl ?_
    refine x_isub hx hb dL_law_28 ?_
    refine x_icmp_gt (tgt := 1314) hx hb dL_law_29 (by decide) ⟨by omega, by omega⟩ (fun _ => ?_) (fun hc => ?_)
    · refine lv_iconst (v := 1) hx hb dL_law_1314 (by decide) ?_
      refine W.widen (k := 1067) (n := 8979) (by omega) (by omega) ?_
      refine va_forget (fun q hq => hS.2.2 q hq) ?_
      exact lw_ret (d0 := s.drawn) (Drawn.sameBut.refl s.drawn lw_cs) hx hb hr hlocks dL_law_1315
    · have hi3 : 3 * i + 3 ≤ L := by omega
      have back : ∀ (H1 : Heap) (locs1 : List Loc) (ls1 : Array Slot), LI D cI cL a1 o a2 (i + 1) H1 → va_S (fun q => s.heap.size ≤ q) s.heap H1 locs1 → lv_has ls1 9 [(0, .ref b0), (1, .ref (a1 0)), (2, .ref (a2 0)), (3, .ref o), (4, .int (jI ((3 * i : Nat) : Int)))] → W p l e room_1 s m #[Value.ref b0] below meth c H1 locs1 (15 + i + 1) (619 + 6 * i + 6) (lw_Z below #[Value.ref b0] s) (F0 m 1308 ls1 []) := by
        intro H1 locs1 ls1 hI1 hS1 hl1
        refine lv_iinc (v := jI ((3 * (i + 1) : Nat) : Int)) (lv' := [(4, .int (jI ((3 * (i + 1) : Nat) : Int))), (0, .ref b0), (1, .ref (a1 0)), (2, .ref (a2 0)), (3, .ref o)]) hx hb dL_law_1308 hl1 (k := 4) rfl (jI_inc _ 3) (by decide) rfl (fun ls hl => ?_)
        refine lv_goto (tgt := 23) hx hb dL_law_1311 (by decide) ?_
        exact ih (i + 1) H1 locs1 ls (by omega) (by omega) hI1 hS1 (lv_sub hl [1, 2, 3, 4, 0] rfl)
      refine lv_aload_n hx hb dL_law_32 rfl (lv_at hl 0 rfl) ?_
      refine lv_iload hx hb dL_law_33 (lv_at hl 4 rfl) ?_
      refine x_sld hx hb hX hbl hbA hS (3 * i) rfl (by omega) hL dL_law_35 ?_
      refine lv_bipush (v := 31) hx hb dL_law_36 (by decide) ?_
      refine lv_iand hx hb dL_law_38 ?_
      obtain ⟨j, hj, ej⟩ := pk_andE (jI (ys xs (3 * i))) (m := 31) 5 (by decide)
      rw [ej]
      have hq : 15 + i + 1 ≤ 1067 ∧ 619 + 6 * i + 6 ≤ 8979 := ⟨by omega, by omega⟩
      have hj32 : j < 32 := hj
      by_cases hj25 : 25 ≤ j
      · refine lv_tableOut (tgt := 1308) hx hb dL_law_39 (Or.inr ?_) (by decide) ?_
        · rcases (show j = 25 ∨ j = 26 ∨ j = 27 ∨ j = 28 ∨ j = 29 ∨ j = 30 ∨ j = 31 by omega) with rfl | rfl | rfl | rfl | rfl | rfl | rfl <;> decide
        · refine W.widen (k := 15 + i + 1) (n := 619 + 6 * i + 6) (by omega) (by omega) ?_
          exact back _ _ _ (LI_more hI) hS hl
      · rcases (show j = 0 ∨ j = 1 ∨ j = 2 ∨ j = 3 ∨ j = 4 ∨ j = 5 ∨ j = 6 ∨ j = 7 ∨ j = 8 ∨ j = 9 ∨ j = 10 ∨ j = 11 ∨ j = 12 ∨ j = 13 ∨ j = 14 ∨ j = 15 ∨ j = 16 ∨ j = 17 ∨ j = 18 ∨ j = 19 ∨ j = 20 ∨ j = 21 ∨ j = 22 ∨ j = 23 ∨ j = 24 by omega) with rfl | rfl | rfl | rfl | rfl | rfl | rfl | rfl | rfl | rfl | rfl | rfl | rfl | rfl | rfl | rfl | rfl | rfl | rfl | rfl | rfl | rfl | rfl | rfl | rfl
        · exact lv_tableIn (off := 113) (tgt := 152) hx hb dL_law_39 (by decide) (by decide) (by decide) (by decide) (k_opening X hi3 (by omega) hI hS hl hq back)
        · exact lv_tableIn (off := 181) (tgt := 220) hx hb dL_law_39 (by decide) (by decide) (by decide) (by decide) (k_set X hi3 (by omega) hI hS hl hq back)
        · exact lv_tableIn (off := 249) (tgt := 288) hx hb dL_law_39 (by decide) (by decide) (by decide) (by decide) (k_wind X hi3 (by omega) hI hS hl hq back)
        · exact lv_tableIn (off := 317) (tgt := 356) hx hb dL_law_39 (by decide) (by decide) (by decide) (by decide) (k_fault X hi3 (by omega) hI hS hl hq back)
        · exact lv_tableIn (off := 401) (tgt := 440) hx hb dL_law_39 (by decide) (by decide) (by decide) (by decide) (k_loss X hi3 (by omega) hI hS hl hq back)
        · exact lv_tableIn (off := 469) (tgt := 508) hx hb dL_law_39 (by decide) (by decide) (by decide) (by decide) (k_service X hi3 (by omega) hI hS hl hq back)
        · exact lv_tableIn (off := 525) (tgt := 564) hx hb dL_law_39 (by decide) (by decide) (by decide) (by decide) (k_lock X hi3 (by omega) hI hS hl hq back)
        · exact lv_tableIn (off := 569) (tgt := 608) hx hb dL_law_39 (by decide) (by decide) (by decide) (by decide) (k_open X hi3 (by omega) hI hS hl hq back)
        · exact lv_tableIn (off := 613) (tgt := 652) hx hb dL_law_39 (by decide) (by decide) (by decide) (by decide) (k_drill X hi3 (by omega) hI hS hl hq back)
        · exact lv_tableIn (off := 657) (tgt := 696) hx hb dL_law_39 (by decide) (by decide) (by decide) (by decide) (k_pass X hi3 (by omega) hI hS hl hq back)
        · exact lv_tableIn (off := 713) (tgt := 752) hx hb dL_law_39 (by decide) (by decide) (by decide) (by decide) (k_append X hi3 (by omega) hI hS hl hq back)
        · exact lv_tableIn (off := 769) (tgt := 808) hx hb dL_law_39 (by decide) (by decide) (by decide) (by decide) (k_clearBuffer X hi3 (by omega) hI hS hl hq back)
        · exact lv_tableIn (off := 782) (tgt := 821) hx hb dL_law_39 (by decide) (by decide) (by decide) (by decide) (k_firstError X hi3 (by omega) hI hS hl hq back)
        · exact lv_tableIn (off := 795) (tgt := 834) hx hb dL_law_39 (by decide) (by decide) (by decide) (by decide) (k_windAll X hi3 (by omega) hI hS hl hq back)
        · exact lv_tableIn (off := 839) (tgt := 878) hx hb dL_law_39 (by decide) (by decide) (by decide) (by decide) (k_undo X hi3 (by omega) hI hS hl hq back)
        · exact lv_tableIn (off := 883) (tgt := 922) hx hb dL_law_39 (by decide) (by decide) (by decide) (by decide) (k_movement X hi3 (by omega) hI hS hl hq back)
        · exact lv_tableIn (off := 951) (tgt := 990) hx hb dL_law_39 (by decide) (by decide) (by decide) (by decide) (k_day X hi3 (by omega) hI hS hl hq back)
        · exact lv_tableIn (off := 1007) (tgt := 1046) hx hb dL_law_39 (by decide) (by decide) (by decide) (by decide) (k_count X hi3 (by omega) hI hS hl hq back)
        · exact lv_tableIn (off := 1063) (tgt := 1102) hx hb dL_law_39 (by decide) (by decide) (by decide) (by decide) (k_setting X hi3 (by omega) hI hS hl hq back)
        · exact lv_tableIn (off := 1119) (tgt := 1158) hx hb dL_law_39 (by decide) (by decide) (by decide) (by decide) (k_opensIn X hi3 (by omega) hI hS hl hq back)
        · exact lv_tableIn (off := 1132) (tgt := 1171) hx hb dL_law_39 (by decide) (by decide) (by decide) (by decide) (k_lateness X hi3 (by omega) hI hS hl hq back)
        · exact lv_tableIn (off := 1145) (tgt := 1184) hx hb dL_law_39 (by decide) (by decide) (by decide) (by decide) (k_keyMovement X hi3 (by omega) hI hS hl hq back)
        · exact lv_tableIn (off := 1158) (tgt := 1197) hx hb dL_law_39 (by decide) (by decide) (by decide) (by decide) (k_rightWinding X hi3 (by omega) hI hS hl hq back)
        · exact lv_tableIn (off := 1214) (tgt := 1253) hx hb dL_law_39 (by decide) (by decide) (by decide) (by decide) (k_punctuality X hi3 (by omega) hI hS hl hq back)
        · exact lv_tableIn (off := 1255) (tgt := 1294) hx hb dL_law_39 (by decide) (by decide) (by decide) (by decide) (k_digest X hi3 (by omega) hI hS hl hq back)
end LOOP
set_option maxHeartbeats 8000000 in
set_option maxRecDepth 100000 in
theorem whole_start {p : Program} {e : Env} {s : State} {m : MethodId} {below : List Frame} {meth : Method} {c : Code} (l : Launch) (hflags : l.flags = flags0) {b L : Nat} {xs : Nat → Int32} (hL : L ≤ 1536) (C0 : lw_At p s m meth c b L xs) : W p l e room_1 s m #[Value.ref b] below meth c s.heap [] 0 0 (lw_Z below #[Value.ref b] s) (entryFrame m ([Value.ref b] : List Value).toArray 9) := by
  obtain ⟨hx, hb, hr, hml, hown, hts, hX, hbl, hlocks, hgv⟩ := id C0
  have hlt : l.stackTraces = false := by
    unfold Launch.stackTraces
    rw [hflags]
    decide
  have hown : s.vm.findClass RL = some m.cls := hown
  have hA : ∀ q : Nat, s.heap.size ≤ q → (fun q : Nat => s.heap.size ≤ q) q := fun _ h => h
  have hbA : ¬ (fun q : Nat => s.heap.size ≤ q) b := Nat.not_le.mpr hbl
  have htL : ∀ w ∈ wsL_law, w.before #[Value.ref b] s = true := fun w h => hts w (wsL_law_in w h)
  obtain ⟨c0, iS0, hKn0⟩ := u_known (C := RX0) (T := TX0) (N := 4) (n := 4) hts inX0 (hts (.instantiable RX0 4) (by decide +kernel))
  obtain ⟨c1, iS1, hKn1⟩ := u_known (C := RX1) (T := TX1) (N := 6) (n := 6) hts inX1 (hts (.instantiable RX1 6) (by decide +kernel))
  obtain ⟨c2, iS2, hKn2⟩ := u_known (C := RX2) (T := TX2) (N := 11) (n := 11) hts inX2 (hts (.instantiable RX2 11) (by decide +kernel))
  obtain ⟨D, hKc⟩ : ∃ D : va_G, ∀ (k : Nat) (q : vw_C), vwCl[k]? = some q → u_Kn s q.1 q.2.1 q.2.2 (D.1 k) (D.2 k) := by
    refine ⟨(fun k => if k = 0 then c0 else if k = 1 then c1 else c2, fun k => if k = 0 then iS0 else if k = 1 then iS1 else iS2), ?_⟩
    intro k q hq
    match k, hq with
    | 0, hq => cases hq; exact hKn0
    | 1, hq => cases hq; exact hKn1
    | 2, hq => cases hq; exact hKn2
    | k + 3, hq => simp [vwCl] at hq
  obtain ⟨cI, hcI⟩ := cI_of (hts (.arrayClass .int) (by decide +kernel))
  have hE : xenv (fun q : Nat => s.heap.size ≤ q) s := env_x hts hgv hKn1.2.1
  have hY : yenv (fun q : Nat => s.heap.size ≤ q) s := env_y hts hgv
  have hK : va_K D vwCl [(cI, .int)] s := ⟨hKc, fun k q h => by
    match k, h with
    | 0, h => cases h; exact hcI
    | k + 1, h => simp at h⟩
  have hS : va_S (fun q : Nat => s.heap.size ≤ q) s.heap s.heap [] := va_S.rf
  have hP : va_P D vwCl [] s.heap := fun k q h => by simp at h
  have hD : va_D (fun q : Nat => s.heap.size ≤ q) [] := ⟨fun i j p q h => by simp at h, fun k q h => by simp at h⟩
  have hl := lv_entry ([.ref b] : List Value) (n := 9) (Nat.le_of_ble_eq_true rfl)
  rw [lg_entry_eq]
  generalize (lg_sl ([.ref b] : List Value) ++ List.replicate (9 - (lg_sl ([.ref b] : List Value)).length) Slot.unset).toArray = ls at hl ⊢
  have hl : lv_has ls 9 [(0, .ref b)] := hl
  -- the class
  refine va_new (ci := 1) (fs := [.null, .null, .int (jI 0), .null, .int (jI 0), .null]) (C := RX1) (T := TX1) (N := 6) hx hb hts inX1 tyX1 tyX1_ok hown (hts (.classLink RL 8 RX1) (by decide +kernel)) (hts (.instantiable RX1 6) (by decide +kernel)) (hts (.initialized RX1) (by decide +kernel)) hK hP hD hS hA rfl (fun j hj => by rcases (show j = 0 ∨ j = 1 ∨ j = 2 ∨ j = 3 ∨ j = 4 ∨ j = 5 by omega) with rfl | rfl | rfl | rfl | rfl | rfl <;> rfl) (Nat.le_of_ble_eq_true rfl) (Nat.le_of_ble_eq_true rfl) dL_law_0 (fun q1 H hP hD hS => ?_)
  have hP : va_P D vwCl [(q1, .inr (1, [.null, .null, .int (jI 0), .null, .int (jI 0), .null]))] H := hP
  have hD : va_D (fun q : Nat => s.heap.size ≤ q) [(q1, .inr (1, [.null, .null, .int (jI 0), .null, .int (jI 0), .null]))] := hD
  refine lv_dup hx hb dL_law_3 rfl ?_
  have hFc := va_free (wc := [(q1, .inr (1, [.null, .null, .int (jI 0), .null, .int (jI 0), .null]))]) hD hS hA [0] rfl
  refine va_callv (va_runI (As := []) (rest := [.ref q1]) ⟨hx, hb, hml, hown, htL⟩ (m_X1_init l D cI q1 H.size) (cwI 0 htL gL_law_X1_init rfl rfl rfl (hts (.initialized RX1) (by decide +kernel)) (hts (.methodLink RL 73 yX1_init) (by decide +kernel)) (hts (.instanceMethod yX1_init) (by decide +kernel)) rfl (by decide +kernel) ⟨Nat.le_of_ble_eq_true rfl, Nat.le_of_ble_eq_true rfl⟩) ⟨xq_Nbl yenv_ok, fun U hU hW => ⟨rfl, by rw [hU], by rw [hU]; exact hP, va_K.moved hW.alike hK, hD.weaken (fun _ _ _ _ => trivial), hY.to hS hU hW hFc⟩⟩ rfl rfl hl.1 rfl (lv_room (Nat.le_of_ble_eq_true rfl)) dL_law_4 ⟨Nat.le_of_ble_eq_true rfl, Nat.le_of_ble_eq_true rfl⟩) hS (fun q _ h => hFc q h) hFc (fun a1 t H1 locs ht hvm hw hB hz1 hk1 hS => ?_)
  obtain ⟨hP1, hD1⟩ := hB
  rw [ht] at hP1
  have hw : a1 0 = q1 := hw
  subst hw
  obtain ⟨hP, hD⟩ := va_join (wr := []) (w1 := w1 cI a1 F1_0 (fun _ => 0) 0 (fun _ => 0) 0 (fun _ => 0) (fun _ => 0) (fun _ => 0) 0) hP hD [0] [] rfl rfl (by decide) (by decide) hk1 hFc hP1 hD1
  have hP : va_P D vwCl (w1 cI a1 F1_0 (fun _ => 0) 0 (fun _ => 0) 0 (fun _ => 0) (fun _ => 0) (fun _ => 0) 0) H1 := hP
  have hD : va_D (fun q : Nat => s.heap.size ≤ q) (w1 cI a1 F1_0 (fun _ => 0) 0 (fun _ => 0) 0 (fun _ => 0) (fun _ => 0) (fun _ => 0) 0) := hD
  refine lv_astore_n (lv' := [(1, .ref (a1 0)), (0, .ref b)]) hx hb dL_law_7 rfl hl (by decide) rfl (fun ls hl => ?_)
  -- the reference
  refine va_new (ci := 2) (fs := [.null, .null, .int (jI 0), .null, .int (jI 0), .int (jI 0), .int (jI 0), .int (jI 0), .int (jI 0), .null, .null]) (C := RX2) (T := TX2) (N := 11) hx hb hts inX2 tyX2 tyX2_ok hown (hts (.classLink RL 74 RX2) (by decide +kernel)) (hts (.instantiable RX2 11) (by decide +kernel)) (hts (.initialized RX2) (by decide +kernel)) hK hP hD hS hA rfl (fun j hj => by rcases (show j = 0 ∨ j = 1 ∨ j = 2 ∨ j = 3 ∨ j = 4 ∨ j = 5 ∨ j = 6 ∨ j = 7 ∨ j = 8 ∨ j = 9 ∨ j = 10 by omega) with rfl | rfl | rfl | rfl | rfl | rfl | rfl | rfl | rfl | rfl | rfl <;> rfl) (Nat.le_of_ble_eq_true rfl) (Nat.le_of_ble_eq_true rfl) dL_law_8 (fun q2 H hP hD hS => ?_)
  have hP : va_P D vwCl (w1 cI a1 F1_0 (fun _ => 0) 0 (fun _ => 0) 0 (fun _ => 0) (fun _ => 0) (fun _ => 0) 0 ++ [(q2, .inr (2, [.null, .null, .int (jI 0), .null, .int (jI 0), .int (jI 0), .int (jI 0), .int (jI 0), .int (jI 0), .null, .null]))]) H := hP
  have hD : va_D (fun q : Nat => s.heap.size ≤ q) (w1 cI a1 F1_0 (fun _ => 0) 0 (fun _ => 0) 0 (fun _ => 0) (fun _ => 0) (fun _ => 0) 0 ++ [(q2, .inr (2, [.null, .null, .int (jI 0), .null, .int (jI 0), .int (jI 0), .int (jI 0), .int (jI 0), .int (jI 0), .null, .null]))]) := hD
  refine lv_dup hx hb dL_law_11 rfl ?_
  have hPc := hP.sub (ws' := [(q2, .inr (2, [.null, .null, .int (jI 0), .null, .int (jI 0), .int (jI 0), .int (jI 0), .int (jI 0), .int (jI 0), .null, .null]))]) [8] rfl
  have hDc := hD.sub (ws' := [(q2, .inr (2, [.null, .null, .int (jI 0), .null, .int (jI 0), .int (jI 0), .int (jI 0), .int (jI 0), .int (jI 0), .null, .null]))]) [8] (by decide) rfl
  have hFc := va_free (wc := [(q2, .inr (2, [.null, .null, .int (jI 0), .null, .int (jI 0), .int (jI 0), .int (jI 0), .int (jI 0), .int (jI 0), .null, .null]))]) hD hS hA [8] rfl
  refine va_callv (va_runI (As := []) (rest := [.ref q2]) ⟨hx, hb, hml, hown, htL⟩ (m_X2_init l D cI q2 H.size) (cwI 0 htL gL_law_X2_init rfl rfl rfl (hts (.initialized RX2) (by decide +kernel)) (hts (.methodLink RL 76 yX2_init) (by decide +kernel)) (hts (.instanceMethod yX2_init) (by decide +kernel)) rfl (by decide +kernel) ⟨Nat.le_of_ble_eq_true rfl, Nat.le_of_ble_eq_true rfl⟩) ⟨xq_Nbl noenv_ok, fun U hU hW => ⟨rfl, by rw [hU], by rw [hU]; exact hPc, va_K.moved hW.alike hK, hDc.weaken (fun _ _ _ _ => trivial), trivial⟩⟩ rfl rfl hl.1 rfl (lv_room (Nat.le_of_ble_eq_true rfl)) dL_law_12 ⟨Nat.le_of_ble_eq_true rfl, Nat.le_of_ble_eq_true rfl⟩) hS (fun q _ h => hFc q h) hFc (fun a2 t H1 locs ht hvm hw hB hz1 hk1 hS => ?_)
  obtain ⟨hP1, hD1⟩ := hB
  rw [ht] at hP1
  have hw : a2 0 = q2 := hw
  subst hw
  obtain ⟨hP, hD⟩ := va_join (wr := w1 cI a1 F1_0 (fun _ => 0) 0 (fun _ => 0) 0 (fun _ => 0) (fun _ => 0) (fun _ => 0) 0) (w1 := w2 cI a2 F2_0 (fun _ => 0) 0 (fun _ => 0) 0 0 0 0 0 (fun _ => 0) (fun _ => 0)) hP hD [8] [0, 1, 2, 3, 4, 5, 6, 7] rfl rfl (by decide) (by decide) hk1 hFc hP1 hD1
  have hP : va_P D vwCl (w1 cI a1 F1_0 (fun _ => 0) 0 (fun _ => 0) 0 (fun _ => 0) (fun _ => 0) (fun _ => 0) 0 ++ w2 cI a2 F2_0 (fun _ => 0) 0 (fun _ => 0) 0 0 0 0 0 (fun _ => 0) (fun _ => 0)) H1 := hP
  have hD : va_D (fun q : Nat => s.heap.size ≤ q) (w1 cI a1 F1_0 (fun _ => 0) 0 (fun _ => 0) 0 (fun _ => 0) (fun _ => 0) (fun _ => 0) 0 ++ w2 cI a2 F2_0 (fun _ => 0) 0 (fun _ => 0) 0 0 0 0 0 (fun _ => 0) (fun _ => 0)) := hD
  refine lv_astore_n (lv' := [(2, .ref (a2 0)), (1, .ref (a1 0)), (0, .ref b)]) hx hb dL_law_15 rfl hl (by decide) rfl (fun ls hl => ?_)
  -- the long
  refine lv_iconst (v := 1) hx hb dL_law_16 (by decide) ?_
  refine va_newa (atype := .long) (ty := .long) (N' := 1) (a0 := (1, .inr (.inl (fun _ => 0)))) hx hb (hts (.arrayClass .long) (by decide +kernel)) rfl hK hP hD hS hA (fun cA => vp_cell_l cA 1 (fun _ => 0)) (by decide) (by decide) (by decide) (Nat.le_of_ble_eq_true rfl) (Nat.le_of_ble_eq_true rfl) dL_law_17 (fun o cL H hK hP hD hS => ?_)
  have hK : va_K D vwCl (kO cI cL) s := hK
  have hP : va_P D vwCl ((w1 cI a1 F1_0 (fun _ => 0) 0 (fun _ => 0) 0 (fun _ => 0) (fun _ => 0) (fun _ => 0) 0 ++ w2 cI a2 F2_0 (fun _ => 0) 0 (fun _ => 0) 0 0 0 0 0 (fun _ => 0) (fun _ => 0)) ++ wO cL o (fun _ => 0)) H := hP
  have hD : va_D (fun q : Nat => s.heap.size ≤ q) ((w1 cI a1 F1_0 (fun _ => 0) 0 (fun _ => 0) 0 (fun _ => 0) (fun _ => 0) (fun _ => 0) 0 ++ w2 cI a2 F2_0 (fun _ => 0) 0 (fun _ => 0) 0 0 0 0 0 (fun _ => 0) (fun _ => 0)) ++ wO cL o (fun _ => 0)) := hD
  have hDD : LD (fun q : Nat => s.heap.size ≤ q) cI cL a1 o a2 := va_D_perm (D_mid hD) (List.Perm.refl _)
  refine lv_astore_n (lv' := [(3, .ref o), (2, .ref (a2 0)), (1, .ref (a1 0)), (0, .ref b)]) hx hb dL_law_19 rfl hl (by decide) rfl (fun ls hl => ?_)
  refine lv_iconst (v := jI 0) hx hb dL_law_20 rfl ?_
  refine lv_istore (lv' := [(4, .int (jI 0)), (3, .ref o), (2, .ref (a2 0)), (1, .ref (a1 0)), (0, .ref b)]) hx hb dL_law_21 hl (by decide) rfl (fun ls hl => ?_)
  have hI : LI D cI cL a1 o a2 0 H := ⟨F1_0, (fun _ => 0), 0, (fun _ => 0), 0, (fun _ => 0), (fun _ => 0), (fun _ => 0), 0, F2_0, (fun _ => 0), 0, 0, 0, 0, (fun _ => 0), (fun _ => 0), (fun _ => 0), RI_0, fun s hs => absurd hs (Nat.not_lt_zero s), by decide, by decide, fun k hk => absurd hk (Nat.not_lt_zero k), wok_0, wo2_0, ⟨by decide, by decide⟩, va_P_left (va_P_left hP), va_P_right hP, va_P_right (va_P_left hP)⟩
  exact law_loop ⟨hx, hb, hml, hown, htL, hX, hbl, hbA, hL, hA, hlt, hE, hK, hDD⟩ hr hlocks 514 0 H _ ls rfl (by decide) hI hS (lv_sub hl [4, 3, 2, 1, 0] rfl)
