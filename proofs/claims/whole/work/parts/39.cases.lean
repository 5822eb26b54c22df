/-! the cases of the law, one by one -/
def LX (p : Program) (l : Launch) (s : State) (m : MethodId) (c : Code) (b0 L : Nat) (xs : Nat → Int32) (D : va_G) (cI cL : ClassId) (A : Nat → Prop) (a1 : Nat → Nat) (o : Nat) (a2 : Nat → Nat) : Prop :=
  p.tables.exec = Jvm.exec ∧ c.code = code ∧ c.maxLocals = 9 ∧ s.vm.findClass RL = some m.cls ∧ (∀ w ∈ wsL_law, w.before #[Value.ref b0] s = true) ∧ va_X b0 L xs s s.heap ∧ b0 < s.heap.size ∧ ¬ A b0 ∧ L ≤ 1536 ∧ (∀ q, s.heap.size ≤ q → A q) ∧ l.stackTraces = false ∧ xenv A s ∧ va_K D vwCl (kO cI cL) s ∧ LD A cI cL a1 o a2
theorem facts1 {c : Nat} {f f2 : Nat → Int} (hc : c ≤ 512) (h : RI c f f2) : rng f ∧ mvs f ∧ mvB f 100000 ∧ (0 ≤ f 0 ∧ f 0 ≤ 99999) ∧ (∀ k : Nat, 14 ≤ k → k < 21 → -1 ≤ f k ∧ f k ≤ 23) ∧ (0 ≤ f 4 ∧ f 4 ≤ 100100) ∧ (-1 ≤ f 2 ∧ f 2 ≤ 100300) ∧ (0 ≤ f 3 ∧ f 3 ≤ 8) ∧ (1 ≤ f 11 ∧ f 11 ≤ 9) ∧ (0 ≤ f 7 ∧ f 7 ≤ f 6) ∧ (0 ≤ f 10 ∧ f 6 + f 10 ≤ 512) := by
  have hA := h.1.1
  have hm := mvB_of h.1.2.2
  unfold InvA at hA
  refine ⟨rng1_of hc h, mvs_of h.1.1 h.1.2.2, fun j hj => ?_, by omega, fun k h1 h2 => dy_at h.1.2.1 h1 h2, by omega, by omega, by omega, by omega, by omega, by omega⟩
  obtain ⟨q1, q2, q3, q4, q5⟩ := hm j hj
  exact ⟨q1, q2, q3, q4, by omega⟩
theorem facts2 {c : Nat} {f1 f : Nat → Int} (hc : c ≤ 512) (h : RI c f1 f) : rng f ∧ mv2 f ∧ mv2B f 100000 ∧ (0 ≤ f 0 ∧ f 0 ≤ 99999) ∧ (0 ≤ f 14 ∧ f 14 ≤ 100100) ∧ (-1 ≤ f 12 ∧ f 12 ≤ 100300) ∧ (0 ≤ f 13 ∧ f 13 ≤ 8) ∧ (1 ≤ f 8 ∧ f 8 ≤ 9) ∧ (0 ≤ f 17 ∧ f 17 ≤ f 16) ∧ (0 ≤ f 20 ∧ f 16 + f 20 ≤ 512) := by
  have hA := h.1.1
  have rA := h.2.1.1
  unfold InvA at hA
  unfold RelA at rA
  refine ⟨rng2_of hc h, mv2_of h.1.1 h.1.2.2 h.2.1.2.2, fun j hj => ?_, by omega, by omega, by omega, by omega, by omega, by omega, by omega⟩
  have h1 := mv_at h.1.2.2 hj
  have h2 := rl_at h.2.1.2.2 hj
  unfold mv1 at h1
  rw [h2.1, h2.2.1, h2.2.2.1, h2.2.2.2]
  exact ⟨h1.1, h1.2.1, h1.2.2.1, h1.2.2.2.1, by omega⟩
theorem lg_cmp_same (x : Int64) : lg_cmp x x = jI 0 := by
  unfold lg_cmp
  simp
  decide
section CASES
variable {p : Program} {l : Launch} {e : Env} {s : State} {m : MethodId} {below : List Frame} {meth : Method} {c : Code} {H : Heap} {locs : List Loc} {cells slots : Nat} {Q : State → Prop}
variable {ls : Array Slot} {D : va_G} {cI cL : ClassId} {A : Nat → Prop} {a1 a2 : Nat → Nat} {o b0 L i cn : Nat} {xs : Nat → Int32}
theorem k_tail (P : Nat) {off : Int} {kd sg nb b f g so ma f1 g1 : Nat → Int} {n len at_ pt : Nat} {th fl va K r2 : Int} {u : Nat → Int64} (X : LX p l s m c b0 L xs D cI cL A a1 o a2)
    (d0 : decode code P = .ok (.aload_n 2, 1)) (d1 : decode code (P + 1) = .ok (.invokevirtual 83, 3)) (d4 : decode code (P + 4) = .ok (.iload 5, 2)) (d6 : decode code (P + 6) = .ok (.if_icmp .eq 5, 3)) (d11 : decode code (P + 11) = .ok (.iload 5, 2)) (d13 : decode code (P + 13) = .ok (.ifCond .ne 15, 3)) (d16 : decode code (P + 16) = .ok (.aload_n 3, 1)) (d17 : decode code (P + 17) = .ok (.iconst 0, 1)) (d18 : decode code (P + 18) = .ok (.laload, 1)) (d19 : decode code (P + 19) = .ok (.iload 6, 2)) (d21 : decode code (P + 21) = .ok (.i2l, 1)) (d22 : decode code (P + 22) = .ok (.lcmp, 1)) (d23 : decode code (P + 23) = .ok (.ifCond .eq 5, 3)) (d28 : decode code (P + 28) = .ok (.goto off, 3)) (ho : ((P + 28 : Nat) : Int) + off = ((1308 : Nat) : Int))
    (hK : 0 ≤ K ∧ K ≤ 3) (hth : th = K) (hv : K = 0 → u 0 = (jI r2).toInt64) (hP1 : va_P D vwCl (w1 cI a1 f1 g1 n b len kd sg nb pt ++ wO cL o u) H) (hP2 : va_P D vwCl (w2 cI a2 f g n b len th at_ fl va so ma) H) (hS : va_S A s.heap H locs)
    (hl : lv_has ls 9 [(6, .int (jI r2)), (5, .int (jI K)), (0, .ref b0), (1, .ref (a1 0)), (2, .ref (a2 0)), (3, .ref o), (4, .int (jI ((3 * i : Nat) : Int)))]) (hr : cells ≤ 1067 ∧ slots ≤ 8979)
    (kk : lv_has ls 9 [(0, .ref b0), (1, .ref (a1 0)), (2, .ref (a2 0)), (3, .ref o), (4, .int (jI ((3 * i : Nat) : Int)))] → W p l e room_1 s m #[Value.ref b0] below meth c H locs cells slots Q (F0 m 1308 ls [])) : W p l e room_1 s m #[Value.ref b0] below meth c H locs cells slots Q (F0 m P ls []) := by
  obtain ⟨hx, hb, hml, hown, hts, hX, hbl, hbA, hL, hA, hlt, hE, hK2, hDD⟩ := X
  have hSx : CallFix p m c code 9 s #[Value.ref b0] wsL_law RL := ⟨hx, hb, hml, hown, hts⟩
  have kk1 := kk (lv_sub hl [2, 3, 4, 5, 6] rfl)
  refine lv_aload_n hx hb d0 rfl (lv_at hl 4 rfl) ?_
  refine xc_R (As := []) (rest := []) hSx (m_X2_thrown l D cI a2 f g n b len th at_ fl va so ma) (cwV 0 hts gL_law_X2_thrown rfl rfl rfl (by decide +kernel) ⟨Nat.le_of_ble_eq_true rfl, Nat.le_of_ble_eq_true rfl⟩) hP2 (hK2.sub [0] rfl) 0 rfl rfl rfl rfl hl.1 rfl (Nat.le_of_ble_eq_true rfl) d1 ⟨hr.1, hr.2⟩ ?_
  refine lv_iload hx hb d4 (lv_at hl 1 rfl) ?_
  refine lv_icmp_eq (tgt := P + 11) hx hb d6 (by omega) (fun _ => ?_) (fun h => absurd (congrArg jI hth) h)
  refine lv_iload hx hb d11 (lv_at hl 1 rfl) ?_
  refine x_if_ne (tgt := P + 28) hx hb d13 (by omega) (by omega) (fun _ => ?_) (fun hz => ?_)
  · exact lv_goto (tgt := 1308) hx hb d28 ho kk1
  · refine lv_aload_n hx hb d16 rfl (lv_at hl 5 rfl) ?_
    refine lv_iconst (v := jI 0) hx hb d17 rfl ?_
    refine x_lald hx hb hK2 (va_P_right hP1) d18 ?_
    refine lv_iload hx hb d19 (lv_at hl 0 rfl) ?_
    refine lv_i2l hx hb d21 rfl ?_
    refine W.lcmp hx hb d22 ?_
    rw [hv hz, lg_cmp_same]
    refine x_if_eq (tgt := P + 28) hx hb d23 (by omega) (by decide) (fun _ => ?_) (fun h => absurd rfl h)
    exact lv_goto (tgt := 1308) hx hb d28 ho kk1
set_option maxHeartbeats 4000000 in
set_option maxRecDepth 100000 in
theorem k_opening (X : LX p l s m c b0 L xs D cI cL A a1 o a2) (hi : 3 * i + 3 ≤ L) (hc : cn ≤ 511) (hI : LI D cI cL a1 o a2 cn H) (hS : va_S A s.heap H locs) (hl : lv_has ls 9 [(0, .ref b0), (1, .ref (a1 0)), (2, .ref (a2 0)), (3, .ref o), (4, .int (jI ((3 * i : Nat) : Int)))]) (hr : cells + 1 ≤ 1067 ∧ slots + 6 ≤ 8979)
    (kk : ∀ (H1 : Heap) (locs1 : List Loc) (ls1 : Array Slot), LI D cI cL a1 o a2 (cn + 1) H1 → va_S A s.heap H1 locs1 → lv_has ls1 9 [(0, .ref b0), (1, .ref (a1 0)), (2, .ref (a2 0)), (3, .ref o), (4, .int (jI ((3 * i : Nat) : Int)))] → W p l e room_1 s m #[Value.ref b0] below meth c H1 locs1 (cells + 1) (slots + 6) Q (F0 m 1308 ls1 [])) : W p l e room_1 s m #[Value.ref b0] below meth c H locs cells slots Q (F0 m 152 ls []) := by
  obtain ⟨hx, hb, hml, hown, hts, hX, hbl, hbA, hL, hA, hlt, hE, hK2, hDD⟩ := id X
  have hSx : CallFix p m c code 9 s #[Value.ref b0] wsL_law RL := ⟨hx, hb, hml, hown, hts⟩
  obtain ⟨f1, g1, n, b, len, kd, sg, nb, pt, f2, g2, th, at_, fl, va, so, ma, u, hRI, hRG, hn, hln, hbf, hwk, hw2, hva, hP1, hPo, hP2⟩ := hI
  have Q1 := facts1 (show cn ≤ 512 by omega) hRI
  have Q2 := facts2 (show cn ≤ 512 by omega) hRI
  refine lv_aload_n hx hb dL_law_152 rfl (lv_at hl 1 rfl) ?_
  refine lv_aload_n hx hb dL_law_153 rfl (lv_at hl 0 rfl) ?_
  refine lv_iload hx hb dL_law_154 (lv_at hl 4 rfl) ?_
  refine lv_iconst (v := jI 1) hx hb dL_law_156 rfl ?_
  refine x_iadd hx hb dL_law_157 ?_
  refine x_sld hx hb hX hbl hbA hS (3 * i + 1) (by omega) (by omega) hL dL_law_158 ?_
  refine lv_aload_n hx hb dL_law_159 rfl (lv_at hl 0 rfl) ?_
  refine lv_iload hx hb dL_law_160 (lv_at hl 4 rfl) ?_
  refine lv_iconst (v := jI 2) hx hb dL_law_162 rfl ?_
  refine x_iadd hx hb dL_law_163 ?_
  refine x_sld hx hb hX hbl hbA hS (3 * i + 2) (by omega) (by omega) hL dL_law_164 ?_
  refine lv_aload_n hx hb dL_law_165 rfl (lv_at hl 3 rfl) ?_
  refine xc_L (As := [.ref (a1 0), .int (jI (ys xs (3 * i + 1))), .int (jI (ys xs (3 * i + 2))), .ref o]) (rest := []) hSx (m_L_opening l D cI a1 f1 g1 n b len kd sg nb pt hlt (ys xs (3 * i + 1)) (ys xs (3 * i + 2)) hn (ys_r xs _) (ys_r xs _) cL o u) (vx_cwSW 4 hts gL_law_L_opening rfl rfl rfl (by decide +kernel) ⟨Nat.le_of_ble_eq_true rfl, Nat.le_of_ble_eq_true rfl⟩) (hP1.app hPo) hP2 (va_D_perm hDD (List.Perm.refl _)) hS hA hK2 hE rfl hl.1 rfl (Nat.le_of_ble_eq_true rfl) dL_law_166 ⟨hr.1, hr.2⟩ (fun u1 H locs hu hP1 hP2 hS => ?_)
  refine lv_istore (lv' := [(5, .int (jI (km_opening (s_X1_opening f1 g1 n (ys xs (3 * i + 1)) (ys xs (3 * i + 2))).1))), (0, .ref b0), (1, .ref (a1 0)), (2, .ref (a2 0)), (3, .ref o), (4, .int (jI ((3 * i : Nat) : Int)))]) hx hb dL_law_169 hl (by decide) rfl (fun ls hl => ?_)
  refine lv_aload_n hx hb dL_law_171 rfl (lv_at hl 3 rfl) ?_
  refine lv_aload_n hx hb dL_law_172 rfl (lv_at hl 1 rfl) ?_
  refine lv_iload hx hb dL_law_173 (lv_at hl 5 rfl) ?_
  refine lv_iconst (v := jI 1) hx hb dL_law_175 rfl ?_
  refine x_iadd hx hb dL_law_176 ?_
  refine x_sld hx hb hX hbl hbA hS (3 * i + 1) (by omega) (by omega) hL dL_law_177 ?_
  refine lv_aload_n hx hb dL_law_178 rfl (lv_at hl 1 rfl) ?_
  refine lv_iload hx hb dL_law_179 (lv_at hl 5 rfl) ?_
  refine lv_iconst (v := jI 2) hx hb dL_law_181 rfl ?_
  refine x_iadd hx hb dL_law_182 ?_
  refine x_sld hx hb hX hbl hbA hS (3 * i + 2) (by omega) (by omega) hL dL_law_183 ?_
  refine xz_I (As := [.int (jI (ys xs (3 * i + 1))), .int (jI (ys xs (3 * i + 2)))]) (rest := []) hSx (m_X2_opening l D cI a2 f2 g2 n b len th at_ fl va so ma (ys xs (3 * i + 1)) (ys xs (3 * i + 2)) hn (ys_r xs _) (ys_r xs _)) (cwV 2 hts gL_law_X2_opening rfl rfl rfl (by decide +kernel) ⟨Nat.le_of_ble_eq_true rfl, Nat.le_of_ble_eq_true rfl⟩) hP2 hP1 (va_D_perm (va_D_swap hDD) (List.Perm.refl _)) hS hA (hK2.sub [0] rfl) 0 rfl rfl rfl rfl hl.1 rfl (Nat.le_of_ble_eq_true rfl) dL_law_184 ⟨hr.1, hr.2⟩ (fun H locs hP2 hP1 hS => ?_)
  refine lv_istore (lv' := [(6, .int (jI (s_X2_opening f2 g2 n (ys xs (3 * i + 1)) (ys xs (3 * i + 2))).1)), (5, .int (jI (km_opening (s_X1_opening f1 g1 n (ys xs (3 * i + 1)) (ys xs (3 * i + 2))).1))), (0, .ref b0), (1, .ref (a1 0)), (2, .ref (a2 0)), (3, .ref o), (4, .int (jI ((3 * i : Nat) : Int)))]) hx hb dL_law_187 hl (by decide) rfl (fun ls hl => ?_)
  have hKm : (km_opening (s_X1_opening f1 g1 n (ys xs (3 * i + 1)) (ys xs (3 * i + 2))).1 = 0 → (s_X1_opening f1 g1 n (ys xs (3 * i + 1)) (ys xs (3 * i + 2))).1 = 0) ∧ 0 ≤ km_opening (s_X1_opening f1 g1 n (ys xs (3 * i + 1)) (ys xs (3 * i + 2))).1 ∧ km_opening (s_X1_opening f1 g1 n (ys xs (3 * i + 1)) (ys xs (3 * i + 2))).1 ≤ 3 := by
    rcases c_X1_opening f1 g1 n (ys xs (3 * i + 1)) (ys xs (3 * i + 2)) with h | h | h <;> rw [h] <;> decide
  have hag := a_opening hRI hRG hn (ys xs (3 * i + 1)) (ys xs (3 * i + 2))
  rw [← show (s_X1_opening f1 g1 n (ys xs (3 * i + 1)) (ys xs (3 * i + 2))).2.2.2.2 = (s_X2_opening f2 g2 n (ys xs (3 * i + 1)) (ys xs (3 * i + 2))).2.2.2.2 from hag.2.2.2.2.1] at hP2
  exact k_tail 189 X dL_law_189 dL_law_190 dL_law_193 dL_law_195 dL_law_200 dL_law_202 dL_law_205 dL_law_206 dL_law_207 dL_law_208 dL_law_210 dL_law_211 dL_law_212 dL_law_217 (by decide) hKm.2 hag.1.symm (fun z => by rw [hu (hKm.1 z), hag.2.1 (hKm.1 z)]) hP1 hP2 hS hl ⟨hr.1, hr.2⟩ (fun hl9 => kk _ _ _ ⟨_, _, _, b, len, kd, sg, nb, pt, _, _, _, at_, fl, va, so, ma, u1, hag.2.2.1, hag.2.2.2.1, hag.2.2.2.2.2, hln, hbf, hwk, hw2, hva, va_P_left hP1, va_P_right hP1, hP2⟩ hS hl9)
set_option maxHeartbeats 4000000 in
set_option maxRecDepth 100000 in
theorem k_set (X : LX p l s m c b0 L xs D cI cL A a1 o a2) (hi : 3 * i + 3 ≤ L) (hc : cn ≤ 511) (hI : LI D cI cL a1 o a2 cn H) (hS : va_S A s.heap H locs) (hl : lv_has ls 9 [(0, .ref b0), (1, .ref (a1 0)), (2, .ref (a2 0)), (3, .ref o), (4, .int (jI ((3 * i : Nat) : Int)))]) (hr : cells + 1 ≤ 1067 ∧ slots + 6 ≤ 8979)
    (kk : ∀ (H1 : Heap) (locs1 : List Loc) (ls1 : Array Slot), LI D cI cL a1 o a2 (cn + 1) H1 → va_S A s.heap H1 locs1 → lv_has ls1 9 [(0, .ref b0), (1, .ref (a1 0)), (2, .ref (a2 0)), (3, .ref o), (4, .int (jI ((3 * i : Nat) : Int)))] → W p l e room_1 s m #[Value.ref b0] below meth c H1 locs1 (cells + 1) (slots + 6) Q (F0 m 1308 ls1 [])) : W p l e room_1 s m #[Value.ref b0] below meth c H locs cells slots Q (F0 m 220 ls []) := by
  obtain ⟨hx, hb, hml, hown, hts, hX, hbl, hbA, hL, hA, hlt, hE, hK2, hDD⟩ := id X
  have hSx : CallFix p m c code 9 s #[Value.ref b0] wsL_law RL := ⟨hx, hb, hml, hown, hts⟩
  obtain ⟨f1, g1, n, b, len, kd, sg, nb, pt, f2, g2, th, at_, fl, va, so, ma, u, hRI, hRG, hn, hln, hbf, hwk, hw2, hva, hP1, hPo, hP2⟩ := hI
  have Q1 := facts1 (show cn ≤ 512 by omega) hRI
  have Q2 := facts2 (show cn ≤ 512 by omega) hRI
  refine lv_aload_n hx hb dL_law_220 rfl (lv_at hl 1 rfl) ?_
  refine lv_aload_n hx hb dL_law_221 rfl (lv_at hl 0 rfl) ?_
  refine lv_iload hx hb dL_law_222 (lv_at hl 4 rfl) ?_
  refine lv_iconst (v := jI 1) hx hb dL_law_224 rfl ?_
  refine x_iadd hx hb dL_law_225 ?_
  refine x_sld hx hb hX hbl hbA hS (3 * i + 1) (by omega) (by omega) hL dL_law_226 ?_
  refine lv_aload_n hx hb dL_law_227 rfl (lv_at hl 0 rfl) ?_
  refine lv_iload hx hb dL_law_228 (lv_at hl 4 rfl) ?_
  refine lv_iconst (v := jI 2) hx hb dL_law_230 rfl ?_
  refine x_iadd hx hb dL_law_231 ?_
  refine x_sld hx hb hX hbl hbA hS (3 * i + 2) (by omega) (by omega) hL dL_law_232 ?_
  refine lv_aload_n hx hb dL_law_233 rfl (lv_at hl 3 rfl) ?_
  refine xc_L (As := [.ref (a1 0), .int (jI (ys xs (3 * i + 1))), .int (jI (ys xs (3 * i + 2))), .ref o]) (rest := []) hSx (m_L_set l D cI a1 f1 g1 n b len kd sg nb pt hlt (ys xs (3 * i + 1)) (ys xs (3 * i + 2)) hn (ys_r xs _) (ys_r xs _) cL o u) (vx_cwSW 4 hts gL_law_L_set rfl rfl rfl (by decide +kernel) ⟨Nat.le_of_ble_eq_true rfl, Nat.le_of_ble_eq_true rfl⟩) (hP1.app hPo) hP2 (va_D_perm hDD (List.Perm.refl _)) hS hA hK2 hE rfl hl.1 rfl (Nat.le_of_ble_eq_true rfl) dL_law_234 ⟨hr.1, hr.2⟩ (fun u1 H locs hu hP1 hP2 hS => ?_)
  refine lv_istore (lv' := [(5, .int (jI (km_set (s_X1_set f1 g1 n (ys xs (3 * i + 1)) (ys xs (3 * i + 2))).1))), (0, .ref b0), (1, .ref (a1 0)), (2, .ref (a2 0)), (3, .ref o), (4, .int (jI ((3 * i : Nat) : Int)))]) hx hb dL_law_237 hl (by decide) rfl (fun ls hl => ?_)
  refine lv_aload_n hx hb dL_law_239 rfl (lv_at hl 3 rfl) ?_
  refine lv_aload_n hx hb dL_law_240 rfl (lv_at hl 1 rfl) ?_
  refine lv_iload hx hb dL_law_241 (lv_at hl 5 rfl) ?_
  refine lv_iconst (v := jI 1) hx hb dL_law_243 rfl ?_
  refine x_iadd hx hb dL_law_244 ?_
  refine x_sld hx hb hX hbl hbA hS (3 * i + 1) (by omega) (by omega) hL dL_law_245 ?_
  refine lv_aload_n hx hb dL_law_246 rfl (lv_at hl 1 rfl) ?_
  refine lv_iload hx hb dL_law_247 (lv_at hl 5 rfl) ?_
  refine lv_iconst (v := jI 2) hx hb dL_law_249 rfl ?_
  refine x_iadd hx hb dL_law_250 ?_
  refine x_sld hx hb hX hbl hbA hS (3 * i + 2) (by omega) (by omega) hL dL_law_251 ?_
  refine xz_I (As := [.int (jI (ys xs (3 * i + 1))), .int (jI (ys xs (3 * i + 2)))]) (rest := []) hSx (m_X2_set l D cI a2 f2 g2 n b len th at_ fl va so ma (ys xs (3 * i + 1)) (ys xs (3 * i + 2)) hn (ys_r xs _) (ys_r xs _)) (cwV 2 hts gL_law_X2_set rfl rfl rfl (by decide +kernel) ⟨Nat.le_of_ble_eq_true rfl, Nat.le_of_ble_eq_true rfl⟩) hP2 hP1 (va_D_perm (va_D_swap hDD) (List.Perm.refl _)) hS hA (hK2.sub [0] rfl) 0 rfl rfl rfl rfl hl.1 rfl (Nat.le_of_ble_eq_true rfl) dL_law_252 ⟨hr.1, hr.2⟩ (fun H locs hP2 hP1 hS => ?_)
  refine lv_istore (lv' := [(6, .int (jI (s_X2_set f2 g2 n (ys xs (3 * i + 1)) (ys xs (3 * i + 2))).1)), (5, .int (jI (km_set (s_X1_set f1 g1 n (ys xs (3 * i + 1)) (ys xs (3 * i + 2))).1))), (0, .ref b0), (1, .ref (a1 0)), (2, .ref (a2 0)), (3, .ref o), (4, .int (jI ((3 * i : Nat) : Int)))]) hx hb dL_law_255 hl (by decide) rfl (fun ls hl => ?_)
  have hKm : (km_set (s_X1_set f1 g1 n (ys xs (3 * i + 1)) (ys xs (3 * i + 2))).1 = 0 → (s_X1_set f1 g1 n (ys xs (3 * i + 1)) (ys xs (3 * i + 2))).1 = 0) ∧ 0 ≤ km_set (s_X1_set f1 g1 n (ys xs (3 * i + 1)) (ys xs (3 * i + 2))).1 ∧ km_set (s_X1_set f1 g1 n (ys xs (3 * i + 1)) (ys xs (3 * i + 2))).1 ≤ 3 := by
    rcases c_X1_set f1 g1 n (ys xs (3 * i + 1)) (ys xs (3 * i + 2)) with h | h | h <;> rw [h] <;> decide
  have hag := a_set hRI hRG hn (ys xs (3 * i + 1)) (ys xs (3 * i + 2))
  rw [← show (s_X1_set f1 g1 n (ys xs (3 * i + 1)) (ys xs (3 * i + 2))).2.2.2.2 = (s_X2_set f2 g2 n (ys xs (3 * i + 1)) (ys xs (3 * i + 2))).2.2.2.2 from hag.2.2.2.2.1] at hP2
  exact k_tail 257 X dL_law_257 dL_law_258 dL_law_261 dL_law_263 dL_law_268 dL_law_270 dL_law_273 dL_law_274 dL_law_275 dL_law_276 dL_law_278 dL_law_279 dL_law_280 dL_law_285 (by decide) hKm.2 hag.1.symm (fun z => by rw [hu (hKm.1 z), hag.2.1 (hKm.1 z)]) hP1 hP2 hS hl ⟨hr.1, hr.2⟩ (fun hl9 => kk _ _ _ ⟨_, _, _, b, len, kd, sg, nb, pt, _, _, _, at_, fl, va, so, ma, u1, hag.2.2.1, hag.2.2.2.1, hag.2.2.2.2.2, hln, hbf, hwk, hw2, hva, va_P_left hP1, va_P_right hP1, hP2⟩ hS hl9)
set_option maxHeartbeats 4000000 in
set_option maxRecDepth 100000 in
theorem k_wind (X : LX p l s m c b0 L xs D cI cL A a1 o a2) (hi : 3 * i + 3 ≤ L) (hc : cn ≤ 511) (hI : LI D cI cL a1 o a2 cn H) (hS : va_S A s.heap H locs) (hl : lv_has ls 9 [(0, .ref b0), (1, .ref (a1 0)), (2, .ref (a2 0)), (3, .ref o), (4, .int (jI ((3 * i : Nat) : Int)))]) (hr : cells + 1 ≤ 1067 ∧ slots + 6 ≤ 8979)
    (kk : ∀ (H1 : Heap) (locs1 : List Loc) (ls1 : Array Slot), LI D cI cL a1 o a2 (cn + 1) H1 → va_S A s.heap H1 locs1 → lv_has ls1 9 [(0, .ref b0), (1, .ref (a1 0)), (2, .ref (a2 0)), (3, .ref o), (4, .int (jI ((3 * i : Nat) : Int)))] → W p l e room_1 s m #[Value.ref b0] below meth c H1 locs1 (cells + 1) (slots + 6) Q (F0 m 1308 ls1 [])) : W p l e room_1 s m #[Value.ref b0] below meth c H locs cells slots Q (F0 m 288 ls []) := by
  obtain ⟨hx, hb, hml, hown, hts, hX, hbl, hbA, hL, hA, hlt, hE, hK2, hDD⟩ := id X
  have hSx : CallFix p m c code 9 s #[Value.ref b0] wsL_law RL := ⟨hx, hb, hml, hown, hts⟩
  obtain ⟨f1, g1, n, b, len, kd, sg, nb, pt, f2, g2, th, at_, fl, va, so, ma, u, hRI, hRG, hn, hln, hbf, hwk, hw2, hva, hP1, hPo, hP2⟩ := hI
  have Q1 := facts1 (show cn ≤ 512 by omega) hRI
  have Q2 := facts2 (show cn ≤ 512 by omega) hRI
  refine lv_aload_n hx hb dL_law_288 rfl (lv_at hl 1 rfl) ?_
  refine lv_aload_n hx hb dL_law_289 rfl (lv_at hl 0 rfl) ?_
  refine lv_iload hx hb dL_law_290 (lv_at hl 4 rfl) ?_
  refine lv_iconst (v := jI 1) hx hb dL_law_292 rfl ?_
  refine x_iadd hx hb dL_law_293 ?_
  refine x_sld hx hb hX hbl hbA hS (3 * i + 1) (by omega) (by omega) hL dL_law_294 ?_
  refine lv_aload_n hx hb dL_law_295 rfl (lv_at hl 0 rfl) ?_
  refine lv_iload hx hb dL_law_296 (lv_at hl 4 rfl) ?_
  refine lv_iconst (v := jI 2) hx hb dL_law_298 rfl ?_
  refine x_iadd hx hb dL_law_299 ?_
  refine x_sld hx hb hX hbl hbA hS (3 * i + 2) (by omega) (by omega) hL dL_law_300 ?_
  refine lv_aload_n hx hb dL_law_301 rfl (lv_at hl 3 rfl) ?_
  refine xc_L (As := [.ref (a1 0), .int (jI (ys xs (3 * i + 1))), .int (jI (ys xs (3 * i + 2))), .ref o]) (rest := []) hSx (m_L_wind l D cI a1 f1 g1 n b len kd sg nb pt hlt (ys xs (3 * i + 1)) (ys xs (3 * i + 2)) hn Q1.1 (ys_r xs _) (ys_r xs _) cL o u) (vx_cwSW 4 hts gL_law_L_wind rfl rfl rfl (by decide +kernel) ⟨Nat.le_of_ble_eq_true rfl, Nat.le_of_ble_eq_true rfl⟩) (hP1.app hPo) hP2 (va_D_perm hDD (List.Perm.refl _)) hS hA hK2 hE rfl hl.1 rfl (Nat.le_of_ble_eq_true rfl) dL_law_302 ⟨hr.1, hr.2⟩ (fun u1 H locs hu hP1 hP2 hS => ?_)
  refine lv_istore (lv' := [(5, .int (jI (km_wind (s_X1_wind f1 g1 n (ys xs (3 * i + 1)) (ys xs (3 * i + 2))).1))), (0, .ref b0), (1, .ref (a1 0)), (2, .ref (a2 0)), (3, .ref o), (4, .int (jI ((3 * i : Nat) : Int)))]) hx hb dL_law_305 hl (by decide) rfl (fun ls hl => ?_)
  refine lv_aload_n hx hb dL_law_307 rfl (lv_at hl 3 rfl) ?_
  refine lv_aload_n hx hb dL_law_308 rfl (lv_at hl 1 rfl) ?_
  refine lv_iload hx hb dL_law_309 (lv_at hl 5 rfl) ?_
  refine lv_iconst (v := jI 1) hx hb dL_law_311 rfl ?_
  refine x_iadd hx hb dL_law_312 ?_
  refine x_sld hx hb hX hbl hbA hS (3 * i + 1) (by omega) (by omega) hL dL_law_313 ?_
  refine lv_aload_n hx hb dL_law_314 rfl (lv_at hl 1 rfl) ?_
  refine lv_iload hx hb dL_law_315 (lv_at hl 5 rfl) ?_
  refine lv_iconst (v := jI 2) hx hb dL_law_317 rfl ?_
  refine x_iadd hx hb dL_law_318 ?_
  refine x_sld hx hb hX hbl hbA hS (3 * i + 2) (by omega) (by omega) hL dL_law_319 ?_
  refine xz_I (As := [.int (jI (ys xs (3 * i + 1))), .int (jI (ys xs (3 * i + 2)))]) (rest := []) hSx (m_X2_wind l D cI a2 f2 g2 n b len th at_ fl va so ma (ys xs (3 * i + 1)) (ys xs (3 * i + 2)) hn Q2.1 (ys_r xs _) (ys_r xs _)) (cwV 2 hts gL_law_X2_wind rfl rfl rfl (by decide +kernel) ⟨Nat.le_of_ble_eq_true rfl, Nat.le_of_ble_eq_true rfl⟩) hP2 hP1 (va_D_perm (va_D_swap hDD) (List.Perm.refl _)) hS hA (hK2.sub [0] rfl) 0 rfl rfl rfl rfl hl.1 rfl (Nat.le_of_ble_eq_true rfl) dL_law_320 ⟨hr.1, hr.2⟩ (fun H locs hP2 hP1 hS => ?_)
  refine lv_istore (lv' := [(6, .int (jI (s_X2_wind f2 g2 n (ys xs (3 * i + 1)) (ys xs (3 * i + 2))).1)), (5, .int (jI (km_wind (s_X1_wind f1 g1 n (ys xs (3 * i + 1)) (ys xs (3 * i + 2))).1))), (0, .ref b0), (1, .ref (a1 0)), (2, .ref (a2 0)), (3, .ref o), (4, .int (jI ((3 * i : Nat) : Int)))]) hx hb dL_law_323 hl (by decide) rfl (fun ls hl => ?_)
  have hKm : (km_wind (s_X1_wind f1 g1 n (ys xs (3 * i + 1)) (ys xs (3 * i + 2))).1 = 0 → (s_X1_wind f1 g1 n (ys xs (3 * i + 1)) (ys xs (3 * i + 2))).1 = 0) ∧ 0 ≤ km_wind (s_X1_wind f1 g1 n (ys xs (3 * i + 1)) (ys xs (3 * i + 2))).1 ∧ km_wind (s_X1_wind f1 g1 n (ys xs (3 * i + 1)) (ys xs (3 * i + 2))).1 ≤ 3 := by
    rcases c_X1_wind f1 g1 n (ys xs (3 * i + 1)) (ys xs (3 * i + 2)) with h | h | h | h <;> rw [h] <;> decide
  have hag := a_wind hRI hRG hn (ys xs (3 * i + 1)) (ys xs (3 * i + 2))
  rw [← show (s_X1_wind f1 g1 n (ys xs (3 * i + 1)) (ys xs (3 * i + 2))).2.2.2.2 = (s_X2_wind f2 g2 n (ys xs (3 * i + 1)) (ys xs (3 * i + 2))).2.2.2.2 from hag.2.2.2.2.1] at hP2
  exact k_tail 325 X dL_law_325 dL_law_326 dL_law_329 dL_law_331 dL_law_336 dL_law_338 dL_law_341 dL_law_342 dL_law_343 dL_law_344 dL_law_346 dL_law_347 dL_law_348 dL_law_353 (by decide) hKm.2 hag.1.symm (fun z => by rw [hu (hKm.1 z), hag.2.1 (hKm.1 z)]) hP1 hP2 hS hl ⟨hr.1, hr.2⟩ (fun hl9 => kk _ _ _ ⟨_, _, _, b, len, kd, sg, nb, pt, _, _, _, at_, fl, va, so, ma, u1, hag.2.2.1, hag.2.2.2.1, hag.2.2.2.2.2, hln, hbf, hwk, hw2, hva, va_P_left hP1, va_P_right hP1, hP2⟩ hS hl9)
set_option maxHeartbeats 4000000 in
set_option maxRecDepth 100000 in
theorem k_fault (X : LX p l s m c b0 L xs D cI cL A a1 o a2) (hi : 3 * i + 3 ≤ L) (hc : cn ≤ 511) (hI : LI D cI cL a1 o a2 cn H) (hS : va_S A s.heap H locs) (hl : lv_has ls 9 [(0, .ref b0), (1, .ref (a1 0)), (2, .ref (a2 0)), (3, .ref o), (4, .int (jI ((3 * i : Nat) : Int)))]) (hr : cells + 1 ≤ 1067 ∧ slots + 6 ≤ 8979)
    (kk : ∀ (H1 : Heap) (locs1 : List Loc) (ls1 : Array Slot), LI D cI cL a1 o a2 (cn + 1) H1 → va_S A s.heap H1 locs1 → lv_has ls1 9 [(0, .ref b0), (1, .ref (a1 0)), (2, .ref (a2 0)), (3, .ref o), (4, .int (jI ((3 * i : Nat) : Int)))] → W p l e room_1 s m #[Value.ref b0] below meth c H1 locs1 (cells + 1) (slots + 6) Q (F0 m 1308 ls1 [])) : W p l e room_1 s m #[Value.ref b0] below meth c H locs cells slots Q (F0 m 356 ls []) := by
  obtain ⟨hx, hb, hml, hown, hts, hX, hbl, hbA, hL, hA, hlt, hE, hK2, hDD⟩ := id X
  have hSx : CallFix p m c code 9 s #[Value.ref b0] wsL_law RL := ⟨hx, hb, hml, hown, hts⟩
  obtain ⟨f1, g1, n, b, len, kd, sg, nb, pt, f2, g2, th, at_, fl, va, so, ma, u, hRI, hRG, hn, hln, hbf, hwk, hw2, hva, hP1, hPo, hP2⟩ := hI
  have Q1 := facts1 (show cn ≤ 512 by omega) hRI
  have Q2 := facts2 (show cn ≤ 512 by omega) hRI
  by_cases hz : ys xs (3 * i + 2) = 0
  · refine lv_aload_n hx hb dL_law_356 rfl (lv_at hl 1 rfl) ?_
    refine lv_aload_n hx hb dL_law_357 rfl (lv_at hl 0 rfl) ?_
    refine lv_iload hx hb dL_law_358 (lv_at hl 4 rfl) ?_
    refine lv_iconst (v := jI 1) hx hb dL_law_360 rfl ?_
    refine x_iadd hx hb dL_law_361 ?_
    refine x_sld hx hb hX hbl hbA hS (3 * i + 1) (by omega) (by omega) hL dL_law_362 ?_
    refine lv_aload_n hx hb dL_law_363 rfl (lv_at hl 0 rfl) ?_
    refine lv_iload hx hb dL_law_364 (lv_at hl 4 rfl) ?_
    refine lv_iconst (v := jI 2) hx hb dL_law_366 rfl ?_
    refine x_iadd hx hb dL_law_367 ?_
    refine x_sld hx hb hX hbl hbA hS (3 * i + 2) (by omega) (by omega) hL dL_law_368 ?_
    refine x_if_eq (tgt := 376) hx hb dL_law_369 (by decide) (ys_r xs _) (fun _ => ?_) (fun h9 => absurd hz h9)
    refine lv_iconst (v := jI 0) hx hb dL_law_376 rfl ?_
    refine lv_aload_n hx hb dL_law_377 rfl (lv_at hl 3 rfl) ?_
    refine xc_L (As := [.ref (a1 0), .int (jI (ys xs (3 * i + 1))), .int (jI 0), .ref o]) (rest := []) hSx (m_L_fault l D cI a1 f1 g1 n b len kd sg nb pt hlt (ys xs (3 * i + 1)) 0 hn (ys_r xs _) (Or.inl rfl) cL o u) (vx_cwSW 4 hts gL_law_L_fault rfl rfl rfl (by decide +kernel) ⟨Nat.le_of_ble_eq_true rfl, Nat.le_of_ble_eq_true rfl⟩) (hP1.app hPo) hP2 (va_D_perm hDD (List.Perm.refl _)) hS hA hK2 hE rfl hl.1 rfl (Nat.le_of_ble_eq_true rfl) dL_law_378 ⟨hr.1, hr.2⟩ (fun u1 H locs hu hP1 hP2 hS => ?_)
    refine lv_istore (lv' := [(5, .int (jI (km_fault (s_X1_fault f1 g1 n (ys xs (3 * i + 1)) 0).1))), (0, .ref b0), (1, .ref (a1 0)), (2, .ref (a2 0)), (3, .ref o), (4, .int (jI ((3 * i : Nat) : Int)))]) hx hb dL_law_381 hl (by decide) rfl (fun ls hl => ?_)
    refine lv_aload_n hx hb dL_law_383 rfl (lv_at hl 3 rfl) ?_
    refine lv_aload_n hx hb dL_law_384 rfl (lv_at hl 1 rfl) ?_
    refine lv_iload hx hb dL_law_385 (lv_at hl 5 rfl) ?_
    refine lv_iconst (v := jI 1) hx hb dL_law_387 rfl ?_
    refine x_iadd hx hb dL_law_388 ?_
    refine x_sld hx hb hX hbl hbA hS (3 * i + 1) (by omega) (by omega) hL dL_law_389 ?_
    refine lv_aload_n hx hb dL_law_390 rfl (lv_at hl 1 rfl) ?_
    refine lv_iload hx hb dL_law_391 (lv_at hl 5 rfl) ?_
    refine lv_iconst (v := jI 2) hx hb dL_law_393 rfl ?_
    refine x_iadd hx hb dL_law_394 ?_
    refine x_sld hx hb hX hbl hbA hS (3 * i + 2) (by omega) (by omega) hL dL_law_395 ?_
    refine x_if_eq (tgt := 403) hx hb dL_law_396 (by decide) (ys_r xs _) (fun _ => ?_) (fun h9 => absurd hz h9)
    refine lv_iconst (v := jI 0) hx hb dL_law_403 rfl ?_
    refine xz_I (As := [.int (jI (ys xs (3 * i + 1))), .int (jI 0)]) (rest := []) hSx (m_X2_fault l D cI a2 f2 g2 n b len th at_ fl va so ma (ys xs (3 * i + 1)) 0 hn (ys_r xs _) (Or.inl rfl)) (cwV 2 hts gL_law_X2_fault rfl rfl rfl (by decide +kernel) ⟨Nat.le_of_ble_eq_true rfl, Nat.le_of_ble_eq_true rfl⟩) hP2 hP1 (va_D_perm (va_D_swap hDD) (List.Perm.refl _)) hS hA (hK2.sub [0] rfl) 0 rfl rfl rfl rfl hl.1 rfl (Nat.le_of_ble_eq_true rfl) dL_law_404 ⟨hr.1, hr.2⟩ (fun H locs hP2 hP1 hS => ?_)
    refine lv_istore (lv' := [(6, .int (jI (s_X2_fault f2 g2 n (ys xs (3 * i + 1)) 0).1)), (5, .int (jI (km_fault (s_X1_fault f1 g1 n (ys xs (3 * i + 1)) 0).1))), (0, .ref b0), (1, .ref (a1 0)), (2, .ref (a2 0)), (3, .ref o), (4, .int (jI ((3 * i : Nat) : Int)))]) hx hb dL_law_407 hl (by decide) rfl (fun ls hl => ?_)
    have hKm : (km_fault (s_X1_fault f1 g1 n (ys xs (3 * i + 1)) 0).1 = 0 → (s_X1_fault f1 g1 n (ys xs (3 * i + 1)) 0).1 = 0) ∧ 0 ≤ km_fault (s_X1_fault f1 g1 n (ys xs (3 * i + 1)) 0).1 ∧ km_fault (s_X1_fault f1 g1 n (ys xs (3 * i + 1)) 0).1 ≤ 3 := by
      rcases c_X1_fault f1 g1 n (ys xs (3 * i + 1)) 0 with h | h <;> rw [h] <;> decide
    have hag := a_fault hRI hRG hn (ys xs (3 * i + 1)) 0
    rw [← show (s_X1_fault f1 g1 n (ys xs (3 * i + 1)) 0).2.2.2.2 = (s_X2_fault f2 g2 n (ys xs (3 * i + 1)) 0).2.2.2.2 from hag.2.2.2.2.1] at hP2
    exact k_tail 409 X dL_law_409 dL_law_410 dL_law_413 dL_law_415 dL_law_420 dL_law_422 dL_law_425 dL_law_426 dL_law_427 dL_law_428 dL_law_430 dL_law_431 dL_law_432 dL_law_437 (by decide) hKm.2 hag.1.symm (fun z => by rw [hu (hKm.1 z), hag.2.1 (hKm.1 z)]) hP1 hP2 hS hl ⟨hr.1, hr.2⟩ (fun hl9 => kk _ _ _ ⟨_, _, _, b, len, kd, sg, nb, pt, _, _, _, at_, fl, va, so, ma, u1, hag.2.2.1, hag.2.2.2.1, hag.2.2.2.2.2, hln, hbf, hwk, hw2, hva, va_P_left hP1, va_P_right hP1, hP2⟩ hS hl9)
  · refine lv_aload_n hx hb dL_law_356 rfl (lv_at hl 1 rfl) ?_
    refine lv_aload_n hx hb dL_law_357 rfl (lv_at hl 0 rfl) ?_
    refine lv_iload hx hb dL_law_358 (lv_at hl 4 rfl) ?_
    refine lv_iconst (v := jI 1) hx hb dL_law_360 rfl ?_
    refine x_iadd hx hb dL_law_361 ?_
    refine x_sld hx hb hX hbl hbA hS (3 * i + 1) (by omega) (by omega) hL dL_law_362 ?_
    refine lv_aload_n hx hb dL_law_363 rfl (lv_at hl 0 rfl) ?_
    refine lv_iload hx hb dL_law_364 (lv_at hl 4 rfl) ?_
    refine lv_iconst (v := jI 2) hx hb dL_law_366 rfl ?_
    refine x_iadd hx hb dL_law_367 ?_
    refine x_sld hx hb hX hbl hbA hS (3 * i + 2) (by omega) (by omega) hL dL_law_368 ?_
    refine x_if_eq (tgt := 376) hx hb dL_law_369 (by decide) (ys_r xs _) (fun h9 => absurd h9 hz) (fun _ => ?_)
    refine lv_iconst (v := jI 1) hx hb dL_law_372 rfl ?_
    refine lv_goto (tgt := 377) hx hb dL_law_373 (by decide) ?_
    refine lv_aload_n hx hb dL_law_377 rfl (lv_at hl 3 rfl) ?_
    refine xc_L (As := [.ref (a1 0), .int (jI (ys xs (3 * i + 1))), .int (jI 1), .ref o]) (rest := []) hSx (m_L_fault l D cI a1 f1 g1 n b len kd sg nb pt hlt (ys xs (3 * i + 1)) 1 hn (ys_r xs _) (Or.inr rfl) cL o u) (vx_cwSW 4 hts gL_law_L_fault rfl rfl rfl (by decide +kernel) ⟨Nat.le_of_ble_eq_true rfl, Nat.le_of_ble_eq_true rfl⟩) (hP1.app hPo) hP2 (va_D_perm hDD (List.Perm.refl _)) hS hA hK2 hE rfl hl.1 rfl (Nat.le_of_ble_eq_true rfl) dL_law_378 ⟨hr.1, hr.2⟩ (fun u1 H locs hu hP1 hP2 hS => ?_)
    refine lv_istore (lv' := [(5, .int (jI (km_fault (s_X1_fault f1 g1 n (ys xs (3 * i + 1)) 1).1))), (0, .ref b0), (1, .ref (a1 0)), (2, .ref (a2 0)), (3, .ref o), (4, .int (jI ((3 * i : Nat) : Int)))]) hx hb dL_law_381 hl (by decide) rfl (fun ls hl => ?_)
    refine lv_aload_n hx hb dL_law_383 rfl (lv_at hl 3 rfl) ?_
    refine lv_aload_n hx hb dL_law_384 rfl (lv_at hl 1 rfl) ?_
    refine lv_iload hx hb dL_law_385 (lv_at hl 5 rfl) ?_
    refine lv_iconst (v := jI 1) hx hb dL_law_387 rfl ?_
    refine x_iadd hx hb dL_law_388 ?_
    refine x_sld hx hb hX hbl hbA hS (3 * i + 1) (by omega) (by omega) hL dL_law_389 ?_
    refine lv_aload_n hx hb dL_law_390 rfl (lv_at hl 1 rfl) ?_
    refine lv_iload hx hb dL_law_391 (lv_at hl 5 rfl) ?_
    refine lv_iconst (v := jI 2) hx hb dL_law_393 rfl ?_
    refine x_iadd hx hb dL_law_394 ?_
    refine x_sld hx hb hX hbl hbA hS (3 * i + 2) (by omega) (by omega) hL dL_law_395 ?_
    refine x_if_eq (tgt := 403) hx hb dL_law_396 (by decide) (ys_r xs _) (fun h9 => absurd h9 hz) (fun _ => ?_)
    refine lv_iconst (v := jI 1) hx hb dL_law_399 rfl ?_
    refine lv_goto (tgt := 404) hx hb dL_law_400 (by decide) ?_
    refine xz_I (As := [.int (jI (ys xs (3 * i + 1))), .int (jI 1)]) (rest := []) hSx (m_X2_fault l D cI a2 f2 g2 n b len th at_ fl va so ma (ys xs (3 * i + 1)) 1 hn (ys_r xs _) (Or.inr rfl)) (cwV 2 hts gL_law_X2_fault rfl rfl rfl (by decide +kernel) ⟨Nat.le_of_ble_eq_true rfl, Nat.le_of_ble_eq_true rfl⟩) hP2 hP1 (va_D_perm (va_D_swap hDD) (List.Perm.refl _)) hS hA (hK2.sub [0] rfl) 0 rfl rfl rfl rfl hl.1 rfl (Nat.le_of_ble_eq_true rfl) dL_law_404 ⟨hr.1, hr.2⟩ (fun H locs hP2 hP1 hS => ?_)
    refine lv_istore (lv' := [(6, .int (jI (s_X2_fault f2 g2 n (ys xs (3 * i + 1)) 1).1)), (5, .int (jI (km_fault (s_X1_fault f1 g1 n (ys xs (3 * i + 1)) 1).1))), (0, .ref b0), (1, .ref (a1 0)), (2, .ref (a2 0)), (3, .ref o), (4, .int (jI ((3 * i : Nat) : Int)))]) hx hb dL_law_407 hl (by decide) rfl (fun ls hl => ?_)
    have hKm : (km_fault (s_X1_fault f1 g1 n (ys xs (3 * i + 1)) 1).1 = 0 → (s_X1_fault f1 g1 n (ys xs (3 * i + 1)) 1).1 = 0) ∧ 0 ≤ km_fault (s_X1_fault f1 g1 n (ys xs (3 * i + 1)) 1).1 ∧ km_fault (s_X1_fault f1 g1 n (ys xs (3 * i + 1)) 1).1 ≤ 3 := by
      rcases c_X1_fault f1 g1 n (ys xs (3 * i + 1)) 1 with h | h <;> rw [h] <;> decide
    have hag := a_fault hRI hRG hn (ys xs (3 * i + 1)) 1
    rw [← show (s_X1_fault f1 g1 n (ys xs (3 * i + 1)) 1).2.2.2.2 = (s_X2_fault f2 g2 n (ys xs (3 * i + 1)) 1).2.2.2.2 from hag.2.2.2.2.1] at hP2
    exact k_tail 409 X dL_law_409 dL_law_410 dL_law_413 dL_law_415 dL_law_420 dL_law_422 dL_law_425 dL_law_426 dL_law_427 dL_law_428 dL_law_430 dL_law_431 dL_law_432 dL_law_437 (by decide) hKm.2 hag.1.symm (fun z => by rw [hu (hKm.1 z), hag.2.1 (hKm.1 z)]) hP1 hP2 hS hl ⟨hr.1, hr.2⟩ (fun hl9 => kk _ _ _ ⟨_, _, _, b, len, kd, sg, nb, pt, _, _, _, at_, fl, va, so, ma, u1, hag.2.2.1, hag.2.2.2.1, hag.2.2.2.2.2, hln, hbf, hwk, hw2, hva, va_P_left hP1, va_P_right hP1, hP2⟩ hS hl9)
set_option maxHeartbeats 4000000 in
set_option maxRecDepth 100000 in
theorem k_loss (X : LX p l s m c b0 L xs D cI cL A a1 o a2) (hi : 3 * i + 3 ≤ L) (hc : cn ≤ 511) (hI : LI D cI cL a1 o a2 cn H) (hS : va_S A s.heap H locs) (hl : lv_has ls 9 [(0, .ref b0), (1, .ref (a1 0)), (2, .ref (a2 0)), (3, .ref o), (4, .int (jI ((3 * i : Nat) : Int)))]) (hr : cells + 1 ≤ 1067 ∧ slots + 6 ≤ 8979)
    (kk : ∀ (H1 : Heap) (locs1 : List Loc) (ls1 : Array Slot), LI D cI cL a1 o a2 (cn + 1) H1 → va_S A s.heap H1 locs1 → lv_has ls1 9 [(0, .ref b0), (1, .ref (a1 0)), (2, .ref (a2 0)), (3, .ref o), (4, .int (jI ((3 * i : Nat) : Int)))] → W p l e room_1 s m #[Value.ref b0] below meth c H1 locs1 (cells + 1) (slots + 6) Q (F0 m 1308 ls1 [])) : W p l e room_1 s m #[Value.ref b0] below meth c H locs cells slots Q (F0 m 440 ls []) := by
  obtain ⟨hx, hb, hml, hown, hts, hX, hbl, hbA, hL, hA, hlt, hE, hK2, hDD⟩ := id X
  have hSx : CallFix p m c code 9 s #[Value.ref b0] wsL_law RL := ⟨hx, hb, hml, hown, hts⟩
  obtain ⟨f1, g1, n, b, len, kd, sg, nb, pt, f2, g2, th, at_, fl, va, so, ma, u, hRI, hRG, hn, hln, hbf, hwk, hw2, hva, hP1, hPo, hP2⟩ := hI
  have Q1 := facts1 (show cn ≤ 512 by omega) hRI
  have Q2 := facts2 (show cn ≤ 512 by omega) hRI
  refine lv_aload_n hx hb dL_law_440 rfl (lv_at hl 1 rfl) ?_
  refine lv_aload_n hx hb dL_law_441 rfl (lv_at hl 0 rfl) ?_
  refine lv_iload hx hb dL_law_442 (lv_at hl 4 rfl) ?_
  refine lv_iconst (v := jI 1) hx hb dL_law_444 rfl ?_
  refine x_iadd hx hb dL_law_445 ?_
  refine x_sld hx hb hX hbl hbA hS (3 * i + 1) (by omega) (by omega) hL dL_law_446 ?_
  refine lv_aload_n hx hb dL_law_447 rfl (lv_at hl 0 rfl) ?_
  refine lv_iload hx hb dL_law_448 (lv_at hl 4 rfl) ?_
  refine lv_iconst (v := jI 2) hx hb dL_law_450 rfl ?_
  refine x_iadd hx hb dL_law_451 ?_
  refine x_sld hx hb hX hbl hbA hS (3 * i + 2) (by omega) (by omega) hL dL_law_452 ?_
  refine lv_aload_n hx hb dL_law_453 rfl (lv_at hl 3 rfl) ?_
  refine xc_L (As := [.ref (a1 0), .int (jI (ys xs (3 * i + 1))), .int (jI (ys xs (3 * i + 2))), .ref o]) (rest := []) hSx (m_L_loss l D cI a1 f1 g1 n b len kd sg nb pt hlt (ys xs (3 * i + 1)) (ys xs (3 * i + 2)) hn (ys_r xs _) (ys_r xs _) cL o u) (vx_cwSW 4 hts gL_law_L_loss rfl rfl rfl (by decide +kernel) ⟨Nat.le_of_ble_eq_true rfl, Nat.le_of_ble_eq_true rfl⟩) (hP1.app hPo) hP2 (va_D_perm hDD (List.Perm.refl _)) hS hA hK2 hE rfl hl.1 rfl (Nat.le_of_ble_eq_true rfl) dL_law_454 ⟨hr.1, hr.2⟩ (fun u1 H locs hu hP1 hP2 hS => ?_)
  refine lv_istore (lv' := [(5, .int (jI (km_loss (s_X1_loss f1 g1 n (ys xs (3 * i + 1)) (ys xs (3 * i + 2))).1))), (0, .ref b0), (1, .ref (a1 0)), (2, .ref (a2 0)), (3, .ref o), (4, .int (jI ((3 * i : Nat) : Int)))]) hx hb dL_law_457 hl (by decide) rfl (fun ls hl => ?_)
  refine lv_aload_n hx hb dL_law_459 rfl (lv_at hl 3 rfl) ?_
  refine lv_aload_n hx hb dL_law_460 rfl (lv_at hl 1 rfl) ?_
  refine lv_iload hx hb dL_law_461 (lv_at hl 5 rfl) ?_
  refine lv_iconst (v := jI 1) hx hb dL_law_463 rfl ?_
  refine x_iadd hx hb dL_law_464 ?_
  refine x_sld hx hb hX hbl hbA hS (3 * i + 1) (by omega) (by omega) hL dL_law_465 ?_
  refine lv_aload_n hx hb dL_law_466 rfl (lv_at hl 1 rfl) ?_
  refine lv_iload hx hb dL_law_467 (lv_at hl 5 rfl) ?_
  refine lv_iconst (v := jI 2) hx hb dL_law_469 rfl ?_
  refine x_iadd hx hb dL_law_470 ?_
  refine x_sld hx hb hX hbl hbA hS (3 * i + 2) (by omega) (by omega) hL dL_law_471 ?_
  refine xz_I (As := [.int (jI (ys xs (3 * i + 1))), .int (jI (ys xs (3 * i + 2)))]) (rest := []) hSx (m_X2_loss l D cI a2 f2 g2 n b len th at_ fl va so ma (ys xs (3 * i + 1)) (ys xs (3 * i + 2)) hn (ys_r xs _) (ys_r xs _)) (cwV 2 hts gL_law_X2_loss rfl rfl rfl (by decide +kernel) ⟨Nat.le_of_ble_eq_true rfl, Nat.le_of_ble_eq_true rfl⟩) hP2 hP1 (va_D_perm (va_D_swap hDD) (List.Perm.refl _)) hS hA (hK2.sub [0] rfl) 0 rfl rfl rfl rfl hl.1 rfl (Nat.le_of_ble_eq_true rfl) dL_law_472 ⟨hr.1, hr.2⟩ (fun H locs hP2 hP1 hS => ?_)
  refine lv_istore (lv' := [(6, .int (jI (s_X2_loss f2 g2 n (ys xs (3 * i + 1)) (ys xs (3 * i + 2))).1)), (5, .int (jI (km_loss (s_X1_loss f1 g1 n (ys xs (3 * i + 1)) (ys xs (3 * i + 2))).1))), (0, .ref b0), (1, .ref (a1 0)), (2, .ref (a2 0)), (3, .ref o), (4, .int (jI ((3 * i : Nat) : Int)))]) hx hb dL_law_475 hl (by decide) rfl (fun ls hl => ?_)
  have hKm : (km_loss (s_X1_loss f1 g1 n (ys xs (3 * i + 1)) (ys xs (3 * i + 2))).1 = 0 → (s_X1_loss f1 g1 n (ys xs (3 * i + 1)) (ys xs (3 * i + 2))).1 = 0) ∧ 0 ≤ km_loss (s_X1_loss f1 g1 n (ys xs (3 * i + 1)) (ys xs (3 * i + 2))).1 ∧ km_loss (s_X1_loss f1 g1 n (ys xs (3 * i + 1)) (ys xs (3 * i + 2))).1 ≤ 3 := by
    rcases c_X1_loss f1 g1 n (ys xs (3 * i + 1)) (ys xs (3 * i + 2)) with h | h | h <;> rw [h] <;> decide
  have hag := a_loss hRI hRG hn (ys xs (3 * i + 1)) (ys xs (3 * i + 2))
  rw [← show (s_X1_loss f1 g1 n (ys xs (3 * i + 1)) (ys xs (3 * i + 2))).2.2.2.2 = (s_X2_loss f2 g2 n (ys xs (3 * i + 1)) (ys xs (3 * i + 2))).2.2.2.2 from hag.2.2.2.2.1] at hP2
  exact k_tail 477 X dL_law_477 dL_law_478 dL_law_481 dL_law_483 dL_law_488 dL_law_490 dL_law_493 dL_law_494 dL_law_495 dL_law_496 dL_law_498 dL_law_499 dL_law_500 dL_law_505 (by decide) hKm.2 hag.1.symm (fun z => by rw [hu (hKm.1 z), hag.2.1 (hKm.1 z)]) hP1 hP2 hS hl ⟨hr.1, hr.2⟩ (fun hl9 => kk _ _ _ ⟨_, _, _, b, len, kd, sg, nb, pt, _, _, _, at_, fl, va, so, ma, u1, hag.2.2.1, hag.2.2.2.1, hag.2.2.2.2.2, hln, hbf, hwk, hw2, hva, va_P_left hP1, va_P_right hP1, hP2⟩ hS hl9)
set_option maxHeartbeats 4000000 in
set_option maxRecDepth 100000 in
theorem k_service (X : LX p l s m c b0 L xs D cI cL A a1 o a2) (hi : 3 * i + 3 ≤ L) (hc : cn ≤ 511) (hI : LI D cI cL a1 o a2 cn H) (hS : va_S A s.heap H locs) (hl : lv_has ls 9 [(0, .ref b0), (1, .ref (a1 0)), (2, .ref (a2 0)), (3, .ref o), (4, .int (jI ((3 * i : Nat) : Int)))]) (hr : cells + 1 ≤ 1067 ∧ slots + 6 ≤ 8979)
    (kk : ∀ (H1 : Heap) (locs1 : List Loc) (ls1 : Array Slot), LI D cI cL a1 o a2 (cn + 1) H1 → va_S A s.heap H1 locs1 → lv_has ls1 9 [(0, .ref b0), (1, .ref (a1 0)), (2, .ref (a2 0)), (3, .ref o), (4, .int (jI ((3 * i : Nat) : Int)))] → W p l e room_1 s m #[Value.ref b0] below meth c H1 locs1 (cells + 1) (slots + 6) Q (F0 m 1308 ls1 [])) : W p l e room_1 s m #[Value.ref b0] below meth c H locs cells slots Q (F0 m 508 ls []) := by
  obtain ⟨hx, hb, hml, hown, hts, hX, hbl, hbA, hL, hA, hlt, hE, hK2, hDD⟩ := id X
  have hSx : CallFix p m c code 9 s #[Value.ref b0] wsL_law RL := ⟨hx, hb, hml, hown, hts⟩
  obtain ⟨f1, g1, n, b, len, kd, sg, nb, pt, f2, g2, th, at_, fl, va, so, ma, u, hRI, hRG, hn, hln, hbf, hwk, hw2, hva, hP1, hPo, hP2⟩ := hI
  have Q1 := facts1 (show cn ≤ 512 by omega) hRI
  have Q2 := facts2 (show cn ≤ 512 by omega) hRI
  refine lv_aload_n hx hb dL_law_508 rfl (lv_at hl 1 rfl) ?_
  refine lv_aload_n hx hb dL_law_509 rfl (lv_at hl 0 rfl) ?_
  refine lv_iload hx hb dL_law_510 (lv_at hl 4 rfl) ?_
  refine lv_iconst (v := jI 1) hx hb dL_law_512 rfl ?_
  refine x_iadd hx hb dL_law_513 ?_
  refine x_sld hx hb hX hbl hbA hS (3 * i + 1) (by omega) (by omega) hL dL_law_514 ?_
  refine lv_aload_n hx hb dL_law_515 rfl (lv_at hl 3 rfl) ?_
  refine xc_L (As := [.ref (a1 0), .int (jI (ys xs (3 * i + 1))), .ref o]) (rest := []) hSx (m_L_service l D cI a1 f1 g1 n b len kd sg nb pt hlt (ys xs (3 * i + 1)) hn Q1.1 (ys_r xs _) cL o u) (vx_cwSW 3 hts gL_law_L_service rfl rfl rfl (by decide +kernel) ⟨Nat.le_of_ble_eq_true rfl, Nat.le_of_ble_eq_true rfl⟩) (hP1.app hPo) hP2 (va_D_perm hDD (List.Perm.refl _)) hS hA hK2 hE rfl hl.1 rfl (Nat.le_of_ble_eq_true rfl) dL_law_516 ⟨hr.1, hr.2⟩ (fun u1 H locs hu hP1 hP2 hS => ?_)
  refine lv_istore (lv' := [(5, .int (jI (km_service (s_X1_service f1 g1 n (ys xs (3 * i + 1))).1))), (0, .ref b0), (1, .ref (a1 0)), (2, .ref (a2 0)), (3, .ref o), (4, .int (jI ((3 * i : Nat) : Int)))]) hx hb dL_law_519 hl (by decide) rfl (fun ls hl => ?_)
  refine lv_aload_n hx hb dL_law_521 rfl (lv_at hl 3 rfl) ?_
  refine lv_aload_n hx hb dL_law_522 rfl (lv_at hl 1 rfl) ?_
  refine lv_iload hx hb dL_law_523 (lv_at hl 5 rfl) ?_
  refine lv_iconst (v := jI 1) hx hb dL_law_525 rfl ?_
  refine x_iadd hx hb dL_law_526 ?_
  refine x_sld hx hb hX hbl hbA hS (3 * i + 1) (by omega) (by omega) hL dL_law_527 ?_
  refine xz_I (As := [.int (jI (ys xs (3 * i + 1)))]) (rest := []) hSx (m_X2_service l D cI a2 f2 g2 n b len th at_ fl va so ma (ys xs (3 * i + 1)) hn Q2.1 (ys_r xs _)) (cwV 1 hts gL_law_X2_service rfl rfl rfl (by decide +kernel) ⟨Nat.le_of_ble_eq_true rfl, Nat.le_of_ble_eq_true rfl⟩) hP2 hP1 (va_D_perm (va_D_swap hDD) (List.Perm.refl _)) hS hA (hK2.sub [0] rfl) 0 rfl rfl rfl rfl hl.1 rfl (Nat.le_of_ble_eq_true rfl) dL_law_528 ⟨hr.1, hr.2⟩ (fun H locs hP2 hP1 hS => ?_)
  refine lv_istore (lv' := [(6, .int (jI (s_X2_service f2 g2 n (ys xs (3 * i + 1))).1)), (5, .int (jI (km_service (s_X1_service f1 g1 n (ys xs (3 * i + 1))).1))), (0, .ref b0), (1, .ref (a1 0)), (2, .ref (a2 0)), (3, .ref o), (4, .int (jI ((3 * i : Nat) : Int)))]) hx hb dL_law_531 hl (by decide) rfl (fun ls hl => ?_)
  have hKm : (km_service (s_X1_service f1 g1 n (ys xs (3 * i + 1))).1 = 0 → (s_X1_service f1 g1 n (ys xs (3 * i + 1))).1 = 0) ∧ 0 ≤ km_service (s_X1_service f1 g1 n (ys xs (3 * i + 1))).1 ∧ km_service (s_X1_service f1 g1 n (ys xs (3 * i + 1))).1 ≤ 3 := by
    rcases c_X1_service f1 g1 n (ys xs (3 * i + 1)) with h | h | h <;> rw [h] <;> decide
  have hag := a_service hRI hRG hn (ys xs (3 * i + 1))
  rw [← show (s_X1_service f1 g1 n (ys xs (3 * i + 1))).2.2.2.2 = (s_X2_service f2 g2 n (ys xs (3 * i + 1))).2.2.2.2 from hag.2.2.2.2.1] at hP2
  exact k_tail 533 X dL_law_533 dL_law_534 dL_law_537 dL_law_539 dL_law_544 dL_law_546 dL_law_549 dL_law_550 dL_law_551 dL_law_552 dL_law_554 dL_law_555 dL_law_556 dL_law_561 (by decide) hKm.2 hag.1.symm (fun z => by rw [hu (hKm.1 z), hag.2.1 (hKm.1 z)]) hP1 hP2 hS hl ⟨hr.1, hr.2⟩ (fun hl9 => kk _ _ _ ⟨_, _, _, b, len, kd, sg, nb, pt, _, _, _, at_, fl, va, so, ma, u1, hag.2.2.1, hag.2.2.2.1, hag.2.2.2.2.2, hln, hbf, hwk, hw2, hva, va_P_left hP1, va_P_right hP1, hP2⟩ hS hl9)
set_option maxHeartbeats 4000000 in
set_option maxRecDepth 100000 in
theorem k_lock (X : LX p l s m c b0 L xs D cI cL A a1 o a2) (hi : 3 * i + 3 ≤ L) (hc : cn ≤ 511) (hI : LI D cI cL a1 o a2 cn H) (hS : va_S A s.heap H locs) (hl : lv_has ls 9 [(0, .ref b0), (1, .ref (a1 0)), (2, .ref (a2 0)), (3, .ref o), (4, .int (jI ((3 * i : Nat) : Int)))]) (hr : cells + 1 ≤ 1067 ∧ slots + 6 ≤ 8979)
    (kk : ∀ (H1 : Heap) (locs1 : List Loc) (ls1 : Array Slot), LI D cI cL a1 o a2 (cn + 1) H1 → va_S A s.heap H1 locs1 → lv_has ls1 9 [(0, .ref b0), (1, .ref (a1 0)), (2, .ref (a2 0)), (3, .ref o), (4, .int (jI ((3 * i : Nat) : Int)))] → W p l e room_1 s m #[Value.ref b0] below meth c H1 locs1 (cells + 1) (slots + 6) Q (F0 m 1308 ls1 [])) : W p l e room_1 s m #[Value.ref b0] below meth c H locs cells slots Q (F0 m 564 ls []) := by
  obtain ⟨hx, hb, hml, hown, hts, hX, hbl, hbA, hL, hA, hlt, hE, hK2, hDD⟩ := id X
  have hSx : CallFix p m c code 9 s #[Value.ref b0] wsL_law RL := ⟨hx, hb, hml, hown, hts⟩
  obtain ⟨f1, g1, n, b, len, kd, sg, nb, pt, f2, g2, th, at_, fl, va, so, ma, u, hRI, hRG, hn, hln, hbf, hwk, hw2, hva, hP1, hPo, hP2⟩ := hI
  have Q1 := facts1 (show cn ≤ 512 by omega) hRI
  have Q2 := facts2 (show cn ≤ 512 by omega) hRI
  refine lv_aload_n hx hb dL_law_564 rfl (lv_at hl 1 rfl) ?_
  refine lv_aload_n hx hb dL_law_565 rfl (lv_at hl 3 rfl) ?_
  refine xc_L (As := [.ref (a1 0), .ref o]) (rest := []) hSx (m_L_lock l D cI a1 f1 g1 n b len kd sg nb pt hlt hn Q1.1 Q1.2.1 Q1.2.2.2.1 Q1.2.2.2.2.1 cL o u) (vx_cwSW 2 hts gL_law_L_lock rfl rfl rfl (by decide +kernel) ⟨Nat.le_of_ble_eq_true rfl, Nat.le_of_ble_eq_true rfl⟩) (hP1.app hPo) hP2 (va_D_perm hDD (List.Perm.refl _)) hS hA hK2 hE rfl hl.1 rfl (Nat.le_of_ble_eq_true rfl) dL_law_566 ⟨hr.1, hr.2⟩ (fun u1 H locs hu hP1 hP2 hS => ?_)
  refine lv_istore (lv' := [(5, .int (jI (km_lock (s_X1_lock f1 g1 n).1))), (0, .ref b0), (1, .ref (a1 0)), (2, .ref (a2 0)), (3, .ref o), (4, .int (jI ((3 * i : Nat) : Int)))]) hx hb dL_law_569 hl (by decide) rfl (fun ls hl => ?_)
  refine lv_aload_n hx hb dL_law_571 rfl (lv_at hl 3 rfl) ?_
  refine xz_I (As := []) (rest := []) hSx (m_X2_lock l D cI a2 f2 g2 n b len th at_ fl va so ma hn Q2.1 Q2.2.1 Q2.2.2.2.1) (cwV 0 hts gL_law_X2_lock rfl rfl rfl (by decide +kernel) ⟨Nat.le_of_ble_eq_true rfl, Nat.le_of_ble_eq_true rfl⟩) hP2 hP1 (va_D_perm (va_D_swap hDD) (List.Perm.refl _)) hS hA (hK2.sub [0] rfl) 0 rfl rfl rfl rfl hl.1 rfl (Nat.le_of_ble_eq_true rfl) dL_law_572 ⟨hr.1, hr.2⟩ (fun H locs hP2 hP1 hS => ?_)
  refine lv_istore (lv' := [(6, .int (jI (s_X2_lock f2 g2 n).1)), (5, .int (jI (km_lock (s_X1_lock f1 g1 n).1))), (0, .ref b0), (1, .ref (a1 0)), (2, .ref (a2 0)), (3, .ref o), (4, .int (jI ((3 * i : Nat) : Int)))]) hx hb dL_law_575 hl (by decide) rfl (fun ls hl => ?_)
  have hKm : (km_lock (s_X1_lock f1 g1 n).1 = 0 → (s_X1_lock f1 g1 n).1 = 0) ∧ 0 ≤ km_lock (s_X1_lock f1 g1 n).1 ∧ km_lock (s_X1_lock f1 g1 n).1 ≤ 3 := by
    rcases c_X1_lock f1 g1 n with h | h <;> rw [h] <;> decide
  have hag := a_lock hRI hRG hn 
  rw [← show (s_X1_lock f1 g1 n).2.2.2.2 = (s_X2_lock f2 g2 n).2.2.2.2 from hag.2.2.2.2.1] at hP2
  exact k_tail 577 X dL_law_577 dL_law_578 dL_law_581 dL_law_583 dL_law_588 dL_law_590 dL_law_593 dL_law_594 dL_law_595 dL_law_596 dL_law_598 dL_law_599 dL_law_600 dL_law_605 (by decide) hKm.2 hag.1.symm (fun z => by rw [hu (hKm.1 z), hag.2.1 (hKm.1 z)]) hP1 hP2 hS hl ⟨hr.1, hr.2⟩ (fun hl9 => kk _ _ _ ⟨_, _, _, b, len, kd, sg, nb, pt, _, _, _, at_, fl, va, so, ma, u1, hag.2.2.1, hag.2.2.2.1, hag.2.2.2.2.2, hln, hbf, hwk, hw2, hva, va_P_left hP1, va_P_right hP1, hP2⟩ hS hl9)
set_option maxHeartbeats 4000000 in
set_option maxRecDepth 100000 in
theorem k_open (X : LX p l s m c b0 L xs D cI cL A a1 o a2) (hi : 3 * i + 3 ≤ L) (hc : cn ≤ 511) (hI : LI D cI cL a1 o a2 cn H) (hS : va_S A s.heap H locs) (hl : lv_has ls 9 [(0, .ref b0), (1, .ref (a1 0)), (2, .ref (a2 0)), (3, .ref o), (4, .int (jI ((3 * i : Nat) : Int)))]) (hr : cells + 1 ≤ 1067 ∧ slots + 6 ≤ 8979)
    (kk : ∀ (H1 : Heap) (locs1 : List Loc) (ls1 : Array Slot), LI D cI cL a1 o a2 (cn + 1) H1 → va_S A s.heap H1 locs1 → lv_has ls1 9 [(0, .ref b0), (1, .ref (a1 0)), (2, .ref (a2 0)), (3, .ref o), (4, .int (jI ((3 * i : Nat) : Int)))] → W p l e room_1 s m #[Value.ref b0] below meth c H1 locs1 (cells + 1) (slots + 6) Q (F0 m 1308 ls1 [])) : W p l e room_1 s m #[Value.ref b0] below meth c H locs cells slots Q (F0 m 608 ls []) := by
  obtain ⟨hx, hb, hml, hown, hts, hX, hbl, hbA, hL, hA, hlt, hE, hK2, hDD⟩ := id X
  have hSx : CallFix p m c code 9 s #[Value.ref b0] wsL_law RL := ⟨hx, hb, hml, hown, hts⟩
  obtain ⟨f1, g1, n, b, len, kd, sg, nb, pt, f2, g2, th, at_, fl, va, so, ma, u, hRI, hRG, hn, hln, hbf, hwk, hw2, hva, hP1, hPo, hP2⟩ := hI
  have Q1 := facts1 (show cn ≤ 512 by omega) hRI
  have Q2 := facts2 (show cn ≤ 512 by omega) hRI
  refine lv_aload_n hx hb dL_law_608 rfl (lv_at hl 1 rfl) ?_
  refine lv_aload_n hx hb dL_law_609 rfl (lv_at hl 3 rfl) ?_
  refine xc_L (As := [.ref (a1 0), .ref o]) (rest := []) hSx (m_L_open l D cI a1 f1 g1 n b len kd sg nb pt hlt hn Q1.1 Q1.2.1 Q1.2.2.2.1 Q1.2.2.2.2.2.1 Q1.2.2.2.2.2.2.1 Q1.2.2.2.2.2.2.2.1 Q1.2.2.2.2.2.2.2.2.1 cL o u) (vx_cwSW 2 hts gL_law_L_open rfl rfl rfl (by decide +kernel) ⟨Nat.le_of_ble_eq_true rfl, Nat.le_of_ble_eq_true rfl⟩) (hP1.app hPo) hP2 (va_D_perm hDD (List.Perm.refl _)) hS hA hK2 hE rfl hl.1 rfl (Nat.le_of_ble_eq_true rfl) dL_law_610 ⟨hr.1, hr.2⟩ (fun u1 H locs hu hP1 hP2 hS => ?_)
  refine lv_istore (lv' := [(5, .int (jI (km_open (s_X1_open f1 g1 n).1))), (0, .ref b0), (1, .ref (a1 0)), (2, .ref (a2 0)), (3, .ref o), (4, .int (jI ((3 * i : Nat) : Int)))]) hx hb dL_law_613 hl (by decide) rfl (fun ls hl => ?_)
  refine lv_aload_n hx hb dL_law_615 rfl (lv_at hl 3 rfl) ?_
  refine xz_I (As := []) (rest := []) hSx (m_X2_open l D cI a2 f2 g2 n b len th at_ fl va so ma hn Q2.1 Q2.2.1 Q2.2.2.2.1 Q2.2.2.2.2.1 Q2.2.2.2.2.2.1 Q2.2.2.2.2.2.2.1 Q2.2.2.2.2.2.2.2.1) (cwV 0 hts gL_law_X2_open rfl rfl rfl (by decide +kernel) ⟨Nat.le_of_ble_eq_true rfl, Nat.le_of_ble_eq_true rfl⟩) hP2 hP1 (va_D_perm (va_D_swap hDD) (List.Perm.refl _)) hS hA (hK2.sub [0] rfl) 0 rfl rfl rfl rfl hl.1 rfl (Nat.le_of_ble_eq_true rfl) dL_law_616 ⟨hr.1, hr.2⟩ (fun H locs hP2 hP1 hS => ?_)
  refine lv_istore (lv' := [(6, .int (jI (s_X2_open f2 g2 n).1)), (5, .int (jI (km_open (s_X1_open f1 g1 n).1))), (0, .ref b0), (1, .ref (a1 0)), (2, .ref (a2 0)), (3, .ref o), (4, .int (jI ((3 * i : Nat) : Int)))]) hx hb dL_law_619 hl (by decide) rfl (fun ls hl => ?_)
  have hKm : (km_open (s_X1_open f1 g1 n).1 = 0 → (s_X1_open f1 g1 n).1 = 0) ∧ 0 ≤ km_open (s_X1_open f1 g1 n).1 ∧ km_open (s_X1_open f1 g1 n).1 ≤ 3 := by
    rcases c_X1_open f1 g1 n with h | h <;> rw [h] <;> decide
  have hag := a_open hRI hRG hn 
  rw [← show (s_X1_open f1 g1 n).2.2.2.2 = (s_X2_open f2 g2 n).2.2.2.2 from hag.2.2.2.2.1] at hP2
  exact k_tail 621 X dL_law_621 dL_law_622 dL_law_625 dL_law_627 dL_law_632 dL_law_634 dL_law_637 dL_law_638 dL_law_639 dL_law_640 dL_law_642 dL_law_643 dL_law_644 dL_law_649 (by decide) hKm.2 hag.1.symm (fun z => by rw [hu (hKm.1 z), hag.2.1 (hKm.1 z)]) hP1 hP2 hS hl ⟨hr.1, hr.2⟩ (fun hl9 => kk _ _ _ ⟨_, _, _, b, len, kd, sg, nb, pt, _, _, _, at_, fl, va, so, ma, u1, hag.2.2.1, hag.2.2.2.1, hag.2.2.2.2.2, hln, hbf, hwk, hw2, hva, va_P_left hP1, va_P_right hP1, hP2⟩ hS hl9)
set_option maxHeartbeats 4000000 in
set_option maxRecDepth 100000 in
theorem k_drill (X : LX p l s m c b0 L xs D cI cL A a1 o a2) (hi : 3 * i + 3 ≤ L) (hc : cn ≤ 511) (hI : LI D cI cL a1 o a2 cn H) (hS : va_S A s.heap H locs) (hl : lv_has ls 9 [(0, .ref b0), (1, .ref (a1 0)), (2, .ref (a2 0)), (3, .ref o), (4, .int (jI ((3 * i : Nat) : Int)))]) (hr : cells + 1 ≤ 1067 ∧ slots + 6 ≤ 8979)
    (kk : ∀ (H1 : Heap) (locs1 : List Loc) (ls1 : Array Slot), LI D cI cL a1 o a2 (cn + 1) H1 → va_S A s.heap H1 locs1 → lv_has ls1 9 [(0, .ref b0), (1, .ref (a1 0)), (2, .ref (a2 0)), (3, .ref o), (4, .int (jI ((3 * i : Nat) : Int)))] → W p l e room_1 s m #[Value.ref b0] below meth c H1 locs1 (cells + 1) (slots + 6) Q (F0 m 1308 ls1 [])) : W p l e room_1 s m #[Value.ref b0] below meth c H locs cells slots Q (F0 m 652 ls []) := by
  obtain ⟨hx, hb, hml, hown, hts, hX, hbl, hbA, hL, hA, hlt, hE, hK2, hDD⟩ := id X
  have hSx : CallFix p m c code 9 s #[Value.ref b0] wsL_law RL := ⟨hx, hb, hml, hown, hts⟩
  obtain ⟨f1, g1, n, b, len, kd, sg, nb, pt, f2, g2, th, at_, fl, va, so, ma, u, hRI, hRG, hn, hln, hbf, hwk, hw2, hva, hP1, hPo, hP2⟩ := hI
  have Q1 := facts1 (show cn ≤ 512 by omega) hRI
  have Q2 := facts2 (show cn ≤ 512 by omega) hRI
  refine lv_aload_n hx hb dL_law_652 rfl (lv_at hl 1 rfl) ?_
  refine lv_aload_n hx hb dL_law_653 rfl (lv_at hl 3 rfl) ?_
  refine xc_L (As := [.ref (a1 0), .ref o]) (rest := []) hSx (m_L_drill l D cI a1 f1 g1 n b len kd sg nb pt hlt hn Q1.1 cL o u) (vx_cwSW 2 hts gL_law_L_drill rfl rfl rfl (by decide +kernel) ⟨Nat.le_of_ble_eq_true rfl, Nat.le_of_ble_eq_true rfl⟩) (hP1.app hPo) hP2 (va_D_perm hDD (List.Perm.refl _)) hS hA hK2 hE rfl hl.1 rfl (Nat.le_of_ble_eq_true rfl) dL_law_654 ⟨hr.1, hr.2⟩ (fun u1 H locs hu hP1 hP2 hS => ?_)
  refine lv_istore (lv' := [(5, .int (jI (km_drill (s_X1_drill f1 g1 n).1))), (0, .ref b0), (1, .ref (a1 0)), (2, .ref (a2 0)), (3, .ref o), (4, .int (jI ((3 * i : Nat) : Int)))]) hx hb dL_law_657 hl (by decide) rfl (fun ls hl => ?_)
  refine lv_aload_n hx hb dL_law_659 rfl (lv_at hl 3 rfl) ?_
  refine xz_I (As := []) (rest := []) hSx (m_X2_drill l D cI a2 f2 g2 n b len th at_ fl va so ma hn Q2.1) (cwV 0 hts gL_law_X2_drill rfl rfl rfl (by decide +kernel) ⟨Nat.le_of_ble_eq_true rfl, Nat.le_of_ble_eq_true rfl⟩) hP2 hP1 (va_D_perm (va_D_swap hDD) (List.Perm.refl _)) hS hA (hK2.sub [0] rfl) 0 rfl rfl rfl rfl hl.1 rfl (Nat.le_of_ble_eq_true rfl) dL_law_660 ⟨hr.1, hr.2⟩ (fun H locs hP2 hP1 hS => ?_)
  refine lv_istore (lv' := [(6, .int (jI (s_X2_drill f2 g2 n).1)), (5, .int (jI (km_drill (s_X1_drill f1 g1 n).1))), (0, .ref b0), (1, .ref (a1 0)), (2, .ref (a2 0)), (3, .ref o), (4, .int (jI ((3 * i : Nat) : Int)))]) hx hb dL_law_663 hl (by decide) rfl (fun ls hl => ?_)
  have hKm : (km_drill (s_X1_drill f1 g1 n).1 = 0 → (s_X1_drill f1 g1 n).1 = 0) ∧ 0 ≤ km_drill (s_X1_drill f1 g1 n).1 ∧ km_drill (s_X1_drill f1 g1 n).1 ≤ 3 := by
    rcases c_X1_drill f1 g1 n with h | h <;> rw [h] <;> decide
  have hag := a_drill hRI hRG hn 
  rw [← show (s_X1_drill f1 g1 n).2.2.2.2 = (s_X2_drill f2 g2 n).2.2.2.2 from hag.2.2.2.2.1] at hP2
  exact k_tail 665 X dL_law_665 dL_law_666 dL_law_669 dL_law_671 dL_law_676 dL_law_678 dL_law_681 dL_law_682 dL_law_683 dL_law_684 dL_law_686 dL_law_687 dL_law_688 dL_law_693 (by decide) hKm.2 hag.1.symm (fun z => by rw [hu (hKm.1 z), hag.2.1 (hKm.1 z)]) hP1 hP2 hS hl ⟨hr.1, hr.2⟩ (fun hl9 => kk _ _ _ ⟨_, _, _, b, len, kd, sg, nb, pt, _, _, _, at_, fl, va, so, ma, u1, hag.2.2.1, hag.2.2.2.1, hag.2.2.2.2.2, hln, hbf, hwk, hw2, hva, va_P_left hP1, va_P_right hP1, hP2⟩ hS hl9)
set_option maxHeartbeats 4000000 in
set_option maxRecDepth 100000 in
theorem k_pass (X : LX p l s m c b0 L xs D cI cL A a1 o a2) (hi : 3 * i + 3 ≤ L) (hc : cn ≤ 511) (hI : LI D cI cL a1 o a2 cn H) (hS : va_S A s.heap H locs) (hl : lv_has ls 9 [(0, .ref b0), (1, .ref (a1 0)), (2, .ref (a2 0)), (3, .ref o), (4, .int (jI ((3 * i : Nat) : Int)))]) (hr : cells + 1 ≤ 1067 ∧ slots + 6 ≤ 8979)
    (kk : ∀ (H1 : Heap) (locs1 : List Loc) (ls1 : Array Slot), LI D cI cL a1 o a2 (cn + 1) H1 → va_S A s.heap H1 locs1 → lv_has ls1 9 [(0, .ref b0), (1, .ref (a1 0)), (2, .ref (a2 0)), (3, .ref o), (4, .int (jI ((3 * i : Nat) : Int)))] → W p l e room_1 s m #[Value.ref b0] below meth c H1 locs1 (cells + 1) (slots + 6) Q (F0 m 1308 ls1 [])) : W p l e room_1 s m #[Value.ref b0] below meth c H locs cells slots Q (F0 m 696 ls []) := by
  obtain ⟨hx, hb, hml, hown, hts, hX, hbl, hbA, hL, hA, hlt, hE, hK2, hDD⟩ := id X
  have hSx : CallFix p m c code 9 s #[Value.ref b0] wsL_law RL := ⟨hx, hb, hml, hown, hts⟩
  obtain ⟨f1, g1, n, b, len, kd, sg, nb, pt, f2, g2, th, at_, fl, va, so, ma, u, hRI, hRG, hn, hln, hbf, hwk, hw2, hva, hP1, hPo, hP2⟩ := hI
  have Q1 := facts1 (show cn ≤ 512 by omega) hRI
  have Q2 := facts2 (show cn ≤ 512 by omega) hRI
  refine lv_aload_n hx hb dL_law_696 rfl (lv_at hl 1 rfl) ?_
  refine lv_aload_n hx hb dL_law_697 rfl (lv_at hl 0 rfl) ?_
  refine lv_iload hx hb dL_law_698 (lv_at hl 4 rfl) ?_
  refine lv_iconst (v := jI 1) hx hb dL_law_700 rfl ?_
  refine x_iadd hx hb dL_law_701 ?_
  refine x_sld hx hb hX hbl hbA hS (3 * i + 1) (by omega) (by omega) hL dL_law_702 ?_
  refine lv_aload_n hx hb dL_law_703 rfl (lv_at hl 3 rfl) ?_
  refine xc_L (As := [.ref (a1 0), .int (jI (ys xs (3 * i + 1))), .ref o]) (rest := []) hSx (m_L_pass l D cI a1 f1 g1 n b len kd sg nb pt hlt (ys xs (3 * i + 1)) hn Q1.1 Q1.2.2.2.1 Q1.2.2.1 (ys_r xs _) cL o u) (vx_cwSW 3 hts gL_law_L_pass rfl rfl rfl (by decide +kernel) ⟨Nat.le_of_ble_eq_true rfl, Nat.le_of_ble_eq_true rfl⟩) (hP1.app hPo) hP2 (va_D_perm hDD (List.Perm.refl _)) hS hA hK2 hE rfl hl.1 rfl (Nat.le_of_ble_eq_true rfl) dL_law_704 ⟨hr.1, hr.2⟩ (fun u1 H locs hu hP1 hP2 hS => ?_)
  refine lv_istore (lv' := [(5, .int (jI (km_pass (s_X1_pass f1 g1 n (ys xs (3 * i + 1))).1))), (0, .ref b0), (1, .ref (a1 0)), (2, .ref (a2 0)), (3, .ref o), (4, .int (jI ((3 * i : Nat) : Int)))]) hx hb dL_law_707 hl (by decide) rfl (fun ls hl => ?_)
  refine lv_aload_n hx hb dL_law_709 rfl (lv_at hl 3 rfl) ?_
  refine lv_aload_n hx hb dL_law_710 rfl (lv_at hl 1 rfl) ?_
  refine lv_iload hx hb dL_law_711 (lv_at hl 5 rfl) ?_
  refine lv_iconst (v := jI 1) hx hb dL_law_713 rfl ?_
  refine x_iadd hx hb dL_law_714 ?_
  refine x_sld hx hb hX hbl hbA hS (3 * i + 1) (by omega) (by omega) hL dL_law_715 ?_
  refine xz_I (As := [.int (jI (ys xs (3 * i + 1)))]) (rest := []) hSx (m_X2_pass l D cI a2 f2 g2 n b len th at_ fl va so ma (ys xs (3 * i + 1)) hn Q2.1 Q2.2.2.2.1 Q2.2.2.1 (ys_r xs _)) (cwV 1 hts gL_law_X2_pass rfl rfl rfl (by decide +kernel) ⟨Nat.le_of_ble_eq_true rfl, Nat.le_of_ble_eq_true rfl⟩) hP2 hP1 (va_D_perm (va_D_swap hDD) (List.Perm.refl _)) hS hA (hK2.sub [0] rfl) 0 rfl rfl rfl rfl hl.1 rfl (Nat.le_of_ble_eq_true rfl) dL_law_716 ⟨hr.1, hr.2⟩ (fun H locs hP2 hP1 hS => ?_)
  refine lv_istore (lv' := [(6, .int (jI (s_X2_pass f2 g2 n (ys xs (3 * i + 1))).1)), (5, .int (jI (km_pass (s_X1_pass f1 g1 n (ys xs (3 * i + 1))).1))), (0, .ref b0), (1, .ref (a1 0)), (2, .ref (a2 0)), (3, .ref o), (4, .int (jI ((3 * i : Nat) : Int)))]) hx hb dL_law_719 hl (by decide) rfl (fun ls hl => ?_)
  have hKm : (km_pass (s_X1_pass f1 g1 n (ys xs (3 * i + 1))).1 = 0 → (s_X1_pass f1 g1 n (ys xs (3 * i + 1))).1 = 0) ∧ 0 ≤ km_pass (s_X1_pass f1 g1 n (ys xs (3 * i + 1))).1 ∧ km_pass (s_X1_pass f1 g1 n (ys xs (3 * i + 1))).1 ≤ 3 := by
    rcases c_X1_pass f1 g1 n (ys xs (3 * i + 1)) with h | h | h <;> rw [h] <;> decide
  have hag := a_pass hRI hRG hn (ys xs (3 * i + 1))
  rw [← show (s_X1_pass f1 g1 n (ys xs (3 * i + 1))).2.2.2.2 = (s_X2_pass f2 g2 n (ys xs (3 * i + 1))).2.2.2.2 from hag.2.2.2.2.1] at hP2
  exact k_tail 721 X dL_law_721 dL_law_722 dL_law_725 dL_law_727 dL_law_732 dL_law_734 dL_law_737 dL_law_738 dL_law_739 dL_law_740 dL_law_742 dL_law_743 dL_law_744 dL_law_749 (by decide) hKm.2 hag.1.symm (fun z => by rw [hu (hKm.1 z), hag.2.1 (hKm.1 z)]) hP1 hP2 hS hl ⟨hr.1, hr.2⟩ (fun hl9 => kk _ _ _ ⟨_, _, _, b, len, kd, sg, nb, pt, _, _, _, at_, fl, va, so, ma, u1, hag.2.2.1, hag.2.2.2.1, hag.2.2.2.2.2, hln, hbf, hwk, hw2, hva, va_P_left hP1, va_P_right hP1, hP2⟩ hS hl9)
set_option maxHeartbeats 4000000 in
set_option maxRecDepth 100000 in
theorem k_append (X : LX p l s m c b0 L xs D cI cL A a1 o a2) (hi : 3 * i + 3 ≤ L) (hc : cn ≤ 511) (hI : LI D cI cL a1 o a2 cn H) (hS : va_S A s.heap H locs) (hl : lv_has ls 9 [(0, .ref b0), (1, .ref (a1 0)), (2, .ref (a2 0)), (3, .ref o), (4, .int (jI ((3 * i : Nat) : Int)))]) (hr : cells + 1 ≤ 1067 ∧ slots + 6 ≤ 8979)
    (kk : ∀ (H1 : Heap) (locs1 : List Loc) (ls1 : Array Slot), LI D cI cL a1 o a2 (cn + 1) H1 → va_S A s.heap H1 locs1 → lv_has ls1 9 [(0, .ref b0), (1, .ref (a1 0)), (2, .ref (a2 0)), (3, .ref o), (4, .int (jI ((3 * i : Nat) : Int)))] → W p l e room_1 s m #[Value.ref b0] below meth c H1 locs1 (cells + 1) (slots + 6) Q (F0 m 1308 ls1 [])) : W p l e room_1 s m #[Value.ref b0] below meth c H locs cells slots Q (F0 m 752 ls []) := by
  obtain ⟨hx, hb, hml, hown, hts, hX, hbl, hbA, hL, hA, hlt, hE, hK2, hDD⟩ := id X
  have hSx : CallFix p m c code 9 s #[Value.ref b0] wsL_law RL := ⟨hx, hb, hml, hown, hts⟩
  obtain ⟨f1, g1, n, b, len, kd, sg, nb, pt, f2, g2, th, at_, fl, va, so, ma, u, hRI, hRG, hn, hln, hbf, hwk, hw2, hva, hP1, hPo, hP2⟩ := hI
  have Q1 := facts1 (show cn ≤ 512 by omega) hRI
  have Q2 := facts2 (show cn ≤ 512 by omega) hRI
  refine lv_aload_n hx hb dL_law_752 rfl (lv_at hl 1 rfl) ?_
  refine lv_aload_n hx hb dL_law_753 rfl (lv_at hl 0 rfl) ?_
  refine lv_iload hx hb dL_law_754 (lv_at hl 4 rfl) ?_
  refine lv_iconst (v := jI 1) hx hb dL_law_756 rfl ?_
  refine x_iadd hx hb dL_law_757 ?_
  refine x_sld hx hb hX hbl hbA hS (3 * i + 1) (by omega) (by omega) hL dL_law_758 ?_
  refine lv_aload_n hx hb dL_law_759 rfl (lv_at hl 3 rfl) ?_
  refine xc_L (As := [.ref (a1 0), .int (jI (ys xs (3 * i + 1))), .ref o]) (rest := []) hSx (m_L_append l D cI a1 f1 g1 n b len kd sg nb pt hlt (ys xs (3 * i + 1)) hln (ys_r xs _) cL o u) (vx_cwSW 3 hts gL_law_L_append rfl rfl rfl (by decide +kernel) ⟨Nat.le_of_ble_eq_true rfl, Nat.le_of_ble_eq_true rfl⟩) (hP1.app hPo) hP2 (va_D_perm hDD (List.Perm.refl _)) hS hA hK2 hE rfl hl.1 rfl (Nat.le_of_ble_eq_true rfl) dL_law_760 ⟨hr.1, hr.2⟩ (fun u1 H locs hu hP1 hP2 hS => ?_)
  refine lv_istore (lv' := [(5, .int (jI (km_append (s_X1_append b len (ys xs (3 * i + 1))).1))), (0, .ref b0), (1, .ref (a1 0)), (2, .ref (a2 0)), (3, .ref o), (4, .int (jI ((3 * i : Nat) : Int)))]) hx hb dL_law_763 hl (by decide) rfl (fun ls hl => ?_)
  refine lv_aload_n hx hb dL_law_765 rfl (lv_at hl 3 rfl) ?_
  refine lv_aload_n hx hb dL_law_766 rfl (lv_at hl 1 rfl) ?_
  refine lv_iload hx hb dL_law_767 (lv_at hl 5 rfl) ?_
  refine lv_iconst (v := jI 1) hx hb dL_law_769 rfl ?_
  refine x_iadd hx hb dL_law_770 ?_
  refine x_sld hx hb hX hbl hbA hS (3 * i + 1) (by omega) (by omega) hL dL_law_771 ?_
  refine xz_I (As := [.int (jI (ys xs (3 * i + 1)))]) (rest := []) hSx (m_X2_append l D cI a2 f2 g2 n b len th at_ fl va so ma (ys xs (3 * i + 1)) hln (ys_r xs _)) (cwV 1 hts gL_law_X2_append rfl rfl rfl (by decide +kernel) ⟨Nat.le_of_ble_eq_true rfl, Nat.le_of_ble_eq_true rfl⟩) hP2 hP1 (va_D_perm (va_D_swap hDD) (List.Perm.refl _)) hS hA (hK2.sub [0] rfl) 0 rfl rfl rfl rfl hl.1 rfl (Nat.le_of_ble_eq_true rfl) dL_law_772 ⟨hr.1, hr.2⟩ (fun H locs hP2 hP1 hS => ?_)
  refine lv_istore (lv' := [(6, .int (jI (s_X2_append b len (ys xs (3 * i + 1))).1)), (5, .int (jI (km_append (s_X1_append b len (ys xs (3 * i + 1))).1))), (0, .ref b0), (1, .ref (a1 0)), (2, .ref (a2 0)), (3, .ref o), (4, .int (jI ((3 * i : Nat) : Int)))]) hx hb dL_law_775 hl (by decide) rfl (fun ls hl => ?_)
  have hKm : (km_append (s_X1_append b len (ys xs (3 * i + 1))).1 = 0 → (s_X1_append b len (ys xs (3 * i + 1))).1 = 0) ∧ 0 ≤ km_append (s_X1_append b len (ys xs (3 * i + 1))).1 ∧ km_append (s_X1_append b len (ys xs (3 * i + 1))).1 ≤ 3 := by
    rcases c_X1_append b len (ys xs (3 * i + 1)) with h | h | h <;> rw [h] <;> decide
  have hag := a_append (b := b) hln (ys xs (3 * i + 1))
  rw [show (s_X2_append b len (ys xs (3 * i + 1))).2.2.1 = (s_X1_append b len (ys xs (3 * i + 1))).2.2.1 from congrArg Prod.fst hag.2.2.1.symm, show (s_X2_append b len (ys xs (3 * i + 1))).2.2.2 = (s_X1_append b len (ys xs (3 * i + 1))).2.2.2 from congrArg Prod.snd hag.2.2.1.symm] at hP2
  exact k_tail 777 X dL_law_777 dL_law_778 dL_law_781 dL_law_783 dL_law_788 dL_law_790 dL_law_793 dL_law_794 dL_law_795 dL_law_796 dL_law_798 dL_law_799 dL_law_800 dL_law_805 (by decide) hKm.2 hag.1.symm (fun z => by rw [hu (hKm.1 z), hag.2.1 (hKm.1 z)]) hP1 hP2 hS hl ⟨hr.1, hr.2⟩ (fun hl9 => kk _ _ _ ⟨f1, g1, n, _, _, kd, sg, nb, pt, f2, g2, _, at_, fl, va, so, ma, u1, RI_more hRI, RG_more hRG, hn, hag.2.2.2.1, hag.2.2.2.2 hbf, hwk, hw2, hva, va_P_left hP1, va_P_right hP1, hP2⟩ hS hl9)
set_option maxHeartbeats 4000000 in
set_option maxRecDepth 100000 in
theorem k_clearBuffer (X : LX p l s m c b0 L xs D cI cL A a1 o a2) (hi : 3 * i + 3 ≤ L) (hc : cn ≤ 511) (hI : LI D cI cL a1 o a2 cn H) (hS : va_S A s.heap H locs) (hl : lv_has ls 9 [(0, .ref b0), (1, .ref (a1 0)), (2, .ref (a2 0)), (3, .ref o), (4, .int (jI ((3 * i : Nat) : Int)))]) (hr : cells + 1 ≤ 1067 ∧ slots + 6 ≤ 8979)
    (kk : ∀ (H1 : Heap) (locs1 : List Loc) (ls1 : Array Slot), LI D cI cL a1 o a2 (cn + 1) H1 → va_S A s.heap H1 locs1 → lv_has ls1 9 [(0, .ref b0), (1, .ref (a1 0)), (2, .ref (a2 0)), (3, .ref o), (4, .int (jI ((3 * i : Nat) : Int)))] → W p l e room_1 s m #[Value.ref b0] below meth c H1 locs1 (cells + 1) (slots + 6) Q (F0 m 1308 ls1 [])) : W p l e room_1 s m #[Value.ref b0] below meth c H locs cells slots Q (F0 m 808 ls []) := by
  obtain ⟨hx, hb, hml, hown, hts, hX, hbl, hbA, hL, hA, hlt, hE, hK2, hDD⟩ := id X
  have hSx : CallFix p m c code 9 s #[Value.ref b0] wsL_law RL := ⟨hx, hb, hml, hown, hts⟩
  obtain ⟨f1, g1, n, b, len, kd, sg, nb, pt, f2, g2, th, at_, fl, va, so, ma, u, hRI, hRG, hn, hln, hbf, hwk, hw2, hva, hP1, hPo, hP2⟩ := hI
  have Q1 := facts1 (show cn ≤ 512 by omega) hRI
  have Q2 := facts2 (show cn ≤ 512 by omega) hRI
  refine lv_aload_n hx hb dL_law_808 rfl (lv_at hl 1 rfl) ?_
  refine xz_I (As := []) (rest := []) hSx (m_X1_clearBuffer l D cI a1 f1 g1 n b len kd sg nb pt) (cwV 0 hts gL_law_X1_clearBuffer rfl rfl rfl (by decide +kernel) ⟨Nat.le_of_ble_eq_true rfl, Nat.le_of_ble_eq_true rfl⟩) hP1 (hPo.app hP2) (va_D_perm hDD (List.Perm.refl _)) hS hA (hK2.sub [0] rfl) 0 rfl rfl rfl rfl hl.1 rfl (Nat.le_of_ble_eq_true rfl) dL_law_809 ⟨by show cells ≤ 1067; omega, by show slots ≤ 8979; omega⟩ (fun H locs hP1 hP9 hS => ?_)
  have hPo := va_P_left hP9
  have hP2 := va_P_right hP9
  refine lv_aload_n hx hb dL_law_812 rfl (lv_at hl 2 rfl) ?_
  refine xz_I (As := []) (rest := [.int (jI (s_X1_clearBuffer len).1)]) hSx (m_X2_clearBuffer l D cI a2 f2 g2 n b len th at_ fl va so ma) (cwV 0 hts gL_law_X2_clearBuffer rfl rfl rfl (by decide +kernel) ⟨Nat.le_of_ble_eq_true rfl, Nat.le_of_ble_eq_true rfl⟩) hP2 (hP1.app hPo) (va_D_perm (va_D_swap hDD) (List.Perm.refl _)) hS hA (hK2.sub [0] rfl) 0 rfl rfl rfl rfl hl.1 rfl (Nat.le_of_ble_eq_true rfl) dL_law_813 ⟨by show cells ≤ 1067; omega, by show slots ≤ 8979; omega⟩ (fun H locs hP2 hP9 hS => ?_)
  have hPo9 := va_P_right hP9
  have hP19 := va_P_left hP9
  refine lv_icmp_eq (tgt := 1308) hx hb dL_law_816 (by decide) (fun _ => ?_) (fun h => absurd rfl h)
  refine W.widen (k := cells + 1) (n := slots + 6) (by omega) (by omega) ?_
  exact kk _ _ _ ⟨f1, g1, n, b, 0, kd, sg, nb, pt, f2, g2, _, at_, fl, va, so, ma, u, RI_more hRI, RG_more hRG, hn, by decide, fun k hk => absurd hk (Nat.not_lt_zero k), hwk, hw2, hva, hP19, hPo9, hP2⟩ hS (lv_sub hl [0, 1, 2, 3, 4] rfl)
set_option maxHeartbeats 4000000 in
set_option maxRecDepth 100000 in
theorem k_firstError (X : LX p l s m c b0 L xs D cI cL A a1 o a2) (hi : 3 * i + 3 ≤ L) (hc : cn ≤ 511) (hI : LI D cI cL a1 o a2 cn H) (hS : va_S A s.heap H locs) (hl : lv_has ls 9 [(0, .ref b0), (1, .ref (a1 0)), (2, .ref (a2 0)), (3, .ref o), (4, .int (jI ((3 * i : Nat) : Int)))]) (hr : cells + 1 ≤ 1067 ∧ slots + 6 ≤ 8979)
    (kk : ∀ (H1 : Heap) (locs1 : List Loc) (ls1 : Array Slot), LI D cI cL a1 o a2 (cn + 1) H1 → va_S A s.heap H1 locs1 → lv_has ls1 9 [(0, .ref b0), (1, .ref (a1 0)), (2, .ref (a2 0)), (3, .ref o), (4, .int (jI ((3 * i : Nat) : Int)))] → W p l e room_1 s m #[Value.ref b0] below meth c H1 locs1 (cells + 1) (slots + 6) Q (F0 m 1308 ls1 [])) : W p l e room_1 s m #[Value.ref b0] below meth c H locs cells slots Q (F0 m 821 ls []) := by
  obtain ⟨hx, hb, hml, hown, hts, hX, hbl, hbA, hL, hA, hlt, hE, hK2, hDD⟩ := id X
  have hSx : CallFix p m c code 9 s #[Value.ref b0] wsL_law RL := ⟨hx, hb, hml, hown, hts⟩
  obtain ⟨f1, g1, n, b, len, kd, sg, nb, pt, f2, g2, th, at_, fl, va, so, ma, u, hRI, hRG, hn, hln, hbf, hwk, hw2, hva, hP1, hPo, hP2⟩ := hI
  have Q1 := facts1 (show cn ≤ 512 by omega) hRI
  have Q2 := facts2 (show cn ≤ 512 by omega) hRI
  refine lv_aload_n hx hb dL_law_821 rfl (lv_at hl 1 rfl) ?_
  refine xz_I (As := []) (rest := []) hSx (m_X1_firstError l D cI a1 f1 g1 n b len kd sg nb pt hwk hbf hln) (cwV 0 hts gL_law_X1_firstError rfl rfl rfl (by decide +kernel) ⟨Nat.le_of_ble_eq_true rfl, Nat.le_of_ble_eq_true rfl⟩) hP1 (hPo.app hP2) (va_D_perm hDD (List.Perm.refl _)) hS hA (hK2.sub [0] rfl) 0 rfl rfl rfl rfl hl.1 rfl (Nat.le_of_ble_eq_true rfl) dL_law_822 ⟨by show cells ≤ 1067; omega, by show slots ≤ 8979; omega⟩ (fun H locs hP1 hP9 hS => ?_)
  have hPo := va_P_left hP9
  have hP2 := va_P_right hP9
  refine lv_aload_n hx hb dL_law_825 rfl (lv_at hl 2 rfl) ?_
  refine xz_I (As := []) (rest := [.int (jI (s_X1_firstError b len kd sg nb).1)]) hSx (m_X2_firstError l D cI a2 f2 g2 n b len th at_ fl va so ma hbf hln hva hw2) (cwV 0 hts gL_law_X2_firstError rfl rfl rfl (by decide +kernel) ⟨Nat.le_of_ble_eq_true rfl, Nat.le_of_ble_eq_true rfl⟩) hP2 (hP1.app hPo) (va_D_perm (va_D_swap hDD) (List.Perm.refl _)) hS hA (hK2.sub [0] rfl) 0 rfl rfl rfl rfl hl.1 rfl (Nat.le_of_ble_eq_true rfl) dL_law_826 ⟨by show cells ≤ 1067; omega, by show slots ≤ 8979; omega⟩ (fun H locs hP2 hP9 hS => ?_)
  have hPo9 := va_P_right hP9
  have hP19 := va_P_left hP9
  refine lv_icmp_eq (tgt := 1308) hx hb dL_law_829 (by decide) (fun _ => ?_) (fun h => absurd (congrArg jI (err_eq (b := b) (len := len) va so ma kd sg nb)) h)
  have hw3 := (ok_X1_readBuffer b len kd sg nb hwk hbf).1
  have ho3 := (ok_X2_isText b len va so ma hva hw2).2.2
  have ef : (s_X2_firstError b len va so ma).2.2 = (s_X2_isText b len va so ma).2 := by unfold s_X2_firstError; (repeat' split) <;> rfl
  rw [← ef] at ho3
  refine W.widen (k := cells + 1) (n := slots + 6) (by omega) (by omega) ?_
  exact kk _ _ _ ⟨f1, g1, n, b, len, _, _, _, _, f2, g2, _, _, _, _, _, _, u, RI_more hRI, RG_more hRG, hn, hln, hbf, hw3, ho3.2, ho3.1, hP19, hPo9, hP2⟩ hS (lv_sub hl [0, 1, 2, 3, 4] rfl)
set_option maxHeartbeats 4000000 in
set_option maxRecDepth 100000 in
theorem k_windAll (X : LX p l s m c b0 L xs D cI cL A a1 o a2) (hi : 3 * i + 3 ≤ L) (hc : cn ≤ 511) (hI : LI D cI cL a1 o a2 cn H) (hS : va_S A s.heap H locs) (hl : lv_has ls 9 [(0, .ref b0), (1, .ref (a1 0)), (2, .ref (a2 0)), (3, .ref o), (4, .int (jI ((3 * i : Nat) : Int)))]) (hr : cells + 1 ≤ 1067 ∧ slots + 6 ≤ 8979)
    (kk : ∀ (H1 : Heap) (locs1 : List Loc) (ls1 : Array Slot), LI D cI cL a1 o a2 (cn + 1) H1 → va_S A s.heap H1 locs1 → lv_has ls1 9 [(0, .ref b0), (1, .ref (a1 0)), (2, .ref (a2 0)), (3, .ref o), (4, .int (jI ((3 * i : Nat) : Int)))] → W p l e room_1 s m #[Value.ref b0] below meth c H1 locs1 (cells + 1) (slots + 6) Q (F0 m 1308 ls1 [])) : W p l e room_1 s m #[Value.ref b0] below meth c H locs cells slots Q (F0 m 834 ls []) := by
  obtain ⟨hx, hb, hml, hown, hts, hX, hbl, hbA, hL, hA, hlt, hE, hK2, hDD⟩ := id X
  have hSx : CallFix p m c code 9 s #[Value.ref b0] wsL_law RL := ⟨hx, hb, hml, hown, hts⟩
  obtain ⟨f1, g1, n, b, len, kd, sg, nb, pt, f2, g2, th, at_, fl, va, so, ma, u, hRI, hRG, hn, hln, hbf, hwk, hw2, hva, hP1, hPo, hP2⟩ := hI
  have Q1 := facts1 (show cn ≤ 512 by omega) hRI
  have Q2 := facts2 (show cn ≤ 512 by omega) hRI
  refine lv_aload_n hx hb dL_law_834 rfl (lv_at hl 1 rfl) ?_
  refine lv_aload_n hx hb dL_law_835 rfl (lv_at hl 3 rfl) ?_
  refine xc_L (As := [.ref (a1 0), .ref o]) (rest := []) hSx (m_L_windAll l D cI a1 f1 g1 n b len kd sg nb pt hlt hn Q1.1 Q1.2.2.2.1 Q1.2.2.2.2.1 hwk hbf hln cL o u) (vx_cwSW 2 hts gL_law_L_windAll rfl rfl rfl (by decide +kernel) ⟨Nat.le_of_ble_eq_true rfl, Nat.le_of_ble_eq_true rfl⟩) (hP1.app hPo) hP2 (va_D_perm hDD (List.Perm.refl _)) hS hA hK2 hE rfl hl.1 rfl (Nat.le_of_ble_eq_true rfl) dL_law_836 ⟨hr.1, hr.2⟩ (fun u1 H locs hu hP1 hP2 hS => ?_)
  refine lv_istore (lv' := [(5, .int (jI (km_windAll (s_X1_windAll f1 g1 n b len kd sg nb).1))), (0, .ref b0), (1, .ref (a1 0)), (2, .ref (a2 0)), (3, .ref o), (4, .int (jI ((3 * i : Nat) : Int)))]) hx hb dL_law_839 hl (by decide) rfl (fun ls hl => ?_)
  refine lv_aload_n hx hb dL_law_841 rfl (lv_at hl 3 rfl) ?_
  refine xz_I (As := []) (rest := []) hSx (m_X2_windAll l D cI a2 f2 g2 n b len th at_ fl va so ma hn Q2.1 Q2.2.2.2.1 hbf hln hva hw2) (cwV 0 hts gL_law_X2_windAll rfl rfl rfl (by decide +kernel) ⟨Nat.le_of_ble_eq_true rfl, Nat.le_of_ble_eq_true rfl⟩) hP2 hP1 (va_D_perm (va_D_swap hDD) (List.Perm.refl _)) hS hA (hK2.sub [0] rfl) 0 rfl rfl rfl rfl hl.1 rfl (Nat.le_of_ble_eq_true rfl) dL_law_842 ⟨hr.1, hr.2⟩ (fun H locs hP2 hP1 hS => ?_)
  refine lv_istore (lv' := [(6, .int (jI (s_X2_windAll f2 g2 n b len va so ma).1)), (5, .int (jI (km_windAll (s_X1_windAll f1 g1 n b len kd sg nb).1))), (0, .ref b0), (1, .ref (a1 0)), (2, .ref (a2 0)), (3, .ref o), (4, .int (jI ((3 * i : Nat) : Int)))]) hx hb dL_law_845 hl (by decide) rfl (fun ls hl => ?_)
  have hKm : (km_windAll (s_X1_windAll f1 g1 n b len kd sg nb).1 = 0 → (s_X1_windAll f1 g1 n b len kd sg nb).1 = 0) ∧ 0 ≤ km_windAll (s_X1_windAll f1 g1 n b len kd sg nb).1 ∧ km_windAll (s_X1_windAll f1 g1 n b len kd sg nb).1 ≤ 3 := by
    rcases c_X1_windAll f1 g1 n b len kd sg nb with h | h | h <;> rw [h] <;> decide
  have hag := a_windAll (len := len) (b := b) hRI hRG hn kd sg nb va so ma
  have hw3 := (ok_X1_readBuffer b len kd sg nb hwk hbf).1
  have ho3 := (ok_X2_isText b len va so ma hva hw2).2.2
  rw [← show (s_X1_windAll f1 g1 n b len kd sg nb).2.2.2.2.2.2 = (s_X1_readBuffer b len kd sg nb).2 from hag.2.2.1] at hw3
  rw [← show (s_X2_windAll f2 g2 n b len va so ma).2.2.2.2.2.2 = (s_X2_isText b len va so ma).2 from hag.2.2.2] at ho3
  rw [← show (s_X1_windAll f1 g1 n b len kd sg nb).2.2.2.2.1 = (s_X2_windAll f2 g2 n b len va so ma).2.2.2.2.1 from hag.1.2.2.2.2.1, ← show (s_X1_windAll f1 g1 n b len kd sg nb).2.2.2.2.2.1 = (s_X2_windAll f2 g2 n b len va so ma).2.2.2.2.2.1 from hag.2.1.1] at hP2
  exact k_tail 847 X dL_law_847 dL_law_848 dL_law_851 dL_law_853 dL_law_858 dL_law_860 dL_law_863 dL_law_864 dL_law_865 dL_law_866 dL_law_868 dL_law_869 dL_law_870 dL_law_875 (by decide) hKm.2 hag.1.1.symm (fun z => by rw [hu (hKm.1 z)]; exact congrArg (fun q => (jI q).toInt64) (hag.1.2.1 (hKm.1 z))) hP1 hP2 hS hl ⟨hr.1, hr.2⟩ (fun hl9 => kk _ _ _ ⟨_, _, _, b, _, _, _, _, _, _, _, _, _, _, _, _, _, u1, hag.1.2.2.1, hag.1.2.2.2.1, hag.1.2.2.2.2.2, Nat.le_trans hag.2.1.2 hln, fun k hk => hbf k (Nat.lt_of_lt_of_le hk hag.2.1.2), hw3, ho3.2, ho3.1, va_P_left hP1, va_P_right hP1, hP2⟩ hS hl9)
set_option maxHeartbeats 4000000 in
set_option maxRecDepth 100000 in
theorem k_undo (X : LX p l s m c b0 L xs D cI cL A a1 o a2) (hi : 3 * i + 3 ≤ L) (hc : cn ≤ 511) (hI : LI D cI cL a1 o a2 cn H) (hS : va_S A s.heap H locs) (hl : lv_has ls 9 [(0, .ref b0), (1, .ref (a1 0)), (2, .ref (a2 0)), (3, .ref o), (4, .int (jI ((3 * i : Nat) : Int)))]) (hr : cells + 1 ≤ 1067 ∧ slots + 6 ≤ 8979)
    (kk : ∀ (H1 : Heap) (locs1 : List Loc) (ls1 : Array Slot), LI D cI cL a1 o a2 (cn + 1) H1 → va_S A s.heap H1 locs1 → lv_has ls1 9 [(0, .ref b0), (1, .ref (a1 0)), (2, .ref (a2 0)), (3, .ref o), (4, .int (jI ((3 * i : Nat) : Int)))] → W p l e room_1 s m #[Value.ref b0] below meth c H1 locs1 (cells + 1) (slots + 6) Q (F0 m 1308 ls1 [])) : W p l e room_1 s m #[Value.ref b0] below meth c H locs cells slots Q (F0 m 878 ls []) := by
  obtain ⟨hx, hb, hml, hown, hts, hX, hbl, hbA, hL, hA, hlt, hE, hK2, hDD⟩ := id X
  have hSx : CallFix p m c code 9 s #[Value.ref b0] wsL_law RL := ⟨hx, hb, hml, hown, hts⟩
  obtain ⟨f1, g1, n, b, len, kd, sg, nb, pt, f2, g2, th, at_, fl, va, so, ma, u, hRI, hRG, hn, hln, hbf, hwk, hw2, hva, hP1, hPo, hP2⟩ := hI
  have Q1 := facts1 (show cn ≤ 512 by omega) hRI
  have Q2 := facts2 (show cn ≤ 512 by omega) hRI
  refine lv_aload_n hx hb dL_law_878 rfl (lv_at hl 1 rfl) ?_
  refine lv_aload_n hx hb dL_law_879 rfl (lv_at hl 3 rfl) ?_
  refine xc_L (As := [.ref (a1 0), .ref o]) (rest := []) hSx (m_L_undo l D cI a1 f1 g1 n b len kd sg nb pt hlt hn cL o u) (vx_cwSW 2 hts gL_law_L_undo rfl rfl rfl (by decide +kernel) ⟨Nat.le_of_ble_eq_true rfl, Nat.le_of_ble_eq_true rfl⟩) (hP1.app hPo) hP2 (va_D_perm hDD (List.Perm.refl _)) hS hA hK2 hE rfl hl.1 rfl (Nat.le_of_ble_eq_true rfl) dL_law_880 ⟨hr.1, hr.2⟩ (fun u1 H locs hu hP1 hP2 hS => ?_)
  refine lv_istore (lv' := [(5, .int (jI (km_undo (s_X1_undo f1 g1 n).1))), (0, .ref b0), (1, .ref (a1 0)), (2, .ref (a2 0)), (3, .ref o), (4, .int (jI ((3 * i : Nat) : Int)))]) hx hb dL_law_883 hl (by decide) rfl (fun ls hl => ?_)
  refine lv_aload_n hx hb dL_law_885 rfl (lv_at hl 3 rfl) ?_
  refine xz_I (As := []) (rest := []) hSx (m_X2_undo l D cI a2 f2 g2 n b len th at_ fl va so ma hn) (cwV 0 hts gL_law_X2_undo rfl rfl rfl (by decide +kernel) ⟨Nat.le_of_ble_eq_true rfl, Nat.le_of_ble_eq_true rfl⟩) hP2 hP1 (va_D_perm (va_D_swap hDD) (List.Perm.refl _)) hS hA (hK2.sub [0] rfl) 0 rfl rfl rfl rfl hl.1 rfl (Nat.le_of_ble_eq_true rfl) dL_law_886 ⟨hr.1, hr.2⟩ (fun H locs hP2 hP1 hS => ?_)
  refine lv_istore (lv' := [(6, .int (jI (s_X2_undo f2 g2 n).1)), (5, .int (jI (km_undo (s_X1_undo f1 g1 n).1))), (0, .ref b0), (1, .ref (a1 0)), (2, .ref (a2 0)), (3, .ref o), (4, .int (jI ((3 * i : Nat) : Int)))]) hx hb dL_law_889 hl (by decide) rfl (fun ls hl => ?_)
  have hKm : (km_undo (s_X1_undo f1 g1 n).1 = 0 → (s_X1_undo f1 g1 n).1 = 0) ∧ 0 ≤ km_undo (s_X1_undo f1 g1 n).1 ∧ km_undo (s_X1_undo f1 g1 n).1 ≤ 3 := by
    rcases c_X1_undo f1 g1 n with h | h <;> rw [h] <;> decide
  have hag := a_undo hRI hRG hn 
  rw [← show (s_X1_undo f1 g1 n).2.2.2.2 = (s_X2_undo f2 g2 n).2.2.2.2 from hag.2.2.2.2.1] at hP2
  exact k_tail 891 X dL_law_891 dL_law_892 dL_law_895 dL_law_897 dL_law_902 dL_law_904 dL_law_907 dL_law_908 dL_law_909 dL_law_910 dL_law_912 dL_law_913 dL_law_914 dL_law_919 (by decide) hKm.2 hag.1.symm (fun z => by rw [hu (hKm.1 z), hag.2.1 (hKm.1 z)]) hP1 hP2 hS hl ⟨hr.1, hr.2⟩ (fun hl9 => kk _ _ _ ⟨_, _, _, b, len, kd, sg, nb, pt, _, _, _, at_, fl, va, so, ma, u1, hag.2.2.1, hag.2.2.2.1, hag.2.2.2.2.2, hln, hbf, hwk, hw2, hva, va_P_left hP1, va_P_right hP1, hP2⟩ hS hl9)
set_option maxHeartbeats 4000000 in
set_option maxRecDepth 100000 in
theorem k_movement (X : LX p l s m c b0 L xs D cI cL A a1 o a2) (hi : 3 * i + 3 ≤ L) (hc : cn ≤ 511) (hI : LI D cI cL a1 o a2 cn H) (hS : va_S A s.heap H locs) (hl : lv_has ls 9 [(0, .ref b0), (1, .ref (a1 0)), (2, .ref (a2 0)), (3, .ref o), (4, .int (jI ((3 * i : Nat) : Int)))]) (hr : cells + 1 ≤ 1067 ∧ slots + 6 ≤ 8979)
    (kk : ∀ (H1 : Heap) (locs1 : List Loc) (ls1 : Array Slot), LI D cI cL a1 o a2 (cn + 1) H1 → va_S A s.heap H1 locs1 → lv_has ls1 9 [(0, .ref b0), (1, .ref (a1 0)), (2, .ref (a2 0)), (3, .ref o), (4, .int (jI ((3 * i : Nat) : Int)))] → W p l e room_1 s m #[Value.ref b0] below meth c H1 locs1 (cells + 1) (slots + 6) Q (F0 m 1308 ls1 [])) : W p l e room_1 s m #[Value.ref b0] below meth c H locs cells slots Q (F0 m 922 ls []) := by
  obtain ⟨hx, hb, hml, hown, hts, hX, hbl, hbA, hL, hA, hlt, hE, hK2, hDD⟩ := id X
  have hSx : CallFix p m c code 9 s #[Value.ref b0] wsL_law RL := ⟨hx, hb, hml, hown, hts⟩
  obtain ⟨f1, g1, n, b, len, kd, sg, nb, pt, f2, g2, th, at_, fl, va, so, ma, u, hRI, hRG, hn, hln, hbf, hwk, hw2, hva, hP1, hPo, hP2⟩ := hI
  have Q1 := facts1 (show cn ≤ 512 by omega) hRI
  have Q2 := facts2 (show cn ≤ 512 by omega) hRI
  refine lv_aload_n hx hb dL_law_922 rfl (lv_at hl 1 rfl) ?_
  refine lv_aload_n hx hb dL_law_923 rfl (lv_at hl 0 rfl) ?_
  refine lv_iload hx hb dL_law_924 (lv_at hl 4 rfl) ?_
  refine lv_iconst (v := jI 1) hx hb dL_law_926 rfl ?_
  refine x_iadd hx hb dL_law_927 ?_
  refine x_sld hx hb hX hbl hbA hS (3 * i + 1) (by omega) (by omega) hL dL_law_928 ?_
  refine lv_aload_n hx hb dL_law_929 rfl (lv_at hl 0 rfl) ?_
  refine lv_iload hx hb dL_law_930 (lv_at hl 4 rfl) ?_
  refine lv_iconst (v := jI 2) hx hb dL_law_932 rfl ?_
  refine x_iadd hx hb dL_law_933 ?_
  refine x_sld hx hb hX hbl hbA hS (3 * i + 2) (by omega) (by omega) hL dL_law_934 ?_
  refine lv_aload_n hx hb dL_law_935 rfl (lv_at hl 3 rfl) ?_
  refine xc_L (As := [.ref (a1 0), .int (jI (ys xs (3 * i + 1))), .int (jI (ys xs (3 * i + 2))), .ref o]) (rest := []) hSx (m_L_movement l D cI a1 f1 g1 n b len kd sg nb pt hlt (ys xs (3 * i + 1)) (ys xs (3 * i + 2)) Q1.1 Q1.2.1 (ys_r xs _) (ys_r xs _) cL o u) (vx_cwSW 4 hts gL_law_L_movement rfl rfl rfl (by decide +kernel) ⟨Nat.le_of_ble_eq_true rfl, Nat.le_of_ble_eq_true rfl⟩) (hP1.app hPo) hP2 (va_D_perm hDD (List.Perm.refl _)) hS hA hK2 hE rfl hl.1 rfl (Nat.le_of_ble_eq_true rfl) dL_law_936 ⟨hr.1, hr.2⟩ (fun u1 H locs hu hP1 hP2 hS => ?_)
  refine lv_istore (lv' := [(5, .int (jI (km_movement (s_X1_movement f1 (ys xs (3 * i + 1)) (ys xs (3 * i + 2))).1))), (0, .ref b0), (1, .ref (a1 0)), (2, .ref (a2 0)), (3, .ref o), (4, .int (jI ((3 * i : Nat) : Int)))]) hx hb dL_law_939 hl (by decide) rfl (fun ls hl => ?_)
  refine lv_aload_n hx hb dL_law_941 rfl (lv_at hl 3 rfl) ?_
  refine lv_aload_n hx hb dL_law_942 rfl (lv_at hl 1 rfl) ?_
  refine lv_iload hx hb dL_law_943 (lv_at hl 5 rfl) ?_
  refine lv_iconst (v := jI 1) hx hb dL_law_945 rfl ?_
  refine x_iadd hx hb dL_law_946 ?_
  refine x_sld hx hb hX hbl hbA hS (3 * i + 1) (by omega) (by omega) hL dL_law_947 ?_
  refine lv_aload_n hx hb dL_law_948 rfl (lv_at hl 1 rfl) ?_
  refine lv_iload hx hb dL_law_949 (lv_at hl 5 rfl) ?_
  refine lv_iconst (v := jI 2) hx hb dL_law_951 rfl ?_
  refine x_iadd hx hb dL_law_952 ?_
  refine x_sld hx hb hX hbl hbA hS (3 * i + 2) (by omega) (by omega) hL dL_law_953 ?_
  refine xz_I (As := [.int (jI (ys xs (3 * i + 1))), .int (jI (ys xs (3 * i + 2)))]) (rest := []) hSx (m_X2_movement l D cI a2 f2 g2 n b len th at_ fl va so ma (ys xs (3 * i + 1)) (ys xs (3 * i + 2)) Q2.1 Q2.2.1 (ys_r xs _) (ys_r xs _)) (cwV 2 hts gL_law_X2_movement rfl rfl rfl (by decide +kernel) ⟨Nat.le_of_ble_eq_true rfl, Nat.le_of_ble_eq_true rfl⟩) hP2 hP1 (va_D_perm (va_D_swap hDD) (List.Perm.refl _)) hS hA (hK2.sub [0] rfl) 0 rfl rfl rfl rfl hl.1 rfl (Nat.le_of_ble_eq_true rfl) dL_law_954 ⟨hr.1, hr.2⟩ (fun H locs hP2 hP1 hS => ?_)
  refine lv_istore (lv' := [(6, .int (jI (s_X2_movement f2 (ys xs (3 * i + 1)) (ys xs (3 * i + 2))).1)), (5, .int (jI (km_movement (s_X1_movement f1 (ys xs (3 * i + 1)) (ys xs (3 * i + 2))).1))), (0, .ref b0), (1, .ref (a1 0)), (2, .ref (a2 0)), (3, .ref o), (4, .int (jI ((3 * i : Nat) : Int)))]) hx hb dL_law_957 hl (by decide) rfl (fun ls hl => ?_)
  have hKm : (km_movement (s_X1_movement f1 (ys xs (3 * i + 1)) (ys xs (3 * i + 2))).1 = 0 → (s_X1_movement f1 (ys xs (3 * i + 1)) (ys xs (3 * i + 2))).1 = 0) ∧ 0 ≤ km_movement (s_X1_movement f1 (ys xs (3 * i + 1)) (ys xs (3 * i + 2))).1 ∧ km_movement (s_X1_movement f1 (ys xs (3 * i + 1)) (ys xs (3 * i + 2))).1 ≤ 3 := by
    rcases c_X1_movement f1 (ys xs (3 * i + 1)) (ys xs (3 * i + 2)) with h | h | h <;> rw [h] <;> decide
  have hag := a_movement hRI (ys xs (3 * i + 1)) (ys xs (3 * i + 2))
  exact k_tail 959 X dL_law_959 dL_law_960 dL_law_963 dL_law_965 dL_law_970 dL_law_972 dL_law_975 dL_law_976 dL_law_977 dL_law_978 dL_law_980 dL_law_981 dL_law_982 dL_law_987 (by decide) hKm.2 hag.1.symm (fun z => by rw [hu (hKm.1 z), hag.2 (hKm.1 z)]) hP1 hP2 hS hl ⟨hr.1, hr.2⟩ (fun hl9 => kk _ _ _ ⟨f1, g1, n, b, len, kd, sg, nb, pt, f2, g2, _, at_, fl, va, so, ma, u1, RI_more hRI, RG_more hRG, hn, hln, hbf, hwk, hw2, hva, va_P_left hP1, va_P_right hP1, hP2⟩ hS hl9)
set_option maxHeartbeats 4000000 in
set_option maxRecDepth 100000 in
theorem k_day (X : LX p l s m c b0 L xs D cI cL A a1 o a2) (hi : 3 * i + 3 ≤ L) (hc : cn ≤ 511) (hI : LI D cI cL a1 o a2 cn H) (hS : va_S A s.heap H locs) (hl : lv_has ls 9 [(0, .ref b0), (1, .ref (a1 0)), (2, .ref (a2 0)), (3, .ref o), (4, .int (jI ((3 * i : Nat) : Int)))]) (hr : cells + 1 ≤ 1067 ∧ slots + 6 ≤ 8979)
    (kk : ∀ (H1 : Heap) (locs1 : List Loc) (ls1 : Array Slot), LI D cI cL a1 o a2 (cn + 1) H1 → va_S A s.heap H1 locs1 → lv_has ls1 9 [(0, .ref b0), (1, .ref (a1 0)), (2, .ref (a2 0)), (3, .ref o), (4, .int (jI ((3 * i : Nat) : Int)))] → W p l e room_1 s m #[Value.ref b0] below meth c H1 locs1 (cells + 1) (slots + 6) Q (F0 m 1308 ls1 [])) : W p l e room_1 s m #[Value.ref b0] below meth c H locs cells slots Q (F0 m 990 ls []) := by
  obtain ⟨hx, hb, hml, hown, hts, hX, hbl, hbA, hL, hA, hlt, hE, hK2, hDD⟩ := id X
  have hSx : CallFix p m c code 9 s #[Value.ref b0] wsL_law RL := ⟨hx, hb, hml, hown, hts⟩
  obtain ⟨f1, g1, n, b, len, kd, sg, nb, pt, f2, g2, th, at_, fl, va, so, ma, u, hRI, hRG, hn, hln, hbf, hwk, hw2, hva, hP1, hPo, hP2⟩ := hI
  have Q1 := facts1 (show cn ≤ 512 by omega) hRI
  have Q2 := facts2 (show cn ≤ 512 by omega) hRI
  refine lv_aload_n hx hb dL_law_990 rfl (lv_at hl 1 rfl) ?_
  refine lv_aload_n hx hb dL_law_991 rfl (lv_at hl 0 rfl) ?_
  refine lv_iload hx hb dL_law_992 (lv_at hl 4 rfl) ?_
  refine lv_iconst (v := jI 1) hx hb dL_law_994 rfl ?_
  refine x_iadd hx hb dL_law_995 ?_
  refine x_sld hx hb hX hbl hbA hS (3 * i + 1) (by omega) (by omega) hL dL_law_996 ?_
  refine lv_aload_n hx hb dL_law_997 rfl (lv_at hl 3 rfl) ?_
  refine xc_L (As := [.ref (a1 0), .int (jI (ys xs (3 * i + 1))), .ref o]) (rest := []) hSx (m_L_day l D cI a1 f1 g1 n b len kd sg nb pt hlt (ys xs (3 * i + 1)) (ys_r xs _) cL o u) (vx_cwSW 3 hts gL_law_L_day rfl rfl rfl (by decide +kernel) ⟨Nat.le_of_ble_eq_true rfl, Nat.le_of_ble_eq_true rfl⟩) (hP1.app hPo) hP2 (va_D_perm hDD (List.Perm.refl _)) hS hA hK2 hE rfl hl.1 rfl (Nat.le_of_ble_eq_true rfl) dL_law_998 ⟨hr.1, hr.2⟩ (fun u1 H locs hu hP1 hP2 hS => ?_)
  refine lv_istore (lv' := [(5, .int (jI (km_day (s_X1_day f1 (ys xs (3 * i + 1))).1))), (0, .ref b0), (1, .ref (a1 0)), (2, .ref (a2 0)), (3, .ref o), (4, .int (jI ((3 * i : Nat) : Int)))]) hx hb dL_law_1001 hl (by decide) rfl (fun ls hl => ?_)
  refine lv_aload_n hx hb dL_law_1003 rfl (lv_at hl 3 rfl) ?_
  refine lv_aload_n hx hb dL_law_1004 rfl (lv_at hl 1 rfl) ?_
  refine lv_iload hx hb dL_law_1005 (lv_at hl 5 rfl) ?_
  refine lv_iconst (v := jI 1) hx hb dL_law_1007 rfl ?_
  refine x_iadd hx hb dL_law_1008 ?_
  refine x_sld hx hb hX hbl hbA hS (3 * i + 1) (by omega) (by omega) hL dL_law_1009 ?_
  refine xz_I (As := [.int (jI (ys xs (3 * i + 1)))]) (rest := []) hSx (m_X2_day l D cI a2 f2 g2 n b len th at_ fl va so ma (ys xs (3 * i + 1)) (ys_r xs _)) (cwV 1 hts gL_law_X2_day rfl rfl rfl (by decide +kernel) ⟨Nat.le_of_ble_eq_true rfl, Nat.le_of_ble_eq_true rfl⟩) hP2 hP1 (va_D_perm (va_D_swap hDD) (List.Perm.refl _)) hS hA (hK2.sub [0] rfl) 0 rfl rfl rfl rfl hl.1 rfl (Nat.le_of_ble_eq_true rfl) dL_law_1010 ⟨hr.1, hr.2⟩ (fun H locs hP2 hP1 hS => ?_)
  refine lv_istore (lv' := [(6, .int (jI (s_X2_day f2 (ys xs (3 * i + 1))).1)), (5, .int (jI (km_day (s_X1_day f1 (ys xs (3 * i + 1))).1))), (0, .ref b0), (1, .ref (a1 0)), (2, .ref (a2 0)), (3, .ref o), (4, .int (jI ((3 * i : Nat) : Int)))]) hx hb dL_law_1013 hl (by decide) rfl (fun ls hl => ?_)
  have hKm : (km_day (s_X1_day f1 (ys xs (3 * i + 1))).1 = 0 → (s_X1_day f1 (ys xs (3 * i + 1))).1 = 0) ∧ 0 ≤ km_day (s_X1_day f1 (ys xs (3 * i + 1))).1 ∧ km_day (s_X1_day f1 (ys xs (3 * i + 1))).1 ≤ 3 := by
    rcases c_X1_day f1 (ys xs (3 * i + 1)) with h | h <;> rw [h] <;> decide
  have hag := a_day hRI (ys xs (3 * i + 1))
  exact k_tail 1015 X dL_law_1015 dL_law_1016 dL_law_1019 dL_law_1021 dL_law_1026 dL_law_1028 dL_law_1031 dL_law_1032 dL_law_1033 dL_law_1034 dL_law_1036 dL_law_1037 dL_law_1038 dL_law_1043 (by decide) hKm.2 hag.1.symm (fun z => by rw [hu (hKm.1 z), hag.2 (hKm.1 z)]) hP1 hP2 hS hl ⟨hr.1, hr.2⟩ (fun hl9 => kk _ _ _ ⟨f1, g1, n, b, len, kd, sg, nb, pt, f2, g2, _, at_, fl, va, so, ma, u1, RI_more hRI, RG_more hRG, hn, hln, hbf, hwk, hw2, hva, va_P_left hP1, va_P_right hP1, hP2⟩ hS hl9)
set_option maxHeartbeats 4000000 in
set_option maxRecDepth 100000 in
theorem k_count (X : LX p l s m c b0 L xs D cI cL A a1 o a2) (hi : 3 * i + 3 ≤ L) (hc : cn ≤ 511) (hI : LI D cI cL a1 o a2 cn H) (hS : va_S A s.heap H locs) (hl : lv_has ls 9 [(0, .ref b0), (1, .ref (a1 0)), (2, .ref (a2 0)), (3, .ref o), (4, .int (jI ((3 * i : Nat) : Int)))]) (hr : cells + 1 ≤ 1067 ∧ slots + 6 ≤ 8979)
    (kk : ∀ (H1 : Heap) (locs1 : List Loc) (ls1 : Array Slot), LI D cI cL a1 o a2 (cn + 1) H1 → va_S A s.heap H1 locs1 → lv_has ls1 9 [(0, .ref b0), (1, .ref (a1 0)), (2, .ref (a2 0)), (3, .ref o), (4, .int (jI ((3 * i : Nat) : Int)))] → W p l e room_1 s m #[Value.ref b0] below meth c H1 locs1 (cells + 1) (slots + 6) Q (F0 m 1308 ls1 [])) : W p l e room_1 s m #[Value.ref b0] below meth c H locs cells slots Q (F0 m 1046 ls []) := by
  obtain ⟨hx, hb, hml, hown, hts, hX, hbl, hbA, hL, hA, hlt, hE, hK2, hDD⟩ := id X
  have hSx : CallFix p m c code 9 s #[Value.ref b0] wsL_law RL := ⟨hx, hb, hml, hown, hts⟩
  obtain ⟨f1, g1, n, b, len, kd, sg, nb, pt, f2, g2, th, at_, fl, va, so, ma, u, hRI, hRG, hn, hln, hbf, hwk, hw2, hva, hP1, hPo, hP2⟩ := hI
  have Q1 := facts1 (show cn ≤ 512 by omega) hRI
  have Q2 := facts2 (show cn ≤ 512 by omega) hRI
  refine lv_aload_n hx hb dL_law_1046 rfl (lv_at hl 1 rfl) ?_
  refine lv_aload_n hx hb dL_law_1047 rfl (lv_at hl 0 rfl) ?_
  refine lv_iload hx hb dL_law_1048 (lv_at hl 4 rfl) ?_
  refine lv_iconst (v := jI 1) hx hb dL_law_1050 rfl ?_
  refine x_iadd hx hb dL_law_1051 ?_
  refine x_sld hx hb hX hbl hbA hS (3 * i + 1) (by omega) (by omega) hL dL_law_1052 ?_
  refine lv_aload_n hx hb dL_law_1053 rfl (lv_at hl 3 rfl) ?_
  refine xc_L (As := [.ref (a1 0), .int (jI (ys xs (3 * i + 1))), .ref o]) (rest := []) hSx (m_L_count l D cI a1 f1 g1 n b len kd sg nb pt hlt (ys xs (3 * i + 1)) Q1.1 Q1.2.2.2.1 Q1.2.2.2.2.1 Q1.2.2.2.2.2.1 (ys_r xs _) cL o u) (vx_cwSW 3 hts gL_law_L_count rfl rfl rfl (by decide +kernel) ⟨Nat.le_of_ble_eq_true rfl, Nat.le_of_ble_eq_true rfl⟩) (hP1.app hPo) hP2 (va_D_perm hDD (List.Perm.refl _)) hS hA hK2 hE rfl hl.1 rfl (Nat.le_of_ble_eq_true rfl) dL_law_1054 ⟨hr.1, hr.2⟩ (fun u1 H locs hu hP1 hP2 hS => ?_)
  refine lv_istore (lv' := [(5, .int (jI (km_count (s_X1_count f1 n (ys xs (3 * i + 1))).1))), (0, .ref b0), (1, .ref (a1 0)), (2, .ref (a2 0)), (3, .ref o), (4, .int (jI ((3 * i : Nat) : Int)))]) hx hb dL_law_1057 hl (by decide) rfl (fun ls hl => ?_)
  refine lv_aload_n hx hb dL_law_1059 rfl (lv_at hl 3 rfl) ?_
  refine lv_aload_n hx hb dL_law_1060 rfl (lv_at hl 1 rfl) ?_
  refine lv_iload hx hb dL_law_1061 (lv_at hl 5 rfl) ?_
  refine lv_iconst (v := jI 1) hx hb dL_law_1063 rfl ?_
  refine x_iadd hx hb dL_law_1064 ?_
  refine x_sld hx hb hX hbl hbA hS (3 * i + 1) (by omega) (by omega) hL dL_law_1065 ?_
  refine xz_I (As := [.int (jI (ys xs (3 * i + 1)))]) (rest := []) hSx (m_X2_count l D cI a2 f2 g2 n b len th at_ fl va so ma (ys xs (3 * i + 1)) Q2.1 Q2.2.2.2.1 Q2.2.2.2.2.1 (ys_r xs _)) (cwV 1 hts gL_law_X2_count rfl rfl rfl (by decide +kernel) ⟨Nat.le_of_ble_eq_true rfl, Nat.le_of_ble_eq_true rfl⟩) hP2 hP1 (va_D_perm (va_D_swap hDD) (List.Perm.refl _)) hS hA (hK2.sub [0] rfl) 0 rfl rfl rfl rfl hl.1 rfl (Nat.le_of_ble_eq_true rfl) dL_law_1066 ⟨hr.1, hr.2⟩ (fun H locs hP2 hP1 hS => ?_)
  refine lv_istore (lv' := [(6, .int (jI (s_X2_count f2 n (ys xs (3 * i + 1))).1)), (5, .int (jI (km_count (s_X1_count f1 n (ys xs (3 * i + 1))).1))), (0, .ref b0), (1, .ref (a1 0)), (2, .ref (a2 0)), (3, .ref o), (4, .int (jI ((3 * i : Nat) : Int)))]) hx hb dL_law_1069 hl (by decide) rfl (fun ls hl => ?_)
  have hKm : (km_count (s_X1_count f1 n (ys xs (3 * i + 1))).1 = 0 → (s_X1_count f1 n (ys xs (3 * i + 1))).1 = 0) ∧ 0 ≤ km_count (s_X1_count f1 n (ys xs (3 * i + 1))).1 ∧ km_count (s_X1_count f1 n (ys xs (3 * i + 1))).1 ≤ 3 := by
    rcases c_X1_count f1 n (ys xs (3 * i + 1)) with h | h <;> rw [h] <;> decide
  have hag := a_count (n := n) hRI (ys xs (3 * i + 1))
  exact k_tail 1071 X dL_law_1071 dL_law_1072 dL_law_1075 dL_law_1077 dL_law_1082 dL_law_1084 dL_law_1087 dL_law_1088 dL_law_1089 dL_law_1090 dL_law_1092 dL_law_1093 dL_law_1094 dL_law_1099 (by decide) hKm.2 hag.1.symm (fun z => by rw [hu (hKm.1 z), hag.2 (hKm.1 z)]) hP1 hP2 hS hl ⟨hr.1, hr.2⟩ (fun hl9 => kk _ _ _ ⟨f1, g1, n, b, len, kd, sg, nb, pt, f2, g2, _, at_, fl, va, so, ma, u1, RI_more hRI, RG_more hRG, hn, hln, hbf, hwk, hw2, hva, va_P_left hP1, va_P_right hP1, hP2⟩ hS hl9)
set_option maxHeartbeats 4000000 in
set_option maxRecDepth 100000 in
theorem k_setting (X : LX p l s m c b0 L xs D cI cL A a1 o a2) (hi : 3 * i + 3 ≤ L) (hc : cn ≤ 511) (hI : LI D cI cL a1 o a2 cn H) (hS : va_S A s.heap H locs) (hl : lv_has ls 9 [(0, .ref b0), (1, .ref (a1 0)), (2, .ref (a2 0)), (3, .ref o), (4, .int (jI ((3 * i : Nat) : Int)))]) (hr : cells + 1 ≤ 1067 ∧ slots + 6 ≤ 8979)
    (kk : ∀ (H1 : Heap) (locs1 : List Loc) (ls1 : Array Slot), LI D cI cL a1 o a2 (cn + 1) H1 → va_S A s.heap H1 locs1 → lv_has ls1 9 [(0, .ref b0), (1, .ref (a1 0)), (2, .ref (a2 0)), (3, .ref o), (4, .int (jI ((3 * i : Nat) : Int)))] → W p l e room_1 s m #[Value.ref b0] below meth c H1 locs1 (cells + 1) (slots + 6) Q (F0 m 1308 ls1 [])) : W p l e room_1 s m #[Value.ref b0] below meth c H locs cells slots Q (F0 m 1102 ls []) := by
  obtain ⟨hx, hb, hml, hown, hts, hX, hbl, hbA, hL, hA, hlt, hE, hK2, hDD⟩ := id X
  have hSx : CallFix p m c code 9 s #[Value.ref b0] wsL_law RL := ⟨hx, hb, hml, hown, hts⟩
  obtain ⟨f1, g1, n, b, len, kd, sg, nb, pt, f2, g2, th, at_, fl, va, so, ma, u, hRI, hRG, hn, hln, hbf, hwk, hw2, hva, hP1, hPo, hP2⟩ := hI
  have Q1 := facts1 (show cn ≤ 512 by omega) hRI
  have Q2 := facts2 (show cn ≤ 512 by omega) hRI
  refine lv_aload_n hx hb dL_law_1102 rfl (lv_at hl 1 rfl) ?_
  refine lv_aload_n hx hb dL_law_1103 rfl (lv_at hl 0 rfl) ?_
  refine lv_iload hx hb dL_law_1104 (lv_at hl 4 rfl) ?_
  refine lv_iconst (v := jI 1) hx hb dL_law_1106 rfl ?_
  refine x_iadd hx hb dL_law_1107 ?_
  refine x_sld hx hb hX hbl hbA hS (3 * i + 1) (by omega) (by omega) hL dL_law_1108 ?_
  refine lv_aload_n hx hb dL_law_1109 rfl (lv_at hl 3 rfl) ?_
  refine xc_L (As := [.ref (a1 0), .int (jI (ys xs (3 * i + 1))), .ref o]) (rest := []) hSx (m_L_setting l D cI a1 f1 g1 n b len kd sg nb pt hlt (ys xs (3 * i + 1)) (ys_r xs _) cL o u) (vx_cwSW 3 hts gL_law_L_setting rfl rfl rfl (by decide +kernel) ⟨Nat.le_of_ble_eq_true rfl, Nat.le_of_ble_eq_true rfl⟩) (hP1.app hPo) hP2 (va_D_perm hDD (List.Perm.refl _)) hS hA hK2 hE rfl hl.1 rfl (Nat.le_of_ble_eq_true rfl) dL_law_1110 ⟨hr.1, hr.2⟩ (fun u1 H locs hu hP1 hP2 hS => ?_)
  refine lv_istore (lv' := [(5, .int (jI (km_setting (s_X1_setting f1 (ys xs (3 * i + 1))).1))), (0, .ref b0), (1, .ref (a1 0)), (2, .ref (a2 0)), (3, .ref o), (4, .int (jI ((3 * i : Nat) : Int)))]) hx hb dL_law_1113 hl (by decide) rfl (fun ls hl => ?_)
  refine lv_aload_n hx hb dL_law_1115 rfl (lv_at hl 3 rfl) ?_
  refine lv_aload_n hx hb dL_law_1116 rfl (lv_at hl 1 rfl) ?_
  refine lv_iload hx hb dL_law_1117 (lv_at hl 5 rfl) ?_
  refine lv_iconst (v := jI 1) hx hb dL_law_1119 rfl ?_
  refine x_iadd hx hb dL_law_1120 ?_
  refine x_sld hx hb hX hbl hbA hS (3 * i + 1) (by omega) (by omega) hL dL_law_1121 ?_
  refine xz_I (As := [.int (jI (ys xs (3 * i + 1)))]) (rest := []) hSx (m_X2_setting l D cI a2 f2 g2 n b len th at_ fl va so ma (ys xs (3 * i + 1)) (ys_r xs _)) (cwV 1 hts gL_law_X2_setting rfl rfl rfl (by decide +kernel) ⟨Nat.le_of_ble_eq_true rfl, Nat.le_of_ble_eq_true rfl⟩) hP2 hP1 (va_D_perm (va_D_swap hDD) (List.Perm.refl _)) hS hA (hK2.sub [0] rfl) 0 rfl rfl rfl rfl hl.1 rfl (Nat.le_of_ble_eq_true rfl) dL_law_1122 ⟨hr.1, hr.2⟩ (fun H locs hP2 hP1 hS => ?_)
  refine lv_istore (lv' := [(6, .int (jI (s_X2_setting f2 (ys xs (3 * i + 1))).1)), (5, .int (jI (km_setting (s_X1_setting f1 (ys xs (3 * i + 1))).1))), (0, .ref b0), (1, .ref (a1 0)), (2, .ref (a2 0)), (3, .ref o), (4, .int (jI ((3 * i : Nat) : Int)))]) hx hb dL_law_1125 hl (by decide) rfl (fun ls hl => ?_)
  have hKm : (km_setting (s_X1_setting f1 (ys xs (3 * i + 1))).1 = 0 → (s_X1_setting f1 (ys xs (3 * i + 1))).1 = 0) ∧ 0 ≤ km_setting (s_X1_setting f1 (ys xs (3 * i + 1))).1 ∧ km_setting (s_X1_setting f1 (ys xs (3 * i + 1))).1 ≤ 3 := by
    rcases c_X1_setting f1 (ys xs (3 * i + 1)) with h | h <;> rw [h] <;> decide
  have hag := a_setting hRI (ys xs (3 * i + 1))
  exact k_tail 1127 X dL_law_1127 dL_law_1128 dL_law_1131 dL_law_1133 dL_law_1138 dL_law_1140 dL_law_1143 dL_law_1144 dL_law_1145 dL_law_1146 dL_law_1148 dL_law_1149 dL_law_1150 dL_law_1155 (by decide) hKm.2 hag.1.symm (fun z => by rw [hu (hKm.1 z), hag.2 (hKm.1 z)]) hP1 hP2 hS hl ⟨hr.1, hr.2⟩ (fun hl9 => kk _ _ _ ⟨f1, g1, n, b, len, kd, sg, nb, pt, f2, g2, _, at_, fl, va, so, ma, u1, RI_more hRI, RG_more hRG, hn, hln, hbf, hwk, hw2, hva, va_P_left hP1, va_P_right hP1, hP2⟩ hS hl9)
set_option maxHeartbeats 4000000 in
set_option maxRecDepth 100000 in
theorem k_opensIn (X : LX p l s m c b0 L xs D cI cL A a1 o a2) (hi : 3 * i + 3 ≤ L) (hc : cn ≤ 511) (hI : LI D cI cL a1 o a2 cn H) (hS : va_S A s.heap H locs) (hl : lv_has ls 9 [(0, .ref b0), (1, .ref (a1 0)), (2, .ref (a2 0)), (3, .ref o), (4, .int (jI ((3 * i : Nat) : Int)))]) (hr : cells + 1 ≤ 1067 ∧ slots + 6 ≤ 8979)
    (kk : ∀ (H1 : Heap) (locs1 : List Loc) (ls1 : Array Slot), LI D cI cL a1 o a2 (cn + 1) H1 → va_S A s.heap H1 locs1 → lv_has ls1 9 [(0, .ref b0), (1, .ref (a1 0)), (2, .ref (a2 0)), (3, .ref o), (4, .int (jI ((3 * i : Nat) : Int)))] → W p l e room_1 s m #[Value.ref b0] below meth c H1 locs1 (cells + 1) (slots + 6) Q (F0 m 1308 ls1 [])) : W p l e room_1 s m #[Value.ref b0] below meth c H locs cells slots Q (F0 m 1158 ls []) := by
  obtain ⟨hx, hb, hml, hown, hts, hX, hbl, hbA, hL, hA, hlt, hE, hK2, hDD⟩ := id X
  have hSx : CallFix p m c code 9 s #[Value.ref b0] wsL_law RL := ⟨hx, hb, hml, hown, hts⟩
  obtain ⟨f1, g1, n, b, len, kd, sg, nb, pt, f2, g2, th, at_, fl, va, so, ma, u, hRI, hRG, hn, hln, hbf, hwk, hw2, hva, hP1, hPo, hP2⟩ := hI
  have Q1 := facts1 (show cn ≤ 512 by omega) hRI
  have Q2 := facts2 (show cn ≤ 512 by omega) hRI
  refine lv_aload_n hx hb dL_law_1158 rfl (lv_at hl 1 rfl) ?_
  refine xc_R (As := []) (rest := []) hSx (m_X1_opensIn l D cI a1 f1 g1 n b len kd sg nb pt Q1.1 Q1.2.1 Q1.2.2.2.1 Q1.2.2.2.2.2.1) (cwV 0 hts gL_law_X1_opensIn rfl rfl rfl (by decide +kernel) ⟨Nat.le_of_ble_eq_true rfl, Nat.le_of_ble_eq_true rfl⟩) hP1 (hK2.sub [0] rfl) 0 rfl rfl rfl rfl hl.1 rfl (Nat.le_of_ble_eq_true rfl) dL_law_1159 ⟨by show cells ≤ 1067; omega, by show slots ≤ 8979; omega⟩ ?_
  refine lv_aload_n hx hb dL_law_1162 rfl (lv_at hl 2 rfl) ?_
  refine xz_I (As := []) (rest := [.int (jI (s_X1_hoursToOpen f1 (-1)))]) hSx (m_X2_opensIn l D cI a2 f2 g2 n b len th at_ fl va so ma Q2.1 Q2.2.1 Q2.2.2.2.1 Q2.2.2.2.2.1) (cwV 0 hts gL_law_X2_opensIn rfl rfl rfl (by decide +kernel) ⟨Nat.le_of_ble_eq_true rfl, Nat.le_of_ble_eq_true rfl⟩) hP2 (hP1.app hPo) (va_D_perm (va_D_swap hDD) (List.Perm.refl _)) hS hA (hK2.sub [0] rfl) 0 rfl rfl rfl rfl hl.1 rfl (Nat.le_of_ble_eq_true rfl) dL_law_1163 ⟨by show cells ≤ 1067; omega, by show slots ≤ 8979; omega⟩ (fun H locs hP2 hP9 hS => ?_)
  have hPo9 := va_P_right hP9
  have hP19 := va_P_left hP9
  refine lv_icmp_eq (tgt := 1308) hx hb dL_law_1166 (by decide) (fun _ => ?_) (fun h => absurd (congrArg jI ((opens_eq hRI (-1)).1.symm)) h)
  refine W.widen (k := cells + 1) (n := slots + 6) (by omega) (by omega) ?_
  exact kk _ _ _ ⟨f1, g1, n, b, len, kd, sg, nb, pt, f2, g2, _, at_, fl, va, so, ma, u, RI_more hRI, RG_more hRG, hn, hln, hbf, hwk, hw2, hva, hP19, hPo9, hP2⟩ hS (lv_sub hl [0, 1, 2, 3, 4] rfl)
set_option maxHeartbeats 4000000 in
set_option maxRecDepth 100000 in
theorem k_lateness (X : LX p l s m c b0 L xs D cI cL A a1 o a2) (hi : 3 * i + 3 ≤ L) (hc : cn ≤ 511) (hI : LI D cI cL a1 o a2 cn H) (hS : va_S A s.heap H locs) (hl : lv_has ls 9 [(0, .ref b0), (1, .ref (a1 0)), (2, .ref (a2 0)), (3, .ref o), (4, .int (jI ((3 * i : Nat) : Int)))]) (hr : cells + 1 ≤ 1067 ∧ slots + 6 ≤ 8979)
    (kk : ∀ (H1 : Heap) (locs1 : List Loc) (ls1 : Array Slot), LI D cI cL a1 o a2 (cn + 1) H1 → va_S A s.heap H1 locs1 → lv_has ls1 9 [(0, .ref b0), (1, .ref (a1 0)), (2, .ref (a2 0)), (3, .ref o), (4, .int (jI ((3 * i : Nat) : Int)))] → W p l e room_1 s m #[Value.ref b0] below meth c H1 locs1 (cells + 1) (slots + 6) Q (F0 m 1308 ls1 [])) : W p l e room_1 s m #[Value.ref b0] below meth c H locs cells slots Q (F0 m 1171 ls []) := by
  obtain ⟨hx, hb, hml, hown, hts, hX, hbl, hbA, hL, hA, hlt, hE, hK2, hDD⟩ := id X
  have hSx : CallFix p m c code 9 s #[Value.ref b0] wsL_law RL := ⟨hx, hb, hml, hown, hts⟩
  obtain ⟨f1, g1, n, b, len, kd, sg, nb, pt, f2, g2, th, at_, fl, va, so, ma, u, hRI, hRG, hn, hln, hbf, hwk, hw2, hva, hP1, hPo, hP2⟩ := hI
  have Q1 := facts1 (show cn ≤ 512 by omega) hRI
  have Q2 := facts2 (show cn ≤ 512 by omega) hRI
  refine lv_aload_n hx hb dL_law_1171 rfl (lv_at hl 1 rfl) ?_
  refine xc_R (As := []) (rest := []) hSx (m_X1_lateness l D cI a1 f1 g1 n b len kd sg nb pt Q1.1 Q1.2.1 Q1.2.2.2.1 Q1.2.2.2.2.2.1) (cwV 0 hts gL_law_X1_lateness rfl rfl rfl (by decide +kernel) ⟨Nat.le_of_ble_eq_true rfl, Nat.le_of_ble_eq_true rfl⟩) hP1 (hK2.sub [0] rfl) 0 rfl rfl rfl rfl hl.1 rfl (Nat.le_of_ble_eq_true rfl) dL_law_1172 ⟨by show cells ≤ 1067; omega, by show slots ≤ 8979; omega⟩ ?_
  refine lv_aload_n hx hb dL_law_1175 rfl (lv_at hl 2 rfl) ?_
  refine xz_I (As := []) (rest := [.int (jI (s_X1_lateness f1))]) hSx (m_X2_lateness l D cI a2 f2 g2 n b len th at_ fl va so ma Q2.1 Q2.2.1 Q2.2.2.2.1 Q2.2.2.2.2.1) (cwV 0 hts gL_law_X2_lateness rfl rfl rfl (by decide +kernel) ⟨Nat.le_of_ble_eq_true rfl, Nat.le_of_ble_eq_true rfl⟩) hP2 (hP1.app hPo) (va_D_perm (va_D_swap hDD) (List.Perm.refl _)) hS hA (hK2.sub [0] rfl) 0 rfl rfl rfl rfl hl.1 rfl (Nat.le_of_ble_eq_true rfl) dL_law_1176 ⟨by show cells ≤ 1067; omega, by show slots ≤ 8979; omega⟩ (fun H locs hP2 hP9 hS => ?_)
  have hPo9 := va_P_right hP9
  have hP19 := va_P_left hP9
  refine lv_icmp_eq (tgt := 1308) hx hb dL_law_1179 (by decide) (fun _ => ?_) (fun h => absurd (congrArg jI ((late_eq hRI).symm)) h)
  refine W.widen (k := cells + 1) (n := slots + 6) (by omega) (by omega) ?_
  exact kk _ _ _ ⟨f1, g1, n, b, len, kd, sg, nb, pt, f2, g2, _, at_, fl, va, so, ma, u, RI_more hRI, RG_more hRG, hn, hln, hbf, hwk, hw2, hva, hP19, hPo9, hP2⟩ hS (lv_sub hl [0, 1, 2, 3, 4] rfl)
set_option maxHeartbeats 4000000 in
set_option maxRecDepth 100000 in
theorem k_keyMovement (X : LX p l s m c b0 L xs D cI cL A a1 o a2) (hi : 3 * i + 3 ≤ L) (hc : cn ≤ 511) (hI : LI D cI cL a1 o a2 cn H) (hS : va_S A s.heap H locs) (hl : lv_has ls 9 [(0, .ref b0), (1, .ref (a1 0)), (2, .ref (a2 0)), (3, .ref o), (4, .int (jI ((3 * i : Nat) : Int)))]) (hr : cells + 1 ≤ 1067 ∧ slots + 6 ≤ 8979)
    (kk : ∀ (H1 : Heap) (locs1 : List Loc) (ls1 : Array Slot), LI D cI cL a1 o a2 (cn + 1) H1 → va_S A s.heap H1 locs1 → lv_has ls1 9 [(0, .ref b0), (1, .ref (a1 0)), (2, .ref (a2 0)), (3, .ref o), (4, .int (jI ((3 * i : Nat) : Int)))] → W p l e room_1 s m #[Value.ref b0] below meth c H1 locs1 (cells + 1) (slots + 6) Q (F0 m 1308 ls1 [])) : W p l e room_1 s m #[Value.ref b0] below meth c H locs cells slots Q (F0 m 1184 ls []) := by
  obtain ⟨hx, hb, hml, hown, hts, hX, hbl, hbA, hL, hA, hlt, hE, hK2, hDD⟩ := id X
  have hSx : CallFix p m c code 9 s #[Value.ref b0] wsL_law RL := ⟨hx, hb, hml, hown, hts⟩
  obtain ⟨f1, g1, n, b, len, kd, sg, nb, pt, f2, g2, th, at_, fl, va, so, ma, u, hRI, hRG, hn, hln, hbf, hwk, hw2, hva, hP1, hPo, hP2⟩ := hI
  have Q1 := facts1 (show cn ≤ 512 by omega) hRI
  have Q2 := facts2 (show cn ≤ 512 by omega) hRI
  refine lv_aload_n hx hb dL_law_1184 rfl (lv_at hl 1 rfl) ?_
  refine xc_R (As := []) (rest := []) hSx (m_X1_keyMovement l D cI a1 f1 g1 n b len kd sg nb pt Q1.1 Q1.2.1 Q1.2.2.2.1 Q1.2.2.2.2.2.1) (cwV 0 hts gL_law_X1_keyMovement rfl rfl rfl (by decide +kernel) ⟨Nat.le_of_ble_eq_true rfl, Nat.le_of_ble_eq_true rfl⟩) hP1 (hK2.sub [0] rfl) 0 rfl rfl rfl rfl hl.1 rfl (Nat.le_of_ble_eq_true rfl) dL_law_1185 ⟨by show cells ≤ 1067; omega, by show slots ≤ 8979; omega⟩ ?_
  refine lv_aload_n hx hb dL_law_1188 rfl (lv_at hl 2 rfl) ?_
  refine xz_I (As := []) (rest := [.int (jI (s_X1_keyMovement f1))]) hSx (m_X2_keyMovement l D cI a2 f2 g2 n b len th at_ fl va so ma Q2.1 Q2.2.1 Q2.2.2.2.1 Q2.2.2.2.2.1) (cwV 0 hts gL_law_X2_keyMovement rfl rfl rfl (by decide +kernel) ⟨Nat.le_of_ble_eq_true rfl, Nat.le_of_ble_eq_true rfl⟩) hP2 (hP1.app hPo) (va_D_perm (va_D_swap hDD) (List.Perm.refl _)) hS hA (hK2.sub [0] rfl) 0 rfl rfl rfl rfl hl.1 rfl (Nat.le_of_ble_eq_true rfl) dL_law_1189 ⟨by show cells ≤ 1067; omega, by show slots ≤ 8979; omega⟩ (fun H locs hP2 hP9 hS => ?_)
  have hPo9 := va_P_right hP9
  have hP19 := va_P_left hP9
  refine lv_icmp_eq (tgt := 1308) hx hb dL_law_1192 (by decide) (fun _ => ?_) (fun h => absurd (congrArg jI ((key_eq hRI).symm)) h)
  refine W.widen (k := cells + 1) (n := slots + 6) (by omega) (by omega) ?_
  exact kk _ _ _ ⟨f1, g1, n, b, len, kd, sg, nb, pt, f2, g2, _, at_, fl, va, so, ma, u, RI_more hRI, RG_more hRG, hn, hln, hbf, hwk, hw2, hva, hP19, hPo9, hP2⟩ hS (lv_sub hl [0, 1, 2, 3, 4] rfl)
set_option maxHeartbeats 4000000 in
set_option maxRecDepth 100000 in
theorem k_rightWinding (X : LX p l s m c b0 L xs D cI cL A a1 o a2) (hi : 3 * i + 3 ≤ L) (hc : cn ≤ 511) (hI : LI D cI cL a1 o a2 cn H) (hS : va_S A s.heap H locs) (hl : lv_has ls 9 [(0, .ref b0), (1, .ref (a1 0)), (2, .ref (a2 0)), (3, .ref o), (4, .int (jI ((3 * i : Nat) : Int)))]) (hr : cells + 1 ≤ 1067 ∧ slots + 6 ≤ 8979)
    (kk : ∀ (H1 : Heap) (locs1 : List Loc) (ls1 : Array Slot), LI D cI cL a1 o a2 (cn + 1) H1 → va_S A s.heap H1 locs1 → lv_has ls1 9 [(0, .ref b0), (1, .ref (a1 0)), (2, .ref (a2 0)), (3, .ref o), (4, .int (jI ((3 * i : Nat) : Int)))] → W p l e room_1 s m #[Value.ref b0] below meth c H1 locs1 (cells + 1) (slots + 6) Q (F0 m 1308 ls1 [])) : W p l e room_1 s m #[Value.ref b0] below meth c H locs cells slots Q (F0 m 1197 ls []) := by
  obtain ⟨hx, hb, hml, hown, hts, hX, hbl, hbA, hL, hA, hlt, hE, hK2, hDD⟩ := id X
  have hSx : CallFix p m c code 9 s #[Value.ref b0] wsL_law RL := ⟨hx, hb, hml, hown, hts⟩
  obtain ⟨f1, g1, n, b, len, kd, sg, nb, pt, f2, g2, th, at_, fl, va, so, ma, u, hRI, hRG, hn, hln, hbf, hwk, hw2, hva, hP1, hPo, hP2⟩ := hI
  have Q1 := facts1 (show cn ≤ 512 by omega) hRI
  have Q2 := facts2 (show cn ≤ 512 by omega) hRI
  refine lv_aload_n hx hb dL_law_1197 rfl (lv_at hl 1 rfl) ?_
  refine lv_aload_n hx hb dL_law_1198 rfl (lv_at hl 0 rfl) ?_
  refine lv_iload hx hb dL_law_1199 (lv_at hl 4 rfl) ?_
  refine lv_iconst (v := jI 1) hx hb dL_law_1201 rfl ?_
  refine x_iadd hx hb dL_law_1202 ?_
  refine x_sld hx hb hX hbl hbA hS (3 * i + 1) (by omega) (by omega) hL dL_law_1203 ?_
  refine lv_aload_n hx hb dL_law_1204 rfl (lv_at hl 3 rfl) ?_
  refine xc_L (As := [.ref (a1 0), .int (jI (ys xs (3 * i + 1))), .ref o]) (rest := []) hSx (m_L_rightWinding l D cI a1 f1 g1 n b len kd sg nb pt hlt (ys xs (3 * i + 1)) Q1.1 Q1.2.2.2.1 Q1.2.2.2.2.1 Q1.2.1 (ys_r xs _) cL o u) (vx_cwSW 3 hts gL_law_L_rightWinding rfl rfl rfl (by decide +kernel) ⟨Nat.le_of_ble_eq_true rfl, Nat.le_of_ble_eq_true rfl⟩) (hP1.app hPo) hP2 (va_D_perm hDD (List.Perm.refl _)) hS hA hK2 hE rfl hl.1 rfl (Nat.le_of_ble_eq_true rfl) dL_law_1205 ⟨hr.1, hr.2⟩ (fun u1 H locs hu hP1 hP2 hS => ?_)
  refine lv_istore (lv' := [(5, .int (jI (km_rightWinding (s_X1_rightWinding f1 (ys xs (3 * i + 1))).1))), (0, .ref b0), (1, .ref (a1 0)), (2, .ref (a2 0)), (3, .ref o), (4, .int (jI ((3 * i : Nat) : Int)))]) hx hb dL_law_1208 hl (by decide) rfl (fun ls hl => ?_)
  refine lv_aload_n hx hb dL_law_1210 rfl (lv_at hl 3 rfl) ?_
  refine lv_aload_n hx hb dL_law_1211 rfl (lv_at hl 1 rfl) ?_
  refine lv_iload hx hb dL_law_1212 (lv_at hl 5 rfl) ?_
  refine lv_iconst (v := jI 1) hx hb dL_law_1214 rfl ?_
  refine x_iadd hx hb dL_law_1215 ?_
  refine x_sld hx hb hX hbl hbA hS (3 * i + 1) (by omega) (by omega) hL dL_law_1216 ?_
  refine xz_I (As := [.int (jI (ys xs (3 * i + 1)))]) (rest := []) hSx (m_X2_rightWinding l D cI a2 f2 g2 n b len th at_ fl va so ma (ys xs (3 * i + 1)) Q2.1 Q2.2.1 Q2.2.2.2.1 (ys_r xs _)) (cwV 1 hts gL_law_X2_rightWinding rfl rfl rfl (by decide +kernel) ⟨Nat.le_of_ble_eq_true rfl, Nat.le_of_ble_eq_true rfl⟩) hP2 hP1 (va_D_perm (va_D_swap hDD) (List.Perm.refl _)) hS hA (hK2.sub [0] rfl) 0 rfl rfl rfl rfl hl.1 rfl (Nat.le_of_ble_eq_true rfl) dL_law_1217 ⟨hr.1, hr.2⟩ (fun H locs hP2 hP1 hS => ?_)
  refine lv_istore (lv' := [(6, .int (jI (s_X2_rightWinding f2 (ys xs (3 * i + 1))).1)), (5, .int (jI (km_rightWinding (s_X1_rightWinding f1 (ys xs (3 * i + 1))).1))), (0, .ref b0), (1, .ref (a1 0)), (2, .ref (a2 0)), (3, .ref o), (4, .int (jI ((3 * i : Nat) : Int)))]) hx hb dL_law_1220 hl (by decide) rfl (fun ls hl => ?_)
  have hKm : (km_rightWinding (s_X1_rightWinding f1 (ys xs (3 * i + 1))).1 = 0 → (s_X1_rightWinding f1 (ys xs (3 * i + 1))).1 = 0) ∧ 0 ≤ km_rightWinding (s_X1_rightWinding f1 (ys xs (3 * i + 1))).1 ∧ km_rightWinding (s_X1_rightWinding f1 (ys xs (3 * i + 1))).1 ≤ 3 := by
    rcases c_X1_rightWinding f1 (ys xs (3 * i + 1)) with h | h <;> rw [h] <;> decide
  have hag := a_right hRI (ys xs (3 * i + 1))
  exact k_tail 1222 X dL_law_1222 dL_law_1223 dL_law_1226 dL_law_1228 dL_law_1233 dL_law_1235 dL_law_1238 dL_law_1239 dL_law_1240 dL_law_1241 dL_law_1243 dL_law_1244 dL_law_1245 dL_law_1250 (by decide) hKm.2 hag.1.symm (fun z => by rw [hu (hKm.1 z), hag.2 (hKm.1 z)]) hP1 hP2 hS hl ⟨hr.1, hr.2⟩ (fun hl9 => kk _ _ _ ⟨f1, g1, n, b, len, kd, sg, nb, pt, f2, g2, _, at_, fl, va, so, ma, u1, RI_more hRI, RG_more hRG, hn, hln, hbf, hwk, hw2, hva, va_P_left hP1, va_P_right hP1, hP2⟩ hS hl9)
set_option maxHeartbeats 4000000 in
set_option maxRecDepth 100000 in
theorem k_punctuality (X : LX p l s m c b0 L xs D cI cL A a1 o a2) (hi : 3 * i + 3 ≤ L) (hc : cn ≤ 511) (hI : LI D cI cL a1 o a2 cn H) (hS : va_S A s.heap H locs) (hl : lv_has ls 9 [(0, .ref b0), (1, .ref (a1 0)), (2, .ref (a2 0)), (3, .ref o), (4, .int (jI ((3 * i : Nat) : Int)))]) (hr : cells + 1 ≤ 1067 ∧ slots + 6 ≤ 8979)
    (kk : ∀ (H1 : Heap) (locs1 : List Loc) (ls1 : Array Slot), LI D cI cL a1 o a2 (cn + 1) H1 → va_S A s.heap H1 locs1 → lv_has ls1 9 [(0, .ref b0), (1, .ref (a1 0)), (2, .ref (a2 0)), (3, .ref o), (4, .int (jI ((3 * i : Nat) : Int)))] → W p l e room_1 s m #[Value.ref b0] below meth c H1 locs1 (cells + 1) (slots + 6) Q (F0 m 1308 ls1 [])) : W p l e room_1 s m #[Value.ref b0] below meth c H locs cells slots Q (F0 m 1253 ls []) := by
  obtain ⟨hx, hb, hml, hown, hts, hX, hbl, hbA, hL, hA, hlt, hE, hK2, hDD⟩ := id X
  have hSx : CallFix p m c code 9 s #[Value.ref b0] wsL_law RL := ⟨hx, hb, hml, hown, hts⟩
  obtain ⟨f1, g1, n, b, len, kd, sg, nb, pt, f2, g2, th, at_, fl, va, so, ma, u, hRI, hRG, hn, hln, hbf, hwk, hw2, hva, hP1, hPo, hP2⟩ := hI
  have Q1 := facts1 (show cn ≤ 512 by omega) hRI
  have Q2 := facts2 (show cn ≤ 512 by omega) hRI
  refine lv_aload_n hx hb dL_law_1253 rfl (lv_at hl 1 rfl) ?_
  refine xc_Rd (As := []) (rest := []) hSx (m_X1_punctuality l D cI a1 f1 g1 n b len kd sg nb pt Q1.2.2.2.2.2.2.2.2.2.1 Q1.2.2.2.2.2.2.2.2.2.2) (cwV 0 hts gL_law_X1_punctuality rfl rfl rfl (by decide +kernel) ⟨Nat.le_of_ble_eq_true rfl, Nat.le_of_ble_eq_true rfl⟩) hP1 (hK2.sub [0] rfl) 0 rfl rfl rfl rfl hl.1 rfl (Nat.le_of_ble_eq_true rfl) dL_law_1254 ⟨by show cells ≤ 1067; omega, by show slots ≤ 8979; omega⟩ ?_
  refine lv_dstore (lv' := [(5, .double (s_X1_punctuality f1)), (0, .ref b0), (1, .ref (a1 0)), (2, .ref (a2 0)), (3, .ref o), (4, .int (jI ((3 * i : Nat) : Int)))]) hx hb dL_law_1257 hl (by decide) rfl (fun ls hl => ?_)
  refine lv_aload_n hx hb dL_law_1259 rfl (lv_at hl 3 rfl) ?_
  refine xz_Id (As := []) (rest := []) hSx (m_X2_punctuality l D cI a2 f2 g2 n b len th at_ fl va so ma Q2.2.2.2.2.2.2.2.2.1 Q2.2.2.2.2.2.2.2.2.2) (cwV 0 hts gL_law_X2_punctuality rfl rfl rfl (by decide +kernel) ⟨Nat.le_of_ble_eq_true rfl, Nat.le_of_ble_eq_true rfl⟩) hP2 (hP1.app hPo) (va_D_perm (va_D_swap hDD) (List.Perm.refl _)) hS hA (hK2.sub [0] rfl) 0 rfl rfl rfl rfl hl.1 rfl (Nat.le_of_ble_eq_true rfl) dL_law_1260 ⟨by show cells ≤ 1067; omega, by show slots ≤ 8979; omega⟩ (fun H locs hP2 hP9 hS => ?_)
  refine lv_dstore (lv' := [(7, .double (s_X2_punctuality f2).1), (5, .double (s_X1_punctuality f1)), (0, .ref b0), (1, .ref (a1 0)), (2, .ref (a2 0)), (3, .ref o), (4, .int (jI ((3 * i : Nat) : Int)))]) hx hb dL_law_1263 hl (by decide) rfl (fun ls hl => ?_)
  have hPo9 := va_P_right hP9
  have hP19 := va_P_left hP9
  refine lv_dload hx hb dL_law_1265 (lv_at hl 1 rfl) ?_
  refine lv_dload hx hb dL_law_1267 (lv_at hl 0 rfl) ?_
  refine lv_dcmp hx hb dL_law_1269 ?_
  rw [show (s_X2_punctuality f2).1 = s_X1_punctuality f1 from share_eq hRI, shr_self (shr_X1 f1 Q1.2.2.2.2.2.2.2.2.2.1 Q1.2.2.2.2.2.2.2.2.2.2)]
  refine x_if_eq (tgt := 1291) hx hb dL_law_1270 (by decide) (by decide) (fun _ => ?_) (fun h => absurd rfl h)
  refine lv_goto (tgt := 1308) hx hb dL_law_1291 (by decide) ?_
  refine W.widen (k := cells + 1) (n := slots + 6) (by omega) (by omega) ?_
  exact kk _ _ _ ⟨f1, g1, n, b, len, kd, sg, nb, pt, f2, g2, _, at_, fl, va, so, ma, u, RI_more hRI, RG_more hRG, hn, hln, hbf, hwk, hw2, hva, hP19, hPo9, hP2⟩ hS (lv_sub hl [2, 3, 4, 5, 6] rfl)
set_option maxHeartbeats 4000000 in
set_option maxRecDepth 100000 in
theorem k_digest (X : LX p l s m c b0 L xs D cI cL A a1 o a2) (hi : 3 * i + 3 ≤ L) (hc : cn ≤ 511) (hI : LI D cI cL a1 o a2 cn H) (hS : va_S A s.heap H locs) (hl : lv_has ls 9 [(0, .ref b0), (1, .ref (a1 0)), (2, .ref (a2 0)), (3, .ref o), (4, .int (jI ((3 * i : Nat) : Int)))]) (hr : cells + 1 ≤ 1067 ∧ slots + 6 ≤ 8979)
    (kk : ∀ (H1 : Heap) (locs1 : List Loc) (ls1 : Array Slot), LI D cI cL a1 o a2 (cn + 1) H1 → va_S A s.heap H1 locs1 → lv_has ls1 9 [(0, .ref b0), (1, .ref (a1 0)), (2, .ref (a2 0)), (3, .ref o), (4, .int (jI ((3 * i : Nat) : Int)))] → W p l e room_1 s m #[Value.ref b0] below meth c H1 locs1 (cells + 1) (slots + 6) Q (F0 m 1308 ls1 [])) : W p l e room_1 s m #[Value.ref b0] below meth c H locs cells slots Q (F0 m 1294 ls []) := by
  obtain ⟨hx, hb, hml, hown, hts, hX, hbl, hbA, hL, hA, hlt, hE, hK2, hDD⟩ := id X
  have hSx : CallFix p m c code 9 s #[Value.ref b0] wsL_law RL := ⟨hx, hb, hml, hown, hts⟩
  obtain ⟨f1, g1, n, b, len, kd, sg, nb, pt, f2, g2, th, at_, fl, va, so, ma, u, hRI, hRG, hn, hln, hbf, hwk, hw2, hva, hP1, hPo, hP2⟩ := hI
  have Q1 := facts1 (show cn ≤ 512 by omega) hRI
  have Q2 := facts2 (show cn ≤ 512 by omega) hRI
  refine lv_aload_n hx hb dL_law_1294 rfl (lv_at hl 1 rfl) ?_
  refine xc_Rl (As := []) (rest := []) hSx (m_X1_digest l D cI a1 f1 g1 n b len kd sg nb pt Q1.1 Q1.2.1 Q1.2.2.2.1 Q1.2.2.2.2.1 Q1.2.2.2.2.2.1 Q1.2.2.2.2.2.2.2.2.2.1 Q1.2.2.2.2.2.2.2.2.2.2 hln) (cwV 0 hts gL_law_X1_digest rfl rfl rfl (by decide +kernel) ⟨Nat.le_of_ble_eq_true rfl, Nat.le_of_ble_eq_true rfl⟩) hP1 (hK2.sub [0] rfl) 0 rfl rfl rfl rfl hl.1 rfl (Nat.le_of_ble_eq_true rfl) dL_law_1295 ⟨by show cells ≤ 1067; omega, by show slots ≤ 8979; omega⟩ ?_
  refine lv_aload_n hx hb dL_law_1298 rfl (lv_at hl 2 rfl) ?_
  refine xz_Il (As := []) (rest := [.long (s_X1_digest f1 n b len)]) hSx (m_X2_digest l D cI a2 f2 g2 n b len th at_ fl va so ma Q2.1 Q2.2.1 Q2.2.2.2.1 Q2.2.2.2.2.1 Q2.2.2.2.2.2.2.2.2.1 Q2.2.2.2.2.2.2.2.2.2 hln) (cwV 0 hts gL_law_X2_digest rfl rfl rfl (by decide +kernel) ⟨Nat.le_of_ble_eq_true rfl, Nat.le_of_ble_eq_true rfl⟩) hP2 (hP1.app hPo) (va_D_perm (va_D_swap hDD) (List.Perm.refl _)) hS hA (hK2.sub [0] rfl) 0 rfl rfl rfl rfl hl.1 rfl (Nat.le_of_ble_eq_true rfl) dL_law_1299 ⟨by show cells ≤ 1067; omega, by show slots ≤ 8979; omega⟩ (fun H locs hP2 hP9 hS => ?_)
  have hPo9 := va_P_right hP9
  have hP19 := va_P_left hP9
  refine W.lcmp hx hb dL_law_1302 ?_
  rw [digest_eq hRI, lg_cmp_same]
  refine x_if_eq (tgt := 1308) hx hb dL_law_1303 (by decide) (by decide) (fun _ => ?_) (fun h => absurd rfl h)
  refine W.widen (k := cells + 1) (n := slots + 6) (by omega) (by omega) ?_
  exact kk _ _ _ ⟨f1, g1, n, b, len, kd, sg, nb, pt, f2, g2, _, at_, fl, va, so, ma, u, RI_more hRI, RG_more hRG, hn, hln, hbf, hwk, hw2, hva, hP19, hPo9, hP2⟩ hS (lv_sub hl [0, 1, 2, 3, 4] rfl)
end CASES
