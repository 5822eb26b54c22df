/-! the law's loop -/
abbrev Z0 : Nat → Int := fun _ => 0
def LX (p : Program) (l : Launch) (s : State) (m : MethodId) (c : Code) (b0 L : Nat) (xs : Nat → Int32) (D : va_G) (cI : ClassId) (A : Nat → Prop) (a : Nat → Nat) : Prop :=
  p.tables.exec = Jvm.exec ∧ c.code = code ∧ c.maxLocals = 11 ∧ s.vm.findClass RL = some m.cls ∧ (∀ w ∈ wsL_law, w.before #[Value.ref b0] s = true) ∧ va_X b0 L xs s s.heap ∧ b0 < s.heap.size ∧ ¬ A b0 ∧ L ≤ 260 ∧ (∀ q, s.heap.size ≤ q → A q) ∧ l.stackTraces = false ∧ xenv A s ∧ va_K D vwCl [(cI, .int)] s ∧ va_D A (w1 cI a Z0 Z0 0 Z0 0 Z0 Z0 Z0 0)
theorem V_facts {c : Nat} {f : Nat → Int} (hc : c ≤ 41) (h : VI c f) : rng f ∧ mvs f ∧ (0 ≤ f 0 ∧ f 0 ≤ 99999) ∧ (∀ k : Nat, 14 ≤ k → k < 21 → -1 ≤ f k ∧ f k ≤ 23) ∧ (0 ≤ f 4 ∧ f 4 ≤ 100100) ∧ (-1 ≤ f 2 ∧ f 2 ≤ 100300) ∧ (0 ≤ f 3 ∧ f 3 ≤ 8) ∧ (1 ≤ f 11 ∧ f 11 ≤ 9) ∧ (0 ≤ f 7 ∧ f 7 ≤ f 6) ∧ (0 ≤ f 10 ∧ f 6 + f 10 ≤ 512) ∧ (0 ≤ f 5 ∧ f 5 ≤ 41) ∧ (f 1 = 0 ∨ f 1 = 1) ∧ (1 ≤ f 12 ∧ f 12 ≤ 24) := by
  have hA := h.1.1
  unfold VA at hA
  exact ⟨V_rng (by omega) h, V_mvs (by omega) h, by omega, V_d h, by omega, by omega, by omega, by omega, by omega, by omega, by omega, by omega, by omega⟩
theorem m_clock_at (l : Launch) (D : va_G) (cI : ClassId) (a : Nat → Nat) (f g : Nat → Int) (n : Nat) (b : Nat → Int) (len : Nat) (kd sg nb : Nat → Int) (pt : Nat) {c : Nat} (hc : c ≤ 41) (h : VI c f) : MetR l yL_clock wsL_clock rm_L_clock D cI [.ref (a 0)] (w1 cI a f g n b len kd sg nb pt) 1 := by
  obtain ⟨hrf, hm, hh, hd, hw, h2, h3, h11, hs1, hs2, h5, h1, h12⟩ := V_facts hc h
  have hc9 : c ≤ 100 := by omega
  have hA := h.1.1
  unfold VA at hA
  exact m_L_clock l D cI (a 0) _ (s_X1_number f n) (s_X1_property f) (fun i => f (11 + i)) (fun d => f (14 + d)) (s_X1_hoursToWind f) (s_X1_hoursToOpen f (-1)) (s_X1_lateness f) (s_X1_keyMovement f) (s_X1_punctuality f) rfl (fun k hk => m_X1_count_R l D cI a f g n b len kd sg nb pt k hk hrf hh hd hw) (fun j k hj hk => m_X1_movement_R l D cI a f g n b len kd sg nb pt j k hj hk hrf hm) (fun j hj => m_X1_setting_R l D cI a f g n b len kd sg nb pt j hj hrf) (fun j hj => m_X1_day_R l D cI a f g n b len kd sg nb pt j hj hrf) (fun j hj => m_X1_rightWinding_R l D cI a f g n b len kd sg nb pt j hj hrf hh hd hm) (m_X1_opensIn l D cI a f g n b len kd sg nb pt hrf hm hh hw) (m_X1_lateness l D cI a f g n b len kd sg nb pt hrf hm hh hw) (m_X1_keyMovement l D cI a f g n b len kd sg nb pt hrf hm hh hw) (m_X1_punctuality l D cI a f g n b len kd sg nb pt hs1 hs2) (cf_c hc9 h) (fun d hd2 => hd (14 + d) (by omega) (by omega)) (fun i hi => cf_m hc9 h hi) (cf_d hc9 h) (open_at hc9 h) (cf_k hc9 h).1 (cf_p hc h) (show 10 ≤ f 13 ∧ f 13 ≤ 5000 by omega)
/-- a try of a locked door -/
theorem open_f {f g : Nat → Int} {n : Nat} (h1 : f 1 ≠ 0) : (s_X1_open f g n).1 = 0 ∧ ((s_X1_hoursToOpen f (-1) = 0 ∧ (s_X1_open f g n).2.1 = 1 ∧ (s_X1_open f g n).2.2.1 5 = f 5 ∧ (s_X1_open f g n).2.2.1 1 = 0) ∨ (s_X1_hoursToOpen f (-1) ≠ 0 ∧ (s_X1_open f g n).2.1 = 0 ∧ (s_X1_open f g n).2.2.1 5 = f 5 + 1 ∧ (s_X1_open f g n).2.2.1 1 = f 1 ∧ (((s_X1_open f g n).2.2.1 3 = f 3 + 1 ∧ f 3 + 1 < (s_X1_open f g n).2.2.1 11) ∨ ((s_X1_open f g n).2.2.1 3 = 0 ∧ (s_X1_open f g n).2.2.1 11 ≤ f 3 + 1 ∧ (s_X1_open f g n).2.2.1 4 = (s_X1_open f g n).2.2.1 0 + (s_X1_open f g n).2.2.1 12)))) := by
  have e : s_X1_open f g n = if s_X1_hoursToOpen f (-1) = 0 then (0, 1, (s_X1_leaveOpen (s_X1_countOpening f (s_X1_latenessAfter f 0))), (s_X1_save f g n).1, (s_X1_save f g n).2) else (0, 0, (s_X1_countEarlyTry f), (s_X1_save f g n).1, (s_X1_save f g n).2) := by
    unfold s_X1_open
    rw [if_neg (fun z => h1 (locked0.mp z))]
  rw [e]
  by_cases ho : s_X1_hoursToOpen f (-1) = 0
  · rw [if_pos ho]
    refine ⟨rfl, Or.inl ⟨ho, rfl, ?_, ?_⟩⟩
    · show s_X1_leaveOpen (s_X1_countOpening f (s_X1_latenessAfter f 0)) 5 = f 5
      unfold s_X1_leaveOpen s_X1_countOpening
      rw [upz_n (by decide), upz_n (by decide), upz_n (by decide), upz_n (by decide)]
      (repeat' split) <;> rw [upz_n (by decide), upz_n (by decide)]
    · show s_X1_leaveOpen (s_X1_countOpening f (s_X1_latenessAfter f 0)) 1 = 0
      unfold s_X1_leaveOpen
      rw [upz_n (by decide), upz_n (by decide), upz_n (by decide), upz_s]
  · rw [if_neg ho]
    refine ⟨rfl, Or.inr ⟨ho, rfl, ?_, ?_, ?_⟩⟩
    · show s_X1_countEarlyTry f 5 = f 5 + 1
      unfold s_X1_countEarlyTry
      split
      · rw [upz_n (by decide), upz_s]
      · rw [upz_n (by decide), upz_n (by decide), upz_n (by decide), upz_s]
    · show s_X1_countEarlyTry f 1 = f 1
      unfold s_X1_countEarlyTry
      split
      · rw [upz_n (by decide), upz_n (by decide)]
      · rw [upz_n (by decide), upz_n (by decide), upz_n (by decide), upz_n (by decide)]
    · show (s_X1_countEarlyTry f 3 = f 3 + 1 ∧ f 3 + 1 < s_X1_countEarlyTry f 11) ∨ (s_X1_countEarlyTry f 3 = 0 ∧ s_X1_countEarlyTry f 11 ≤ f 3 + 1 ∧ s_X1_countEarlyTry f 4 = s_X1_countEarlyTry f 0 + s_X1_countEarlyTry f 12)
      unfold s_X1_countEarlyTry
      by_cases ht : f 3 + 1 < f 11
      · rw [if_pos ht]
        left
        rw [upz_s, upz_n (by decide), upz_n (by decide)]
        exact ⟨rfl, ht⟩
      · rw [if_neg ht]
        right
        simp [upz]
        omega
set_option maxHeartbeats 8000000 in
set_option maxRecDepth 100000 in
theorem law_loop {p : Program} {l : Launch} {e : Env} {s : State} {m : MethodId} {below : List Frame} {meth : Method} {c : Code} {D : va_G} {cI : ClassId} {a : Nat → Nat} {b0 L T : Nat} {xs : Nat → Int32} (X : LX p l s m c b0 L xs D cI (fun q => s.heap.size ≤ q) a) (hr : meth.sig.returnType = ret) (hlocks : meth.locks = false) (hT : T ≤ 40) (hTL : 3 * T ≤ L) : ∀ (k i : Nat) (f g : Nat → Int) (n : Nat) (H : Heap) (locs : List Loc) (ls : Array Slot), i + k = T + 1 → i ≤ T → VI i f → VG i n g → n ≤ 6 → va_P D vwCl (w1 cI a f g n Z0 0 Z0 Z0 Z0 0) H → va_S (fun q => s.heap.size ≤ q) s.heap H locs → lv_has ls 11 [(0, .ref b0), (1, .ref (a 0)), (2, .int (jI 1)), (3, .int (jI (T : Int))), (4, .int (jI (i : Int)))] → W p l e room_1 s m #[Value.ref b0] below meth c H locs (8 + i) (310 + 6 * i) (lw_Z below #[Value.ref b0] s) (F0 m 32 ls []) := by
  obtain ⟨hx, hb, hml, hown, hts, hX, hbl, hbA, hL, hA, hlt, hE, hK, hDD⟩ := id X
  have hSx : CallFix p m c code 11 s #[Value.ref b0] wsL_law RL := ⟨hx, hb, hml, hown, hts⟩
  have fin : ∀ (i : Nat) (H : Heap) (locs : List Loc) (ls : Array Slot), i ≤ 40 → va_S (fun q => s.heap.size ≤ q) s.heap H locs → W p l e room_1 s m #[Value.ref b0] below meth c H locs (8 + i) (310 + 6 * i) (lw_Z below #[Value.ref b0] s) (F0 m 308 ls [.int (jI 1)]) := fun i H locs ls hi hS => by
    refine W.widen (k := 204) (n := 1830) (by omega) (by omega) ?_
    refine va_forget (fun q hq => hS.2.2 q hq) ?_
    exact lw_ret (d0 := s.drawn) (Drawn.sameBut.refl s.drawn lw_cs) hx hb hr hlocks dL_law_308
  generalize lw_Z below #[Value.ref b0] s = Q at fin ⊢
  intro k
  induction k with
  | zero => intro i f g n H locs ls g1; exact fun z => absurd g1 (by omega)
  | succ k ih =>
    intro i f g n H locs ls g1 g2 hV hVG hn hP hS hl
    have hD : va_D (fun q => s.heap.size ≤ q) (w1 cI a f g n Z0 0 Z0 Z0 Z0 0) := va_D_perm hDD (List.Perm.refl _)
    refine lv_iload hx hb dL_law_32 (lv_at hl 4 rfl) ?_
    refine lv_iload_n hx hb dL_law_34 rfl (lv_at hl 3 rfl) ?_
    refine x_icmp_ge (tgt := 307) hx hb dL_law_35 (by decide) ⟨(by omega), (by omega)⟩ (fun c35 => ?_) (fun c35 => ?_)
    · refine lv_iload_n hx hb dL_law_307 rfl (lv_at hl 2 rfl) ?_
      exact fin i H locs ls (by omega) hS
    obtain ⟨hrf, hm, hh, hd, hw, h2, h3, h11, hs1, hs2, h5, h1, h12⟩ := V_facts (by omega) hV
    obtain ⟨e0, e1, e2, e3, e4, e5, e6, e7, e8, e9, e10, e11, e12, e13, e14⟩ := nm_at f n
    clear e1 e2 e4 e7
    have K284 : ∀ (f1 g1 : Nat → Int) (n1 : Nat) (H : Heap) (locs : List Loc) (ls : Array Slot), VI (i + 1) f1 → VG (i + 1) n1 g1 → n1 ≤ 6 → va_P D vwCl (w1 cI a f1 g1 n1 Z0 0 Z0 Z0 Z0 0) H → va_S (fun q => s.heap.size ≤ q) s.heap H locs → lv_has ls 11 [(0, .ref b0), (1, .ref (a 0)), (2, .int (jI 1)), (3, .int (jI (T : Int))), (4, .int (jI (i : Int)))] → W p l e room_1 s m #[Value.ref b0] below meth c H locs (8 + i + 1) (310 + 6 * i + 6) Q (F0 m 284 ls []) := by
      intro f1 g1 n1 H locs ls hV1 hVG1 hn1 hP hS hl
      refine lv_iload_n hx hb dL_law_284 rfl (lv_at hl 2 rfl) ?_
      refine x_if_eq (tgt := 299) hx hb dL_law_285 (by decide) (by decide) (fun c285 => absurd c285 (by decide)) (fun c285 => ?_)
      refine lv_aload_n hx hb dL_law_288 rfl (lv_at hl 1 rfl) ?_
      refine xc_RS (As := [.ref (a 0)]) (rest := []) hSx (m_clock_at l D cI a f1 g1 n1 Z0 0 Z0 Z0 Z0 0 (by omega) hV1) (va_cwS 1 hts gL_law_L_clock rfl rfl rfl (by decide +kernel) ⟨Nat.le_of_ble_eq_true rfl, Nat.le_of_ble_eq_true rfl⟩) hP hK rfl hl.1 rfl (Nat.le_of_ble_eq_true rfl) dL_law_289 ⟨(show 8 + i + 1 ≤ 204 by omega), (show 310 + 6 * i + 6 ≤ 1830 by omega)⟩ ?_
      refine x_if_eq (tgt := 299) hx hb dL_law_292 (by decide) (by decide) (fun c292 => absurd c292 (by decide)) (fun c292 => ?_)
      refine lv_iconst (v := jI 1) hx hb dL_law_295 rfl ?_
      refine lv_goto (tgt := 300) hx hb dL_law_296 (by decide) ?_
      refine lv_istore_n (lv' := [(2, .int (jI 1)), (0, .ref b0), (1, .ref (a 0)), (3, .int (jI (T : Int))), (4, .int (jI (i : Int)))]) hx hb dL_law_300 rfl hl (by decide) rfl (fun ls hl => ?_)
      refine lv_iinc (v := jI ((i + 1 : Nat) : Int)) (lv' := [(4, .int (jI ((i + 1 : Nat) : Int))), (2, .int (jI 1)), (0, .ref b0), (1, .ref (a 0)), (3, .int (jI (T : Int)))]) hx hb dL_law_301 hl (k := 4) rfl (jI_inc _ 1) (by decide) rfl (fun ls hl => ?_)
      refine lv_goto (tgt := 32) hx hb dL_law_304 (by decide) ?_
      exact ih (i + 1) f1 g1 n1 H locs ls (by omega) (by omega) hV1 hVG1 hn1 hP hS (lv_sub hl [2, 3, 1, 4, 0] rfl)
    have K241 : ∀ (ls : Array Slot), lv_has ls 11 [(6, .int (jI (s_X1_number f n 0))), (5, .int (jI (s_X1_number f n 14))), (0, .ref b0), (1, .ref (a 0)), (2, .int (jI 1)), (3, .int (jI (T : Int))), (4, .int (jI (i : Int)))] → W p l e room_1 s m #[Value.ref b0] below meth c H locs (8 + i) (310 + 6 * i) Q (F0 m 241 ls []) := by
      intro ls hl
      refine lv_aload_n hx hb dL_law_241 rfl (lv_at hl 3 rfl) ?_
      refine lv_aload_n hx hb dL_law_242 rfl (lv_at hl 2 rfl) ?_
      refine lv_iconst (v := jI 3) hx hb dL_law_243 rfl ?_
      refine lv_iload hx hb dL_law_244 (lv_at hl 6 rfl) ?_
      refine x_imul hx hb dL_law_246 ?_
      rw [show (3 * (i : Int)) = ((3 * i : Nat) : Int) by omega]
      refine xc_A (As := [.ref (a 0), .ref b0, .int (jI ((3 * i : Nat) : Int))]) (rest := []) hSx (m_L_act l D cI a f g n Z0 0 Z0 Z0 Z0 0 hlt b0 L xs i (3 * i) (by omega) (by omega) (by omega) hV hVG hn) (va_cwS 3 hts gL_law_L_act rfl rfl rfl (by decide +kernel) ⟨Nat.le_of_ble_eq_true rfl, Nat.le_of_ble_eq_true rfl⟩) hP hD hS hA hK hE hX hbl hbA rfl hl.1 rfl (Nat.le_of_ble_eq_true rfl) dL_law_247 ⟨(show 8 + i + 1 ≤ 204 by omega), (show 310 + 6 * i + 6 ≤ 1830 by omega)⟩ (fun u H locs hu hP hS => ?_)
      obtain ⟨r9, f1, g1, n1⟩ := u
      obtain ⟨hr9, hV1, hVG1, hn1⟩ := hu
      have hr9 : 0 ≤ r9 ∧ r9 ≤ 200000 ∨ r9 = -3 ∧ n1 = n ∧ f1 0 = f 0 := hr9
      have hV1 : VI (i + 1) f1 := hV1
      have hVG1 : VG (i + 1) n1 g1 := hVG1
      have hn1 : n1 ≤ 6 := hn1
      have hP : va_P D vwCl (w1 cI a f1 g1 n1 Z0 0 Z0 Z0 Z0 0) H := hP
      obtain ⟨hrf1, hm1, hh1, hd1, hw1, h21, h31, h111, hs11, hs21, h51, h11_, h121⟩ := V_facts (by omega) hV1
      obtain ⟨q0, q1, q2, q3, q4, q5, q6, q7, q8, q9, q10, q11, q12, q13, q14⟩ := nm_at f1 n1
      clear q1 q2 q4 q7
      change W p l e room_1 s m #[Value.ref b0] below meth c H locs (8 + i + 1) (310 + 6 * i + 6) Q (F0 m 250 ls [.int (jI r9)])
      refine lv_istore (lv' := [(7, .int (jI r9)), (6, .int (jI (s_X1_number f n 0))), (5, .int (jI (s_X1_number f n 14))), (0, .ref b0), (1, .ref (a 0)), (2, .int (jI 1)), (3, .int (jI (T : Int))), (4, .int (jI (i : Int)))]) hx hb dL_law_250 hl (by decide) rfl (fun ls hl => ?_)
      refine lv_iload hx hb dL_law_252 (lv_at hl 0 rfl) ?_
      refine x_if_ge (tgt := 278) hx hb dL_law_254 (by decide) (by omega) (fun c254 => ?_) (fun c254 => ?_)
      · skip
        refine lv_iconst (v := jI 1) hx hb dL_law_278 rfl ?_
        refine lv_goto (tgt := 283) hx hb dL_law_279 (by decide) ?_
        refine lv_istore_n (lv' := [(2, .int (jI 1)), (7, .int (jI r9)), (6, .int (jI (s_X1_number f n 0))), (5, .int (jI (s_X1_number f n 14))), (0, .ref b0), (1, .ref (a 0)), (3, .int (jI (T : Int))), (4, .int (jI (i : Int)))]) hx hb dL_law_283 rfl hl (by decide) rfl (fun ls hl => ?_)
        exact K284 f1 g1 n1 H locs ls hV1 hVG1 hn1 hP hS (lv_sub hl [4, 5, 0, 6, 7] rfl)
      · skip
        refine lv_aload_n hx hb dL_law_257 rfl (lv_at hl 4 rfl) ?_
        refine lv_bipush (v := jI 14) hx hb dL_law_258 (by decide) ?_
        refine xc_R (As := [.int (jI 14)]) (rest := []) hSx (m_X1_count_R l D cI a f1 g1 n1 Z0 0 Z0 Z0 Z0 0 14 (by decide) hrf1 hh1 hd1 hw1) (cwV 1 hts gL_law_X1_count rfl rfl rfl (by decide +kernel) ⟨Nat.le_of_ble_eq_true rfl, Nat.le_of_ble_eq_true rfl⟩) hP hK 0 rfl rfl rfl rfl hl.1 rfl (Nat.le_of_ble_eq_true rfl) dL_law_260 ⟨(show 8 + i + 1 ≤ 204 by omega), (show 310 + 6 * i + 6 ≤ 1830 by omega)⟩ ?_
        refine lv_iload hx hb dL_law_263 (lv_at hl 2 rfl) ?_
        refine x_icmp_ne (tgt := 282) hx hb dL_law_265 (by decide) ⟨(by omega), (by omega)⟩ (fun c265 => (by omega)) (fun c265 => ?_)
        refine lv_aload_n hx hb dL_law_268 rfl (lv_at hl 4 rfl) ?_
        refine lv_iconst (v := jI 0) hx hb dL_law_269 rfl ?_
        refine xc_R (As := [.int (jI 0)]) (rest := []) hSx (m_X1_count_R l D cI a f1 g1 n1 Z0 0 Z0 Z0 Z0 0 0 (by decide) hrf1 hh1 hd1 hw1) (cwV 1 hts gL_law_X1_count rfl rfl rfl (by decide +kernel) ⟨Nat.le_of_ble_eq_true rfl, Nat.le_of_ble_eq_true rfl⟩) hP hK 0 rfl rfl rfl rfl hl.1 rfl (Nat.le_of_ble_eq_true rfl) dL_law_270 ⟨(show 8 + i + 1 ≤ 204 by omega), (show 310 + 6 * i + 6 ≤ 1830 by omega)⟩ ?_
        refine lv_iload hx hb dL_law_273 (lv_at hl 1 rfl) ?_
        refine x_icmp_ne (tgt := 282) hx hb dL_law_275 (by decide) ⟨(by omega), (by omega)⟩ (fun c275 => (by omega)) (fun c275 => ?_)
        refine lv_iconst (v := jI 1) hx hb dL_law_278 rfl ?_
        refine lv_goto (tgt := 283) hx hb dL_law_279 (by decide) ?_
        refine lv_istore_n (lv' := [(2, .int (jI 1)), (7, .int (jI r9)), (6, .int (jI (s_X1_number f n 0))), (5, .int (jI (s_X1_number f n 14))), (0, .ref b0), (1, .ref (a 0)), (3, .int (jI (T : Int))), (4, .int (jI (i : Int)))]) hx hb dL_law_283 rfl hl (by decide) rfl (fun ls hl => ?_)
        exact K284 f1 g1 n1 H locs ls hV1 hVG1 hn1 hP hS (lv_sub hl [4, 5, 0, 6, 7] rfl)
    refine lv_iload_n hx hb dL_law_38 rfl (lv_at hl 2 rfl) ?_
    refine x_if_eq (tgt := 307) hx hb dL_law_39 (by decide) (by decide) (fun c39 => absurd c39 (by decide)) (fun c39 => ?_)
    refine lv_aload_n hx hb dL_law_42 rfl (lv_at hl 1 rfl) ?_
    refine lv_bipush (v := jI 14) hx hb dL_law_43 (by decide) ?_
    refine xc_R (As := [.int (jI 14)]) (rest := []) hSx (m_X1_count_R l D cI a f g n Z0 0 Z0 Z0 Z0 0 14 (by decide) hrf hh hd hw) (cwV 1 hts gL_law_X1_count rfl rfl rfl (by decide +kernel) ⟨Nat.le_of_ble_eq_true rfl, Nat.le_of_ble_eq_true rfl⟩) hP hK 0 rfl rfl rfl rfl hl.1 rfl (Nat.le_of_ble_eq_true rfl) dL_law_45 ⟨(show 8 + i ≤ 204 by omega), (show 310 + 6 * i ≤ 1830 by omega)⟩ ?_
    refine lv_istore (lv' := [(5, .int (jI (s_X1_number f n 14))), (0, .ref b0), (1, .ref (a 0)), (2, .int (jI 1)), (3, .int (jI (T : Int))), (4, .int (jI (i : Int)))]) hx hb dL_law_48 hl (by decide) rfl (fun ls hl => ?_)
    refine lv_aload_n hx hb dL_law_50 rfl (lv_at hl 2 rfl) ?_
    refine lv_iconst (v := jI 0) hx hb dL_law_51 rfl ?_
    refine xc_R (As := [.int (jI 0)]) (rest := []) hSx (m_X1_count_R l D cI a f g n Z0 0 Z0 Z0 Z0 0 0 (by decide) hrf hh hd hw) (cwV 1 hts gL_law_X1_count rfl rfl rfl (by decide +kernel) ⟨Nat.le_of_ble_eq_true rfl, Nat.le_of_ble_eq_true rfl⟩) hP hK 0 rfl rfl rfl rfl hl.1 rfl (Nat.le_of_ble_eq_true rfl) dL_law_52 ⟨(show 8 + i ≤ 204 by omega), (show 310 + 6 * i ≤ 1830 by omega)⟩ ?_
    refine lv_istore (lv' := [(6, .int (jI (s_X1_number f n 0))), (5, .int (jI (s_X1_number f n 14))), (0, .ref b0), (1, .ref (a 0)), (2, .int (jI 1)), (3, .int (jI (T : Int))), (4, .int (jI (i : Int)))]) hx hb dL_law_55 hl (by decide) rfl (fun ls hl => ?_)
    refine lv_aload_n hx hb dL_law_57 rfl (lv_at hl 2 rfl) ?_
    refine lv_iconst (v := jI 3) hx hb dL_law_58 rfl ?_
    refine lv_iload hx hb dL_law_59 (lv_at hl 6 rfl) ?_
    refine x_imul hx hb dL_law_61 ?_
    rw [show (3 * (i : Int)) = ((3 * i : Nat) : Int) by omega]
    refine xc_C (As := [.ref b0, .int (jI ((3 * i : Nat) : Int))]) (rest := []) hSx (m_L_cell l b0 L xs (3 * i) (by omega) (by omega)) (va_cwS 2 hts gL_law_L_cell rfl rfl rfl (by decide +kernel) ⟨Nat.le_of_ble_eq_true rfl, Nat.le_of_ble_eq_true rfl⟩) hX hbl hbA hS rfl hl.1 rfl (Nat.le_of_ble_eq_true rfl) dL_law_62 ⟨(show 8 + i ≤ 204 by omega), (show 310 + 6 * i ≤ 1830 by omega)⟩ ?_
    refine lv_iconst (v := jI 4) hx hb dL_law_65 rfl ?_
    have hw66 := lowI_r (ys xs (3 * i)) (show (0 : Int) < 4 by decide)
    refine xc_P (As := [.int (jI (ys xs (3 * i))), .int (jI 4)]) (rest := []) hSx (m_L_low l (ys xs (3 * i)) 4 (by decide)) (va_cwS 2 hts gL_law_L_low rfl rfl rfl (by decide +kernel) ⟨Nat.le_of_ble_eq_true rfl, Nat.le_of_ble_eq_true rfl⟩) rfl hl.1 rfl (Nat.le_of_ble_eq_true rfl) dL_law_66 ⟨(show 8 + i ≤ 204 by omega), (show 310 + 6 * i ≤ 1830 by omega)⟩ ?_
    refine lv_iconst (v := jI 1) hx hb dL_law_69 rfl ?_
    refine x_icmp_ne (tgt := 241) hx hb dL_law_70 (by decide) ⟨(by omega), (by decide)⟩ (fun c70 => ?_) (fun c70 => ?_)
    · skip
      exact K241 ls (lv_sub hl [0, 1, 2, 3, 4, 5, 6] rfl)
    · skip
      refine lv_aload_n hx hb dL_law_73 rfl (lv_at hl 3 rfl) ?_
      refine lv_iconst (v := jI 3) hx hb dL_law_74 rfl ?_
      refine xc_R (As := [.int (jI 3)]) (rest := []) hSx (m_X1_count_R l D cI a f g n Z0 0 Z0 Z0 Z0 0 3 (by decide) hrf hh hd hw) (cwV 1 hts gL_law_X1_count rfl rfl rfl (by decide +kernel) ⟨Nat.le_of_ble_eq_true rfl, Nat.le_of_ble_eq_true rfl⟩) hP hK 0 rfl rfl rfl rfl hl.1 rfl (Nat.le_of_ble_eq_true rfl) dL_law_75 ⟨(show 8 + i ≤ 204 by omega), (show 310 + 6 * i ≤ 1830 by omega)⟩ ?_
      refine lv_iconst (v := jI 1) hx hb dL_law_78 rfl ?_
      refine x_icmp_ne (tgt := 241) hx hb dL_law_79 (by decide) ⟨(by omega), (by decide)⟩ (fun c79 => ?_) (fun c79 => ?_)
      · skip
        exact K241 ls (lv_sub hl [0, 1, 2, 3, 4, 5, 6] rfl)
      · skip
        refine lv_aload_n hx hb dL_law_82 rfl (lv_at hl 3 rfl) ?_
        refine xc_R (As := []) (rest := []) hSx (m_X1_opensIn l D cI a f g n Z0 0 Z0 Z0 Z0 0 hrf hm hh hw) (cwV 0 hts gL_law_X1_opensIn rfl rfl rfl (by decide +kernel) ⟨Nat.le_of_ble_eq_true rfl, Nat.le_of_ble_eq_true rfl⟩) hP hK 0 rfl rfl rfl rfl hl.1 rfl (Nat.le_of_ble_eq_true rfl) dL_law_83 ⟨(show 8 + i ≤ 204 by omega), (show 310 + 6 * i ≤ 1830 by omega)⟩ ?_
        refine lv_istore (lv' := [(7, .int (jI (s_X1_hoursToOpen f (-1)))), (6, .int (jI (s_X1_number f n 0))), (5, .int (jI (s_X1_number f n 14))), (0, .ref b0), (1, .ref (a 0)), (2, .int (jI 1)), (3, .int (jI (T : Int))), (4, .int (jI (i : Int)))]) hx hb dL_law_86 hl (by decide) rfl (fun ls hl => ?_)
        refine lv_aload_n hx hb dL_law_88 rfl (lv_at hl 4 rfl) ?_
        refine lv_bipush (v := jI 8) hx hb dL_law_89 (by decide) ?_
        refine xc_R (As := [.int (jI 8)]) (rest := []) hSx (m_X1_count_R l D cI a f g n Z0 0 Z0 Z0 Z0 0 8 (by decide) hrf hh hd hw) (cwV 1 hts gL_law_X1_count rfl rfl rfl (by decide +kernel) ⟨Nat.le_of_ble_eq_true rfl, Nat.le_of_ble_eq_true rfl⟩) hP hK 0 rfl rfl rfl rfl hl.1 rfl (Nat.le_of_ble_eq_true rfl) dL_law_91 ⟨(show 8 + i ≤ 204 by omega), (show 310 + 6 * i ≤ 1830 by omega)⟩ ?_
        refine lv_istore (lv' := [(8, .int (jI (s_X1_number f n 8))), (7, .int (jI (s_X1_hoursToOpen f (-1)))), (6, .int (jI (s_X1_number f n 0))), (5, .int (jI (s_X1_number f n 14))), (0, .ref b0), (1, .ref (a 0)), (2, .int (jI 1)), (3, .int (jI (T : Int))), (4, .int (jI (i : Int)))]) hx hb dL_law_94 hl (by decide) rfl (fun ls hl => ?_)
        refine lv_aload_n hx hb dL_law_96 rfl (lv_at hl 5 rfl) ?_
        refine lv_bipush (v := jI 6) hx hb dL_law_97 (by decide) ?_
        refine xc_R (As := [.int (jI 6)]) (rest := []) hSx (m_X1_count_R l D cI a f g n Z0 0 Z0 Z0 Z0 0 6 (by decide) hrf hh hd hw) (cwV 1 hts gL_law_X1_count rfl rfl rfl (by decide +kernel) ⟨Nat.le_of_ble_eq_true rfl, Nat.le_of_ble_eq_true rfl⟩) hP hK 0 rfl rfl rfl rfl hl.1 rfl (Nat.le_of_ble_eq_true rfl) dL_law_99 ⟨(show 8 + i ≤ 204 by omega), (show 310 + 6 * i ≤ 1830 by omega)⟩ ?_
        refine lv_istore (lv' := [(9, .int (jI (s_X1_number f n 6))), (8, .int (jI (s_X1_number f n 8))), (7, .int (jI (s_X1_hoursToOpen f (-1)))), (6, .int (jI (s_X1_number f n 0))), (5, .int (jI (s_X1_number f n 14))), (0, .ref b0), (1, .ref (a 0)), (2, .int (jI 1)), (3, .int (jI (T : Int))), (4, .int (jI (i : Int)))]) hx hb dL_law_102 hl (by decide) rfl (fun ls hl => ?_)
        refine lv_aload_n hx hb dL_law_104 rfl (lv_at hl 6 rfl) ?_
        refine xc_J (w1 := w1 cI a (s_X1_open f g n).2.2.1 (s_X1_open f g n).2.2.2.1 (s_X1_open f g n).2.2.2.2 Z0 0 Z0 Z0 Z0 0) (As := [.ref (a 0)]) (rest := []) hSx (m_L_open l D cI a f g n Z0 0 Z0 Z0 Z0 0 hlt hn hrf hm hh hw h2 h3 h11) (vx_cwSW 1 hts gL_law_L_open rfl rfl rfl (by decide +kernel) ⟨Nat.le_of_ble_eq_true rfl, Nat.le_of_ble_eq_true rfl⟩) hP hD hS hA hK hE rfl hl.1 rfl (Nat.le_of_ble_eq_true rfl) dL_law_105 ⟨(show 8 + i + 1 ≤ 204 by omega), (show 310 + 6 * i + 6 ≤ 1830 by omega)⟩ (fun H locs hP hS => ?_)
        have hG := o_open (by omega : i ≤ 100) hV hVG hn
        have hO := open_f (n := n) (g := g) (show f 1 ≠ 0 by omega)
        have hoi := r_X1_hoursToOpen f (-1) hm hh hw
        generalize (s_X1_open f g n) = R9 at hP hG hO ⊢
        obtain ⟨z9, r9, f1, g1, n1⟩ := R9
        have hV1 : VI (i + 1) f1 := hG.2.2.1
        have hVG1 : VG (i + 1) n1 g1 := hG.2.2.2.1
        have hn1 : n1 ≤ 6 := hG.2.2.2.2
        have hP : va_P D vwCl (w1 cI a f1 g1 n1 Z0 0 Z0 Z0 Z0 0) H := hP
        obtain ⟨hrf1, hm1, hh1, hd1, hw1, h21, h31, h111, hs11, hs21, h51, h11_, h121⟩ := V_facts (by omega) hV1
        obtain ⟨q0, q1, q2, q3, q4, q5, q6, q7, q8, -⟩ := nm_at f1 n1
        clear q1 q2 q4
        obtain ⟨hz9, hO⟩ := hO
        have hz9 : z9 = 0 := hz9
        subst hz9
        rcases hO with ⟨o1, o2, o3, o4⟩ | ⟨o1, o2, o3, o4, o5⟩
        · have o2 : r9 = 1 := o2
          subst o2
          have o3 : f1 5 = f 5 := o3
          have o4 : f1 1 = 0 := o4
          change W p l e room_1 s m #[Value.ref b0] below meth c H locs (8 + i + 1) (310 + 6 * i + 6) Q (F0 m 108 ls [.int (jI 1)])
          refine lv_istore (lv' := [(10, .int (jI 1)), (9, .int (jI (s_X1_number f n 6))), (8, .int (jI (s_X1_number f n 8))), (7, .int (jI (s_X1_hoursToOpen f (-1)))), (6, .int (jI (s_X1_number f n 0))), (5, .int (jI (s_X1_number f n 14))), (0, .ref b0), (1, .ref (a 0)), (2, .int (jI 1)), (3, .int (jI (T : Int))), (4, .int (jI (i : Int)))]) hx hb dL_law_108 hl (by decide) rfl (fun ls hl => ?_)
          refine lv_iload hx hb dL_law_110 (lv_at hl 0 rfl) ?_
          refine lv_iload hx hb dL_law_112 (lv_at hl 3 rfl) ?_
          refine x_if_ne (tgt := 121) hx hb dL_law_114 (by decide) (by omega) (fun c114 => (by omega)) (fun c114 => ?_)
          refine lv_iconst (v := jI 1) hx hb dL_law_117 rfl ?_
          refine lv_goto (tgt := 122) hx hb dL_law_118 (by decide) ?_
          refine x_icmp_ne (tgt := 157) hx hb dL_law_122 (by decide) ⟨(by decide), (by decide)⟩ (fun c122 => absurd c122 (by decide)) (fun c122 => ?_)
          refine lv_aload_n hx hb dL_law_125 rfl (lv_at hl 7 rfl) ?_
          refine lv_bipush (v := jI 8) hx hb dL_law_126 (by decide) ?_
          refine xc_R (As := [.int (jI 8)]) (rest := []) hSx (m_X1_count_R l D cI a f1 g1 n1 Z0 0 Z0 Z0 Z0 0 8 (by decide) hrf1 hh1 hd1 hw1) (cwV 1 hts gL_law_X1_count rfl rfl rfl (by decide +kernel) ⟨Nat.le_of_ble_eq_true rfl, Nat.le_of_ble_eq_true rfl⟩) hP hK 0 rfl rfl rfl rfl hl.1 rfl (Nat.le_of_ble_eq_true rfl) dL_law_128 ⟨(show 8 + i + 1 ≤ 204 by omega), (show 310 + 6 * i + 6 ≤ 1830 by omega)⟩ ?_
          refine lv_iload hx hb dL_law_131 (lv_at hl 2 rfl) ?_
          refine lv_iconst (v := jI 1) hx hb dL_law_133 rfl ?_
          refine x_iadd hx hb dL_law_134 ?_
          refine lv_iload hx hb dL_law_135 (lv_at hl 0 rfl) ?_
          refine x_isub hx hb dL_law_137 ?_
          refine x_icmp_ne (tgt := 157) hx hb dL_law_138 (by decide) ⟨(by omega), (by omega)⟩ (fun c138 => (by omega)) (fun c138 => ?_)
          refine lv_aload_n hx hb dL_law_141 rfl (lv_at hl 7 rfl) ?_
          refine lv_iconst (v := jI 3) hx hb dL_law_142 rfl ?_
          refine xc_R (As := [.int (jI 3)]) (rest := []) hSx (m_X1_count_R l D cI a f1 g1 n1 Z0 0 Z0 Z0 Z0 0 3 (by decide) hrf1 hh1 hd1 hw1) (cwV 1 hts gL_law_X1_count rfl rfl rfl (by decide +kernel) ⟨Nat.le_of_ble_eq_true rfl, Nat.le_of_ble_eq_true rfl⟩) hP hK 0 rfl rfl rfl rfl hl.1 rfl (Nat.le_of_ble_eq_true rfl) dL_law_143 ⟨(show 8 + i + 1 ≤ 204 by omega), (show 310 + 6 * i + 6 ≤ 1830 by omega)⟩ ?_
          refine lv_iconst (v := jI 1) hx hb dL_law_146 rfl ?_
          refine lv_iload hx hb dL_law_147 (lv_at hl 0 rfl) ?_
          refine x_isub hx hb dL_law_149 ?_
          refine x_icmp_ne (tgt := 157) hx hb dL_law_150 (by decide) ⟨(by omega), (by omega)⟩ (fun c150 => (by omega)) (fun c150 => ?_)
          refine lv_iconst (v := jI 1) hx hb dL_law_153 rfl ?_
          refine lv_goto (tgt := 158) hx hb dL_law_154 (by decide) ?_
          refine lv_istore_n (lv' := [(2, .int (jI 1)), (10, .int (jI 1)), (9, .int (jI (s_X1_number f n 6))), (8, .int (jI (s_X1_number f n 8))), (7, .int (jI (s_X1_hoursToOpen f (-1)))), (6, .int (jI (s_X1_number f n 0))), (5, .int (jI (s_X1_number f n 14))), (0, .ref b0), (1, .ref (a 0)), (3, .int (jI (T : Int))), (4, .int (jI (i : Int)))]) hx hb dL_law_158 rfl hl (by decide) rfl (fun ls hl => ?_)
          refine lv_iload_n hx hb dL_law_159 rfl (lv_at hl 0 rfl) ?_
          refine x_if_eq (tgt := 236) hx hb dL_law_160 (by decide) (by decide) (fun c160 => absurd c160 (by decide)) (fun c160 => ?_)
          refine lv_iload hx hb dL_law_163 (lv_at hl 1 rfl) ?_
          refine lv_iconst (v := jI 1) hx hb dL_law_165 rfl ?_
          refine x_icmp_eq (tgt := 232) hx hb dL_law_166 (by decide) ⟨(by decide), (by decide)⟩ (fun c166 => ?_) (fun c166 => absurd c166 (by decide))
          refine lv_iconst (v := jI 1) hx hb dL_law_232 rfl ?_
          refine lv_goto (tgt := 237) hx hb dL_law_233 (by decide) ?_
          refine lv_istore_n (lv' := [(2, .int (jI 1)), (10, .int (jI 1)), (9, .int (jI (s_X1_number f n 6))), (8, .int (jI (s_X1_number f n 8))), (7, .int (jI (s_X1_hoursToOpen f (-1)))), (6, .int (jI (s_X1_number f n 0))), (5, .int (jI (s_X1_number f n 14))), (0, .ref b0), (1, .ref (a 0)), (3, .int (jI (T : Int))), (4, .int (jI (i : Int)))]) hx hb dL_law_237 rfl hl (by decide) rfl (fun ls hl => ?_)
          refine lv_goto (tgt := 284) hx hb dL_law_238 (by decide) ?_
          exact K284 f1 g1 n1 H locs ls hV1 hVG1 hn1 hP hS (lv_sub hl [7, 8, 0, 9, 10] rfl)
        · have o2 : r9 = 0 := o2
          subst o2
          have o3 : f1 5 = f 5 + 1 := o3
          have o4 : f1 1 = f 1 := o4
          have o5 : (f1 3 = f 3 + 1 ∧ f 3 + 1 < f1 11) ∨ (f1 3 = 0 ∧ f1 11 ≤ f 3 + 1 ∧ f1 4 = f1 0 + f1 12) := o5
          change W p l e room_1 s m #[Value.ref b0] below meth c H locs (8 + i + 1) (310 + 6 * i + 6) Q (F0 m 108 ls [.int (jI 0)])
          refine lv_istore (lv' := [(10, .int (jI 0)), (9, .int (jI (s_X1_number f n 6))), (8, .int (jI (s_X1_number f n 8))), (7, .int (jI (s_X1_hoursToOpen f (-1)))), (6, .int (jI (s_X1_number f n 0))), (5, .int (jI (s_X1_number f n 14))), (0, .ref b0), (1, .ref (a 0)), (2, .int (jI 1)), (3, .int (jI (T : Int))), (4, .int (jI (i : Int)))]) hx hb dL_law_108 hl (by decide) rfl (fun ls hl => ?_)
          refine lv_iload hx hb dL_law_110 (lv_at hl 0 rfl) ?_
          refine lv_iload hx hb dL_law_112 (lv_at hl 3 rfl) ?_
          refine x_if_ne (tgt := 121) hx hb dL_law_114 (by decide) (by omega) (fun c114 => ?_) (fun c114 => (by omega))
          refine lv_iconst (v := jI 0) hx hb dL_law_121 rfl ?_
          refine x_icmp_ne (tgt := 157) hx hb dL_law_122 (by decide) ⟨(by decide), (by decide)⟩ (fun c122 => absurd c122 (by decide)) (fun c122 => ?_)
          refine lv_aload_n hx hb dL_law_125 rfl (lv_at hl 7 rfl) ?_
          refine lv_bipush (v := jI 8) hx hb dL_law_126 (by decide) ?_
          refine xc_R (As := [.int (jI 8)]) (rest := []) hSx (m_X1_count_R l D cI a f1 g1 n1 Z0 0 Z0 Z0 Z0 0 8 (by decide) hrf1 hh1 hd1 hw1) (cwV 1 hts gL_law_X1_count rfl rfl rfl (by decide +kernel) ⟨Nat.le_of_ble_eq_true rfl, Nat.le_of_ble_eq_true rfl⟩) hP hK 0 rfl rfl rfl rfl hl.1 rfl (Nat.le_of_ble_eq_true rfl) dL_law_128 ⟨(show 8 + i + 1 ≤ 204 by omega), (show 310 + 6 * i + 6 ≤ 1830 by omega)⟩ ?_
          refine lv_iload hx hb dL_law_131 (lv_at hl 2 rfl) ?_
          refine lv_iconst (v := jI 1) hx hb dL_law_133 rfl ?_
          refine x_iadd hx hb dL_law_134 ?_
          refine lv_iload hx hb dL_law_135 (lv_at hl 0 rfl) ?_
          refine x_isub hx hb dL_law_137 ?_
          refine x_icmp_ne (tgt := 157) hx hb dL_law_138 (by decide) ⟨(by omega), (by omega)⟩ (fun c138 => (by omega)) (fun c138 => ?_)
          refine lv_aload_n hx hb dL_law_141 rfl (lv_at hl 7 rfl) ?_
          refine lv_iconst (v := jI 3) hx hb dL_law_142 rfl ?_
          refine xc_R (As := [.int (jI 3)]) (rest := []) hSx (m_X1_count_R l D cI a f1 g1 n1 Z0 0 Z0 Z0 Z0 0 3 (by decide) hrf1 hh1 hd1 hw1) (cwV 1 hts gL_law_X1_count rfl rfl rfl (by decide +kernel) ⟨Nat.le_of_ble_eq_true rfl, Nat.le_of_ble_eq_true rfl⟩) hP hK 0 rfl rfl rfl rfl hl.1 rfl (Nat.le_of_ble_eq_true rfl) dL_law_143 ⟨(show 8 + i + 1 ≤ 204 by omega), (show 310 + 6 * i + 6 ≤ 1830 by omega)⟩ ?_
          refine lv_iconst (v := jI 1) hx hb dL_law_146 rfl ?_
          refine lv_iload hx hb dL_law_147 (lv_at hl 0 rfl) ?_
          refine x_isub hx hb dL_law_149 ?_
          refine x_icmp_ne (tgt := 157) hx hb dL_law_150 (by decide) ⟨(by omega), (by omega)⟩ (fun c150 => (by omega)) (fun c150 => ?_)
          refine lv_iconst (v := jI 1) hx hb dL_law_153 rfl ?_
          refine lv_goto (tgt := 158) hx hb dL_law_154 (by decide) ?_
          refine lv_istore_n (lv' := [(2, .int (jI 1)), (10, .int (jI 0)), (9, .int (jI (s_X1_number f n 6))), (8, .int (jI (s_X1_number f n 8))), (7, .int (jI (s_X1_hoursToOpen f (-1)))), (6, .int (jI (s_X1_number f n 0))), (5, .int (jI (s_X1_number f n 14))), (0, .ref b0), (1, .ref (a 0)), (3, .int (jI (T : Int))), (4, .int (jI (i : Int)))]) hx hb dL_law_158 rfl hl (by decide) rfl (fun ls hl => ?_)
          refine lv_iload_n hx hb dL_law_159 rfl (lv_at hl 0 rfl) ?_
          refine x_if_eq (tgt := 236) hx hb dL_law_160 (by decide) (by decide) (fun c160 => absurd c160 (by decide)) (fun c160 => ?_)
          refine lv_iload hx hb dL_law_163 (lv_at hl 1 rfl) ?_
          refine lv_iconst (v := jI 1) hx hb dL_law_165 rfl ?_
          refine x_icmp_eq (tgt := 232) hx hb dL_law_166 (by decide) ⟨(by decide), (by decide)⟩ (fun c166 => absurd c166 (by decide)) (fun c166 => ?_)
          refine lv_aload_n hx hb dL_law_169 rfl (lv_at hl 8 rfl) ?_
          refine lv_bipush (v := jI 6) hx hb dL_law_170 (by decide) ?_
          refine xc_R (As := [.int (jI 6)]) (rest := []) hSx (m_X1_count_R l D cI a f1 g1 n1 Z0 0 Z0 Z0 Z0 0 6 (by decide) hrf1 hh1 hd1 hw1) (cwV 1 hts gL_law_X1_count rfl rfl rfl (by decide +kernel) ⟨Nat.le_of_ble_eq_true rfl, Nat.le_of_ble_eq_true rfl⟩) hP hK 0 rfl rfl rfl rfl hl.1 rfl (Nat.le_of_ble_eq_true rfl) dL_law_172 ⟨(show 8 + i + 1 ≤ 204 by omega), (show 310 + 6 * i + 6 ≤ 1830 by omega)⟩ ?_
          refine x_if_ne (tgt := 207) hx hb dL_law_175 (by decide) (by omega) (fun c175 => ?_) (fun c175 => ?_)
          · skip
            refine lv_aload_n hx hb dL_law_207 rfl (lv_at hl 8 rfl) ?_
            refine lv_bipush (v := jI 6) hx hb dL_law_208 (by decide) ?_
            refine xc_R (As := [.int (jI 6)]) (rest := []) hSx (m_X1_count_R l D cI a f1 g1 n1 Z0 0 Z0 Z0 Z0 0 6 (by decide) hrf1 hh1 hd1 hw1) (cwV 1 hts gL_law_X1_count rfl rfl rfl (by decide +kernel) ⟨Nat.le_of_ble_eq_true rfl, Nat.le_of_ble_eq_true rfl⟩) hP hK 0 rfl rfl rfl rfl hl.1 rfl (Nat.le_of_ble_eq_true rfl) dL_law_210 ⟨(show 8 + i + 1 ≤ 204 by omega), (show 310 + 6 * i + 6 ≤ 1830 by omega)⟩ ?_
            refine lv_iload hx hb dL_law_213 (lv_at hl 2 rfl) ?_
            refine lv_iconst (v := jI 1) hx hb dL_law_215 rfl ?_
            refine x_iadd hx hb dL_law_216 ?_
            refine x_icmp_ne (tgt := 236) hx hb dL_law_217 (by decide) ⟨(by omega), (by omega)⟩ (fun c217 => (by omega)) (fun c217 => ?_)
            refine lv_iload hx hb dL_law_220 (lv_at hl 2 rfl) ?_
            refine lv_iconst (v := jI 1) hx hb dL_law_222 rfl ?_
            refine x_iadd hx hb dL_law_223 ?_
            refine lv_aload_n hx hb dL_law_224 rfl (lv_at hl 8 rfl) ?_
            refine lv_iconst (v := jI 0) hx hb dL_law_225 rfl ?_
            refine xc_R (As := [.int (jI 0)]) (rest := [.int (jI ((s_X1_number f n 6) + 1))]) hSx (m_X1_setting_R l D cI a f1 g1 n1 Z0 0 Z0 Z0 Z0 0 0 (by decide) hrf1) (cwV 1 hts gL_law_X1_setting rfl rfl rfl (by decide +kernel) ⟨Nat.le_of_ble_eq_true rfl, Nat.le_of_ble_eq_true rfl⟩) hP hK 0 rfl rfl rfl rfl hl.1 rfl (Nat.le_of_ble_eq_true rfl) dL_law_226 ⟨(show 8 + i + 1 ≤ 204 by omega), (show 310 + 6 * i + 6 ≤ 1830 by omega)⟩ ?_
            rw [show f1 (11 + 0) = f1 11 from rfl]
            refine x_icmp_ge (tgt := 236) hx hb dL_law_229 (by decide) ⟨(by omega), (by omega)⟩ (fun c229 => (by omega)) (fun c229 => ?_)
            refine lv_iconst (v := jI 1) hx hb dL_law_232 rfl ?_
            refine lv_goto (tgt := 237) hx hb dL_law_233 (by decide) ?_
            refine lv_istore_n (lv' := [(2, .int (jI 1)), (10, .int (jI 0)), (9, .int (jI (s_X1_number f n 6))), (8, .int (jI (s_X1_number f n 8))), (7, .int (jI (s_X1_hoursToOpen f (-1)))), (6, .int (jI (s_X1_number f n 0))), (5, .int (jI (s_X1_number f n 14))), (0, .ref b0), (1, .ref (a 0)), (3, .int (jI (T : Int))), (4, .int (jI (i : Int)))]) hx hb dL_law_237 rfl hl (by decide) rfl (fun ls hl => ?_)
            refine lv_goto (tgt := 284) hx hb dL_law_238 (by decide) ?_
            exact K284 f1 g1 n1 H locs ls hV1 hVG1 hn1 hP hS (lv_sub hl [7, 8, 0, 9, 10] rfl)
          · skip
            refine lv_iload hx hb dL_law_178 (lv_at hl 2 rfl) ?_
            refine lv_iconst (v := jI 1) hx hb dL_law_180 rfl ?_
            refine x_iadd hx hb dL_law_181 ?_
            refine lv_aload_n hx hb dL_law_182 rfl (lv_at hl 8 rfl) ?_
            refine lv_iconst (v := jI 0) hx hb dL_law_183 rfl ?_
            refine xc_R (As := [.int (jI 0)]) (rest := [.int (jI ((s_X1_number f n 6) + 1))]) hSx (m_X1_setting_R l D cI a f1 g1 n1 Z0 0 Z0 Z0 Z0 0 0 (by decide) hrf1) (cwV 1 hts gL_law_X1_setting rfl rfl rfl (by decide +kernel) ⟨Nat.le_of_ble_eq_true rfl, Nat.le_of_ble_eq_true rfl⟩) hP hK 0 rfl rfl rfl rfl hl.1 rfl (Nat.le_of_ble_eq_true rfl) dL_law_184 ⟨(show 8 + i + 1 ≤ 204 by omega), (show 310 + 6 * i + 6 ≤ 1830 by omega)⟩ ?_
            rw [show f1 (11 + 0) = f1 11 from rfl]
            refine x_icmp_lt (tgt := 236) hx hb dL_law_187 (by decide) ⟨(by omega), (by omega)⟩ (fun c187 => (by omega)) (fun c187 => ?_)
            refine lv_aload_n hx hb dL_law_190 rfl (lv_at hl 8 rfl) ?_
            refine lv_bipush (v := jI 7) hx hb dL_law_191 (by decide) ?_
            refine xc_R (As := [.int (jI 7)]) (rest := []) hSx (m_X1_count_R l D cI a f1 g1 n1 Z0 0 Z0 Z0 Z0 0 7 (by decide) hrf1 hh1 hd1 hw1) (cwV 1 hts gL_law_X1_count rfl rfl rfl (by decide +kernel) ⟨Nat.le_of_ble_eq_true rfl, Nat.le_of_ble_eq_true rfl⟩) hP hK 0 rfl rfl rfl rfl hl.1 rfl (Nat.le_of_ble_eq_true rfl) dL_law_193 ⟨(show 8 + i + 1 ≤ 204 by omega), (show 310 + 6 * i + 6 ≤ 1830 by omega)⟩ ?_
            refine lv_aload_n hx hb dL_law_196 rfl (lv_at hl 8 rfl) ?_
            refine lv_iconst (v := jI 1) hx hb dL_law_197 rfl ?_
            refine xc_R (As := [.int (jI 1)]) (rest := [.int (jI (s_X1_number f1 n1 7))]) hSx (m_X1_setting_R l D cI a f1 g1 n1 Z0 0 Z0 Z0 Z0 0 1 (by decide) hrf1) (cwV 1 hts gL_law_X1_setting rfl rfl rfl (by decide +kernel) ⟨Nat.le_of_ble_eq_true rfl, Nat.le_of_ble_eq_true rfl⟩) hP hK 0 rfl rfl rfl rfl hl.1 rfl (Nat.le_of_ble_eq_true rfl) dL_law_198 ⟨(show 8 + i + 1 ≤ 204 by omega), (show 310 + 6 * i + 6 ≤ 1830 by omega)⟩ ?_
            rw [show f1 (11 + 1) = f1 12 from rfl]
            refine x_icmp_ne (tgt := 236) hx hb dL_law_201 (by decide) ⟨(by omega), (by omega)⟩ (fun c201 => (by omega)) (fun c201 => ?_)
            refine lv_goto (tgt := 232) hx hb dL_law_204 (by decide) ?_
            refine lv_iconst (v := jI 1) hx hb dL_law_232 rfl ?_
            refine lv_goto (tgt := 237) hx hb dL_law_233 (by decide) ?_
            refine lv_istore_n (lv' := [(2, .int (jI 1)), (10, .int (jI 0)), (9, .int (jI (s_X1_number f n 6))), (8, .int (jI (s_X1_number f n 8))), (7, .int (jI (s_X1_hoursToOpen f (-1)))), (6, .int (jI (s_X1_number f n 0))), (5, .int (jI (s_X1_number f n 14))), (0, .ref b0), (1, .ref (a 0)), (3, .int (jI (T : Int))), (4, .int (jI (i : Int)))]) hx hb dL_law_237 rfl hl (by decide) rfl (fun ls hl => ?_)
            refine lv_goto (tgt := 284) hx hb dL_law_238 (by decide) ?_
            exact K284 f1 g1 n1 H locs ls hV1 hVG1 hn1 hP hS (lv_sub hl [7, 8, 0, 9, 10] rfl)
