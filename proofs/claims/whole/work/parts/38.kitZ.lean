/-! the law's walk: what it stands on -/
def ys (xs : Nat → Int32) (j : Nat) : Int := (xs j).toInt
theorem ys_r (xs : Nat → Int32) (j : Nat) : -2147483648 ≤ ys xs j ∧ ys xs j < 2147483648 := by
  have h1 := (xs j).le_toInt
  have h2 := (xs j).toInt_lt
  unfold ys
  omega
section XZ
variable {p : Program} {l : Launch} {e : Env} {R : Room} {s : State} {m : MethodId} {args : Array Value} {below : List Frame} {meth : Method} {c : Code} {H : Heap} {locs : List Loc} {cells slots : Nat} {Q : State → Prop}
variable {cc : ByteArray} {pc : Nat} {ls : Array Slot} {rest st0 : List Value} {D : va_G} {cI cL : ClassId} {A : Nat → Prop} {w w1 wr : va_W}
variable {y : MethodName} {bytes : ByteArray} {maxL nL n index : Nat} {ret : Option FieldType} {ws : List Cond} {rm : Room} {Ts : List Cond} {own C : String} {b : Addr} {As : List Value} {code r : Int} {hh : List (Nat × Nat × Nat × Nat)}
theorem x_sld {xs : Nat → Int32} {b L : Nat} (hx : p.tables.exec = Jvm.exec) (hb : c.code = cc) (hX : va_X b L xs s s.heap) (hbl : b < s.heap.size) (hbA : ¬ A b) (hS : va_S A s.heap H locs) {i : Int} (j : Nat) (hi : i = (j : Int)) (hj : j < L) (hL : L ≤ 1536) (hdg : decode cc pc = .ok (.iaload, 1))
    (kk : W p l e R s m args below meth c H locs cells slots Q (F0 m (pc + 1) ls (.int (jI (ys xs j)) :: rest))) : W p l e R s m args below meth c H locs cells slots Q (F0 m pc ls (.int (jI i) :: .ref b :: rest)) := by
  subst hi
  rw [jI_nat]
  refine va_sld hx hb hX hbl hbA hS (vp_in_nI hj (by omega)) hdg ?_
  rw [nI_clamp (by omega), show xs j = jI (ys xs j) from (jI_of _).symm]
  exact kk
/-- a call of the law's own method, beside the reference's cells -/
theorem xc_L {o : Nat} {ou : Nat → Int64} {km : Int → Int} (S : CallFix p m c cc nL s args Ts own) (hM : MetL l y ws rm D cI cL As w w1 o ou code r km) (cw : vx_CSW R s args own index y bytes maxL ret hh ws rm 1 6 n) (hP : va_P D vwCl (w ++ wO cL o ou) H) (hR : va_P D vwCl wr H) (hD : va_D A ((w ++ wO cL o ou) ++ wr)) (hS : va_S A s.heap H locs) (hA : ∀ q, s.heap.size ≤ q → A q) (hK : va_K D vwCl (kO cI cL) s) (hE : xenv A s) (hn : As.length = n) (hl : ls.size = nL) (hst : st0 = As.reverse ++ rest) (hsum : (rest.map fun v => v.category).sum ≤ 8) (hdg : decode cc pc = .ok (.invokestatic index, 3)) (hf : cells + 1 ≤ R.cells ∧ slots + 6 ≤ R.slots)
    (kk : ∀ (u : Nat → Int64) (H1 : Heap) (locs1 : List Loc), (code = 0 → u 0 = (jI r).toInt64) → va_P D vwCl (w1 ++ wO cL o u) H1 → va_P D vwCl wr H1 → va_S A s.heap H1 locs1 → W p l e R s m args below meth c H1 locs1 (cells + 1) (slots + 6) Q (F0 m (pc + 3) ls (.int (jI (km code)) :: rest))) : W p l e R s m args below meth c H locs cells slots Q (F0 m pc ls st0) := by
  have hF := va_Asub hD hS hA
  refine va_calli (vx_runSW (As := As) (rest := rest) S (hM H.size) cw ⟨xq_Lbl, fun U hU hW => ⟨rfl, by rw [hU], by rw [hU]; exact hP, va_K.moved hW.alike hK, (va_D_left hD).weaken (fun _ _ _ _ => trivial), hE.to hS hU hW hF⟩⟩ rfl hn hl hst (lv_room hsum) hdg hf) hS (fun q _ h => hF q h) (fun q h => hF q h) (fun x u t H1 locs1 ht hvm hw hB hz1 hk1 hS1 => ?_)
  rw [hw.1]
  have hB : va_P D vwCl (w1 ++ wO cL o u) t.heap := hB
  rw [ht] at hB
  exact kk u H1 locs1 hw.2 hB (va_keep hD hR hk1) hS1
/-- a call that writes its own cells and answers an int, beside others -/
theorem xz_I (S : CallFix p m c cc nL s args Ts own) (hM : MetI l y ws rm D cI (.ref b :: As) w w1 r) (cw : CallW R s args own C index y bytes maxL ret ws rm 0 0 n) (hP : va_P D vwCl w H) (hR : va_P D vwCl wr H) (hD : va_D A (w ++ wr)) (hS : va_S A s.heap H locs) (hA : ∀ q, s.heap.size ≤ q → A q) (hK : va_K D vwCl [(cI, .int)] s) (q0 : Nat) {ci : Nat} {fs : List Value} {q : vw_C} (he : w[q0]? = some (b, .inr (ci, fs))) (hc : vwCl[ci]? = some q) (hC : q.1 = C) (hn : As.length = n) (hl : ls.size = nL) (hst : st0 = As.reverse ++ .ref b :: rest) (hsum : (rest.map fun v => v.category).sum ≤ 8) (hdg : decode cc pc = .ok (.invokevirtual index, 3)) (hf : cells ≤ R.cells ∧ slots ≤ R.slots)
    (kk : ∀ (H1 : Heap) (locs1 : List Loc), va_P D vwCl w1 H1 → va_P D vwCl wr H1 → va_S A s.heap H1 locs1 → W p l e R s m args below meth c H1 locs1 cells slots Q (F0 m (pc + 3) ls (.int (jI r) :: rest))) : W p l e R s m args below meth c H locs cells slots Q (F0 m pc ls st0) := by
  subst hC
  have hF := va_Asub hD hS hA
  refine va_calli (va_runV (As := As) (rest := rest) S (hM H.size) cw ⟨xq_Wbl, va_recv hK hP hc he, fun U hU hW => ⟨rfl, by rw [hU], by rw [hU]; exact hP, va_K.moved hW.alike hK, (va_D_left hD).weaken (fun _ _ _ _ => trivial)⟩⟩ rfl hn hl hst (lv_room hsum) hdg hf) hS (fun q _ h => hF q h) (fun q h => hF q h) (fun x u t H1 locs1 ht hvm hw hB hz1 hk1 hS1 => ?_)
  obtain ⟨hP1, -, -⟩ := hB
  rw [ht] at hP1
  rw [hw]
  exact kk H1 locs1 hP1 (va_keep hD hR hk1) hS1
theorem xz_Il {rl : Int64} (S : CallFix p m c cc nL s args Ts own) (hM : MetIl l y ws rm D cI (.ref b :: As) w w1 rl) (cw : CallW R s args own C index y bytes maxL ret ws rm 0 0 n) (hP : va_P D vwCl w H) (hR : va_P D vwCl wr H) (hD : va_D A (w ++ wr)) (hS : va_S A s.heap H locs) (hA : ∀ q, s.heap.size ≤ q → A q) (hK : va_K D vwCl [(cI, .int)] s) (q0 : Nat) {ci : Nat} {fs : List Value} {q : vw_C} (he : w[q0]? = some (b, .inr (ci, fs))) (hc : vwCl[ci]? = some q) (hC : q.1 = C) (hn : As.length = n) (hl : ls.size = nL) (hst : st0 = As.reverse ++ .ref b :: rest) (hsum : (rest.map fun v => v.category).sum ≤ 8) (hdg : decode cc pc = .ok (.invokevirtual index, 3)) (hf : cells ≤ R.cells ∧ slots ≤ R.slots)
    (kk : ∀ (H1 : Heap) (locs1 : List Loc), va_P D vwCl w1 H1 → va_P D vwCl wr H1 → va_S A s.heap H1 locs1 → W p l e R s m args below meth c H1 locs1 cells slots Q (F0 m (pc + 3) ls (.long rl :: rest))) : W p l e R s m args below meth c H locs cells slots Q (F0 m pc ls st0) := by
  subst hC
  have hF := va_Asub hD hS hA
  refine va_calll (va_runV (As := As) (rest := rest) S (hM H.size) cw ⟨xq_Wbl, va_recv hK hP hc he, fun U hU hW => ⟨rfl, by rw [hU], by rw [hU]; exact hP, va_K.moved hW.alike hK, (va_D_left hD).weaken (fun _ _ _ _ => trivial)⟩⟩ rfl hn hl hst (lv_room hsum) hdg hf) hS (fun q _ h => hF q h) (fun q h => hF q h) (fun x u t H1 locs1 ht hvm hw hB hz1 hk1 hS1 => ?_)
  obtain ⟨hP1, -, -⟩ := hB
  rw [ht] at hP1
  rw [hw]
  exact kk H1 locs1 hP1 (va_keep hD hR hk1) hS1
theorem xz_Id {rd : UInt64} (S : CallFix p m c cc nL s args Ts own) (hM : MetId l y ws rm D cI (.ref b :: As) w w1 rd) (cw : CallW R s args own C index y bytes maxL ret ws rm 0 0 n) (hP : va_P D vwCl w H) (hR : va_P D vwCl wr H) (hD : va_D A (w ++ wr)) (hS : va_S A s.heap H locs) (hA : ∀ q, s.heap.size ≤ q → A q) (hK : va_K D vwCl [(cI, .int)] s) (q0 : Nat) {ci : Nat} {fs : List Value} {q : vw_C} (he : w[q0]? = some (b, .inr (ci, fs))) (hc : vwCl[ci]? = some q) (hC : q.1 = C) (hn : As.length = n) (hl : ls.size = nL) (hst : st0 = As.reverse ++ .ref b :: rest) (hsum : (rest.map fun v => v.category).sum ≤ 8) (hdg : decode cc pc = .ok (.invokevirtual index, 3)) (hf : cells ≤ R.cells ∧ slots ≤ R.slots)
    (kk : ∀ (H1 : Heap) (locs1 : List Loc), va_P D vwCl w1 H1 → va_P D vwCl wr H1 → va_S A s.heap H1 locs1 → W p l e R s m args below meth c H1 locs1 cells slots Q (F0 m (pc + 3) ls (.double rd :: rest))) : W p l e R s m args below meth c H locs cells slots Q (F0 m pc ls st0) := by
  subst hC
  have hF := va_Asub hD hS hA
  refine va_calld (va_runV (As := As) (rest := rest) S (hM H.size) cw ⟨xq_Wbl, va_recv hK hP hc he, fun U hU hW => ⟨rfl, by rw [hU], by rw [hU]; exact hP, va_K.moved hW.alike hK, (va_D_left hD).weaken (fun _ _ _ _ => trivial)⟩⟩ rfl hn hl hst (lv_room hsum) hdg hf) hS (fun q _ h => hF q h) (fun q h => hF q h) (fun x u t H1 locs1 ht hvm hw hB hz1 hk1 hS1 => ?_)
  obtain ⟨hP1, -, -⟩ := hB
  rw [ht] at hP1
  rw [hw]
  exact kk H1 locs1 hP1 (va_keep hD hR hk1) hS1
/-- the law's long -/
theorem x_lald {o : Nat} {u : Nat → Int64} (hx : p.tables.exec = Jvm.exec) (hb : c.code = cc) (hK : va_K D vwCl (kO cI cL) s) (hP : va_P D vwCl (wO cL o u) H) (hdg : decode cc pc = .ok (.laload, 1))
    (kk : W p l e R s m args below meth c H locs cells slots Q (F0 m (pc + 1) ls (.long (u 0) :: rest))) : W p l e R s m args below meth c H locs cells slots Q (F0 m pc ls (.int (jI 0) :: .ref o :: rest)) := by
  have hin : vp_in (jI 0) 1 := by
    rw [show jI 0 = nI 0 from jI_nat 0]
    exact vp_in_nI (by decide) (by decide)
  exact va_lald hx hb hK hP 0 1 rfl rfl hin hdg kk
end XZ
/-- both sides, between two calls -/
def LI (D : va_G) (cI cL : ClassId) (a1 : Nat → Nat) (o : Nat) (a2 : Nat → Nat) (c : Nat) (H : Heap) : Prop :=
  ∃ (f1 g1 : Nat → Int) (n : Nat) (b : Nat → Int) (len : Nat) (kd sg nb : Nat → Int) (pt : Nat) (f2 g2 : Nat → Int) (th : Int) (at_ : Nat) (fl va : Int) (so ma : Nat → Int) (u : Nat → Int64), RI c f1 f2 ∧ RG c n g1 g2 ∧ n ≤ 6 ∧ len ≤ 60 ∧ (∀ k : Nat, k < len → 33 ≤ b k ∧ b k ≤ 126) ∧ wok kd sg nb ∧ wo2 so ma ∧ (0 ≤ va ∧ va ≤ 200) ∧
    va_P D vwCl (w1 cI a1 f1 g1 n b len kd sg nb pt) H ∧ va_P D vwCl (wO cL o u) H ∧ va_P D vwCl (w2 cI a2 f2 g2 n b len th at_ fl va so ma) H
/-- all cells apart -/
abbrev LD (A : Nat → Prop) (cI cL : ClassId) (a1 : Nat → Nat) (o : Nat) (a2 : Nat → Nat) : Prop := va_D A ((w1 cI a1 (fun _ => 0) (fun _ => 0) 0 (fun _ => 0) 0 (fun _ => 0) (fun _ => 0) (fun _ => 0) 0 ++ wO cL o (fun _ => 0)) ++ w2 cI a2 (fun _ => 0) (fun _ => 0) 0 (fun _ => 0) 0 0 0 0 0 (fun _ => 0) (fun _ => 0))
