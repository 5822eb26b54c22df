/-! rows for the law's own methods -/
def ys (xs : Nat → Int32) (j : Nat) : Int := (xs j).toInt
theorem ys_r (xs : Nat → Int32) (j : Nat) : -2147483648 ≤ ys xs j ∧ ys xs j < 2147483648 := by
  have h1 := (xs j).le_toInt
  have h2 := (xs j).toInt_lt
  unfold ys
  omega
def lowA (v : Int) : Int := (jI v &&& jI 2147483647).toInt
def lowI (v n : Int) : Int := lowA v % n
theorem lowA_r (v : Int) : 0 ≤ lowA v ∧ lowA v < 2147483648 := by
  obtain ⟨j, hj, e⟩ := pk_andE (jI v) (m := jI 2147483647) 31 (by decide)
  have hj : j < 2147483648 := hj
  unfold lowA
  rw [e, ← jI_nat, jI_toInt (by omega)]
  omega
theorem lowI_r (v : Int) {n : Int} (hn : 0 < n) : 0 ≤ lowI v n ∧ lowI v n < n := ⟨Int.emod_nonneg _ (by omega), Int.emod_lt_of_pos _ hn⟩
abbrev xq_S (av : List Value) (b L : Nat) (xs : Nat → Int32) : Array Value → State → Prop := va_Pc av (fun U => va_X b L xs U U.heap ∧ b < U.heap.size)
theorem xq_Sbl {av : List Value} {b L : Nat} {xs : Nat → Int32} : FrameBlind (xq_S av b L xs) := fun a U g mk q => ⟨q.1, va_X.moved (u := U) (U := U.calling g mk a) (Vm.Alike.refl U.vm) q.2.1, q.2.2⟩
/-- reads the script alone -/
def MetC (l : Launch) (y : MethodName) (ws : List Cond) (rm : Room) (av : List Value) (b L : Nat) (xs : Nat → Int32) (r : Int) : Prop := Met l y ws rm (xq_S av b L xs) (vp_Si (fun x => x = jI r)) 0 0 (fun _ => False)
/-- the law's method that catches: writes the world, answers an int, may leave what was thrown -/
def MetJ (l : Launch) (y : MethodName) (ws : List Cond) (rm : Room) (D : va_G) (cI : ClassId) (av : List Value) (w w1 : va_W) (r : Int) : Prop := ∀ sz : Nat, Met l y ws rm (xq_T D cI av w sz) (va_Qi (fun x (_ : Unit) => x = jI r) (fun _ t => va_P D vwCl w1 t.heap) (va_A w sz)) 1 6 (va_A w sz)
abbrev xq_A (D : va_G) (cI : ClassId) (av : List Value) (w : va_W) (sz b L : Nat) (xs : Nat → Int32) : Array Value → State → Prop := va_Pc av (fun U => U.heap.size = sz ∧ va_P D vwCl w U.heap ∧ va_K D vwCl [(cI, .int)] U ∧ va_D (fun _ => True) w ∧ xenv (va_A w sz) U ∧ va_X b L xs U U.heap ∧ b < sz ∧ ¬ va_A w sz b)
theorem xq_Abl {D : va_G} {cI : ClassId} {av : List Value} {w : va_W} {sz b L : Nat} {xs : Nat → Int32} : FrameBlind (xq_A D cI av w sz b L xs) := fun a U g mk q => ⟨q.1, q.2.1, q.2.2.1, va_K.moved (u := U) (U := U.calling g mk a) (Vm.Alike.refl U.vm) q.2.2.2.1, q.2.2.2.2.1, xenv.to (s := U) (U := U.calling g mk a) (locs := []) q.2.2.2.2.2.1 va_S.rf rfl (State.WarmedH.refl U) (fun _ h => h), va_X.moved (u := U) (U := U.calling g mk a) (Vm.Alike.refl U.vm) q.2.2.2.2.2.2.1, q.2.2.2.2.2.2.2⟩
/-- a turn: what is told, and the numbers behind it -/
abbrev TU : Type := Int × (Nat → Int) × (Nat → Int) × Nat
def MetA (l : Launch) (y : MethodName) (ws : List Cond) (rm : Room) (D : va_G) (cI : ClassId) (av : List Value) (w : va_W) (b L : Nat) (xs : Nat → Int32) (post : TU → Prop) (W1 : TU → va_W) : Prop := ∀ sz : Nat, Met l y ws rm (xq_A D cI av w sz b L xs) (va_Qi (fun x (u : TU) => x = jI u.1 ∧ post u) (fun u t => va_P D vwCl (W1 u) t.heap) (va_A w sz)) 1 6 (va_A w sz)
section XQE
variable {l : Launch} {y : MethodName} {ws ws' : List Cond} {rm : Room} {D : va_G} {cI : ClassId} {av : List Value} {w w1 : va_W} {r : Int} {cc : ByteArray} {maxL : Nat} {ret : Option FieldType} {hh : List (Nat × Nat × Nat × Nat)} {b L : Nat} {xs : Nat → Int32} {post : TU → Prop} {W1 : TU → va_W}
theorem xe_C (hy : plainName y.cls = true) (hw : ws = Cond.code y cc maxL ret :: ws') (hlen : (lg_sl av).length ≤ maxL)
    (body : ∀ (p : Program) (e : Env) (s : State) (m : MethodId) (below : List Frame) (meth : Method) (c : Code), p.tables.exec = Jvm.exec → c.code = cc → meth.sig.returnType = ret → c.maxLocals = maxL → (∀ z ∈ ws, z.before av.toArray s = true) → s.vm.findClass y.cls = some m.cls → meth.locks = false →
      va_X b L xs s s.heap → b < s.heap.size → ∀ ls : Array Slot, lv_has ls maxL (lv_args 0 av) → W p l e rm s m av.toArray below meth c s.heap [] 0 0 (MQ below (vp_Si (fun x => x = jI r)) av.toArray s 0 0 (fun _ => False)) (F0 m 0 ls [])) : MetC l y ws rm av b L xs r := by
  refine Met.ofW hy hw ?_
  intro p e s m args below meth c s₁ B hml hv
  obtain ⟨rfl, hX, hbl⟩ := hv
  have hl := lv_entry av (n := maxL) hlen
  rw [lg_entry_eq]
  exact body p e s m below meth c B.exec B.bytes B.returns hml (atoms_spec (ws := ws) B.pre) (findClass_of_methodNamed B.named) B.notSynchronized hX hbl _ hl
theorem xe_J (hy : plainName y.cls = true) (hw : ws = Cond.codeWith y cc maxL ret hh :: ws') (hlen : (lg_sl av).length ≤ maxL)
    (body : ∀ (p : Program) (e : Env) (s : State) (m : MethodId) (below : List Frame) (meth : Method) (c : Code), p.tables.exec = Jvm.exec → c.code = cc → meth.sig.returnType = ret → c.maxLocals = maxL → (∀ z ∈ ws, z.before av.toArray s = true) → s.vm.findClass y.cls = some m.cls → meth.locks = false → c.exceptionTable.toList = tableOf hh →
      va_P D vwCl w s.heap → va_K D vwCl [(cI, .int)] s → ∀ A : Nat → Prop, (∀ q, s.heap.size ≤ q → A q) → va_D A w → va_S A s.heap s.heap [] → xenv A s → ∀ ls : Array Slot, lv_has ls maxL (lv_args 0 av) →
      W p l e rm s m av.toArray below meth c s.heap [] 0 0 (MQ below (va_Qi (fun x (_ : Unit) => x = jI r) (fun _ t => va_P D vwCl w1 t.heap) A) av.toArray s 1 6 A) (F0 m 0 ls [])) : MetJ l y ws rm D cI av w w1 r := by
  intro sz
  refine va_MetW (hh := hh) hy hw ?_
  intro p e s m args below meth c s₁ B hml hv
  obtain ⟨rfl, hsz, hP, hK, hD0, hE⟩ := hv
  subst hsz
  have hl := lv_entry av (n := maxL) hlen
  rw [lg_entry_eq]
  have hts := atoms_spec (ws := ws) B.pre
  exact body p e s m below meth c B.exec B.bytes B.returns hml hts (findClass_of_methodNamed B.named) B.notSynchronized (vx_table (x := y) B (hts _ (by rw [hw]; exact List.mem_cons_self))) hP hK (va_A w s.heap.size) (fun q h => Or.inr h) hD0.self va_S.rf hE _ hl
theorem xe_A (hy : plainName y.cls = true) (hw : ws = Cond.code y cc maxL ret :: ws') (hlen : (lg_sl av).length ≤ maxL)
    (body : ∀ (p : Program) (e : Env) (s : State) (m : MethodId) (below : List Frame) (meth : Method) (c : Code), p.tables.exec = Jvm.exec → c.code = cc → meth.sig.returnType = ret → c.maxLocals = maxL → (∀ z ∈ ws, z.before av.toArray s = true) → s.vm.findClass y.cls = some m.cls → meth.locks = false →
      va_P D vwCl w s.heap → va_K D vwCl [(cI, .int)] s → ∀ A : Nat → Prop, (∀ q, s.heap.size ≤ q → A q) → va_D A w → va_S A s.heap s.heap [] → xenv A s → va_X b L xs s s.heap → b < s.heap.size → ¬ A b → ∀ ls : Array Slot, lv_has ls maxL (lv_args 0 av) →
      W p l e rm s m av.toArray below meth c s.heap [] 0 0 (MQ below (va_Qi (fun x (u : TU) => x = jI u.1 ∧ post u) (fun u t => va_P D vwCl (W1 u) t.heap) A) av.toArray s 1 6 A) (F0 m 0 ls [])) : MetA l y ws rm D cI av w b L xs post W1 := by
  intro sz
  refine Met.ofW hy hw ?_
  intro p e s m args below meth c s₁ B hml hv
  obtain ⟨rfl, hsz, hP, hK, hD0, hE, hX, hbl, hbA⟩ := hv
  subst hsz
  have hl := lv_entry av (n := maxL) hlen
  rw [lg_entry_eq]
  exact body p e s m below meth c B.exec B.bytes B.returns hml (atoms_spec (ws := ws) B.pre) (findClass_of_methodNamed B.named) B.notSynchronized hP hK (va_A w s.heap.size) (fun q h => Or.inr h) hD0.self va_S.rf hE hX hbl hbA _ hl
end XQE
section XQ
variable {p : Program} {l : Launch} {e : Env} {R : Room} {s : State} {m : MethodId} {args : Array Value} {below : List Frame} {meth : Method} {c : Code} {H : Heap} {locs : List Loc} {cells slots : Nat} {Q : State → Prop}
variable {cc : ByteArray} {pc : Nat} {ls : Array Slot} {rest st0 : List Value} {D : va_G} {cI : ClassId} {A : Nat → Prop} {w w1 : va_W}
variable {y : MethodName} {bytes : ByteArray} {maxL nL n index : Nat} {ret : Option FieldType} {ws : List Cond} {rm : Room} {Ts : List Cond} {own C : String} {b : Addr} {As : List Value} {code r : Int} {hh : List (Nat × Nat × Nat × Nat)}
theorem x_sld {xs : Nat → Int32} {b L : Nat} (hx : p.tables.exec = Jvm.exec) (hb : c.code = cc) (hX : va_X b L xs s s.heap) (hbl : b < s.heap.size) (hbA : ¬ A b) (hS : va_S A s.heap H locs) {i : Int} (j : Nat) (hi : i = (j : Int)) (hj : j < L) (hL : L ≤ 1536) (hdg : decode cc pc = .ok (.iaload, 1))
    (kk : W p l e R s m args below meth c H locs cells slots Q (F0 m (pc + 1) ls (.int (jI (ys xs j)) :: rest))) : W p l e R s m args below meth c H locs cells slots Q (F0 m pc ls (.int (jI i) :: .ref b :: rest)) := by
  subst hi
  rw [jI_nat]
  refine va_sld hx hb hX hbl hbA hS (vp_in_nI hj (by omega)) hdg ?_
  rw [nI_clamp (by omega), show xs j = jI (ys xs j) from (jI_of _).symm]
  exact kk
/-- a static method that reads the world -/
theorem xc_RS {r : Int} (S : CallFix p m c cc nL s args Ts own) (hM : MetR l y ws rm D cI As w r) (cw : CallB R s args own index y bytes maxL ret ws rm 0 0 n ∧ (Cond.static y).before args s = true) (hP : va_P D vwCl w H) (hK : va_K D vwCl [(cI, .int)] s) (hn : As.length = n) (hl : ls.size = nL) (hst : st0 = As.reverse ++ rest) (hsum : (rest.map fun v => v.category).sum ≤ 8) (hdg : decode cc pc = .ok (.invokestatic index, 3)) (hf : cells ≤ R.cells ∧ slots ≤ R.slots)
    (kk : W p l e R s m args below meth c H locs cells slots Q (F0 m (pc + 3) ls (.int (jI r) :: rest))) : W p l e R s m args below meth c H locs cells slots Q (F0 m pc ls st0) :=
  vp_callSi (va_runS (As := As) (rest := rest) S hM cw ⟨xq_Rbl, fun U hU hW => ⟨rfl, by rw [hU]; exact hP, va_K.moved hW.alike hK⟩⟩ rfl hn hl hst (lv_room hsum) hdg hf).run (fun x hx => by rw [hx]; exact kk)
/-- a static method that reads the script -/
theorem xc_C {r : Int} {b L : Nat} {xs : Nat → Int32} (S : CallFix p m c cc nL s args Ts own) (hM : MetC l y ws rm As b L xs r) (cw : CallB R s args own index y bytes maxL ret ws rm 0 0 n ∧ (Cond.static y).before args s = true) (hX : va_X b L xs s s.heap) (hbl : b < s.heap.size) (hbA : ¬ A b) (hS : va_S A s.heap H locs) (hn : As.length = n) (hl : ls.size = nL) (hst : st0 = As.reverse ++ rest) (hsum : (rest.map fun v => v.category).sum ≤ 8) (hdg : decode cc pc = .ok (.invokestatic index, 3)) (hf : cells ≤ R.cells ∧ slots ≤ R.slots)
    (kk : W p l e R s m args below meth c H locs cells slots Q (F0 m (pc + 3) ls (.int (jI r) :: rest))) : W p l e R s m args below meth c H locs cells slots Q (F0 m pc ls st0) :=
  vp_callSi (va_runS (As := As) (rest := rest) S hM cw ⟨xq_Sbl, fun U hU hW => ⟨rfl, by rw [hU]; exact (hX.kept (hS.2.1 b hbl hbA)).moved hW.alike, by rw [hU]; exact Nat.lt_of_lt_of_le hbl hS.1⟩⟩ rfl hn hl hst (lv_room hsum) hdg hf).run (fun x hx => by rw [hx]; exact kk)
/-- a call of a method that may throw -/
theorem xv_T (S : CallFix p m c cc nL s args Ts own) (hM : MetT l y ws rm D cI (.ref b :: As) w w1 code r) (cw : CallW R s args own C index y bytes maxL ret ws rm 1 6 n) (hP : va_P D vwCl w H) (hD : va_D A w) (hS : va_S A s.heap H locs) (hA : ∀ q, s.heap.size ≤ q → A q) (hK : va_K D vwCl [(cI, .int)] s) (hE : xenv A s) (q0 : Nat) {ci : Nat} {fs : List Value} {q : vw_C} (he : w[q0]? = some (b, .inr (ci, fs))) (hc : vwCl[ci]? = some q) (hC : q.1 = C) (hn : As.length = n) (hl : ls.size = nL) (hst : st0 = As.reverse ++ .ref b :: rest) (hsum : (rest.map fun v => v.category).sum ≤ 8) (hdg : decode cc pc = .ok (.invokevirtual index, 3)) (hf : cells + 1 ≤ R.cells ∧ slots + 6 ≤ R.slots)
    (kx : ∀ (E : String) (ce : Cell) (q9 : Addr) (H1 : Heap) (locs1 : List Loc), code ≠ 0 → E = xex code → va_P D vwCl w1 H1 → va_S A s.heap H1 locs1 → H1[q9]? = some ce → ce.vm = .none → s.vm.findClass E = some ce.cls → vx_W p l e R s m args below meth c H1 locs1 (cells + 1) (slots + 6) Q (F0 m pc ls rest) q9)
    (kk : ∀ (H1 : Heap) (locs1 : List Loc), code = 0 → va_P D vwCl w1 H1 → va_S A s.heap H1 locs1 → W p l e R s m args below meth c H1 locs1 (cells + 1) (slots + 6) Q (F0 m (pc + 3) ls (.int (jI r) :: rest))) : W p l e R s m args below meth c H locs cells slots Q (F0 m pc ls st0) := by
  subst hC
  have hF : ∀ q, va_A w H.size q → A q := fun q h => by
    rcases h with ⟨k, e, h⟩ | h
    · exact hD.2 k (q, e) h
    · exact hA q (Nat.le_trans hS.1 h)
  refine vx_calli (vx_runV (As := As) (rest := rest) S (hM H.size) cw ⟨xq_Tbl, va_recv hK hP hc he, fun U hU hW => ⟨rfl, by rw [hU], by rw [hU]; exact hP, va_K.moved hW.alike hK, hD.weaken (fun _ _ _ _ => trivial), hE.to hS hU hW hF⟩⟩ rfl hn hl hst (lv_room hsum) hdg hf) hS (fun q _ h => hF q h) hF (fun q _ h => hF q h) (fun E ce q9 u t H1 locs1 ht hvm hpx hB hz1 hk1 hS1 hce hcv hcl => ?_) (fun x u t H1 locs1 ht hvm hw hB hz1 hk1 hS1 => ?_)
  · obtain ⟨hEx, hP1, -, -⟩ := hB
    rw [ht] at hP1
    exact kx E ce q9 H1 locs1 hpx hEx hP1 hS1 hce hcv hcl
  · obtain ⟨hP1, -, -⟩ := hB
    rw [ht] at hP1
    rw [hw.2]
    exact kk H1 locs1 hw.1 hP1 hS1
/-- a call of the law's own method that catches -/
theorem xc_J (S : CallFix p m c cc nL s args Ts own) (hM : MetJ l y ws rm D cI As w w1 r) (cw : vx_CSW R s args own index y bytes maxL ret hh ws rm 1 6 n) (hP : va_P D vwCl w H) (hD : va_D A w) (hS : va_S A s.heap H locs) (hA : ∀ q, s.heap.size ≤ q → A q) (hK : va_K D vwCl [(cI, .int)] s) (hE : xenv A s) (hn : As.length = n) (hl : ls.size = nL) (hst : st0 = As.reverse ++ rest) (hsum : (rest.map fun v => v.category).sum ≤ 8) (hdg : decode cc pc = .ok (.invokestatic index, 3)) (hf : cells + 1 ≤ R.cells ∧ slots + 6 ≤ R.slots)
    (kk : ∀ (H1 : Heap) (locs1 : List Loc), va_P D vwCl w1 H1 → va_S A s.heap H1 locs1 → W p l e R s m args below meth c H1 locs1 (cells + 1) (slots + 6) Q (F0 m (pc + 3) ls (.int (jI r) :: rest))) : W p l e R s m args below meth c H locs cells slots Q (F0 m pc ls st0) := by
  have hF : ∀ q, va_A w H.size q → A q := fun q h => by
    rcases h with ⟨k, e, h⟩ | h
    · exact hD.2 k (q, e) h
    · exact hA q (Nat.le_trans hS.1 h)
  refine va_calli (vx_runSW (As := As) (rest := rest) S (hM H.size) cw ⟨xq_Tbl, fun U hU hW => ⟨rfl, by rw [hU], by rw [hU]; exact hP, va_K.moved hW.alike hK, hD.weaken (fun _ _ _ _ => trivial), hE.to hS hU hW hF⟩⟩ rfl hn hl hst (lv_room hsum) hdg hf) hS (fun q _ h => hF q h) hF (fun x u t H1 locs1 ht hvm hw hB hz1 hk1 hS1 => ?_)
  rw [hw]
  have hB : va_P D vwCl w1 t.heap := hB
  rw [ht] at hB
  exact kk H1 locs1 hB hS1
/-- a call of the law's turn -/
theorem xc_A {b L : Nat} {xs : Nat → Int32} {post : TU → Prop} {W1 : TU → va_W} (S : CallFix p m c cc nL s args Ts own) (hM : MetA l y ws rm D cI As w b L xs post W1) (cw : CallB R s args own index y bytes maxL ret ws rm 1 6 n ∧ (Cond.static y).before args s = true) (hP : va_P D vwCl w H) (hD : va_D A w) (hS : va_S A s.heap H locs) (hA : ∀ q, s.heap.size ≤ q → A q) (hK : va_K D vwCl [(cI, .int)] s) (hE : xenv A s) (hX : va_X b L xs s s.heap) (hbl : b < s.heap.size) (hbA : ¬ A b) (hn : As.length = n) (hl : ls.size = nL) (hst : st0 = As.reverse ++ rest) (hsum : (rest.map fun v => v.category).sum ≤ 8) (hdg : decode cc pc = .ok (.invokestatic index, 3)) (hf : cells + 1 ≤ R.cells ∧ slots + 6 ≤ R.slots)
    (kk : ∀ (u : TU) (H1 : Heap) (locs1 : List Loc), post u → va_P D vwCl (W1 u) H1 → va_S A s.heap H1 locs1 → W p l e R s m args below meth c H1 locs1 (cells + 1) (slots + 6) Q (F0 m (pc + 3) ls (.int (jI u.1) :: rest))) : W p l e R s m args below meth c H locs cells slots Q (F0 m pc ls st0) := by
  have hF : ∀ q, va_A w H.size q → A q := fun q h => by
    rcases h with ⟨k, e, h⟩ | h
    · exact hD.2 k (q, e) h
    · exact hA q (Nat.le_trans hS.1 h)
  refine va_calli (va_runS (As := As) (rest := rest) S (hM H.size) cw ⟨xq_Abl, fun U hU hW => ⟨rfl, by rw [hU], by rw [hU]; exact hP, va_K.moved hW.alike hK, hD.weaken (fun _ _ _ _ => trivial), hE.to hS hU hW hF, by rw [hU]; exact (hX.kept (hS.2.1 b hbl hbA)).moved hW.alike, Nat.lt_of_lt_of_le hbl hS.1, fun z => hbA (hF b z)⟩⟩ rfl hn hl hst (lv_room hsum) hdg hf) hS (fun q _ h => hF q h) hF (fun x u t H1 locs1 ht hvm hw hB hz1 hk1 hS1 => ?_)
  rw [hw.1]
  have hB : va_P D vwCl (W1 u) t.heap := hB
  rw [ht] at hB
  exact kk u H1 locs1 hw.2 hB hS1
/-- the ends -/
theorem xj_end {k : Int} (hx : p.tables.exec = Jvm.exec) (hb : c.code = cc) (hr : meth.sig.returnType = some .int) (hlocks : meth.locks = false) (hP : va_P D vwCl w1 H) (hS : va_S A s.heap H locs) (hk : k = r) (hdg : decode cc pc = .ok (.ireturn, 1)) : W p l e R s m args below meth c H locs 1 6 (MQ below (va_Qi (fun x (_ : Unit) => x = jI r) (fun _ t => va_P D vwCl w1 t.heap) A) args s 1 6 A) (F0 m pc ls [.int (jI k)]) :=
  W.iret hx hb hr (fun t ht hW => ⟨⟨_, (), rfl, congrArg jI hk, by show va_P D vwCl w1 t.heap; rw [ht]; exact hP⟩, hS.F ht⟩) hS.2.2 hdg hlocks
theorem xa_end {post : TU → Prop} {W1 : TU → va_W} (u : TU) {k : Int} (hx : p.tables.exec = Jvm.exec) (hb : c.code = cc) (hr : meth.sig.returnType = some .int) (hlocks : meth.locks = false) (hP : va_P D vwCl (W1 u) H) (hS : va_S A s.heap H locs) (hk : k = u.1) (hpost : post u) (hdg : decode cc pc = .ok (.ireturn, 1)) : W p l e R s m args below meth c H locs 1 6 (MQ below (va_Qi (fun x (u : TU) => x = jI u.1 ∧ post u) (fun u t => va_P D vwCl (W1 u) t.heap) A) args s 1 6 A) (F0 m pc ls [.int (jI k)]) :=
  W.iret hx hb hr (fun t ht hW => ⟨⟨_, u, rfl, ⟨congrArg jI hk, hpost⟩, by show va_P D vwCl (W1 u) t.heap; rw [ht]; exact hP⟩, hS.F ht⟩) hS.2.2 hdg hlocks
end XQ
/-! low, cell -/
abbrev rm_L_low : Room := { frames := 0, cells := 0, slots := 0, locals := 0 }
theorem m_L_low (l : Launch) (v n : Int) (hn : 0 < n ∧ n < 2147483648) : MetP l yL_low wsL_low rm_L_low [.int (jI v), .int (jI n)] (lowI v n) := by
  refine xe_P (cc := cL_low) (maxL := 2) (ret := (some .int)) (by decide) rfl (Nat.le_of_ble_eq_true rfl) ?_
  intro p e s m below meth c hx hb hr hml hts hown hlocks ls hl
  have hl : lv_has ls 2 [(0, .int (jI v)), (1, .int (jI n))] := hl
  have hown : s.vm.findClass RL = some m.cls := hown
  have q7 := hts (.constant RL 7 (2147483647)) (by decide +kernel)
  refine lv_iload_n hx hb dL_low_0 rfl (lv_at hl 0 rfl) ?_
  refine lv_ldc (v := jI 2147483647) hx hb hown q7 dL_low_1 ?_
  refine lv_iand hx hb dL_low_3 ?_
  rw [show jI v &&& jI 2147483647 = jI (lowA v) from (jI_of _).symm]
  have hA := lowA_r v
  refine lv_iload_n hx hb dL_low_4 rfl (lv_at hl 1 rfl) ?_
  refine x_irem hx hb dL_low_5 (by omega) ?_
  exact xr_i hx hb hr hlocks rfl dL_low_6
abbrev rm_L_cell : Room := { frames := 0, cells := 0, slots := 0, locals := 0 }
theorem m_L_cell (l : Launch) (b L : Nat) (xs : Nat → Int32) (k : Nat) (hk : k < L) (hL : L ≤ 1536) : MetC l yL_cell wsL_cell rm_L_cell [.ref b, .int (jI (k : Int))] b L xs (ys xs k) := by
  refine xe_C (cc := cL_cell) (maxL := 2) (ret := (some .int)) (by decide) rfl (Nat.le_of_ble_eq_true rfl) ?_
  intro p e s m below meth c hx hb hr hml hts hown hlocks hX hbl ls hl
  have hl : lv_has ls 2 [(0, .ref b), (1, .int (jI (k : Int)))] := hl
  have hbA : ¬ (fun _ : Nat => False) b := fun z => z
  have hS : va_S (fun _ : Nat => False) s.heap s.heap [] := va_S.rf
  refine lv_iload_n hx hb dL_cell_0 rfl (lv_at hl 1 rfl) ?_
  refine lv_aload_n hx hb dL_cell_1 rfl (lv_at hl 0 rfl) ?_
  refine va_slen hx hb hX hbl hbA hS dL_cell_2 ?_
  rw [show Int32.ofNat L = jI (L : Int) from (jI_nat L).symm]
  refine x_icmp_ge (tgt := 12) hx hb dL_cell_3 (by decide) ⟨by omega, by omega⟩ (fun z => (by omega)) (fun _ => ?_)
  refine lv_aload_n hx hb dL_cell_6 rfl (lv_at hl 0 rfl) ?_
  refine lv_iload_n hx hb dL_cell_7 rfl (lv_at hl 1 rfl) ?_
  refine x_sld hx hb hX hbl hbA hS k rfl hk hL dL_cell_8 ?_
  refine lv_goto (tgt := 20) hx hb dL_cell_9 (by decide) ?_
  exact xr_i hx hb hr hlocks rfl dL_cell_20
