/-! ints as integers -/
def jI (x : Int) : Int32 := Int32.ofInt x
theorem jI_add (x y : Int) : jI x + jI y = jI (x + y) := (Int32.ofInt_add x y).symm
theorem jI_sub (x y : Int) : jI x - jI y = jI (x - y) := (Int32.ofInt_sub x y).symm
theorem jI_mul (x y : Int) : jI x * jI y = jI (x * y) := (Int32.ofInt_mul x y).symm
theorem jI_toInt {x : Int} (h : -2147483648 ≤ x ∧ x < 2147483648) : (jI x).toInt = x := Int32.toInt_ofInt_of_le (by omega) (by omega)
theorem jI_of (x : Int32) : jI x.toInt = x := Int32.ofInt_toInt x
theorem jI_lt {x y : Int} (hx : -2147483648 ≤ x ∧ x < 2147483648) (hy : -2147483648 ≤ y ∧ y < 2147483648) : jI x < jI y ↔ x < y := by
  rw [Int32.lt_iff_toInt_lt, jI_toInt hx, jI_toInt hy]
theorem jI_le {x y : Int} (hx : -2147483648 ≤ x ∧ x < 2147483648) (hy : -2147483648 ≤ y ∧ y < 2147483648) : jI x ≤ jI y ↔ x ≤ y := by
  rw [Int32.le_iff_toInt_le, jI_toInt hx, jI_toInt hy]
theorem jI_eq {x y : Int} (hx : -2147483648 ≤ x ∧ x < 2147483648) (hy : -2147483648 ≤ y ∧ y < 2147483648) : jI x = jI y ↔ x = y := by
  rw [← Int32.toInt_inj, jI_toInt hx, jI_toInt hy]
theorem jI_div {x y : Int} (h0 : 0 ≤ x) (h1 : x < 2147483648) (h2 : 0 < y) (h3 : y < 2147483648) : jI x / jI y = jI (x / y) := by
  apply Int32.toInt_inj.mp
  have q0 : 0 ≤ x / y := Int.ediv_nonneg h0 (by omega)
  have q1 : x / y ≤ x := Int.ediv_le_self y h0
  rw [lg_idiv_nonneg (by rw [jI_toInt (by omega)]; omega) (by rw [jI_toInt (by omega)]; omega), jI_toInt (by omega), jI_toInt (by omega), jI_toInt (by omega)]
  try first | rfl | exact (Int.tdiv_eq_ediv_of_nonneg h0)
theorem jI_rem {x y : Int} (h0 : 0 ≤ x) (h1 : x < 2147483648) (h2 : 0 < y) (h3 : y < 2147483648) : jI x - jI x / jI y * jI y = jI (x % y) := by
  rw [jI_div h0 h1 h2 h3, jI_mul, jI_sub]
  refine congrArg jI ?_
  have := Int.mul_ediv_add_emod x y
  rw [Int.mul_comm] at this
  omega
theorem jI_nat (n : Nat) : jI (n : Int) = nI n := by
  show Int32.ofInt (n : Int) = Int32.ofNat n
  exact Int32.ofInt_eq_ofNat
theorem jI_inc (i n : Nat) : jI (i : Int) + Int32.ofInt (n : Int) = jI ((i + n : Nat) : Int) := jI_add i n
theorem b01 {x : Int} (h : x = 0 ∨ x = 1) : -2147483648 ≤ x ∧ x < 2147483648 := by omega
def rng (F : Nat → Int) : Prop := ∀ k, -2147483648 ≤ F k ∧ F k < 2147483648
theorem jI_ne0 {y : Int} (h2 : 0 < y) (h3 : y < 2147483648) : ¬ jI y = 0 := fun h => by
  have h' : jI y = jI 0 := h
  rw [jI_eq (by omega) (by omega)] at h'
  omega
def upz (F : Nat → Int) (k : Nat) (v : Int) : Nat → Int := fun j => if j = k then v else F j
theorem upz_s {F : Nat → Int} {k : Nat} {v : Int} : upz F k v k = v := if_pos rfl
theorem upz_n {F : Nat → Int} {k j : Nat} {v : Int} (h : j ≠ k) : upz F k v j = F j := if_neg h
abbrev jA (F : Nat → Int) : Nat → Int32 := fun k => jI (F k)
theorem jA_up (F : Nat → Int) (k : Nat) (v : Int) : upd (jA F) k (jI v) = jA (upz F k v) := by
  funext j
  by_cases h : j = k <;> simp [upd, jA, upz, h]
theorem jA_cpy (F G : Nat → Int) (sp dp n : Nat) : va_cpy (jA F) (jA G) sp dp n = jA (va_cpy F G sp dp n) := by
  funext j
  by_cases h : dp ≤ j ∧ j < dp + n <;> simp [va_cpy, jA, h]
/-! rows of our own: contracts by their answers, in four shapes -/
abbrev xq_R (D : va_G) (cI : ClassId) (av : List Value) (w : va_W) : Array Value → State → Prop := va_Pc av (fun U => va_P D vwCl w U.heap ∧ va_K D vwCl [(cI, .int)] U)
abbrev xq_W (D : va_G) (cI : ClassId) (av : List Value) (w : va_W) (sz : Nat) : Array Value → State → Prop := va_Pc av (fun U => U.heap.size = sz ∧ va_P D vwCl w U.heap ∧ va_K D vwCl [(cI, .int)] U ∧ va_D (fun _ => True) w)
abbrev xq_B (D : va_G) (cI : ClassId) (A : Nat → Prop) (w : va_W) : Unit → State → Prop := fun _ t => va_P D vwCl w t.heap ∧ va_K D vwCl [(cI, .int)] t ∧ va_D A w
theorem xq_Rbl {D : va_G} {cI : ClassId} {av : List Value} {w : va_W} : FrameBlind (xq_R D cI av w) := fun a U g mk q => ⟨q.1, q.2.1, va_K.moved (u := U) (U := U.calling g mk a) (Vm.Alike.refl U.vm) q.2.2⟩
theorem xq_Wbl {D : va_G} {cI : ClassId} {av : List Value} {w : va_W} {sz : Nat} : FrameBlind (xq_W D cI av w sz) := fun a U g mk q => ⟨q.1, q.2.1, q.2.2.1, va_K.moved (u := U) (U := U.calling g mk a) (Vm.Alike.refl U.vm) q.2.2.2.1, q.2.2.2.2⟩
/-- no heap at all -/
def MetP (l : Launch) (y : MethodName) (ws : List Cond) (rm : Room) (av : List Value) (r : Int) : Prop := Met l y ws rm (va_Pc av (fun _ => True)) (vp_Si (fun x => x = jI r)) 0 0 (fun _ => False)
/-- reads the world alone -/
def MetR (l : Launch) (y : MethodName) (ws : List Cond) (rm : Room) (D : va_G) (cI : ClassId) (av : List Value) (w : va_W) (r : Int) : Prop := Met l y ws rm (xq_R D cI av w) (vp_Si (fun x => x = jI r)) 0 0 (fun _ => False)
def MetRl (l : Launch) (y : MethodName) (ws : List Cond) (rm : Room) (D : va_G) (cI : ClassId) (av : List Value) (w : va_W) (r : Int64) : Prop := Met l y ws rm (xq_R D cI av w) (vp_Sl (fun x => x = r)) 0 0 (fun _ => False)
def MetRd (l : Launch) (y : MethodName) (ws : List Cond) (rm : Room) (D : va_G) (cI : ClassId) (av : List Value) (w : va_W) (r : UInt64) : Prop := Met l y ws rm (xq_R D cI av w) (vp_Sd (fun x => x = r)) 0 0 (fun _ => False)
/-- writes the world, answers an int -/
def MetI (l : Launch) (y : MethodName) (ws : List Cond) (rm : Room) (D : va_G) (cI : ClassId) (av : List Value) (w w1 : va_W) (r : Int) : Prop := ∀ sz : Nat, Met l y ws rm (xq_W D cI av w sz) (va_Qi (fun x (_ : Unit) => x = jI r) (xq_B D cI (va_A w sz) w1) (va_A w sz)) 0 0 (va_A w sz)
/-- writes the world, answers nothing -/
def MetV (l : Launch) (y : MethodName) (ws : List Cond) (rm : Room) (D : va_G) (cI : ClassId) (av : List Value) (w w1 : va_W) : Prop := ∀ sz : Nat, Met l y ws rm (xq_W D cI av w sz) (va_Qv (fun (_ : Unit) => True) (xq_B D cI (va_A w sz) w1) (va_A w sz)) 0 0 (va_A w sz)
section XE
variable {l : Launch} {y : MethodName} {ws ws' : List Cond} {rm : Room} {D : va_G} {cI : ClassId} {av : List Value} {w w1 : va_W} {r : Int} {cc : ByteArray} {maxL : Nat} {ret : Option FieldType}
theorem xe_P (hy : plainName y.cls = true) (hw : ws = Cond.code y cc maxL ret :: ws') (hlen : (lg_sl av).length ≤ maxL)
    (body : ∀ (p : Program) (e : Env) (s : State) (m : MethodId) (below : List Frame) (meth : Method) (c : Code), p.tables.exec = Jvm.exec → c.code = cc → meth.sig.returnType = ret → c.maxLocals = maxL → (∀ z ∈ ws, z.before av.toArray s = true) → s.vm.findClass y.cls = some m.cls → meth.locks = false →
      ∀ ls : Array Slot, lv_has ls maxL (lv_args 0 av) → W p l e rm s m av.toArray below meth c s.heap [] 0 0 (MQ below (vp_Si (fun x => x = jI r)) av.toArray s 0 0 (fun _ => False)) (F0 m 0 ls [])) : MetP l y ws rm av r := by
  refine Met.ofW hy hw ?_
  intro p e s m args below meth c s₁ B hml hv
  obtain ⟨rfl, -⟩ := hv
  have hl := lv_entry av (n := maxL) hlen
  rw [lg_entry_eq]
  exact body p e s m below meth c B.exec B.bytes B.returns hml (atoms_spec (ws := ws) B.pre) (findClass_of_methodNamed B.named) B.notSynchronized _ hl
theorem xe_R (hy : plainName y.cls = true) (hw : ws = Cond.code y cc maxL ret :: ws') (hlen : (lg_sl av).length ≤ maxL)
    (body : ∀ (p : Program) (e : Env) (s : State) (m : MethodId) (below : List Frame) (meth : Method) (c : Code), p.tables.exec = Jvm.exec → c.code = cc → meth.sig.returnType = ret → c.maxLocals = maxL → (∀ z ∈ ws, z.before av.toArray s = true) → s.vm.findClass y.cls = some m.cls → meth.locks = false →
      va_P D vwCl w s.heap → va_K D vwCl [(cI, .int)] s → ∀ ls : Array Slot, lv_has ls maxL (lv_args 0 av) → W p l e rm s m av.toArray below meth c s.heap [] 0 0 (MQ below (vp_Si (fun x => x = jI r)) av.toArray s 0 0 (fun _ => False)) (F0 m 0 ls [])) : MetR l y ws rm D cI av w r := by
  refine Met.ofW hy hw ?_
  intro p e s m args below meth c s₁ B hml hv
  obtain ⟨rfl, hP, hK⟩ := hv
  have hl := lv_entry av (n := maxL) hlen
  rw [lg_entry_eq]
  exact body p e s m below meth c B.exec B.bytes B.returns hml (atoms_spec (ws := ws) B.pre) (findClass_of_methodNamed B.named) B.notSynchronized hP hK _ hl
theorem xe_Rl {r : Int64} (hy : plainName y.cls = true) (hw : ws = Cond.code y cc maxL ret :: ws') (hlen : (lg_sl av).length ≤ maxL)
    (body : ∀ (p : Program) (e : Env) (s : State) (m : MethodId) (below : List Frame) (meth : Method) (c : Code), p.tables.exec = Jvm.exec → c.code = cc → meth.sig.returnType = ret → c.maxLocals = maxL → (∀ z ∈ ws, z.before av.toArray s = true) → s.vm.findClass y.cls = some m.cls → meth.locks = false →
      va_P D vwCl w s.heap → va_K D vwCl [(cI, .int)] s → ∀ ls : Array Slot, lv_has ls maxL (lv_args 0 av) → W p l e rm s m av.toArray below meth c s.heap [] 0 0 (MQ below (vp_Sl (fun x => x = r)) av.toArray s 0 0 (fun _ => False)) (F0 m 0 ls [])) : MetRl l y ws rm D cI av w r := by
  refine Met.ofW hy hw ?_
  intro p e s m args below meth c s₁ B hml hv
  obtain ⟨rfl, hP, hK⟩ := hv
  have hl := lv_entry av (n := maxL) hlen
  rw [lg_entry_eq]
  exact body p e s m below meth c B.exec B.bytes B.returns hml (atoms_spec (ws := ws) B.pre) (findClass_of_methodNamed B.named) B.notSynchronized hP hK _ hl
theorem xe_Rd {r : UInt64} (hy : plainName y.cls = true) (hw : ws = Cond.code y cc maxL ret :: ws') (hlen : (lg_sl av).length ≤ maxL)
    (body : ∀ (p : Program) (e : Env) (s : State) (m : MethodId) (below : List Frame) (meth : Method) (c : Code), p.tables.exec = Jvm.exec → c.code = cc → meth.sig.returnType = ret → c.maxLocals = maxL → (∀ z ∈ ws, z.before av.toArray s = true) → s.vm.findClass y.cls = some m.cls → meth.locks = false →
      va_P D vwCl w s.heap → va_K D vwCl [(cI, .int)] s → ∀ ls : Array Slot, lv_has ls maxL (lv_args 0 av) → W p l e rm s m av.toArray below meth c s.heap [] 0 0 (MQ below (vp_Sd (fun x => x = r)) av.toArray s 0 0 (fun _ => False)) (F0 m 0 ls [])) : MetRd l y ws rm D cI av w r := by
  refine Met.ofW hy hw ?_
  intro p e s m args below meth c s₁ B hml hv
  obtain ⟨rfl, hP, hK⟩ := hv
  have hl := lv_entry av (n := maxL) hlen
  rw [lg_entry_eq]
  exact body p e s m below meth c B.exec B.bytes B.returns hml (atoms_spec (ws := ws) B.pre) (findClass_of_methodNamed B.named) B.notSynchronized hP hK _ hl
theorem xe_I (hy : plainName y.cls = true) (hw : ws = Cond.code y cc maxL ret :: ws') (hlen : (lg_sl av).length ≤ maxL)
    (body : ∀ (p : Program) (e : Env) (s : State) (m : MethodId) (below : List Frame) (meth : Method) (c : Code), p.tables.exec = Jvm.exec → c.code = cc → meth.sig.returnType = ret → c.maxLocals = maxL → (∀ z ∈ ws, z.before av.toArray s = true) → s.vm.findClass y.cls = some m.cls → meth.locks = false →
      va_P D vwCl w s.heap → va_K D vwCl [(cI, .int)] s → ∀ A : Nat → Prop, (∀ q, s.heap.size ≤ q → A q) → va_D A w → va_S A s.heap s.heap [] → ∀ ls : Array Slot, lv_has ls maxL (lv_args 0 av) →
      W p l e rm s m av.toArray below meth c s.heap [] 0 0 (MQ below (va_Qi (fun x (_ : Unit) => x = jI r) (xq_B D cI A w1) A) av.toArray s 0 0 A) (F0 m 0 ls [])) : MetI l y ws rm D cI av w w1 r := by
  intro sz
  refine Met.ofW hy hw ?_
  intro p e s m args below meth c s₁ B hml hv
  obtain ⟨rfl, hsz, hP, hK, hD0⟩ := hv
  subst hsz
  have hl := lv_entry av (n := maxL) hlen
  rw [lg_entry_eq]
  exact body p e s m below meth c B.exec B.bytes B.returns hml (atoms_spec (ws := ws) B.pre) (findClass_of_methodNamed B.named) B.notSynchronized hP hK (va_A w s.heap.size) (fun q h => Or.inr h) hD0.self va_S.rf _ hl
theorem xe_V (hy : plainName y.cls = true) (hw : ws = Cond.code y cc maxL ret :: ws') (hlen : (lg_sl av).length ≤ maxL)
    (body : ∀ (p : Program) (e : Env) (s : State) (m : MethodId) (below : List Frame) (meth : Method) (c : Code), p.tables.exec = Jvm.exec → c.code = cc → meth.sig.returnType = ret → c.maxLocals = maxL → (∀ z ∈ ws, z.before av.toArray s = true) → s.vm.findClass y.cls = some m.cls → meth.locks = false →
      va_P D vwCl w s.heap → va_K D vwCl [(cI, .int)] s → ∀ A : Nat → Prop, (∀ q, s.heap.size ≤ q → A q) → va_D A w → va_S A s.heap s.heap [] → ∀ ls : Array Slot, lv_has ls maxL (lv_args 0 av) →
      W p l e rm s m av.toArray below meth c s.heap [] 0 0 (MQ below (va_Qv (fun (_ : Unit) => True) (xq_B D cI A w1) A) av.toArray s 0 0 A) (F0 m 0 ls [])) : MetV l y ws rm D cI av w w1 := by
  intro sz
  refine Met.ofW hy hw ?_
  intro p e s m args below meth c s₁ B hml hv
  obtain ⟨rfl, hsz, hP, hK, hD0⟩ := hv
  subst hsz
  have hl := lv_entry av (n := maxL) hlen
  rw [lg_entry_eq]
  exact body p e s m below meth c B.exec B.bytes B.returns hml (atoms_spec (ws := ws) B.pre) (findClass_of_methodNamed B.named) B.notSynchronized hP hK (va_A w s.heap.size) (fun q h => Or.inr h) hD0.self va_S.rf _ hl
end XE
section XW
variable {p : Program} {l : Launch} {e : Env} {R : Room} {s : State} {m : MethodId} {args : Array Value} {below : List Frame} {meth : Method} {c : Code} {H : Heap} {locs : List Loc} {cells slots : Nat} {Q : State → Prop}
variable {cc : ByteArray} {pc : Nat} {ls : Array Slot} {rest st0 : List Value} {D : va_G} {cI : ClassId} {A : Nat → Prop} {w w1 w2 : va_W} {tys : List (ClassId × FieldType)}
variable {y : MethodName} {bytes : ByteArray} {maxL nL n index : Nat} {ret : Option FieldType} {ws : List Cond} {rm : Room} {Ts : List Cond} {own C : String} {b : Addr} {As : List Value}
/-- an array's place by its number -/
theorem x_iald (hexec : p.tables.exec = Jvm.exec) (hb : c.code = cc) (hK : va_K D vwCl tys s) (hP : va_P D vwCl w H) (q0 t0 : Nat) {a : Nat} {cA : ClassId} {N : Nat} {F : Nat → Int} (ha : w[q0]? = some (a, .inl (cA, N, .inl (jA F)))) (ht : tys[t0]? = some (cA, .int)) {i : Int} (j : Nat) (hi : i = (j : Int)) (hj : j < N) (hN : N < 2147483648) (hdg : decode cc pc = .ok (.iaload, 1))
    (kk : W p l e R s m args below meth c H locs cells slots Q (F0 m (pc + 1) ls (.int (jI (F j)) :: rest))) : W p l e R s m args below meth c H locs cells slots Q (F0 m pc ls (.int (jI i) :: .ref a :: rest)) := by
  subst hi
  rw [jI_nat]
  refine va_iald hexec hb hK hP q0 t0 ha ht (vp_in_nI hj (by omega)) hdg ?_
  rw [nI_clamp (by omega)]
  exact kk
theorem x_iast (hexec : p.tables.exec = Jvm.exec) (hb : c.code = cc) (hK : va_K D vwCl tys s) (hP : va_P D vwCl w H) (hD : va_D A w) {H0 : Heap} (hS : va_S A H0 H locs) (q0 t0 : Nat) {a : Nat} {cA : ClassId} {N : Nat} {F : Nat → Int} (ha : w[q0]? = some (a, .inl (cA, N, .inl (jA F)))) (ht : tys[t0]? = some (cA, .int)) {i x : Int} (j : Nat) (hi : i = (j : Int)) (hj : j < N) (hN : N < 2147483648) (hdg : decode cc pc = .ok (.iastore, 1))
    (hw : w.set q0 (a, .inl (cA, N, .inl (jA (upz F j x)))) = w1)
    (kk : ∀ (H1 : Heap) (locs1 : List Loc), va_P D vwCl w1 H1 → va_D A w1 → va_S A H0 H1 locs1 → W p l e R s m args below meth c H1 locs1 cells slots Q (F0 m (pc + 1) ls rest)) : W p l e R s m args below meth c H locs cells slots Q (F0 m pc ls (.int (jI x) :: .int (jI i) :: .ref a :: rest)) := by
  subst hi
  subst hw
  rw [jI_nat]
  refine va_iast hexec hb hK hP hD hS q0 t0 ha ht (vp_in_nI hj (by omega)) hdg ?_
  rw [nI_clamp (by omega), jA_up]
  exact kk
theorem x_copy (hexec : p.tables.exec = Jvm.exec) (hb : c.code = cc) (hml : c.maxLocals = ls.size) {own : String} {index : Nat} (hown : s.vm.findClass own = some m.cls) (hlink : (Cond.methodLink own index arraycopyName).before args s = true) (hnat : (Cond.native arraycopyName).before args s = true) (hstat : (Cond.static arraycopyName).before args s = true) (hini : (Cond.initialized "java/lang/System").before args s = true)
    (hK : va_K D vwCl tys s) (hP : va_P D vwCl w H) (hD : va_D A w) {H0 : Heap} (hS : va_S A H0 H locs) (q0 q1 t0 : Nat) {a0 a1 : Nat} {cA : ClassId} {n0 n1 : Nat} {F G : Nat → Int} (ha0 : w[q0]? = some (a0, .inl (cA, n0, .inl (jA F)))) (ha1 : w[q1]? = some (a1, .inl (cA, n1, .inl (jA G)))) (ht0 : tys[t0]? = some (cA, .int))
    (sp dp n : Nat) {spi dpi ni : Int} (e1 : spi = (sp : Int)) (e2 : dpi = (dp : Int)) (e3 : ni = (n : Int)) (hb1 : sp + n ≤ n0) (hb2 : dp + n ≤ n1 ∧ n0 < 2147483648 ∧ n1 < 2147483648)
    (hframes : 1 ≤ R.frames) (hlocals : (rest.map fun v => v.category).sum + (nativeFrameWords "java/lang/System" "arraycopy" 5 + 11) ≤ R.locals) (hdg : decode cc pc = .ok (.invokestatic index, 3))
    (hw : w.set q1 (a1, .inl (cA, n1, .inl (jA (va_cpy F G sp dp n)))) = w1)
    (kk : ∀ (H1 : Heap) (locs1 : List Loc), va_P D vwCl w1 H1 → va_D A w1 → va_S A H0 H1 locs1 → W p l e R s m args below meth c H1 locs1 cells slots Q (F0 m (pc + 3) ls rest)) : W p l e R s m args below meth c H locs cells slots Q (F0 m pc ls (.int (jI ni) :: .int (jI dpi) :: .ref a1 :: .int (jI spi) :: .ref a0 :: rest)) := by
  subst e1
  subst e2
  subst e3
  subst hw
  rw [jI_nat, jI_nat, jI_nat]
  refine va_copyi hexec hb hml hown hlink hnat hstat hini hK hP hD hS q0 q1 t0 t0 ha0 ha1 ht0 ht0 rfl (nI_pos (by omega)) (nI_pos (by omega)) (nI_pos (by omega)) (by rw [nI_clamp (by omega), nI_clamp (by omega)]; omega) (by rw [nI_clamp (by omega), nI_clamp (by omega)]; omega) (fun i _ => rfl) hframes hlocals hdg ?_
  rw [nI_clamp (by omega), nI_clamp (by omega), nI_clamp (by omega), jA_cpy]
  exact kk
/-- arithmetic -/
theorem x_iadd (hexec : p.tables.exec = Jvm.exec) (hb : c.code = cc) {x y : Int} (hdg : decode cc pc = .ok (.iadd, 1)) (k : W p l e R s m args below meth c H locs cells slots Q (F0 m (pc + 1) ls (.int (jI (x + y)) :: rest))) : W p l e R s m args below meth c H locs cells slots Q (F0 m pc ls (.int (jI y) :: .int (jI x) :: rest)) :=
  lv_iadd hexec hb hdg (by rw [jI_add]; exact k)
theorem x_isub (hexec : p.tables.exec = Jvm.exec) (hb : c.code = cc) {x y : Int} (hdg : decode cc pc = .ok (.isub, 1)) (k : W p l e R s m args below meth c H locs cells slots Q (F0 m (pc + 1) ls (.int (jI (x - y)) :: rest))) : W p l e R s m args below meth c H locs cells slots Q (F0 m pc ls (.int (jI y) :: .int (jI x) :: rest)) :=
  lv_isub hexec hb hdg (by rw [jI_sub]; exact k)
theorem x_imul (hexec : p.tables.exec = Jvm.exec) (hb : c.code = cc) {x y : Int} (hdg : decode cc pc = .ok (.imul, 1)) (k : W p l e R s m args below meth c H locs cells slots Q (F0 m (pc + 1) ls (.int (jI (x * y)) :: rest))) : W p l e R s m args below meth c H locs cells slots Q (F0 m pc ls (.int (jI y) :: .int (jI x) :: rest)) :=
  lv_imul hexec hb hdg (by rw [jI_mul]; exact k)
theorem x_idiv (hexec : p.tables.exec = Jvm.exec) (hb : c.code = cc) {x y : Int} (hdg : decode cc pc = .ok (.idiv, 1)) (h : (0 ≤ x ∧ x < 2147483648) ∧ 0 < y ∧ y < 2147483648) (k : W p l e R s m args below meth c H locs cells slots Q (F0 m (pc + 1) ls (.int (jI (x / y)) :: rest))) : W p l e R s m args below meth c H locs cells slots Q (F0 m pc ls (.int (jI y) :: .int (jI x) :: rest)) :=
  lv_idiv hexec hb hdg (jI_ne0 h.2.1 h.2.2) (by rw [jI_div h.1.1 h.1.2 h.2.1 h.2.2]; exact k)
theorem x_irem (hexec : p.tables.exec = Jvm.exec) (hb : c.code = cc) {x y : Int} (hdg : decode cc pc = .ok (.irem, 1)) (h : (0 ≤ x ∧ x < 2147483648) ∧ 0 < y ∧ y < 2147483648) (k : W p l e R s m args below meth c H locs cells slots Q (F0 m (pc + 1) ls (.int (jI (x % y)) :: rest))) : W p l e R s m args below meth c H locs cells slots Q (F0 m pc ls (.int (jI y) :: .int (jI x) :: rest)) :=
  lv_irem hexec hb hdg (jI_ne0 h.2.1 h.2.2) (by rw [jI_rem h.1.1 h.1.2 h.2.1 h.2.2]; exact k)
/-- branches -/
theorem x_if_eq (hexec : p.tables.exec = Jvm.exec) (hb : c.code = cc) {x : Int} {off : Int} {tgt : Nat} (hdg : decode cc pc = .ok (.ifCond .eq off, 3)) (ht : (pc : Int) + off = (tgt : Int)) (hr : -2147483648 ≤ x ∧ x < 2147483648)
    (kt : x = 0 → W p l e R s m args below meth c H locs cells slots Q (F0 m tgt ls rest)) (kf : ¬ x = 0 → W p l e R s m args below meth c H locs cells slots Q (F0 m (pc + 3) ls rest)) : W p l e R s m args below meth c H locs cells slots Q (F0 m pc ls (.int (jI x) :: rest)) :=
  lv_if_eq hexec hb hdg ht (fun h => kt ((jI_eq hr (by decide) : jI x = jI 0 ↔ x = 0).mp h)) (fun h => kf (fun q => h ((jI_eq hr (by decide) : jI x = jI 0 ↔ x = 0).mpr q)))
theorem x_if_ne (hexec : p.tables.exec = Jvm.exec) (hb : c.code = cc) {x : Int} {off : Int} {tgt : Nat} (hdg : decode cc pc = .ok (.ifCond .ne off, 3)) (ht : (pc : Int) + off = (tgt : Int)) (hr : -2147483648 ≤ x ∧ x < 2147483648)
    (kt : ¬ x = 0 → W p l e R s m args below meth c H locs cells slots Q (F0 m tgt ls rest)) (kf : x = 0 → W p l e R s m args below meth c H locs cells slots Q (F0 m (pc + 3) ls rest)) : W p l e R s m args below meth c H locs cells slots Q (F0 m pc ls (.int (jI x) :: rest)) :=
  lv_if_ne hexec hb hdg ht (fun h => kt (fun q => h ((jI_eq hr (by decide) : jI x = jI 0 ↔ x = 0).mpr q))) (fun h => kf ((jI_eq hr (by decide) : jI x = jI 0 ↔ x = 0).mp h))
theorem x_if_lt (hexec : p.tables.exec = Jvm.exec) (hb : c.code = cc) {x : Int} {off : Int} {tgt : Nat} (hdg : decode cc pc = .ok (.ifCond .lt off, 3)) (ht : (pc : Int) + off = (tgt : Int)) (hr : -2147483648 ≤ x ∧ x < 2147483648)
    (kt : x < 0 → W p l e R s m args below meth c H locs cells slots Q (F0 m tgt ls rest)) (kf : ¬ x < 0 → W p l e R s m args below meth c H locs cells slots Q (F0 m (pc + 3) ls rest)) : W p l e R s m args below meth c H locs cells slots Q (F0 m pc ls (.int (jI x) :: rest)) :=
  lv_if_lt hexec hb hdg ht (fun h => kt ((jI_lt hr (by decide) : jI x < jI 0 ↔ x < 0).mp h)) (fun h => kf (fun q => h ((jI_lt hr (by decide) : jI x < jI 0 ↔ x < 0).mpr q)))
theorem x_if_le (hexec : p.tables.exec = Jvm.exec) (hb : c.code = cc) {x : Int} {off : Int} {tgt : Nat} (hdg : decode cc pc = .ok (.ifCond .le off, 3)) (ht : (pc : Int) + off = (tgt : Int)) (hr : -2147483648 ≤ x ∧ x < 2147483648)
    (kt : x ≤ 0 → W p l e R s m args below meth c H locs cells slots Q (F0 m tgt ls rest)) (kf : ¬ x ≤ 0 → W p l e R s m args below meth c H locs cells slots Q (F0 m (pc + 3) ls rest)) : W p l e R s m args below meth c H locs cells slots Q (F0 m pc ls (.int (jI x) :: rest)) :=
  lv_if_le hexec hb hdg ht (fun h => kt ((jI_le hr (by decide) : jI x ≤ jI 0 ↔ x ≤ 0).mp h)) (fun h => kf (fun q => h ((jI_le hr (by decide) : jI x ≤ jI 0 ↔ x ≤ 0).mpr q)))
theorem x_if_gt (hexec : p.tables.exec = Jvm.exec) (hb : c.code = cc) {x : Int} {off : Int} {tgt : Nat} (hdg : decode cc pc = .ok (.ifCond .gt off, 3)) (ht : (pc : Int) + off = (tgt : Int)) (hr : -2147483648 ≤ x ∧ x < 2147483648)
    (kt : 0 < x → W p l e R s m args below meth c H locs cells slots Q (F0 m tgt ls rest)) (kf : ¬ 0 < x → W p l e R s m args below meth c H locs cells slots Q (F0 m (pc + 3) ls rest)) : W p l e R s m args below meth c H locs cells slots Q (F0 m pc ls (.int (jI x) :: rest)) :=
  lv_if_gt hexec hb hdg ht (fun h => kt ((jI_lt (by decide) hr : jI 0 < jI x ↔ 0 < x).mp h)) (fun h => kf (fun q => h ((jI_lt (by decide) hr : jI 0 < jI x ↔ 0 < x).mpr q)))
theorem x_if_ge (hexec : p.tables.exec = Jvm.exec) (hb : c.code = cc) {x : Int} {off : Int} {tgt : Nat} (hdg : decode cc pc = .ok (.ifCond .ge off, 3)) (ht : (pc : Int) + off = (tgt : Int)) (hr : -2147483648 ≤ x ∧ x < 2147483648)
    (kt : 0 ≤ x → W p l e R s m args below meth c H locs cells slots Q (F0 m tgt ls rest)) (kf : ¬ 0 ≤ x → W p l e R s m args below meth c H locs cells slots Q (F0 m (pc + 3) ls rest)) : W p l e R s m args below meth c H locs cells slots Q (F0 m pc ls (.int (jI x) :: rest)) :=
  lv_if_ge hexec hb hdg ht (fun h => kt ((jI_le (by decide) hr : jI 0 ≤ jI x ↔ 0 ≤ x).mp h)) (fun h => kf (fun q => h ((jI_le (by decide) hr : jI 0 ≤ jI x ↔ 0 ≤ x).mpr q)))
theorem x_icmp_eq (hexec : p.tables.exec = Jvm.exec) (hb : c.code = cc) {x y : Int} {off : Int} {tgt : Nat} (hdg : decode cc pc = .ok (.if_icmp .eq off, 3)) (ht : (pc : Int) + off = (tgt : Int)) (hr : (-2147483648 ≤ x ∧ x < 2147483648) ∧ -2147483648 ≤ y ∧ y < 2147483648)
    (kt : x = y → W p l e R s m args below meth c H locs cells slots Q (F0 m tgt ls rest)) (kf : ¬ x = y → W p l e R s m args below meth c H locs cells slots Q (F0 m (pc + 3) ls rest)) : W p l e R s m args below meth c H locs cells slots Q (F0 m pc ls (.int (jI y) :: .int (jI x) :: rest)) :=
  lv_icmp_eq hexec hb hdg ht (fun h => kt ((jI_eq hr.1 hr.2 : jI x = jI y ↔ x = y).mp h)) (fun h => kf (fun q => h ((jI_eq hr.1 hr.2 : jI x = jI y ↔ x = y).mpr q)))
theorem x_icmp_ne (hexec : p.tables.exec = Jvm.exec) (hb : c.code = cc) {x y : Int} {off : Int} {tgt : Nat} (hdg : decode cc pc = .ok (.if_icmp .ne off, 3)) (ht : (pc : Int) + off = (tgt : Int)) (hr : (-2147483648 ≤ x ∧ x < 2147483648) ∧ -2147483648 ≤ y ∧ y < 2147483648)
    (kt : ¬ x = y → W p l e R s m args below meth c H locs cells slots Q (F0 m tgt ls rest)) (kf : x = y → W p l e R s m args below meth c H locs cells slots Q (F0 m (pc + 3) ls rest)) : W p l e R s m args below meth c H locs cells slots Q (F0 m pc ls (.int (jI y) :: .int (jI x) :: rest)) :=
  lv_icmp_ne hexec hb hdg ht (fun h => kt (fun q => h ((jI_eq hr.1 hr.2 : jI x = jI y ↔ x = y).mpr q))) (fun h => kf ((jI_eq hr.1 hr.2 : jI x = jI y ↔ x = y).mp h))
theorem x_icmp_lt (hexec : p.tables.exec = Jvm.exec) (hb : c.code = cc) {x y : Int} {off : Int} {tgt : Nat} (hdg : decode cc pc = .ok (.if_icmp .lt off, 3)) (ht : (pc : Int) + off = (tgt : Int)) (hr : (-2147483648 ≤ x ∧ x < 2147483648) ∧ -2147483648 ≤ y ∧ y < 2147483648)
    (kt : x < y → W p l e R s m args below meth c H locs cells slots Q (F0 m tgt ls rest)) (kf : ¬ x < y → W p l e R s m args below meth c H locs cells slots Q (F0 m (pc + 3) ls rest)) : W p l e R s m args below meth c H locs cells slots Q (F0 m pc ls (.int (jI y) :: .int (jI x) :: rest)) :=
  lv_icmp_lt hexec hb hdg ht (fun h => kt ((jI_lt hr.1 hr.2 : jI x < jI y ↔ x < y).mp h)) (fun h => kf (fun q => h ((jI_lt hr.1 hr.2 : jI x < jI y ↔ x < y).mpr q)))
theorem x_icmp_le (hexec : p.tables.exec = Jvm.exec) (hb : c.code = cc) {x y : Int} {off : Int} {tgt : Nat} (hdg : decode cc pc = .ok (.if_icmp .le off, 3)) (ht : (pc : Int) + off = (tgt : Int)) (hr : (-2147483648 ≤ x ∧ x < 2147483648) ∧ -2147483648 ≤ y ∧ y < 2147483648)
    (kt : x ≤ y → W p l e R s m args below meth c H locs cells slots Q (F0 m tgt ls rest)) (kf : ¬ x ≤ y → W p l e R s m args below meth c H locs cells slots Q (F0 m (pc + 3) ls rest)) : W p l e R s m args below meth c H locs cells slots Q (F0 m pc ls (.int (jI y) :: .int (jI x) :: rest)) :=
  lv_icmp_le hexec hb hdg ht (fun h => kt ((jI_le hr.1 hr.2 : jI x ≤ jI y ↔ x ≤ y).mp h)) (fun h => kf (fun q => h ((jI_le hr.1 hr.2 : jI x ≤ jI y ↔ x ≤ y).mpr q)))
theorem x_icmp_gt (hexec : p.tables.exec = Jvm.exec) (hb : c.code = cc) {x y : Int} {off : Int} {tgt : Nat} (hdg : decode cc pc = .ok (.if_icmp .gt off, 3)) (ht : (pc : Int) + off = (tgt : Int)) (hr : (-2147483648 ≤ x ∧ x < 2147483648) ∧ -2147483648 ≤ y ∧ y < 2147483648)
    (kt : y < x → W p l e R s m args below meth c H locs cells slots Q (F0 m tgt ls rest)) (kf : ¬ y < x → W p l e R s m args below meth c H locs cells slots Q (F0 m (pc + 3) ls rest)) : W p l e R s m args below meth c H locs cells slots Q (F0 m pc ls (.int (jI y) :: .int (jI x) :: rest)) :=
  lv_icmp_gt hexec hb hdg ht (fun h => kt ((jI_lt hr.2 hr.1 : jI y < jI x ↔ y < x).mp h)) (fun h => kf (fun q => h ((jI_lt hr.2 hr.1 : jI y < jI x ↔ y < x).mpr q)))
theorem x_icmp_ge (hexec : p.tables.exec = Jvm.exec) (hb : c.code = cc) {x y : Int} {off : Int} {tgt : Nat} (hdg : decode cc pc = .ok (.if_icmp .ge off, 3)) (ht : (pc : Int) + off = (tgt : Int)) (hr : (-2147483648 ≤ x ∧ x < 2147483648) ∧ -2147483648 ≤ y ∧ y < 2147483648)
    (kt : y ≤ x → W p l e R s m args below meth c H locs cells slots Q (F0 m tgt ls rest)) (kf : ¬ y ≤ x → W p l e R s m args below meth c H locs cells slots Q (F0 m (pc + 3) ls rest)) : W p l e R s m args below meth c H locs cells slots Q (F0 m pc ls (.int (jI y) :: .int (jI x) :: rest)) :=
  lv_icmp_ge hexec hb hdg ht (fun h => kt ((jI_le hr.2 hr.1 : jI y ≤ jI x ↔ y ≤ x).mp h)) (fun h => kf (fun q => h ((jI_le hr.2 hr.1 : jI y ≤ jI x ↔ y ≤ x).mpr q)))
theorem x_mmax (hexec : p.tables.exec = Jvm.exec) (hb : c.code = cc) (hml : c.maxLocals = ls.size) {own : String} {index : Nat} (hown : s.vm.findClass own = some m.cls) (hlink : (Cond.methodLink own index Lib.Math.max.name).before args s = true) (hstat : (Cond.static Lib.Math.max.name).before args s = true) (hini : (Cond.initialized "java/lang/Math").before args s = true) (hcode : (Cond.code Lib.Math.max.name Lib.Math.max.code 2 (some .int)).before args s = true)
    (hframes : 1 ≤ R.frames) (hlocals : (rest.map fun v => v.category).sum + 13 ≤ R.locals) (hc : cells ≤ R.cells) (hs : slots ≤ R.slots) {x y : Int} (hdg : decode cc pc = .ok (.invokestatic index, 3)) (hr : (-2147483648 ≤ x ∧ x < 2147483648) ∧ -2147483648 ≤ y ∧ y < 2147483648)
    (kk : W p l e R s m args below meth c H locs cells slots Q (F0 m (pc + 3) ls (.int (jI (if x < y then y else x)) :: rest))) : W p l e R s m args below meth c H locs cells slots Q (F0 m pc ls (.int (jI y) :: .int (jI x) :: rest)) := by
  refine va_mmax hexec hb hml hown hlink hstat hini hcode hframes hlocals hc hs hdg ?_
  by_cases h : x < y
  · rw [if_pos h] at kk
    rw [if_pos ((jI_lt hr.1 hr.2).mpr h)]
    exact kk
  · rw [if_neg h] at kk
    rw [if_neg (fun q => h ((jI_lt hr.1 hr.2).mp q))]
    exact kk
/-- the ends -/
theorem xr_i {v r : Int} (hx : p.tables.exec = Jvm.exec) (hb : c.code = cc) (hr : meth.sig.returnType = some .int) (hlocks : meth.locks = false) (h : v = r) (hdg : decode cc pc = .ok (.ireturn, 1)) : W p l e R s m args below meth c s.heap [] cells slots (MQ below (vp_Si (fun x => x = jI r)) args s cells slots (fun _ => False)) (F0 m pc ls [.int (jI v)]) :=
  W.iret hx hb hr (fun t ht hW => ⟨_, rfl, congrArg jI h, ht⟩) (fun q h => absurd h List.not_mem_nil) hdg hlocks
theorem xr_z {v r : Int} (hx : p.tables.exec = Jvm.exec) (hb : c.code = cc) (hr : meth.sig.returnType = some .boolean) (hlocks : meth.locks = false) (hn : v = 0 ∨ v = 1) (h : v = r) (hdg : decode cc pc = .ok (.ireturn, 1)) : W p l e R s m args below meth c s.heap [] cells slots (MQ below (vp_Si (fun x => x = jI r)) args s cells slots (fun _ => False)) (F0 m pc ls [.int (jI v)]) :=
  W.zret hx hb hr (by rcases hn with rfl | rfl <;> rfl) (fun t ht hW => ⟨_, rfl, congrArg jI h, ht⟩) (fun q h => absurd h List.not_mem_nil) hdg hlocks
theorem xr_l {v r : Int64} (hx : p.tables.exec = Jvm.exec) (hb : c.code = cc) (hr : meth.sig.returnType = some .long) (hlocks : meth.locks = false) (h : v = r) (hdg : decode cc pc = .ok (.lreturn, 1)) : W p l e R s m args below meth c s.heap [] cells slots (MQ below (vp_Sl (fun x => x = r)) args s cells slots (fun _ => False)) (F0 m pc ls [.long v]) :=
  W.lret hx hb hr (fun t ht hW => ⟨v, rfl, h, ht⟩) (fun q h => absurd h List.not_mem_nil) hdg hlocks
theorem xr_d {v r : UInt64} (hx : p.tables.exec = Jvm.exec) (hb : c.code = cc) (hr : meth.sig.returnType = some .double) (hlocks : meth.locks = false) (h : v = r) (hdg : decode cc pc = .ok (.dreturn, 1)) : W p l e R s m args below meth c s.heap [] cells slots (MQ below (vp_Sd (fun x => x = r)) args s cells slots (fun _ => False)) (F0 m pc ls [.double v]) :=
  W.dret hx hb hr (fun t ht hW => ⟨v, rfl, h, ht⟩) (fun q h => absurd h List.not_mem_nil) hdg hlocks
theorem xi_i {v r : Int} (hx : p.tables.exec = Jvm.exec) (hb : c.code = cc) (hr : meth.sig.returnType = some .int) (hlocks : meth.locks = false) (hK : va_K D vwCl [(cI, .int)] s) (hP : va_P D vwCl w H) (hD : va_D A w) (hS : va_S A s.heap H locs) (h : v = r) (hw : w = w1) (hdg : decode cc pc = .ok (.ireturn, 1)) : W p l e R s m args below meth c H locs cells slots (MQ below (va_Qi (fun x (_ : Unit) => x = jI r) (xq_B D cI A w1) A) args s cells slots A) (F0 m pc ls [.int (jI v)]) := by
  subst hw
  exact W.iret hx hb hr (fun t ht hW => ⟨⟨_, (), rfl, congrArg jI h, by rw [ht]; exact hP, va_K.moved hW.alike hK, hD⟩, hS.F ht⟩) hS.2.2 hdg hlocks
theorem xi_z {v r : Int} (hx : p.tables.exec = Jvm.exec) (hb : c.code = cc) (hr : meth.sig.returnType = some .boolean) (hlocks : meth.locks = false) (hn : v = 0 ∨ v = 1) (hK : va_K D vwCl [(cI, .int)] s) (hP : va_P D vwCl w H) (hD : va_D A w) (hS : va_S A s.heap H locs) (h : v = r) (hw : w = w1) (hdg : decode cc pc = .ok (.ireturn, 1)) : W p l e R s m args below meth c H locs cells slots (MQ below (va_Qi (fun x (_ : Unit) => x = jI r) (xq_B D cI A w1) A) args s cells slots A) (F0 m pc ls [.int (jI v)]) := by
  subst hw
  exact W.zret hx hb hr (by rcases hn with rfl | rfl <;> rfl) (fun t ht hW => ⟨⟨_, (), rfl, congrArg jI h, by rw [ht]; exact hP, va_K.moved hW.alike hK, hD⟩, hS.F ht⟩) hS.2.2 hdg hlocks
theorem xi_v (hx : p.tables.exec = Jvm.exec) (hb : c.code = cc) (hr : meth.sig.returnType = none) (hlocks : meth.locks = false) (hK : va_K D vwCl [(cI, .int)] s) (hP : va_P D vwCl w H) (hD : va_D A w) (hS : va_S A s.heap H locs) (hw : w = w1) (hdg : decode cc pc = .ok (.return_, 1)) : W p l e R s m args below meth c H locs cells slots (MQ below (va_Qv (fun (_ : Unit) => True) (xq_B D cI A w1) A) args s cells slots A) (F0 m pc ls []) := by
  subst hw
  exact W.vret hx hb hr (fun t ht hW => ⟨⟨(), rfl, trivial, by rw [ht]; exact hP, va_K.moved hW.alike hK, hD⟩, hS.F ht⟩) hS.2.2 hdg hlocks
/-- the calls -/
theorem xc_P {r : Int} (S : CallFix p m c cc nL s args Ts own) (hM : MetP l y ws rm As r) (cw : CallB R s args own index y bytes maxL ret ws rm 0 0 n ∧ (Cond.static y).before args s = true) (hn : As.length = n) (hl : ls.size = nL) (hst : st0 = As.reverse ++ rest) (hsum : (rest.map fun v => v.category).sum ≤ 8) (hdg : decode cc pc = .ok (.invokestatic index, 3)) (hf : cells ≤ R.cells ∧ slots ≤ R.slots)
    (kk : W p l e R s m args below meth c H locs cells slots Q (F0 m (pc + 3) ls (.int (jI r) :: rest))) : W p l e R s m args below meth c H locs cells slots Q (F0 m pc ls st0) :=
  vp_callSi (va_runS (As := As) (rest := rest) S hM cw ⟨fun a U g mk q => q, fun U hU hW => ⟨rfl, trivial⟩⟩ rfl hn hl hst (lv_room hsum) hdg hf).run (fun x hx => by rw [hx]; exact kk)
theorem xc_R {r : Int} (S : CallFix p m c cc nL s args Ts own) (hM : MetR l y ws rm D cI (.ref b :: As) w r) (cw : CallW R s args own C index y bytes maxL ret ws rm 0 0 n) (hP : va_P D vwCl w H) (hK : va_K D vwCl [(cI, .int)] s) (q0 : Nat) {ci : Nat} {fs : List Value} {q : vw_C} (he : w[q0]? = some (b, .inr (ci, fs))) (hc : vwCl[ci]? = some q) (hC : q.1 = C) (hn : As.length = n) (hl : ls.size = nL) (hst : st0 = As.reverse ++ .ref b :: rest) (hsum : (rest.map fun v => v.category).sum ≤ 8) (hdg : decode cc pc = .ok (.invokevirtual index, 3)) (hf : cells ≤ R.cells ∧ slots ≤ R.slots)
    (kk : W p l e R s m args below meth c H locs cells slots Q (F0 m (pc + 3) ls (.int (jI r) :: rest))) : W p l e R s m args below meth c H locs cells slots Q (F0 m pc ls st0) := by
  subst hC
  exact vp_callSi (va_runV (As := As) (rest := rest) S hM cw ⟨xq_Rbl, va_recv hK hP hc he, fun U hU hW => ⟨rfl, by rw [hU]; exact hP, va_K.moved hW.alike hK⟩⟩ rfl hn hl hst (lv_room hsum) hdg hf).run (fun x hx => by rw [hx]; exact kk)
theorem xc_Rl {r : Int64} (S : CallFix p m c cc nL s args Ts own) (hM : MetRl l y ws rm D cI (.ref b :: As) w r) (cw : CallW R s args own C index y bytes maxL ret ws rm 0 0 n) (hP : va_P D vwCl w H) (hK : va_K D vwCl [(cI, .int)] s) (q0 : Nat) {ci : Nat} {fs : List Value} {q : vw_C} (he : w[q0]? = some (b, .inr (ci, fs))) (hc : vwCl[ci]? = some q) (hC : q.1 = C) (hn : As.length = n) (hl : ls.size = nL) (hst : st0 = As.reverse ++ .ref b :: rest) (hsum : (rest.map fun v => v.category).sum ≤ 8) (hdg : decode cc pc = .ok (.invokevirtual index, 3)) (hf : cells ≤ R.cells ∧ slots ≤ R.slots)
    (kk : W p l e R s m args below meth c H locs cells slots Q (F0 m (pc + 3) ls (.long r :: rest))) : W p l e R s m args below meth c H locs cells slots Q (F0 m pc ls st0) := by
  subst hC
  exact vp_callSl (va_runV (As := As) (rest := rest) S hM cw ⟨xq_Rbl, va_recv hK hP hc he, fun U hU hW => ⟨rfl, by rw [hU]; exact hP, va_K.moved hW.alike hK⟩⟩ rfl hn hl hst (lv_room hsum) hdg hf).run (fun x hx => by rw [hx]; exact kk)
theorem xc_Rd {r : UInt64} (S : CallFix p m c cc nL s args Ts own) (hM : MetRd l y ws rm D cI (.ref b :: As) w r) (cw : CallW R s args own C index y bytes maxL ret ws rm 0 0 n) (hP : va_P D vwCl w H) (hK : va_K D vwCl [(cI, .int)] s) (q0 : Nat) {ci : Nat} {fs : List Value} {q : vw_C} (he : w[q0]? = some (b, .inr (ci, fs))) (hc : vwCl[ci]? = some q) (hC : q.1 = C) (hn : As.length = n) (hl : ls.size = nL) (hst : st0 = As.reverse ++ .ref b :: rest) (hsum : (rest.map fun v => v.category).sum ≤ 8) (hdg : decode cc pc = .ok (.invokevirtual index, 3)) (hf : cells ≤ R.cells ∧ slots ≤ R.slots)
    (kk : W p l e R s m args below meth c H locs cells slots Q (F0 m (pc + 3) ls (.double r :: rest))) : W p l e R s m args below meth c H locs cells slots Q (F0 m pc ls st0) := by
  subst hC
  exact vp_callSd (va_runV (As := As) (rest := rest) S hM cw ⟨xq_Rbl, va_recv hK hP hc he, fun U hU hW => ⟨rfl, by rw [hU]; exact hP, va_K.moved hW.alike hK⟩⟩ rfl hn hl hst (lv_room hsum) hdg hf).run (fun x hx => by rw [hx]; exact kk)
/-- a callee that has the caller's world as its own -/
theorem xc_I {r : Int} (S : CallFix p m c cc nL s args Ts own) (hM : MetI l y ws rm D cI (.ref b :: As) w w1 r) (cw : CallW R s args own C index y bytes maxL ret ws rm 0 0 n) (hP : va_P D vwCl w H) (hD : va_D A w) {H0 : Heap} (hS : va_S A H0 H locs) (hA : ∀ q, H0.size ≤ q → A q) (hK : va_K D vwCl [(cI, .int)] s) (q0 : Nat) {ci : Nat} {fs : List Value} {q : vw_C} (he : w[q0]? = some (b, .inr (ci, fs))) (hc : vwCl[ci]? = some q) (hC : q.1 = C) (hn : As.length = n) (hl : ls.size = nL) (hst : st0 = As.reverse ++ .ref b :: rest) (hsum : (rest.map fun v => v.category).sum ≤ 8) (hdg : decode cc pc = .ok (.invokevirtual index, 3)) (hf : cells ≤ R.cells ∧ slots ≤ R.slots)
    (kk : ∀ (H1 : Heap) (locs1 : List Loc), va_P D vwCl w1 H1 → va_D A w1 → va_S A H0 H1 locs1 → W p l e R s m args below meth c H1 locs1 cells slots Q (F0 m (pc + 3) ls (.int (jI r) :: rest))) : W p l e R s m args below meth c H locs cells slots Q (F0 m pc ls st0) := by
  subst hC
  have hF : ∀ q, va_A w H.size q → A q := fun q h => by
    rcases h with ⟨k, e, h⟩ | h
    · exact hD.2 k (q, e) h
    · exact hA q (Nat.le_trans hS.1 h)
  refine va_calli (va_runV (As := As) (rest := rest) S (hM H.size) cw ⟨xq_Wbl, va_recv hK hP hc he, fun U hU hW => ⟨rfl, by rw [hU], by rw [hU]; exact hP, va_K.moved hW.alike hK, hD.weaken (fun _ _ _ _ => trivial)⟩⟩ rfl hn hl hst (lv_room hsum) hdg hf) hS (fun q _ h => hF q h) hF (fun x u t H1 locs1 ht hvm hw hB hz1 hk1 hS1 => ?_)
  obtain ⟨hP1, -, hD1⟩ := hB
  rw [ht] at hP1
  rw [hw]
  exact kk H1 locs1 hP1 (hD1.weaken (fun _ q _ h => hF q.1 h)) hS1
theorem xc_V (S : CallFix p m c cc nL s args Ts own) (hM : MetV l y ws rm D cI (.ref b :: As) w w1) (cw : CallW R s args own C index y bytes maxL ret ws rm 0 0 n) (hP : va_P D vwCl w H) (hD : va_D A w) {H0 : Heap} (hS : va_S A H0 H locs) (hA : ∀ q, H0.size ≤ q → A q) (hK : va_K D vwCl [(cI, .int)] s) (q0 : Nat) {ci : Nat} {fs : List Value} {q : vw_C} (he : w[q0]? = some (b, .inr (ci, fs))) (hc : vwCl[ci]? = some q) (hC : q.1 = C) (hn : As.length = n) (hl : ls.size = nL) (hst : st0 = As.reverse ++ .ref b :: rest) (hsum : (rest.map fun v => v.category).sum ≤ 8) (hdg : decode cc pc = .ok (.invokevirtual index, 3)) (hf : cells ≤ R.cells ∧ slots ≤ R.slots)
    (kk : ∀ (H1 : Heap) (locs1 : List Loc), va_P D vwCl w1 H1 → va_D A w1 → va_S A H0 H1 locs1 → W p l e R s m args below meth c H1 locs1 cells slots Q (F0 m (pc + 3) ls rest)) : W p l e R s m args below meth c H locs cells slots Q (F0 m pc ls st0) := by
  subst hC
  have hF : ∀ q, va_A w H.size q → A q := fun q h => by
    rcases h with ⟨k, e, h⟩ | h
    · exact hD.2 k (q, e) h
    · exact hA q (Nat.le_trans hS.1 h)
  refine va_callv (va_runV (As := As) (rest := rest) S (hM H.size) cw ⟨xq_Wbl, va_recv hK hP hc he, fun U hU hW => ⟨rfl, by rw [hU], by rw [hU]; exact hP, va_K.moved hW.alike hK, hD.weaken (fun _ _ _ _ => trivial)⟩⟩ rfl hn hl hst (lv_room hsum) hdg hf) hS (fun q _ h => hF q h) hF (fun u t H1 locs1 ht hvm hw hB hz1 hk1 hS1 => ?_)
  obtain ⟨hP1, -, hD1⟩ := hB
  rw [ht] at hP1
  exact kk H1 locs1 hP1 (hD1.weaken (fun _ q _ h => hF q.1 h)) hS1
end XW
/-- the cells of the system: object, now, saved, buffer, windings, their three rows -/
abbrev w1 (cI : ClassId) (a : Nat → Nat) (f g : Nat → Int) (n : Nat) (b : Nat → Int) (len : Nat) (kd sg nb : Nat → Int) (pt : Nat) : va_W :=
  [(a 0, .inr (1, [.ref (a 1), .ref (a 2), .int (jI (n : Int)), .ref (a 3), .int (jI (len : Int)), .ref (a 4)])), (a 1, .inl (cI, 33, .inl (jA f))), (a 2, .inl (cI, 198, .inl (jA g))), (a 3, .inl (cI, 60, .inl (jA b))),
   (a 4, .inr (0, [.ref (a 5), .ref (a 6), .ref (a 7), .int (jI (pt : Int))])), (a 5, .inl (cI, 3, .inl (jA kd))), (a 6, .inl (cI, 3, .inl (jA sg))), (a 7, .inl (cI, 3, .inl (jA nb)))]
/-- the cells of the reference: object, now, past, text, sorts, many -/
abbrev w2 (cI : ClassId) (a : Nat → Nat) (f g : Nat → Int) (n : Nat) (b : Nat → Int) (len : Nat) (th : Int) (at_ : Nat) (fl va : Int) (so ma : Nat → Int) : va_W :=
  [(a 0, .inr (2, [.ref (a 1), .ref (a 2), .int (jI (n : Int)), .ref (a 3), .int (jI (len : Int)), .int (jI th), .int (jI (at_ : Int)), .int (jI fl), .int (jI va), .ref (a 4), .ref (a 5)])), (a 1, .inl (cI, 33, .inl (jA f))), (a 2, .inl (cI, 198, .inl (jA g))), (a 3, .inl (cI, 60, .inl (jA b))), (a 4, .inl (cI, 3, .inl (jA so))), (a 5, .inl (cI, 3, .inl (jA ma)))]
