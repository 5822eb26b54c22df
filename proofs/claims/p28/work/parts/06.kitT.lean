/-! methods that throw, and what they need of the tables -/
def xI : String := "java/lang/IndexOutOfBoundsException"
def xA : String := "java/lang/IllegalArgumentException"
def xS : String := "java/lang/IllegalStateException"
def xN : List String := ["java/lang/RuntimeException", "java/lang/Exception"]
/-- the exception of a code: 1 a place, 2 an argument, else a state -/
def xex (c : Int) : String := if c = 1 then xI else if c = 2 then xA else xS
def xB : List Cond := [.castable xI xI, .castable xA xA, .castable xS xS, .declares (Bundle.initS "java/lang/RuntimeException"), .declares (Bundle.initS "java/lang/Exception"), .declares (Bundle.initS Bundle.tN)]
def xtexts : List (Nat × String) := [(42, "no such day"), (49, "the time is out of range"), (59, "no such setting"), (67, "the value is out of range"), (72, "no such movement"), (77, "the hours are out of range"), (88, "the door is locked, or the movement is stopped"), (94, "the loss is out of range"), (96, "the door is locked"), (101, "the door is locked, or no movement would run"), (110, "the door is open"), (130, "the hour would be too late"), (161, "no state is saved"), (169, "no such property"), (174, "no such number")]
def xleast (k : Nat) : Int := if k = 0 then 1 else if k = 1 then 1 else 10
def xmost (k : Nat) : Int := if k = 0 then 9 else if k = 1 then 24 else 5000
theorem xface {args args' : Array Value} {s U : State} {c : Cond} (hW : s.WarmedH U.vm) (hc : c.onTables = true) (hk : c.keepsFace = true) (h : c.before args s = true) : c.before args' U = true := by
  have h1 : c.before args' (U.setVm U.vm) = true := by
    rw [Cond.onTables_vm (A' := args) (U' := s) U.vm c hc]
    exact Cond.before_shiftedFace (State.Shifted.of_warmed hW) c hk h
  rwa [State.setVm_self] at h1
theorem xB_face : ∀ w ∈ xB, w.onTables = true ∧ w.keepsFace = true := by decide +kernel
def xenv (A : Nat → Prop) (U : State) : Prop :=
  vx_Zq Bundle.tN "UNASSIGNED_STACK" Bundle.steD A U U.heap ∧ vx_Zq Bundle.tN "SUPPRESSED_SENTINEL" Bundle.listD A U U.heap ∧ (∀ q ∈ xtexts, ∃ sa, vk_R RX1 q.1 q.2 sa U) ∧ (∀ w ∈ xB, w.before #[] U = true) ∧ (va_Nc xA xS U ∧ va_Nc xI xS U ∧ va_Nc xI xS U) ∧
  (∃ t : Nat, va_Z "VaultMovements" "SETTING_LEAST" "[I" (.ref t) A U U.heap ∧ va_T .int t 3 (fun j => .int (jI (xleast j))) A U U.heap) ∧ (∃ t : Nat, va_Z "VaultMovements" "SETTING_MOST" "[I" (.ref t) A U U.heap ∧ va_T .int t 3 (fun j => .int (jI (xmost j))) A U U.heap)
theorem xenv.to {A B : Nat → Prop} {s U : State} {H : Heap} {locs : List Loc} (h : xenv A s) (hS : va_S A s.heap H locs) (hU : U.heap = H) (hW : s.WarmedH U.vm) (hB : ∀ q, B q → A q) : xenv B U := by
  obtain ⟨h1, h2, h3, h4, ⟨h5, h6, h7⟩, ⟨t, h8, h9⟩, ⟨t2, h10, h11⟩⟩ := h
  subst hU
  exact ⟨((h1.kept hS.2.1).narrow hB).moved hW.alike, ((h2.kept hS.2.1).narrow hB).moved hW.alike, fun q hq => by obtain ⟨sa, h⟩ := h3 q hq; exact ⟨sa, vk_R.warm hW h⟩,
    fun w hw => xface hW (xB_face w hw).1 (xB_face w hw).2 (h4 w hw), ⟨h5.moved hW.alike, h6.moved hW.alike, h7.moved hW.alike⟩,
    ⟨t, ((h8.kept hS.2.1).narrow hB).moved hW.alike, ((h9.kept hS.2.1).narrow hB).moved hW.alike⟩, ⟨t2, ((h10.kept hS.2.1).narrow hB).moved hW.alike, ((h11.kept hS.2.1).narrow hB).moved hW.alike⟩⟩
abbrev xq_T (D : va_G) (cI : ClassId) (av : List Value) (w : va_W) (sz : Nat) : Array Value → State → Prop := va_Pc av (fun U => U.heap.size = sz ∧ va_P D vwCl w U.heap ∧ va_K D vwCl [(cI, .int)] U ∧ va_D (fun _ => True) w ∧ xenv (va_A w sz) U)
theorem xq_Tbl {D : va_G} {cI : ClassId} {av : List Value} {w : va_W} {sz : Nat} : FrameBlind (xq_T D cI av w sz) := fun a U g mk q => ⟨q.1, q.2.1, q.2.2.1, va_K.moved (u := U) (U := U.calling g mk a) (Vm.Alike.refl U.vm) q.2.2.2.1, q.2.2.2.2.1, xenv.to (s := U) (U := U.calling g mk a) (locs := []) q.2.2.2.2.2 va_S.rf rfl (State.WarmedH.refl U) (fun _ h => h)⟩
/-- writes the world, answers an int, or throws the exception of the code -/
def MetT (l : Launch) (y : MethodName) (ws : List Cond) (rm : Room) (D : va_G) (cI : ClassId) (av : List Value) (w w1 : va_W) (code r : Int) : Prop := ∀ sz : Nat, vx_Met l y ws rm (xq_T D cI av w sz) (va_Qi (fun x (_ : Unit) => code = 0 ∧ x = jI r) (xq_B D cI (va_A w sz) w1) (va_A w sz)) (vx_X (fun (_ : Unit) => code ≠ 0) (fun E _ t => E = xex code ∧ xq_B D cI (va_A w sz) w1 () t) (va_A w sz)) 1 6 (va_A w sz)
section XTE
variable {l : Launch} {y : MethodName} {ws ws' : List Cond} {rm : Room} {D : va_G} {cI : ClassId} {av : List Value} {w w1 : va_W} {code r : Int} {cc : ByteArray} {maxL : Nat} {ret : Option FieldType}
theorem xe_T (hy : plainName y.cls = true) (hw : ws = Cond.code y cc maxL ret :: ws') (hlen : (lg_sl av).length ≤ maxL)
    (body : ∀ (p : Program) (e : Env) (s : State) (m : MethodId) (below : List Frame) (meth : Method) (c : Code), p.tables.exec = Jvm.exec → c.code = cc → meth.sig.returnType = ret → c.maxLocals = maxL → (∀ z ∈ ws, z.before av.toArray s = true) → s.vm.findClass y.cls = some m.cls → meth.locks = false → (∀ x ∈ c.exceptionTable.toList, False) →
      va_P D vwCl w s.heap → va_K D vwCl [(cI, .int)] s → ∀ A : Nat → Prop, (∀ q, s.heap.size ≤ q → A q) → va_D A w → va_S A s.heap s.heap [] → xenv A s → ∀ ls : Array Slot, lv_has ls maxL (lv_args 0 av) →
      W p l e rm s m av.toArray below meth c s.heap [] 0 0 (vx_MQ below (va_Qi (fun x (_ : Unit) => code = 0 ∧ x = jI r) (xq_B D cI A w1) A) (vx_X (fun (_ : Unit) => code ≠ 0) (fun E _ t => E = xex code ∧ xq_B D cI A w1 () t) A) av.toArray s 1 6 A) (F0 m 0 ls [])) : MetT l y ws rm D cI av w w1 code r := by
  intro sz
  refine vx_ofW hy hw ?_
  intro p e s m args below meth c s₁ B hml hex hv
  obtain ⟨rfl, hsz, hP, hK, hD0, hE⟩ := hv
  subst hsz
  have hl := lv_entry av (n := maxL) hlen
  rw [lg_entry_eq]
  exact body p e s m below meth c B.exec B.bytes B.returns hml (atoms_spec (ws := ws) B.pre) (findClass_of_methodNamed B.named) B.notSynchronized hex hP hK (va_A w s.heap.size) (fun q h => Or.inr h) hD0.self va_S.rf hE _ hl
end XTE
section XTW
variable {p : Program} {l : Launch} {e : Env} {R : Room} {s : State} {m : MethodId} {args : Array Value} {below : List Frame} {meth : Method} {c : Code} {H : Heap} {locs : List Loc} {cells slots : Nat} {Q : State → Prop}
variable {cc : ByteArray} {pc : Nat} {ls : Array Slot} {rest st0 : List Value} {D : va_G} {cI : ClassId} {A : Nat → Prop} {w w1 w2 : va_W} {tys : List (ClassId × FieldType)}
variable {y : MethodName} {bytes : ByteArray} {maxL nL n index : Nat} {ret : Option FieldType} {ws : List Cond} {rm : Room} {Ts : List Cond} {own C : String} {b : Addr} {As : List Value} {code r : Int}
/-- a normal end -/
theorem xt_i {v : Int} (hx : p.tables.exec = Jvm.exec) (hb : c.code = cc) (hr : meth.sig.returnType = some .int) (hlocks : meth.locks = false) (hK : va_K D vwCl [(cI, .int)] s) (hP : va_P D vwCl w H) (hD : va_D A w) (hS : va_S A s.heap H locs) (hc : cells ≤ 1) (hs : slots ≤ 6) (h0 : code = 0) (h : v = r) (hw : w = w1) (hdg : decode cc pc = .ok (.ireturn, 1)) : W p l e R s m args below meth c H locs cells slots (vx_MQ below (va_Qi (fun x (_ : Unit) => code = 0 ∧ x = jI r) (xq_B D cI A w1) A) (vx_X (fun (_ : Unit) => code ≠ 0) (fun E _ t => E = xex code ∧ xq_B D cI A w1 () t) A) args s 1 6 A) (F0 m pc ls [.int (jI v)]) := by
  subst hw
  exact vx_ret (W.widen hc hs (W.iret hx hb hr (fun t ht hW => ⟨⟨_, (), rfl, ⟨h0, congrArg jI h⟩, by rw [ht]; exact hP, va_K.moved hW.alike hK, hD⟩, hS.F ht⟩) hS.2.2 hdg hlocks))
/-- new E(text), thrown -/
theorem xt_throw (hx : p.tables.exec = Jvm.exec) (hb : c.code = cc) (hlt : l.stackTraces = false) {cls text : String} {ik is ic : Nat} (hown : s.vm.findClass RX1 = some m.cls) (hcls : Bundle.fit cls = true)
    (hk : (Cond.classLink RX1 ik cls).before args s = true) (hini : (Cond.initialized cls).before args s = true) (htx : (is, text) ∈ xtexts) (hat : ∀ w ∈ (vx_atS RX1 ic cls xN).filter goodWord, w.before args s = true) (hng : ∀ w ∈ (vx_atS RX1 ic cls xN).filter (fun w => !goodWord w), w ∈ xB)
    (hgood : ∀ w ∈ Cond.classLink RX1 ik cls :: Cond.initialized cls :: vx_atS RX1 ic cls xN, vx_ot w = true) (hE : xenv A s) (hA : ∀ q, s.heap.size ≤ q → A q) (hsize : ls.size = c.maxLocals)
    (d0 : decode cc pc = .ok (.new ik, 3)) (d3 : decode cc (pc + 3) = .ok (.dup, 1)) (d4 : decode cc (pc + 4) = .ok (.ldc is, 2)) (d6 : decode cc (pc + 6) = .ok (.invokespecial ic, 3)) (d9 : decode cc (pc + 9) = .ok (.athrow, 1))
    (hex : ∀ x ∈ c.exceptionTable.toList, False) (hRf : 5 < R.frames) (hRl : (rest.map fun v => v.category).sum + 82 ≤ R.locals) (hRc : cells + 1 ≤ R.cells) (hRs : slots + 6 ≤ R.slots) (hlocks : meth.locks = false)
    (hK : va_K D vwCl [(cI, .int)] s) (hP : va_P D vwCl w H) (hD : va_D A w) (hS : va_S A s.heap H locs) (hc : cells = 0) (hs : slots = 0) (h0 : code ≠ 0) (hcd : cls = xex code) (hw : w = w1) :
    W p l e R s m args below meth c H locs cells slots (vx_MQ below (va_Qi (fun x (_ : Unit) => code = 0 ∧ x = jI r) (xq_B D cI A w1) A) (vx_X (fun (_ : Unit) => code ≠ 0) (fun E _ t => E = xex code ∧ xq_B D cI A w1 () t) A) args s 1 6 A) (F0 m pc ls rest) := by
  subst hw
  obtain ⟨sa, hstr⟩ := hE.2.2.1 _ htx
  refine vx_throwS (A := A) (names := xN) (text := text) hx hb hlt hown hcls (by decide) hk hini hstr (vx_hat hat hng (fun w hw => ?_)) hgood hE.1 hE.2.1 hS hsize d0 d3 d4 d6 d9 (fun x h => (hex x h).elim) hRf hRl hRc hRs hlocks (fun t hvm h1 h2 => ⟨(), h0, ⟨hcd, ?_, va_K.moved hvm hK, hD⟩, ?_⟩) hS.2.2 (by omega) (by omega)
  · exact xface (State.WarmedH.refl s) (xB_face w hw).1 (xB_face w hw).2 (hE.2.2.2.1 w hw)
  · exact hP.kept (fun k q hq => h2 q.1 ((hP k q hq).lt))
  · exact ⟨Nat.le_trans hS.1 h1, fun q hq hnA => (h2 q (Nat.lt_of_lt_of_le hq hS.1)).trans (hS.2.1 q hq hnA)⟩
end XTW
theorem xng_I : ∀ w ∈ (vx_atS RX1 44 xI xN).filter (fun w => !goodWord w), w ∈ xB := by decide +kernel
theorem xng_A : ∀ w ∈ (vx_atS RX1 51 xA xN).filter (fun w => !goodWord w), w ∈ xB := by decide +kernel
theorem xng_S : ∀ w ∈ (vx_atS RX1 90 xS xN).filter (fun w => !goodWord w), w ∈ xB := by decide +kernel
theorem xgd_I : ∀ w ∈ Cond.classLink RX1 40 xI :: Cond.initialized xI :: vx_atS RX1 44 xI xN, vx_ot w = true := by decide +kernel
theorem xgd_A : ∀ w ∈ Cond.classLink RX1 47 xA :: Cond.initialized xA :: vx_atS RX1 51 xA xN, vx_ot w = true := by decide +kernel
theorem xgd_S : ∀ w ∈ Cond.classLink RX1 86 xS :: Cond.initialized xS :: vx_atS RX1 90 xS xN, vx_ot w = true := by decide +kernel
theorem rng_upz {F : Nat → Int} {k : Nat} {v : Int} (h : rng F) (hv : -2147483648 ≤ v ∧ v < 2147483648) : rng (upz F k v) := fun j => by
  unfold upz
  split
  · exact hv
  · exact h j
