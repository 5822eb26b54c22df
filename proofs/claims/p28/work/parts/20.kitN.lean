/-! constructors -/
def xfirst (k : Nat) : Int := if k = 0 then 3 else if k = 1 then 2 else 500
/-- what the constructor of the class needs of the tables: its nest mate's constructor, the settings at first -/
def yenv (A : Nat → Prop) (U : State) : Prop := va_Nw (.methodLinkNest RX1 28 yX0_init RX1) U ∧ ∃ t : Nat, va_Z "VaultMovements" "SETTING_AT_FIRST" "[I" (.ref t) A U U.heap ∧ va_T .int t 3 (fun j => .int (jI (xfirst j))) A U U.heap
theorem yenv.to {A B : Nat → Prop} {s U : State} {H : Heap} {locs : List Loc} (h : yenv A s) (hS : va_S A s.heap H locs) (hU : U.heap = H) (hW : s.WarmedH U.vm) (hB : ∀ q, B q → A q) : yenv B U := by
  obtain ⟨h1, t, h2, h3⟩ := h
  subst hU
  exact ⟨h1.warmM hW, t, ((h2.kept hS.2.1).narrow hB).moved hW.alike, ((h3.kept hS.2.1).narrow hB).moved hW.alike⟩
def noenv (_ : Nat → Prop) (_ : State) : Prop := True
theorem noenv.to {A B : Nat → Prop} {s U : State} {H : Heap} {locs : List Loc} (_ : noenv A s) (_ : va_S A s.heap H locs) (_ : U.heap = H) (_ : s.WarmedH U.vm) (_ : ∀ q, B q → A q) : noenv B U := trivial
/-- an environment goes with the tables -/
def envOk (V : (Nat → Prop) → State → Prop) : Prop := ∀ {A B : Nat → Prop} {s U : State} {H : Heap} {locs : List Loc}, V A s → va_S A s.heap H locs → U.heap = H → s.WarmedH U.vm → (∀ q, B q → A q) → V B U
theorem yenv_ok : envOk yenv := fun h hS hU hW hB => h.to hS hU hW hB
theorem noenv_ok : envOk noenv := fun h hS hU hW hB => h.to hS hU hW hB
abbrev xq_N (V : (Nat → Prop) → State → Prop) (D : va_G) (cI : ClassId) (h0 : Nat) (w : va_W) (sz : Nat) : Array Value → State → Prop := va_Pc [.ref h0] (fun U => U.heap.size = sz ∧ va_P D vwCl w U.heap ∧ va_K D vwCl [(cI, .int)] U ∧ va_D (fun _ => True) w ∧ V (va_A w sz) U)
theorem xq_Nbl {V : (Nat → Prop) → State → Prop} (hV : envOk V) {D : va_G} {cI : ClassId} {h0 : Nat} {w : va_W} {sz : Nat} : FrameBlind (xq_N V D cI h0 w sz) := fun a U g mk q => ⟨q.1, q.2.1, q.2.2.1, va_K.moved (u := U) (U := U.calling g mk a) (Vm.Alike.refl U.vm) q.2.2.2.1, q.2.2.2.2.1, hV (s := U) (U := U.calling g mk a) (locs := []) q.2.2.2.2.2 va_S.rf rfl (State.WarmedH.refl U) (fun _ h => h)⟩
/-- makes cells beside the object; the addresses come with the end -/
def MetN (V : (Nat → Prop) → State → Prop) (l : Launch) (y : MethodName) (ws : List Cond) (rm : Room) (D : va_G) (cI : ClassId) (h0 : Nat) (w : va_W) (wf : (Nat → Nat) → va_W) (mc ms : Nat) : Prop := ∀ sz : Nat, Met l y ws rm (xq_N V D cI h0 w sz) (va_Qv (fun a : Nat → Nat => a 0 = h0) (fun a t => va_P D vwCl (wf a) t.heap ∧ va_D (va_A w sz) (wf a)) (va_A w sz)) mc ms (va_A w sz)
section XNE
variable {V : (Nat → Prop) → State → Prop} {l : Launch} {y : MethodName} {ws ws' : List Cond} {rm : Room} {D : va_G} {cI : ClassId} {h0 : Nat} {w : va_W} {wf : (Nat → Nat) → va_W} {mc ms : Nat} {cc : ByteArray} {maxL : Nat} {ret : Option FieldType}
theorem xe_N (hy : plainName y.cls = true) (hw : ws = Cond.code y cc maxL ret :: ws') (hlen : 1 ≤ maxL) (hin : y.name = "<init>")
    (body : ∀ (p : Program) (e : Env) (s : State) (m : MethodId) (below : List Frame) (meth : Method) (c : Code), p.tables.exec = Jvm.exec → c.code = cc → meth.sig.returnType = ret → c.maxLocals = maxL → (∀ z ∈ ws, z.before #[.ref h0] s = true) → s.vm.findClass y.cls = some m.cls → meth.locks = false → meth.name = "<init>" →
      va_P D vwCl w s.heap → va_K D vwCl [(cI, .int)] s → ∀ A : Nat → Prop, (∀ q, s.heap.size ≤ q → A q) → va_D A w → va_S A s.heap s.heap [] → V A s → ∀ ls : Array Slot, lv_has ls maxL [(0, .ref h0)] →
      W p l e rm s m #[.ref h0] below meth c s.heap [] 0 0 (MQ below (va_Qv (fun a : Nat → Nat => a 0 = h0) (fun a t => va_P D vwCl (wf a) t.heap ∧ va_D A (wf a)) A) #[.ref h0] s mc ms A) (F0 m 0 ls [])) : MetN V l y ws rm D cI h0 w wf mc ms := by
  intro sz
  refine Met.ofW hy hw ?_
  intro p e s m args below meth c s₁ B hml hv
  obtain ⟨rfl, hsz, hP, hK, hD0, hE⟩ := hv
  subst hsz
  have hl := lv_entry ([.ref h0] : List Value) (n := maxL) hlen
  rw [lg_entry_eq]
  exact body p e s m below meth c B.exec B.bytes B.returns hml (atoms_spec (ws := ws) B.pre) (findClass_of_methodNamed B.named) B.notSynchronized ((name_of_methodNamed B.named B.method).1.trans hin) hP hK (va_A w s.heap.size) (fun q h => Or.inr h) hD0.self va_S.rf hE _ hl
end XNE
theorem j0_eq : jI 0 = (0 : Int32) := by decide
section XNW
variable {p : Program} {l : Launch} {e : Env} {R : Room} {s : State} {m : MethodId} {args : Array Value} {below : List Frame} {meth : Method} {c : Code} {H : Heap} {locs : List Loc} {cells slots : Nat} {Q : State → Prop}
variable {cc : ByteArray} {pc : Nat} {ls : Array Slot} {rest st0 : List Value} {D : va_G} {cI : ClassId} {A : Nat → Prop} {w : va_W}
/-- a new array of ints, of the kind known already -/
theorem x_newa (hexec : p.tables.exec = Jvm.exec) (hb : c.code = cc) (harr : (Cond.arrayClass .int).before args s = true) (hK : va_K D vwCl [(cI, .int)] s) (hP : va_P D vwCl w H) (hD : va_D A w) {H0 : Heap} (hS : va_S A H0 H locs) (hA : ∀ q, H0.size ≤ q → A q) {n : Int} (N : Nat) (hn : n = (N : Int)) (hN : N ≤ 1000) (hcells : cells + 1 ≤ R.cells) (hslots : slots + N ≤ R.slots) (hdg : decode cc pc = .ok (.newarray .int, 2))
    (kk : ∀ (q : Nat) (H1 : Heap), va_P D vwCl (w ++ [(q, .inl (cI, N, .inl (jA (fun _ => 0))))]) H1 → va_D A (w ++ [(q, .inl (cI, N, .inl (jA (fun _ => 0))))]) → va_S A H0 H1 locs → W p l e R s m args below meth c H1 locs (cells + 1) (slots + N) Q (F0 m (pc + 2) ls (.ref q :: rest))) : W p l e R s m args below meth c H locs cells slots Q (F0 m pc ls (.int (jI n) :: rest)) := by
  subst hn
  refine va_newa (atype := .int) (ty := .int) (N' := N) (a0 := (N, .inl (jA (fun _ => 0)))) hexec hb harr rfl hK hP hD hS hA (fun cA => ?_) ?_ ?_ ?_ hcells hslots hdg (fun q cA H1 hK1 hP1 hD1 hS1 => ?_)
  · rw [vp_cell_i]
    exact congrArg (arrV cA N) (funext fun _ => congrArg Value.int j0_eq)
  · intro h
    have h' : jI (N : Int) < jI 0 := h
    rw [jI_lt (by omega) (by omega)] at h'
    omega
  · rw [jI_nat, nI_clamp (by omega)]
  · show N * 4 ≤ _
    omega
  · have h1 : s.vm.findClass ("[" ++ (FieldType.int).toString) = some cA := (hK1.2 1 (cA, .int) rfl).2
    have h2 : s.vm.findClass ("[" ++ (FieldType.int).toString) = some cI := (hK.2 0 (cI, .int) rfl).2
    have h3 : cA = cI := Option.some.inj (h1.symm.trans h2)
    subst h3
    exact kk q H1 hP1 hD1 hS1
/-- the end of a constructor -/
theorem xn_v {wf : (Nat → Nat) → va_W} {h0 : Nat} {mc ms : Nat} (a : Nat → Nat) (hx : p.tables.exec = Jvm.exec) (hb : c.code = cc) (hr : meth.sig.returnType = none) (hlocks : meth.locks = false) (hP : va_P D vwCl w H) (hD : va_D A w) (hS : va_S A s.heap H locs) (ha : a 0 = h0) (hw : w = wf a) (hdg : decode cc pc = .ok (.return_, 1)) : W p l e R s m args below meth c H locs mc ms (MQ below (va_Qv (fun a : Nat → Nat => a 0 = h0) (fun a t => va_P D vwCl (wf a) t.heap ∧ va_D A (wf a)) A) args s mc ms A) (F0 m pc ls []) := by
  subst hw
  exact W.vret hx hb hr (fun t ht hW => ⟨⟨a, rfl, ha, by rw [ht]; exact hP, hD⟩, hS.F ht⟩) hS.2.2 hdg hlocks
end XNW
