section
/-- a private method of a class that the tables say can be made, by its rows of tables_1 -/
def lw_okq (q : MethodName × Nat) : Prop := (q.1.cls ≠ "java/lang/invoke/MethodHandle" ∧ q.1.cls ≠ "java/lang/invoke/VarHandle") ∧ Cond.instantiable q.1.cls q.2 ∈ tables_1 ∧ Cond.privateMethod q.1 ∈ tables_1 ∧ Cond.instanceMethod q.1 ∈ tables_1
theorem lw_p0 : lw_okq (⟨"java/lang/Throwable", "fillInStackTrace", "(I)Ljava/lang/Throwable;"⟩, 6) := ⟨⟨by decide +kernel, by decide +kernel⟩, List.mem_of_getElem? (i := 103) (by decide +kernel), List.mem_of_getElem? (i := 101) (by decide +kernel), List.mem_of_getElem? (i := 102) (by decide +kernel)⟩
theorem lw_p1 : lw_okq (⟨"VaultMovements", "number", "(I)I"⟩, 6) := ⟨⟨by decide +kernel, by decide +kernel⟩, List.mem_of_getElem? (i := 12) (by decide +kernel), List.mem_of_getElem? (i := 133) (by decide +kernel), List.mem_of_getElem? (i := 134) (by decide +kernel)⟩
theorem lw_p2 : lw_okq (⟨"VaultMovements", "today", "()I"⟩, 6) := ⟨⟨by decide +kernel, by decide +kernel⟩, List.mem_of_getElem? (i := 12) (by decide +kernel), List.mem_of_getElem? (i := 137) (by decide +kernel), List.mem_of_getElem? (i := 138) (by decide +kernel)⟩
theorem lw_p3 : lw_okq (⟨"VaultMovements", "timeOfDay", "()I"⟩, 6) := ⟨⟨by decide +kernel, by decide +kernel⟩, List.mem_of_getElem? (i := 12) (by decide +kernel), List.mem_of_getElem? (i := 141) (by decide +kernel), List.mem_of_getElem? (i := 142) (by decide +kernel)⟩
theorem lw_p4 : lw_okq (⟨"VaultMovements", "hoursToOpening", "()I"⟩, 6) := ⟨⟨by decide +kernel, by decide +kernel⟩, List.mem_of_getElem? (i := 12) (by decide +kernel), List.mem_of_getElem? (i := 145) (by decide +kernel), List.mem_of_getElem? (i := 146) (by decide +kernel)⟩
theorem lw_p5 : lw_okq (⟨"VaultMovements", "hoursToWait", "()I"⟩, 6) := ⟨⟨by decide +kernel, by decide +kernel⟩, List.mem_of_getElem? (i := 12) (by decide +kernel), List.mem_of_getElem? (i := 149) (by decide +kernel), List.mem_of_getElem? (i := 150) (by decide +kernel)⟩
theorem lw_p6 : lw_okq (⟨"VaultMovements", "hoursToOpen", "(I)I"⟩, 6) := ⟨⟨by decide +kernel, by decide +kernel⟩, List.mem_of_getElem? (i := 12) (by decide +kernel), List.mem_of_getElem? (i := 183) (by decide +kernel), List.mem_of_getElem? (i := 184) (by decide +kernel)⟩
theorem lw_p7 : lw_okq (⟨"VaultMovements", "isLocked", "()Z"⟩, 6) := ⟨⟨by decide +kernel, by decide +kernel⟩, List.mem_of_getElem? (i := 12) (by decide +kernel), List.mem_of_getElem? (i := 187) (by decide +kernel), List.mem_of_getElem? (i := 188) (by decide +kernel)⟩
theorem lw_p8 : lw_okq (⟨"VaultMovements", "goes", "(I)Z"⟩, 6) := ⟨⟨by decide +kernel, by decide +kernel⟩, List.mem_of_getElem? (i := 12) (by decide +kernel), List.mem_of_getElem? (i := 191) (by decide +kernel), List.mem_of_getElem? (i := 192) (by decide +kernel)⟩
theorem lw_p9 : lw_okq (⟨"VaultMovements", "hoursToRunDown", "(IZ)I"⟩, 6) := ⟨⟨by decide +kernel, by decide +kernel⟩, List.mem_of_getElem? (i := 12) (by decide +kernel), List.mem_of_getElem? (i := 198) (by decide +kernel), List.mem_of_getElem? (i := 199) (by decide +kernel)⟩
theorem lw_p10 : lw_okq (⟨"VaultMovements", "save", "()V"⟩, 6) := ⟨⟨by decide +kernel, by decide +kernel⟩, List.mem_of_getElem? (i := 12) (by decide +kernel), List.mem_of_getElem? (i := 234) (by decide +kernel), List.mem_of_getElem? (i := 235) (by decide +kernel)⟩
theorem lw_p11 : lw_okq (⟨"VaultMovements", "countEarlyTry", "()V"⟩, 6) := ⟨⟨by decide +kernel, by decide +kernel⟩, List.mem_of_getElem? (i := 12) (by decide +kernel), List.mem_of_getElem? (i := 241) (by decide +kernel), List.mem_of_getElem? (i := 242) (by decide +kernel)⟩
theorem lw_p12 : lw_okq (⟨"VaultMovements", "latenessAfter", "(I)I"⟩, 6) := ⟨⟨by decide +kernel, by decide +kernel⟩, List.mem_of_getElem? (i := 12) (by decide +kernel), List.mem_of_getElem? (i := 245) (by decide +kernel), List.mem_of_getElem? (i := 246) (by decide +kernel)⟩
theorem lw_p13 : lw_okq (⟨"VaultMovements", "countOpening", "(I)V"⟩, 6) := ⟨⟨by decide +kernel, by decide +kernel⟩, List.mem_of_getElem? (i := 12) (by decide +kernel), List.mem_of_getElem? (i := 249) (by decide +kernel), List.mem_of_getElem? (i := 250) (by decide +kernel)⟩
theorem lw_p14 : lw_okq (⟨"VaultMovements", "leaveOpen", "()V"⟩, 6) := ⟨⟨by decide +kernel, by decide +kernel⟩, List.mem_of_getElem? (i := 12) (by decide +kernel), List.mem_of_getElem? (i := 253) (by decide +kernel), List.mem_of_getElem? (i := 254) (by decide +kernel)⟩
theorem lw_p15 : lw_okq (⟨"VaultMovements", "property", "(II)I"⟩, 6) := ⟨⟨by decide +kernel, by decide +kernel⟩, List.mem_of_getElem? (i := 12) (by decide +kernel), List.mem_of_getElem? (i := 277) (by decide +kernel), List.mem_of_getElem? (i := 278) (by decide +kernel)⟩
def lw_privs_1 : List (MethodName × Nat) := [(⟨"java/lang/Throwable", "fillInStackTrace", "(I)Ljava/lang/Throwable;"⟩, 6), (⟨"VaultMovements", "number", "(I)I"⟩, 6), (⟨"VaultMovements", "today", "()I"⟩, 6), (⟨"VaultMovements", "timeOfDay", "()I"⟩, 6), (⟨"VaultMovements", "hoursToOpening", "()I"⟩, 6), (⟨"VaultMovements", "hoursToWait", "()I"⟩, 6), (⟨"VaultMovements", "hoursToOpen", "(I)I"⟩, 6), (⟨"VaultMovements", "isLocked", "()Z"⟩, 6), (⟨"VaultMovements", "goes", "(I)Z"⟩, 6), (⟨"VaultMovements", "hoursToRunDown", "(IZ)I"⟩, 6), (⟨"VaultMovements", "save", "()V"⟩, 6), (⟨"VaultMovements", "countEarlyTry", "()V"⟩, 6), (⟨"VaultMovements", "latenessAfter", "(I)I"⟩, 6), (⟨"VaultMovements", "countOpening", "(I)V"⟩, 6), (⟨"VaultMovements", "leaveOpen", "()V"⟩, 6), (⟨"VaultMovements", "property", "(II)I"⟩, 6)]
theorem lw_r1 : ∀ q ∈ lw_privs_1, lw_okq q := List.forall_mem_cons.mpr ⟨lw_p0, List.forall_mem_cons.mpr ⟨lw_p1, List.forall_mem_cons.mpr ⟨lw_p2, List.forall_mem_cons.mpr ⟨lw_p3, List.forall_mem_cons.mpr ⟨lw_p4, List.forall_mem_cons.mpr ⟨lw_p5, List.forall_mem_cons.mpr ⟨lw_p6, List.forall_mem_cons.mpr ⟨lw_p7, List.forall_mem_cons.mpr ⟨lw_p8, List.forall_mem_cons.mpr ⟨lw_p9, List.forall_mem_cons.mpr ⟨lw_p10, List.forall_mem_cons.mpr ⟨lw_p11, List.forall_mem_cons.mpr ⟨lw_p12, List.forall_mem_cons.mpr ⟨lw_p13, List.forall_mem_cons.mpr ⟨lw_p14, List.forall_mem_cons.mpr ⟨lw_p15, fun _ h => absurd h List.not_mem_nil⟩⟩⟩⟩⟩⟩⟩⟩⟩⟩⟩⟩⟩⟩⟩⟩
theorem lw_p16 : lw_okq (⟨"VaultMovements", "hoursToWind", "(I)I"⟩, 6) := ⟨⟨by decide +kernel, by decide +kernel⟩, List.mem_of_getElem? (i := 12) (by decide +kernel), List.mem_of_getElem? (i := 285) (by decide +kernel), List.mem_of_getElem? (i := 286) (by decide +kernel)⟩
theorem lw_p17 : lw_okq (⟨"VaultMovements", "change", "(II)I"⟩, 6) := ⟨⟨by decide +kernel, by decide +kernel⟩, List.mem_of_getElem? (i := 12) (by decide +kernel), List.mem_of_getElem? (i := 319) (by decide +kernel), List.mem_of_getElem? (i := 320) (by decide +kernel)⟩
theorem lw_p18 : lw_okq (⟨"VaultMovements", "someMovementRuns", "()Z"⟩, 6) := ⟨⟨by decide +kernel, by decide +kernel⟩, List.mem_of_getElem? (i := 12) (by decide +kernel), List.mem_of_getElem? (i := 330) (by decide +kernel), List.mem_of_getElem? (i := 331) (by decide +kernel)⟩
theorem lw_p19 : lw_okq (⟨"VaultMovements", "passHour", "()V"⟩, 6) := ⟨⟨by decide +kernel, by decide +kernel⟩, List.mem_of_getElem? (i := 12) (by decide +kernel), List.mem_of_getElem? (i := 387) (by decide +kernel), List.mem_of_getElem? (i := 388) (by decide +kernel)⟩
theorem lw_p20 : lw_okq (⟨"VaultMovements", "runHour", "(I)V"⟩, 6) := ⟨⟨by decide +kernel, by decide +kernel⟩, List.mem_of_getElem? (i := 12) (by decide +kernel), List.mem_of_getElem? (i := 391) (by decide +kernel), List.mem_of_getElem? (i := 392) (by decide +kernel)⟩
theorem lw_p21 : lw_okq (⟨"VaultMovements", "movementsRunDown", "()I"⟩, 6) := ⟨⟨by decide +kernel, by decide +kernel⟩, List.mem_of_getElem? (i := 12) (by decide +kernel), List.mem_of_getElem? (i := 395) (by decide +kernel), List.mem_of_getElem? (i := 396) (by decide +kernel)⟩
def lw_privs_2 : List (MethodName × Nat) := [(⟨"VaultMovements", "hoursToWind", "(I)I"⟩, 6), (⟨"VaultMovements", "change", "(II)I"⟩, 6), (⟨"VaultMovements", "someMovementRuns", "()Z"⟩, 6), (⟨"VaultMovements", "passHour", "()V"⟩, 6), (⟨"VaultMovements", "runHour", "(I)V"⟩, 6), (⟨"VaultMovements", "movementsRunDown", "()I"⟩, 6)]
theorem lw_r2 : ∀ q ∈ lw_privs_2, lw_okq q := List.forall_mem_cons.mpr ⟨lw_p16, List.forall_mem_cons.mpr ⟨lw_p17, List.forall_mem_cons.mpr ⟨lw_p18, List.forall_mem_cons.mpr ⟨lw_p19, List.forall_mem_cons.mpr ⟨lw_p20, List.forall_mem_cons.mpr ⟨lw_p21, fun _ h => absurd h List.not_mem_nil⟩⟩⟩⟩⟩⟩
def lw_privs : List (MethodName × Nat) := lw_privs_1 ++ (lw_privs_2)
def lw_tbl : List Cond := k2_sels lw_privs ++ tables_1
theorem lw_privs_ok : ∀ q ∈ lw_privs, lw_okq q := by
  show ∀ q ∈ lw_privs_1 ++ (lw_privs_2), lw_okq q
  exact List.forall_mem_append.mpr ⟨lw_r1, lw_r2⟩
/-- the streams that the claim lets the run draw from -/
abbrev lw_cs : List Choice := [Jvm.Choice.named "NaN.bits"]
theorem lw_bits : nanBits ∈ lw_cs := by first | decide | exact List.mem_cons_self | simp [lw_cs, nanBits]
end
section
/-! ===== BEGIN words of one list among another's, by their places ===== -/
theorem goodIn_r {big : List Cond} (ws : List Cond) (ps : List Nat) (hp : ws = ps.filterMap (fun i => big[i]?)) (h : ws.all goodWord = true) : GoodIn big ws := by
  intro w hw
  have h1 := List.all_eq_true.mp h w hw
  rw [hp] at hw
  obtain ⟨i, -, hi⟩ := List.mem_filterMap.mp hw
  have hm : w ∈ big := by first | exact List.mem_of_getElem? hi | exact List.getElem?_mem hi
  exact ⟨hm, good_of_word h1⟩
theorem goodIn_app {big a b : List Cond} (ha : GoodIn big a) (hb : GoodIn big b) : GoodIn big (a ++ b) := fun w h => (List.mem_append.mp h).elim (ha w) (hb w)
theorem goodIn_ca {big a b : List Cond} {c : Cond} (ha : GoodIn big (c :: a)) (hb : GoodIn big b) : GoodIn big (c :: (a ++ b)) := fun w h => (List.mem_cons.mp h).elim (fun e => ha w (List.mem_cons.mpr (Or.inl e))) (fun h => (List.mem_append.mp h).elim (fun h => ha w (List.mem_cons.mpr (Or.inr h))) (hb w))
theorem goodIn_sub {big ws : List Cond} (hm : ∀ w ∈ ws, w ∈ big) (h : ws.all goodWord = true) : GoodIn big ws := fun w hw => ⟨hm w hw, good_of_word (List.all_eq_true.mp h w hw)⟩
/-! ===== END ===== -/

/-! ===== BEGIN exceptions that leave a method, and their catching by the caller (launches without stack traces) ===== -/
section VXA
/-! The laws vx_back, vx_callV, vx_callS, vx_callSW, vx_throw0, vx_throwS follow proofs of the library, with one case more: JvmDerived/Free/Laws.lean (Back.of_free), Shelf42/LK1.lean (callV, callS), Shelf/KitTraced.lean (throwNew0V, throwNewS). -/
/-- where a method has thrown q: the class by its name, the cell, what was written, the world -/
def vx_T (XC : String → State → State → Prop) (st : State) (q : Addr) (t : State) (mc ms : Nat) (free : Addr → Prop) : Prop :=
  ∃ (E : String) (ce : Cell) (L : List Loc), XC E st t ∧ t.heap[q]? = some ce ∧ ce.vm = .none ∧ st.vm.findClass E = some ce.cls ∧ st.WarmedH t.vm ∧ st.sameButNew ({ t with vm := st.vm } : State) L mc ms ∧ ∀ z ∈ L, free z.base
def vx_Q (Qc : Array Value → State → Outcome → State → Prop) (XC : String → State → State → Prop) (mc ms : Nat) (free : Addr → Prop) : Array Value → State → Outcome → State → Prop := fun a st o t =>
  (Qc a st o t ∧ ∃ L, FrameEnd st o t L mc ms ∧ ∀ q ∈ L, free q.base) ∨ ∃ q, o = .threw q ∧ vx_T XC st q t mc ms free
/-- a callee that returns or throws -/
def vx_Met (l : Launch) (y : MethodName) (ws : List Cond) (rm : Room) (Pc : Array Value → State → Prop) (Qc : Array Value → State → Outcome → State → Prop) (XC : String → State → State → Prop) (mc ms : Nat) (free : Addr → Prop) : Prop :=
  MetFree l y (headSpec ws rm) Pc (fun _ _ _ _ _ => True) (vx_Q Qc XC mc ms free)
def vx_Post (XC : String → State → State → Prop) (mc ms : Nat) (free : Addr → Prop) : Pt → Array Value → Addr → Pt → Prop := fun A a q B =>
  ∃ (g : JFrame) (mk : MethodId) (t : State) (L : List Loc) (E : String) (ce : Cell), B.U.heap = t.heap ∧ B.U.vm = t.vm ∧ XC E (A.U.calling g mk a) t ∧ t.heap[q]? = some ce ∧ ce.vm = .none ∧ A.U.vm.findClass E = some ce.cls ∧ B.locs = A.locs ++ L ∧ (∀ z ∈ L, free z.base) ∧ B.cells = A.cells + mc ∧ B.slots = A.slots + ms
def vx_Back (l : Launch) (R : Room) (p : Program) (e : Env) (below : List Frame) (s : State) (sargs : Array Value) (y : MethodName) (len W9 : Nat)
    (Pre : Pt → Array Value → Prop) (Post : Pt → Array Value → Option Value → Pt → Prop) (PostX : Pt → Array Value → Addr → Pt → Prop) : Prop :=
  ∀ (m : MethodId) (meth : Method) (c : Code) (A : Pt) (g : JFrame) (ig : Instr) (mk : MethodId) (a : Array Value),
    Stand p l e R s m sargs below meth c A.U A.locs A.cells A.slots → g.method = m → g.locals.size = c.maxLocals → decode c.code g.pc = .ok (ig, len) →
    2 * g.monitorRoom + (g.stack.map fun v => v.category).sum ≤ W9 → A.U.methodNamed? y = some mk → Pre A a →
    (∃ (v : Option Value) (B : Pt), Stand p l e R s m sargs below meth c B.U B.locs B.cells B.slots ∧ Post A a v B ∧
      Steps p.tables e below (doInvoke e (A.U.setTop g) [] mk a).1 (B.U.setTop { g with pc := g.pc + len, stack := v.toList ++ g.stack })) ∨
    (∃ (q : Addr) (B : Pt), Stand p l e R s m sargs below meth c B.U B.locs B.cells B.slots ∧ PostX A a q B ∧
      Steps p.tables e below (doInvoke e (A.U.setTop g) [] mk a).1 ((B.U.setTop g).pushFrame (.throwing q)))
section Payer
variable {l : Launch} {R : Room} {p : Program} {e : Env} {below : List Frame} {s : State} {sargs : Array Value} {y : MethodName} {len W9 : Nat}
theorem vx_back {ws : List Cond} {rm : Room} {Pc : Array Value → State → Prop} {Qc : Array Value → State → Outcome → State → Prop} {XC : String → State → State → Prop} {mc ms : Nat} {free : Addr → Prop} {bytes : ByteArray} {maxL : Nat} {ret : Option FieldType}
    (hM : vx_Met l y ws rm Pc Qc XC mc ms free) (hblind : FrameBlind Pc) (hrc : rm.cells = mc) (hrs : rm.slots = ms)
    (hframes : rm.frames + 1 ≤ R.frames) (hlocals : W9 + (maxL + 11) + rm.locals ≤ R.locals)
    (hws : ∀ w ∈ ws, ∀ a' U, s.WarmedH U.vm → w.before a' U = true) (hcode : Cond.code y bytes maxL ret ∈ ws) (hinit : ∀ a' U, s.WarmedH U.vm → (Cond.initialized y.cls).before a' U = true) :
    vx_Back l R p e below s sargs y len W9 (PreOf R mc ms Pc) (PostOf Qc mc ms free) (vx_Post XC mc ms free) := by
  intro m meth c A g ig mk a X hg hsize hdg hW hn hp
  have h1 : (headSpec ws rm).pre.before a A.U = true := atoms_intro fun w hw => hws w hw _ _ X.warmed
  have h2 : (Cond.code y bytes maxL ret).before a A.U = true := hws _ hcode _ _ X.warmed
  have h3 : (Cond.initialized y.cls).before a A.U = true := hinit _ _ X.warmed
  have h4 : A.cells + (headSpec ws rm).room.cells ≤ R.cells := by rw [show (headSpec ws rm).room.cells = mc from hrc]; exact hp.1
  have h5 : A.slots + (headSpec ws rm).room.slots ≤ R.slots := by rw [show (headSpec ws rm).room.slots = ms from hrs]; exact hp.2.1
  have hPc : Pc a (A.U.calling g mk a) := hblind _ _ _ _ hp.2.2
  obtain ⟨U, Ls, c0, s0⟩ := A
  dsimp only [Pt.U, Pt.locs, Pt.cells, Pt.slots] at h1 h2 h3 h4 h5 X hn hPc ⊢
  obtain ⟨methY, cY, hmY, hcY, -, hlY, -, -, -, -⟩ := Cond.code_spec hn h2
  obtain ⟨kY, hkY, -⟩ := className_of_methodNamed hn
  have hinitY : kY.init = .initialized := Cond.initialized_spec (findClass_of_methodNamed hn) hkY h3
  have h : At U g.method c below := by rw [hg]; exact X.here
  have hlocals9 : W9 + (maxL + 11) + (headSpec ws rm).room.locals ≤ R.locals := hlocals
  have happ : (headSpec ws rm).appliesLoose y e.platform (U.calling g mk a) = true :=
    Spec.appliesLoose_calling (g := g) h hdg hn hkY hinitY
      (X.room_calling (g := g) (R' := (headSpec ws rm).room) hsize hmY hcY hframes (by rw [hlY]; omega) h4 h5) h1
  obtain ⟨mid, hmid⟩ := h.above
  have hfr : (U.setTop g).frames = (.java g :: mid) ++ below := by rw [State.frames_setTop' g h.top, hmid]; rfl
  obtain ⟨o, s₂, hsteps, -, hend, hq⟩ := Steps.callFree hM p X.admits X.cas X.clock (acts := []) hfr happ hPc trivial
  have hq' : vx_Q Qc XC mc ms free a (U.calling g mk a) o s₂ := hq
  rw [State.frames_setTop' g h.top] at hend
  obtain ⟨g₀, hg0⟩ := Option.isSome_iff_exists.mp h.top
  obtain ⟨r, hr⟩ := State.topJava?_eq_some.mp hg0
  have hr' : (({ U with heap := s₂.heap, slotsUsed := s₂.slotsUsed } : State).setVm s₂.vm).frames = .java g₀ :: r := hr
  rcases hq' with ⟨hqc, L, hfe, hL⟩ | ⟨q, rfl, E, ce, L, hx, hce, hcv, hcl, hW₂, hsm, hL⟩
  · obtain ⟨⟨v, rfl⟩, hW₂, e2, q2, q3, q4, q5, q6⟩ := id hfe
    have e3 : s₂ = ({ (U.calling g mk a).setFrames s₂.frames with heap := s₂.heap, slotsUsed := s₂.slotsUsed } : State).setVm s₂.vm := by
      have : s₂ = ({ s₂ with vm := (U.calling g mk a).vm } : State).setVm s₂.vm := rfl
      rw [e2] at this
      exact this
    obtain ⟨c₂, i₂, len₂, hc₂, hd₂, hf₂⟩ := hend
    have hW' : U.WarmedH s₂.vm := hW₂
    have hcc : c₂ = c := by
      have h1 : s₂.code? g.method = U.code? g.method := by
        rw [State.code?_eq, State.code?_eq, hW'.alike.method?]
      exact Option.some.inj (hc₂.symm.trans (h1.trans h.code))
    subst hcc
    have hlen : len₂ = len := by rw [hdg] at hd₂; cases hd₂; rfl
    subst hlen
    have hs₂ : s₂ = (({ U with heap := s₂.heap, slotsUsed := s₂.slotsUsed } : State).setVm s₂.vm).setTop { g with pc := g.pc + len₂, stack := v.toList ++ g.stack } := by
      refine e3.trans ?_
      rw [hf₂, State.calling_eq h.top, State.setFrames_setFrames, State.setTop_of_frames _ hr', hr]
      rfl
    have hsame : U.sameButNew ({ U with heap := s₂.heap, slotsUsed := s₂.slotsUsed } : State) L mc ms := by
      refine ⟨?_, q2, q3, q4, q5, q6⟩
      obtain ⟨t, ht, -⟩ := State.frames_cons hr
      show ({ U with heap := s₂.heap, slotsUsed := s₂.slotsUsed } : State) = { U.setFrames U.frames with heap := s₂.heap, slotsUsed := s₂.slotsUsed }
      rw [State.setFrames_self ht]
    subst hg
    refine Or.inl ⟨v, ⟨(({ U with heap := s₂.heap, slotsUsed := s₂.slotsUsed } : State).setVm s₂.vm), Ls ++ L, c0 + mc, s0 + ms⟩,
      ⟨X.admits, X.cas, X.clock, X.frames, X.room, X.hears, X.method, X.code, (X.here.setHeapUsed s₂.heap s₂.slotsUsed).setVm hW'.alike, X.tail, State.WarmedH.trans X.warmed hW', X.limits, X.bytes, X.same.trans (hsame.setVm s.vm)⟩,
      ⟨g, mk, s₂, L, rfl, rfl, hqc, rfl, hL, rfl, rfl⟩, ?_⟩
    show Steps p.tables e below _ ((({ U with heap := s₂.heap, slotsUsed := s₂.slotsUsed } : State).setVm s₂.vm).setTop { g with pc := g.pc + len₂, stack := v.toList ++ g.stack })
    rw [← hs₂]
    exact hsteps
  · obtain ⟨e2, q2, q3, q4, q5, q6⟩ := id hsm
    have e3 : s₂ = ({ (U.calling g mk a).setFrames s₂.frames with heap := s₂.heap, slotsUsed := s₂.slotsUsed } : State).setVm s₂.vm := by
      have : s₂ = ({ s₂ with vm := (U.calling g mk a).vm } : State).setVm s₂.vm := rfl
      rw [e2] at this
      exact this
    have hf₂ : s₂.frames = .throwing q :: .java g :: U.frames.tail := hend
    have hW' : U.WarmedH s₂.vm := hW₂
    have hs₂ : s₂ = ((({ U with heap := s₂.heap, slotsUsed := s₂.slotsUsed } : State).setVm s₂.vm).setTop g).pushFrame (.throwing q) := by
      refine e3.trans ?_
      rw [hf₂, State.calling_eq h.top, State.setFrames_setFrames, State.pushFrame, State.frames_setTop _ hr', State.setTop_of_frames _ hr', State.setFrames_setFrames, hr]
      rfl
    have hsame : U.sameButNew ({ U with heap := s₂.heap, slotsUsed := s₂.slotsUsed } : State) L mc ms := by
      refine ⟨?_, q2, q3, q4, q5, q6⟩
      obtain ⟨t, ht, -⟩ := State.frames_cons hr
      show ({ U with heap := s₂.heap, slotsUsed := s₂.slotsUsed } : State) = { U.setFrames U.frames with heap := s₂.heap, slotsUsed := s₂.slotsUsed }
      rw [State.setFrames_self ht]
    subst hg
    refine Or.inr ⟨q, ⟨(({ U with heap := s₂.heap, slotsUsed := s₂.slotsUsed } : State).setVm s₂.vm), Ls ++ L, c0 + mc, s0 + ms⟩,
      ⟨X.admits, X.cas, X.clock, X.frames, X.room, X.hears, X.method, X.code, (X.here.setHeapUsed s₂.heap s₂.slotsUsed).setVm hW'.alike, X.tail, State.WarmedH.trans X.warmed hW', X.limits, X.bytes, X.same.trans (hsame.setVm s.vm)⟩,
      ⟨g, mk, s₂, L, E, ce, rfl, rfl, hx, hce, hcv, hcl, rfl, hL, rfl, rfl⟩, ?_⟩
    show Steps p.tables e below _ (((({ U with heap := s₂.heap, slotsUsed := s₂.slotsUsed } : State).setVm s₂.vm).setTop g).pushFrame (.throwing q))
    rw [← hs₂]
    exact hsteps
end Payer
section Calls
variable {p : Program} {l : Launch} {e : Env} {R : Room} {s : State} {m : MethodId} {args : Array Value} {below : List Frame} {meth : Method} {c : Code} {T : State} {locs : List Loc} {cells slots : Nat}
theorem vx_callV (X : Stand p l e R s m args below meth c T locs cells slots) (hexec : p.tables.exec = Jvm.exec) {own C : String} {index : Nat} {y : MethodName} {bytes : ByteArray} {maxL : Nat} {ret : Option FieldType}
    (hown : s.vm.findClass own = some m.cls) (hlink : (Cond.methodLink own index y).before args s = true) (hinst : (Cond.instanceMethod y).before args s = true) (hsel : (Cond.selects C y y).before args s = true)
    (hcode : (Cond.code y bytes maxL ret).before args s = true) (hy : y.cls ≠ "java/lang/invoke/MethodHandle" ∧ y.cls ≠ "java/lang/invoke/VarHandle")
    {W9 : Nat} {Pre : Pt → Array Value → Prop} {Post : Pt → Array Value → Option Value → Pt → Prop} {PostX : Pt → Array Value → Addr → Pt → Prop} (hK : vx_Back l R p e below s args y 3 W9 Pre Post PostX)
    {b : Addr} {cellB : Cell} (hcell : T.heap[b]? = some cellB) (hobj : cellB.vm.isStatics = false) (hcls : s.vm.findClass C = some cellB.cls)
    {g : JFrame} (hg : g.method = m) (hsize : g.locals.size = c.maxLocals) {argsL rest : List Value} (hlen : ∀ sig, parseMethodDescriptor y.desc = some sig → argsL.length = sig.parameters.length)
    (hstack : g.stack = argsL.reverse ++ .ref b :: rest) (hW : 2 * g.monitorRoom + (rest.map fun v => v.category).sum ≤ W9) (hdg : decode c.code g.pc = .ok (.invokevirtual index, 3))
    (hpre : ∀ vm₁, s.WarmedH vm₁ → Pre ⟨T.setVm vm₁, locs, cells, slots⟩ (Value.ref b :: argsL).toArray) :
    (∃ (v : Option Value) (vm₁ : Vm) (B : Pt), s.WarmedH vm₁ ∧ Stand p l e R s m args below meth c B.U B.locs B.cells B.slots ∧ Post ⟨T.setVm vm₁, locs, cells, slots⟩ (Value.ref b :: argsL).toArray v B ∧
      ∀ target, Steps p.tables e below (B.U.setTop { g with pc := g.pc + 3, stack := v.toList ++ rest }) target → Steps p.tables e below (T.setTop g) target) ∨
    (∃ (q : Addr) (vm₁ : Vm) (B : Pt), s.WarmedH vm₁ ∧ Stand p l e R s m args below meth c B.U B.locs B.cells B.slots ∧ PostX ⟨T.setVm vm₁, locs, cells, slots⟩ (Value.ref b :: argsL).toArray q B ∧
      Steps p.tables e below (T.setTop g) ((B.U.setTop { g with stack := rest }).pushFrame (.throwing q))) := by
  obtain ⟨mk, methM, hnamed, hmethM, hstM, habM⟩ := Cond.instanceMethod_spec hinst
  obtain ⟨methM', cM, hmethM', -, -, -, -, -, -, hsigM⟩ := Cond.code_spec hnamed hcode
  cases hmethM.symm.trans hmethM'
  obtain ⟨c2, r2, m2, q1, q2, q3, q4, kP, hkP, hkPi⟩ := Cond.selects_spec hsel
  cases hcls.symm.trans q1
  cases (State.methodFound?_of_named hnamed hy).symm.trans q2
  cases hnamed.symm.trans q3
  have hselP : selectMethod e.platform s.vm cellB.cls mk = .method mk := by rw [Launch.admits_selectMethod X.admits]; exact q4
  obtain ⟨vm₁, X₁, hstep₁⟩ := X.invokevirtual hexec hown hlink hnamed hmethM hstM hkP hkPi hy (a := b) (cell := cellB) hcell
    (fun z h => by rw [h] at hobj; cases hobj) hselP hmethM habM hkP hkPi (g := g) hg (argsL := argsL) (rest := rest) (hlen _ hsigM) hstack hdg
  rcases hK m meth c ⟨T.setVm vm₁, locs, cells, slots⟩ { g with stack := rest } (.invokevirtual index) mk (Value.ref b :: argsL).toArray X₁ hg hsize hdg hW (X₁.named hnamed) (hpre vm₁ X₁.warmed) with ⟨v, B, X', hpost, hsteps⟩ | ⟨q, B, X', hpost, hsteps⟩
  · exact Or.inl ⟨v, vm₁, B, X₁.warmed, X', hpost, fun target h => hstep₁ _ fun acts => by rw [doInvoke_state]; exact hsteps.trans h⟩
  · exact Or.inr ⟨q, vm₁, B, X₁.warmed, X', hpost, hstep₁ _ fun acts => by rw [doInvoke_state]; exact hsteps⟩
theorem vx_callS (X : Stand p l e R s m args below meth c T locs cells slots) (hexec : p.tables.exec = Jvm.exec) {own : String} {index : Nat} {y : MethodName} {bytes : ByteArray} {maxL : Nat} {ret : Option FieldType}
    (hown : s.vm.findClass own = some m.cls) (hlink : (Cond.methodLink own index y).before args s = true) (hstat : (Cond.static y).before args s = true) (hinit : (Cond.initialized y.cls).before args s = true)
    (hcode : (Cond.code y bytes maxL ret).before args s = true) (hy : y.cls ≠ "java/lang/invoke/MethodHandle" ∧ y.cls ≠ "java/lang/invoke/VarHandle")
    {W9 : Nat} {Pre : Pt → Array Value → Prop} {Post : Pt → Array Value → Option Value → Pt → Prop} {PostX : Pt → Array Value → Addr → Pt → Prop} (hK : vx_Back l R p e below s args y 3 W9 Pre Post PostX)
    {g : JFrame} (hg : g.method = m) (hsize : g.locals.size = c.maxLocals) {argsL rest : List Value} (hlen : ∀ sig, parseMethodDescriptor y.desc = some sig → argsL.length = sig.parameters.length)
    (hstack : g.stack = argsL.reverse ++ rest) (hW : 2 * g.monitorRoom + (rest.map fun v => v.category).sum ≤ W9) (hdg : decode c.code g.pc = .ok (.invokestatic index, 3))
    (hpre : ∀ vm₁, s.WarmedH vm₁ → Pre ⟨T.setVm vm₁, locs, cells, slots⟩ argsL.toArray) :
    (∃ (v : Option Value) (vm₁ : Vm) (B : Pt), s.WarmedH vm₁ ∧ Stand p l e R s m args below meth c B.U B.locs B.cells B.slots ∧ Post ⟨T.setVm vm₁, locs, cells, slots⟩ argsL.toArray v B ∧
      ∀ target, Steps p.tables e below (B.U.setTop { g with pc := g.pc + 3, stack := v.toList ++ rest }) target → Steps p.tables e below (T.setTop g) target) ∨
    (∃ (q : Addr) (vm₁ : Vm) (B : Pt), s.WarmedH vm₁ ∧ Stand p l e R s m args below meth c B.U B.locs B.cells B.slots ∧ PostX ⟨T.setVm vm₁, locs, cells, slots⟩ argsL.toArray q B ∧
      Steps p.tables e below (T.setTop g) ((B.U.setTop { g with stack := rest }).pushFrame (.throwing q))) := by
  obtain ⟨mk, hnamed⟩ := Cond.code_named hcode
  obtain ⟨methM, cM, hmethM, -, -, -, -, -, -, hsigM⟩ := Cond.code_spec hnamed hcode
  have hstatic : methM.isStatic = true := Cond.static_spec hnamed hmethM hstat
  obtain ⟨kP, hkP, -⟩ := className_of_methodNamed hnamed
  have hinitP : kP.init = .initialized := Cond.initialized_spec (findClass_of_methodNamed hnamed) hkP hinit
  obtain ⟨vm₁, X₁, hstep₁⟩ := X.invokestatic hexec hown hlink hnamed hmethM hstatic hkP hinitP hy (g := g) hg (argsL := argsL) (rest := rest) (hlen _ hsigM) hstack hdg
  rcases hK m meth c ⟨T.setVm vm₁, locs, cells, slots⟩ { g with stack := rest } (.invokestatic index) mk argsL.toArray X₁ hg hsize hdg hW (X₁.named hnamed) (hpre vm₁ X₁.warmed) with ⟨v, B, X', hpost, hsteps⟩ | ⟨q, B, X', hpost, hsteps⟩
  · exact Or.inl ⟨v, vm₁, B, X₁.warmed, X', hpost, fun target h => hstep₁ _ fun acts => by rw [doInvoke_state]; exact hsteps.trans h⟩
  · exact Or.inr ⟨q, vm₁, B, X₁.warmed, X', hpost, hstep₁ _ fun acts => by rw [doInvoke_state]; exact hsteps⟩
end Calls
theorem vx_cls {s : State} {T : State} {vm₁ : Vm} {E : String} {k : ClassId} (hW : s.WarmedH vm₁) (h : (T.setVm vm₁).vm.findClass E = some k) : s.vm.findClass E = some k := by
  have h1 : vm₁.findClass E = some k := h
  rw [hW.alike.findClass] at h1
  exact h1
/-- the method's frame g, with q thrown over it -/
def vx_W (p : Program) (l : Launch) (e : Env) (R : Room) (s : State) (m : MethodId) (args : Array Value) (below : List Frame) (meth : Method) (c : Code) (H : Heap) (locs : List Loc) (cells slots : Nat) (Q : State → Prop) (g : JFrame) (q : Addr) : Prop :=
  ∀ T : State, T.heap = H → Stand p l e R s m args below meth c T locs cells slots → ∃ t, Steps p.tables e below ((T.setTop g).pushFrame (.throwing q)) t ∧ Q t
def vx_Run (p : Program) (l : Launch) (e : Env) (R : Room) (s : State) (m : MethodId) (args : Array Value) (below : List Frame) (meth : Method) (c : Code) (H : Heap) (locs : List Loc) (cells slots mc ms : Nat) (g : JFrame) (rest : List Value) (Qa : State → Outcome → State → Prop) (XC : String → State → State → Prop) (free : Addr → Prop) : Prop :=
  ∀ T : State, T.heap = H → Stand p l e R s m args below meth c T locs cells slots →
    (∃ (v : Option Value) (st₀ t T' : State) (L : List Loc), st₀.heap = H ∧ Stand p l e R s m args below meth c T' (locs ++ L) (cells + mc) (slots + ms) ∧ (∀ q ∈ L, free q.base) ∧ T'.heap = t.heap ∧ T'.vm = t.vm ∧ Qa st₀ (.returned v) t ∧
      Goes p e below T g T' { g with pc := g.pc + 3, stack := v.toList ++ rest }) ∨
    (∃ (q : Addr) (st₀ t T' : State) (L : List Loc) (E : String) (ce : Cell), st₀.heap = H ∧ Stand p l e R s m args below meth c T' (locs ++ L) (cells + mc) (slots + ms) ∧ (∀ z ∈ L, free z.base) ∧ T'.heap = t.heap ∧ T'.vm = t.vm ∧ XC E st₀ t ∧ t.heap[q]? = some ce ∧ ce.vm = .none ∧ s.vm.findClass E = some ce.cls ∧
      Steps p.tables e below (T.setTop g) ((T'.setTop { g with stack := rest }).pushFrame (.throwing q)))
def vx_X {S : Type} (px : S → Prop) (B : String → S → State → Prop) (A : Nat → Prop) : String → State → State → Prop := fun E st t => ∃ u : S, px u ∧ B E u t ∧ va_F A st t
section Runs
variable {p : Program} {l : Launch} {e : Env} {R : Room} {s : State} {m : MethodId} {args : Array Value} {below : List Frame} {meth : Method} {c : Code} {H : Heap} {locs : List Loc} {cells slots : Nat}
variable {y : MethodName} {bytes cc : ByteArray} {maxL nL mc ms n index : Nat} {ret : Option FieldType} {ws : List Cond} {rm : Room} {Pc : Array Value → State → Prop} {Qc : Array Value → State → Outcome → State → Prop} {XC : String → State → State → Prop} {free : Addr → Prop} {Ts : List Cond} {own C : String} {b : Addr} {As rest : List Value} {g : JFrame}
theorem vx_callBack (cb : CallB R s args own index y bytes maxL ret ws rm mc ms n) (hM : vx_Met l y ws rm Pc Qc XC mc ms free) (hbl : FrameBlind Pc) : vx_Back l R p e below s args y 3 8 (PreOf R mc ms Pc) (PostOf Qc mc ms free) (vx_Post XC mc ms free) := by
  obtain ⟨hrc, hrs, hfr, hlo, hws, hcw, -, hini, -⟩ := cb
  exact vx_back (bytes := bytes) (maxL := maxL) (ret := ret) hM hbl hrc hrs hfr hlo hws hcw (fun a' U hW => word_at hW (Or.inl (by first | rfl | simp [Cond.onTables, Cond.keeps, Cond.steady])) hini)
theorem vx_runV (S : CallFix p m c cc nL s args Ts own) (hM : vx_Met l y ws rm Pc Qc XC mc ms free) (cw : CallW R s args own C index y bytes maxL ret ws rm mc ms n) (hp : PreV s H C b Pc As)
    (hg : g.method = m) (hn : As.length = n) (hsize : g.locals.size = nL) (hstack : g.stack = As.reverse ++ .ref b :: rest) (hW : 2 * g.monitorRoom + (rest.map fun v => v.category).sum ≤ 8) (hdg : decode cc g.pc = .ok (.invokevirtual index, 3)) (hf : cells + mc ≤ R.cells ∧ slots + ms ≤ R.slots) :
    vx_Run p l e R s m args below meth c H locs cells slots mc ms g rest (Qc (Value.ref b :: As).toArray) XC free := by
  have hK : vx_Back l R p e below s args y 3 8 (PreOf R mc ms Pc) (PostOf Qc mc ms free) (vx_Post XC mc ms free) := vx_callBack cw.1 hM hp.1
  obtain ⟨⟨-, -, -, -, -, -, hcode, -, hy, hlen, hl⟩, hin, hse⟩ := cw
  obtain ⟨hx, hb, hml, ho, -⟩ := S
  obtain ⟨-, ⟨cellB, hcB, hoB, hclB⟩, hPc⟩ := hp
  intro T hT X
  rcases vx_callV X hx (C := C) (bytes := bytes) (maxL := maxL) (ret := ret) ho hl hin hse hcode hy hK (by rw [hT]; exact hcB) hoB hclB hg (hsize.trans hml.symm) (argsL := As) (rest := rest) (fun sig h => hn.trans (hlen sig h)) hstack hW (by rw [hb]; exact hdg)
    (fun vm₁ hW₁ => ⟨hf.1, hf.2, hPc (T.setVm vm₁) hT hW₁⟩) with ⟨v, vm₁, ⟨U', l2, c2, s2⟩, hW₁, X', ⟨g', mk, t, L, e1, e2, hq, h1, hL, h2, h3⟩, st⟩ | ⟨q, vm₁, ⟨U', l2, c2, s2⟩, hW₁, X', ⟨g', mk, t, L, E, ce, e1, e2, hq, hce, hcv, hcl, h1, hL, h2, h3⟩, st⟩
  · dsimp only [Pt.U, Pt.locs, Pt.cells, Pt.slots] at X' e1 e2 h1 h2 h3 st
    subst h1; subst h2; subst h3
    exact Or.inl ⟨v, (T.setVm vm₁).calling g' mk (Value.ref b :: As).toArray, t, U', L, hT, X', hL, e1, e2, hq, st⟩
  · dsimp only [Pt.U, Pt.locs, Pt.cells, Pt.slots] at X' e1 e2 h1 h2 h3 st hcl
    subst h1; subst h2; subst h3
    exact Or.inr ⟨q, (T.setVm vm₁).calling g' mk (Value.ref b :: As).toArray, t, U', L, E, ce, hT, X', hL, e1, e2, hq, hce, hcv, vx_cls hW₁ hcl, st⟩
theorem vx_runS (S : CallFix p m c cc nL s args Ts own) (hM : vx_Met l y ws rm Pc Qc XC mc ms free) (cw : CallB R s args own index y bytes maxL ret ws rm mc ms n ∧ (Cond.static y).before args s = true) (hp : PreS s H Pc As)
    (hg : g.method = m) (hn : As.length = n) (hsize : g.locals.size = nL) (hstack : g.stack = As.reverse ++ rest) (hW : 2 * g.monitorRoom + (rest.map fun v => v.category).sum ≤ 8) (hdg : decode cc g.pc = .ok (.invokestatic index, 3)) (hf : cells + mc ≤ R.cells ∧ slots + ms ≤ R.slots) :
    vx_Run p l e R s m args below meth c H locs cells slots mc ms g rest (Qc As.toArray) XC free := by
  have hK : vx_Back l R p e below s args y 3 8 (PreOf R mc ms Pc) (PostOf Qc mc ms free) (vx_Post XC mc ms free) := vx_callBack cw.1 hM hp.1
  obtain ⟨⟨-, -, -, -, -, -, hcode, hini, hy, hlen, hl⟩, hstt⟩ := cw
  obtain ⟨hx, hb, hml, ho, -⟩ := S
  intro T hT X
  rcases vx_callS X hx (bytes := bytes) (maxL := maxL) (ret := ret) ho hl hstt hini hcode hy hK hg (hsize.trans hml.symm) (argsL := As) (rest := rest) (fun sig h => hn.trans (hlen sig h)) hstack hW (by rw [hb]; exact hdg)
    (fun vm₁ hW₁ => ⟨hf.1, hf.2, hp.2 (T.setVm vm₁) hT hW₁⟩) with ⟨v, vm₁, ⟨U', l2, c2, s2⟩, hW₁, X', ⟨g', mk, t, L, e1, e2, hq, h1, hL, h2, h3⟩, st⟩ | ⟨q, vm₁, ⟨U', l2, c2, s2⟩, hW₁, X', ⟨g', mk, t, L, E, ce, e1, e2, hq, hce, hcv, hcl, h1, hL, h2, h3⟩, st⟩
  · dsimp only [Pt.U, Pt.locs, Pt.cells, Pt.slots] at X' e1 e2 h1 h2 h3 st
    subst h1; subst h2; subst h3
    exact Or.inl ⟨v, (T.setVm vm₁).calling g' mk As.toArray, t, U', L, hT, X', hL, e1, e2, hq, st⟩
  · dsimp only [Pt.U, Pt.locs, Pt.cells, Pt.slots] at X' e1 e2 h1 h2 h3 st hcl
    subst h1; subst h2; subst h3
    exact Or.inr ⟨q, (T.setVm vm₁).calling g' mk As.toArray, t, U', L, E, ce, hT, X', hL, e1, e2, hq, hce, hcv, vx_cls hW₁ hcl, st⟩
end Runs
section Rows
variable {p : Program} {l : Launch} {e : Env} {R : Room} {s : State} {m : MethodId} {args : Array Value} {below : List Frame} {meth : Method} {c : Code} {H : Heap} {locs : List Loc} {cells slots : Nat} {Q : State → Prop}
variable {mc ms : Nat} {free : Addr → Prop} {A0 A1 : Nat → Prop} {H0 : Heap} {a : Array Value} {pc : Nat} {ls : Array Slot} {st0 rest : List Value}
theorem vx_keep {st₀ t T' : State} {L : List Loc} (h0 : st₀.heap = H) (e1 : T'.heap = t.heap) (hS : va_S A0 H0 H locs) (hA : ∀ q, q < H.size → A1 q → A0 q) (hf : ∀ q, free q → A0 q) (hL : ∀ q ∈ L, free q.base) (hF : va_F A1 st₀ t) :
    H.size ≤ T'.heap.size ∧ (∀ q : Nat, q < H.size → ¬ A1 q → T'.heap[q]? = H[q]?) ∧ va_S A0 H0 T'.heap (locs ++ L) := by
  obtain ⟨hz, hk⟩ := hF
  rw [h0] at hz hk
  exact ⟨by rw [e1]; exact hz, fun q h1 h2 => by rw [e1]; exact hk q h1 h2,
    ⟨Nat.le_trans hS.1 (by rw [e1]; exact hz), fun q h1 h2 => by rw [e1, hk q (Nat.lt_of_lt_of_le h1 hS.1) (fun z => h2 (hA q (Nat.lt_of_lt_of_le h1 hS.1) z))]; exact hS.2.1 q h1 h2, fun q hq => by
      rcases List.mem_append.mp hq with h | h
      · exact hS.2.2 q h
      · exact hf _ (hL q h)⟩⟩
theorem vx_calli {S SX : Type} {post : Int32 → S → Prop} {px : SX → Prop} {B : S → State → Prop} {BX : String → SX → State → Prop} {AX : Nat → Prop} (hr : vx_Run p l e R s m args below meth c H locs cells slots mc ms (F0 m pc ls st0) rest (va_Qi post B A1 a) (vx_X px BX AX) free) (hS : va_S A0 H0 H locs) (hA : ∀ q, q < H.size → A1 q → A0 q) (hf : ∀ q, free q → A0 q) (hAX : ∀ q, q < H.size → AX q → A0 q)
    (kx : ∀ (E : String) (ce : Cell) (q9 : Addr) (u : SX) (t : State) (H1 : Heap) (locs1 : List Loc), t.heap = H1 → s.vm.Alike t.vm → px u → BX E u t → H.size ≤ H1.size → (∀ q : Nat, q < H.size → ¬ AX q → H1[q]? = H[q]?) → va_S A0 H0 H1 locs1 → H1[q9]? = some ce → ce.vm = .none → s.vm.findClass E = some ce.cls → vx_W p l e R s m args below meth c H1 locs1 (cells + mc) (slots + ms) Q (F0 m pc ls rest) q9)
    (kk : ∀ (r : Int32) (u : S) (t : State) (H1 : Heap) (locs1 : List Loc), t.heap = H1 → s.vm.Alike t.vm → post r u → B u t → H.size ≤ H1.size → (∀ q : Nat, q < H.size → ¬ A1 q → H1[q]? = H[q]?) → va_S A0 H0 H1 locs1 → W p l e R s m args below meth c H1 locs1 (cells + mc) (slots + ms) Q (F0 m (pc + 3) ls (.int r :: rest))) : W p l e R s m args below meth c H locs cells slots Q (F0 m pc ls st0) := by
  intro T hT X
  rcases hr T hT X with ⟨v, st₀, t, T', L, h0, X', hL, e1, e2, ⟨⟨r, u, hv, hp, hb⟩, hF⟩, st⟩ | ⟨q, st₀, t, T', L, E, ce, h0, X', hL, e1, e2, ⟨u, hp, hb, hF⟩, hce, hcv, hcl, st⟩
  · cases hv
    obtain ⟨k1, k2, k3⟩ := vx_keep h0 e1 hS hA hf hL hF
    obtain ⟨t2, a1, b1⟩ := kk r u t T'.heap (locs ++ L) e1.symm (by rw [← e2]; exact X'.warmed.alike) hp hb k1 k2 k3 T' rfl X'
    exact ⟨t2, st t2 a1, b1⟩
  · obtain ⟨k1, k2, k3⟩ := vx_keep h0 e1 hS hAX hf hL hF
    obtain ⟨t2, a1, b1⟩ := kx E ce q u t T'.heap (locs ++ L) e1.symm (by rw [← e2]; exact X'.warmed.alike) hp hb k1 k2 k3 (by rw [e1]; exact hce) hcv hcl T' rfl X'
    exact ⟨t2, st.trans a1, b1⟩
theorem vx_calll {S SX : Type} {post : Int64 → S → Prop} {px : SX → Prop} {B : S → State → Prop} {BX : String → SX → State → Prop} {AX : Nat → Prop} (hr : vx_Run p l e R s m args below meth c H locs cells slots mc ms (F0 m pc ls st0) rest (va_Ql post B A1 a) (vx_X px BX AX) free) (hS : va_S A0 H0 H locs) (hA : ∀ q, q < H.size → A1 q → A0 q) (hf : ∀ q, free q → A0 q) (hAX : ∀ q, q < H.size → AX q → A0 q)
    (kx : ∀ (E : String) (ce : Cell) (q9 : Addr) (u : SX) (t : State) (H1 : Heap) (locs1 : List Loc), t.heap = H1 → s.vm.Alike t.vm → px u → BX E u t → H.size ≤ H1.size → (∀ q : Nat, q < H.size → ¬ AX q → H1[q]? = H[q]?) → va_S A0 H0 H1 locs1 → H1[q9]? = some ce → ce.vm = .none → s.vm.findClass E = some ce.cls → vx_W p l e R s m args below meth c H1 locs1 (cells + mc) (slots + ms) Q (F0 m pc ls rest) q9)
    (kk : ∀ (r : Int64) (u : S) (t : State) (H1 : Heap) (locs1 : List Loc), t.heap = H1 → s.vm.Alike t.vm → post r u → B u t → H.size ≤ H1.size → (∀ q : Nat, q < H.size → ¬ A1 q → H1[q]? = H[q]?) → va_S A0 H0 H1 locs1 → W p l e R s m args below meth c H1 locs1 (cells + mc) (slots + ms) Q (F0 m (pc + 3) ls (.long r :: rest))) : W p l e R s m args below meth c H locs cells slots Q (F0 m pc ls st0) := by
  intro T hT X
  rcases hr T hT X with ⟨v, st₀, t, T', L, h0, X', hL, e1, e2, ⟨⟨r, u, hv, hp, hb⟩, hF⟩, st⟩ | ⟨q, st₀, t, T', L, E, ce, h0, X', hL, e1, e2, ⟨u, hp, hb, hF⟩, hce, hcv, hcl, st⟩
  · cases hv
    obtain ⟨k1, k2, k3⟩ := vx_keep h0 e1 hS hA hf hL hF
    obtain ⟨t2, a1, b1⟩ := kk r u t T'.heap (locs ++ L) e1.symm (by rw [← e2]; exact X'.warmed.alike) hp hb k1 k2 k3 T' rfl X'
    exact ⟨t2, st t2 a1, b1⟩
  · obtain ⟨k1, k2, k3⟩ := vx_keep h0 e1 hS hAX hf hL hF
    obtain ⟨t2, a1, b1⟩ := kx E ce q u t T'.heap (locs ++ L) e1.symm (by rw [← e2]; exact X'.warmed.alike) hp hb k1 k2 k3 (by rw [e1]; exact hce) hcv hcl T' rfl X'
    exact ⟨t2, st.trans a1, b1⟩
theorem vx_callf {S SX : Type} {post : UInt32 → S → Prop} {px : SX → Prop} {B : S → State → Prop} {BX : String → SX → State → Prop} {AX : Nat → Prop} (hr : vx_Run p l e R s m args below meth c H locs cells slots mc ms (F0 m pc ls st0) rest (va_Qf post B A1 a) (vx_X px BX AX) free) (hS : va_S A0 H0 H locs) (hA : ∀ q, q < H.size → A1 q → A0 q) (hf : ∀ q, free q → A0 q) (hAX : ∀ q, q < H.size → AX q → A0 q)
    (kx : ∀ (E : String) (ce : Cell) (q9 : Addr) (u : SX) (t : State) (H1 : Heap) (locs1 : List Loc), t.heap = H1 → s.vm.Alike t.vm → px u → BX E u t → H.size ≤ H1.size → (∀ q : Nat, q < H.size → ¬ AX q → H1[q]? = H[q]?) → va_S A0 H0 H1 locs1 → H1[q9]? = some ce → ce.vm = .none → s.vm.findClass E = some ce.cls → vx_W p l e R s m args below meth c H1 locs1 (cells + mc) (slots + ms) Q (F0 m pc ls rest) q9)
    (kk : ∀ (r : UInt32) (u : S) (t : State) (H1 : Heap) (locs1 : List Loc), t.heap = H1 → s.vm.Alike t.vm → post r u → B u t → H.size ≤ H1.size → (∀ q : Nat, q < H.size → ¬ A1 q → H1[q]? = H[q]?) → va_S A0 H0 H1 locs1 → W p l e R s m args below meth c H1 locs1 (cells + mc) (slots + ms) Q (F0 m (pc + 3) ls (.float r :: rest))) : W p l e R s m args below meth c H locs cells slots Q (F0 m pc ls st0) := by
  intro T hT X
  rcases hr T hT X with ⟨v, st₀, t, T', L, h0, X', hL, e1, e2, ⟨⟨r, u, hv, hp, hb⟩, hF⟩, st⟩ | ⟨q, st₀, t, T', L, E, ce, h0, X', hL, e1, e2, ⟨u, hp, hb, hF⟩, hce, hcv, hcl, st⟩
  · cases hv
    obtain ⟨k1, k2, k3⟩ := vx_keep h0 e1 hS hA hf hL hF
    obtain ⟨t2, a1, b1⟩ := kk r u t T'.heap (locs ++ L) e1.symm (by rw [← e2]; exact X'.warmed.alike) hp hb k1 k2 k3 T' rfl X'
    exact ⟨t2, st t2 a1, b1⟩
  · obtain ⟨k1, k2, k3⟩ := vx_keep h0 e1 hS hAX hf hL hF
    obtain ⟨t2, a1, b1⟩ := kx E ce q u t T'.heap (locs ++ L) e1.symm (by rw [← e2]; exact X'.warmed.alike) hp hb k1 k2 k3 (by rw [e1]; exact hce) hcv hcl T' rfl X'
    exact ⟨t2, st.trans a1, b1⟩
theorem vx_calld {S SX : Type} {post : UInt64 → S → Prop} {px : SX → Prop} {B : S → State → Prop} {BX : String → SX → State → Prop} {AX : Nat → Prop} (hr : vx_Run p l e R s m args below meth c H locs cells slots mc ms (F0 m pc ls st0) rest (va_Qd post B A1 a) (vx_X px BX AX) free) (hS : va_S A0 H0 H locs) (hA : ∀ q, q < H.size → A1 q → A0 q) (hf : ∀ q, free q → A0 q) (hAX : ∀ q, q < H.size → AX q → A0 q)
    (kx : ∀ (E : String) (ce : Cell) (q9 : Addr) (u : SX) (t : State) (H1 : Heap) (locs1 : List Loc), t.heap = H1 → s.vm.Alike t.vm → px u → BX E u t → H.size ≤ H1.size → (∀ q : Nat, q < H.size → ¬ AX q → H1[q]? = H[q]?) → va_S A0 H0 H1 locs1 → H1[q9]? = some ce → ce.vm = .none → s.vm.findClass E = some ce.cls → vx_W p l e R s m args below meth c H1 locs1 (cells + mc) (slots + ms) Q (F0 m pc ls rest) q9)
    (kk : ∀ (r : UInt64) (u : S) (t : State) (H1 : Heap) (locs1 : List Loc), t.heap = H1 → s.vm.Alike t.vm → post r u → B u t → H.size ≤ H1.size → (∀ q : Nat, q < H.size → ¬ A1 q → H1[q]? = H[q]?) → va_S A0 H0 H1 locs1 → W p l e R s m args below meth c H1 locs1 (cells + mc) (slots + ms) Q (F0 m (pc + 3) ls (.double r :: rest))) : W p l e R s m args below meth c H locs cells slots Q (F0 m pc ls st0) := by
  intro T hT X
  rcases hr T hT X with ⟨v, st₀, t, T', L, h0, X', hL, e1, e2, ⟨⟨r, u, hv, hp, hb⟩, hF⟩, st⟩ | ⟨q, st₀, t, T', L, E, ce, h0, X', hL, e1, e2, ⟨u, hp, hb, hF⟩, hce, hcv, hcl, st⟩
  · cases hv
    obtain ⟨k1, k2, k3⟩ := vx_keep h0 e1 hS hA hf hL hF
    obtain ⟨t2, a1, b1⟩ := kk r u t T'.heap (locs ++ L) e1.symm (by rw [← e2]; exact X'.warmed.alike) hp hb k1 k2 k3 T' rfl X'
    exact ⟨t2, st t2 a1, b1⟩
  · obtain ⟨k1, k2, k3⟩ := vx_keep h0 e1 hS hAX hf hL hF
    obtain ⟨t2, a1, b1⟩ := kx E ce q u t T'.heap (locs ++ L) e1.symm (by rw [← e2]; exact X'.warmed.alike) hp hb k1 k2 k3 (by rw [e1]; exact hce) hcv hcl T' rfl X'
    exact ⟨t2, st.trans a1, b1⟩
theorem vx_callv {S SX : Type} {post : S → Prop} {px : SX → Prop} {B : S → State → Prop} {BX : String → SX → State → Prop} {AX : Nat → Prop} (hr : vx_Run p l e R s m args below meth c H locs cells slots mc ms (F0 m pc ls st0) rest (va_Qv post B A1 a) (vx_X px BX AX) free) (hS : va_S A0 H0 H locs) (hA : ∀ q, q < H.size → A1 q → A0 q) (hf : ∀ q, free q → A0 q) (hAX : ∀ q, q < H.size → AX q → A0 q)
    (kx : ∀ (E : String) (ce : Cell) (q9 : Addr) (u : SX) (t : State) (H1 : Heap) (locs1 : List Loc), t.heap = H1 → s.vm.Alike t.vm → px u → BX E u t → H.size ≤ H1.size → (∀ q : Nat, q < H.size → ¬ AX q → H1[q]? = H[q]?) → va_S A0 H0 H1 locs1 → H1[q9]? = some ce → ce.vm = .none → s.vm.findClass E = some ce.cls → vx_W p l e R s m args below meth c H1 locs1 (cells + mc) (slots + ms) Q (F0 m pc ls rest) q9)
    (kk : ∀ (u : S) (t : State) (H1 : Heap) (locs1 : List Loc), t.heap = H1 → s.vm.Alike t.vm → post u → B u t → H.size ≤ H1.size → (∀ q : Nat, q < H.size → ¬ A1 q → H1[q]? = H[q]?) → va_S A0 H0 H1 locs1 → W p l e R s m args below meth c H1 locs1 (cells + mc) (slots + ms) Q (F0 m (pc + 3) ls (rest))) : W p l e R s m args below meth c H locs cells slots Q (F0 m pc ls st0) := by
  intro T hT X
  rcases hr T hT X with ⟨v, st₀, t, T', L, h0, X', hL, e1, e2, ⟨⟨u, hv, hp, hb⟩, hF⟩, st⟩ | ⟨q, st₀, t, T', L, E, ce, h0, X', hL, e1, e2, ⟨u, hp, hb, hF⟩, hce, hcv, hcl, st⟩
  · cases hv
    obtain ⟨k1, k2, k3⟩ := vx_keep h0 e1 hS hA hf hL hF
    obtain ⟨t2, a1, b1⟩ := kk u t T'.heap (locs ++ L) e1.symm (by rw [← e2]; exact X'.warmed.alike) hp hb k1 k2 k3 T' rfl X'
    exact ⟨t2, st t2 a1, b1⟩
  · obtain ⟨k1, k2, k3⟩ := vx_keep h0 e1 hS hAX hf hL hF
    obtain ⟨t2, a1, b1⟩ := kx E ce q u t T'.heap (locs ++ L) e1.symm (by rw [← e2]; exact X'.warmed.alike) hp hb k1 k2 k3 (by rw [e1]; exact hce) hcv hcl T' rfl X'
    exact ⟨t2, st.trans a1, b1⟩
/-- caught by the row x of this method's table; the rows ahead don't take it -/
theorem vx_catch {own name : String} {E : String} {ce : Cell} {q : Addr} (hown : s.vm.findClass own = some m.cls) (pre : List ExceptionTableEntry) (x : ExceptionTableEntry) (suf : List ExceptionTableEntry) (hsplit : c.exceptionTable.toList = pre ++ x :: suf)
    (hpass : ∀ z ∈ pre, covers z pc = false ∨ (z.catchType ≠ 0 ∧ ∃ nm : String, (Cond.classLink own z.catchType nm).before args s = true ∧ va_Nc E nm s)) (hx : covers x pc = true) (h0 : x.catchType ≠ 0)
    (hlink : (Cond.classLink own x.catchType name).before args s = true) (hcast : (Cond.castable E name).before args s = true) (hcell : H[q]? = some ce) (hv : ce.vm = .none) (hcl : s.vm.findClass E = some ce.cls)
    (kk : W p l e R s m args below meth c H locs cells slots Q (F0 m x.handlerPc ls [.ref q])) : vx_W p l e R s m args below meth c H locs cells slots Q (F0 m pc ls rest) q := by
  intro T hT X
  have hpl : e.platform.magicAccessors = ({} : Platform).magicAccessors := by rw [X.admits.platform]
  obtain ⟨c3, c4, hc3, hc4, hasg⟩ := Cond.castable_spec hcast
  cases Option.some.inj (hc3.symm.trans hcl)
  obtain ⟨c5, hc5, hcl5⟩ := Cond.classLink_spec hown hlink e.platform hpl
  cases Option.some.inj (hc4.symm.trans hc5)
  obtain ⟨vm', X', st⟩ := X.thenCaughtThrough q (g := F0 m pc ls rest) rfl (Steps.refl _) (by rw [hT]; exact hcell) (by rw [hv]; rfl) (by obtain ⟨k9, h9, -⟩ := Vm.findClass_spec hcl; exact ⟨k9, h9⟩) pre x suf hsplit
    (fun z hz => by
      rcases hpass z hz with h | ⟨hz0, nm, hl1, hn1⟩
      · exact Or.inl h
      · obtain ⟨c6, hc6, hcl6⟩ := Cond.classLink_spec hown hl1 e.platform hpl
        obtain ⟨a8, b8, h1, h2, h3⟩ := hn1
        cases Option.some.inj (h1.symm.trans hcl)
        cases Option.some.inj (h2.symm.trans hc6)
        exact Or.inr ⟨hz0, _, hcl6, h3⟩) hx (Or.inr ⟨h0, c4, hcl5, hasg⟩)
  obtain ⟨t, a1, b1⟩ := kk (T.setVm vm') hT X'
  exact ⟨t, st.trans a1, b1⟩
end Rows
section Ends
variable {p : Program} {l : Launch} {e : Env} {R : Room} {s : State} {m : MethodId} {args : Array Value} {below : List Frame} {meth : Method} {c : Code} {H : Heap} {locs : List Loc} {cells slots : Nat} {Q : State → Prop}
variable {mc ms : Nat} {free : Addr → Prop} {A0 A1 : Nat → Prop} {H0 : Heap} {a : Array Value} {ls : Array Slot} {st0 rest : List Value}
variable {Qc : Array Value → State → Outcome → State → Prop} {XC : String → State → State → Prop}
/-- what a body that may throw owes at its end -/
def vx_MQ (below : List Frame) (Qc : Array Value → State → Outcome → State → Prop) (XC : String → State → State → Prop) (a : Array Value) (s : State) (mc ms : Nat) (free : Addr → Prop) : State → Prop := fun t =>
  ∃ o, t.status = .running ∧ Ended t below o ∧ vx_Q Qc XC mc ms free a s o t
theorem vx_ret {g : JFrame} {mc ms : Nat} (k : W p l e R s m args below meth c H locs cells slots (MQ below Qc args s mc ms free) g) : W p l e R s m args below meth c H locs cells slots (vx_MQ below Qc XC args s mc ms free) g := by
  intro T hT X
  obtain ⟨t, a1, o, b1, b2, b3, b4⟩ := k T hT X
  exact ⟨t, a1, o, b1, b2, Or.inl ⟨b3, b4⟩⟩
/-- not caught here: it goes on to the caller -/
theorem vx_widen {g : JFrame} {q : Addr} {k n : Nat} (h1 : cells ≤ k) (h2 : slots ≤ n) (kk : vx_W p l e R s m args below meth c H locs k n Q g q) : vx_W p l e R s m args below meth c H locs cells slots Q g q := fun T hT X => kk T hT (stand_widen X h1 h2)
theorem vx_out {pc : Nat} {E : String} {ce : Cell} {q : Addr} {mc ms : Nat} (hout : ∀ x ∈ c.exceptionTable.toList, covers x pc = false) (hlocks : meth.locks = false) (hcell : H[q]? = some ce) (hv : ce.vm = .none) (hcl : s.vm.findClass E = some ce.cls)
    (hx : ∀ t : State, t.heap = H → s.vm.Alike t.vm → XC E s t) (hf : ∀ z ∈ locs, free z.base) (hc : cells ≤ mc) (hs : slots ≤ ms) :
    vx_W p l e R s m args below meth c H locs cells slots (vx_MQ below Qc XC args s mc ms free) (F0 m pc ls rest) q := by
  intro T hT X
  obtain ⟨st1, hrun, hend, hW, hsm⟩ := X.leaveThrown q (g := F0 m pc ls rest) rfl rfl rfl hout hlocks
  have hcell9 : (T.setFrames (.throwing q :: below)).heap[q]? = some ce := by
    show T.heap[q]? = some ce
    rw [hT]; exact hcell
  exact ⟨_, st1, .threw q, hrun, hend, Or.inr ⟨q, rfl, E, ce, locs, hx _ hT hW.alike, hcell9, hv, hcl, hW, hsm.mono hc hs, hf⟩⟩
theorem vx_frame {U : State} {k n : Nat} (h : s.sameButNew ({ U with vm := s.vm } : State) locs k n) : s.heap.size ≤ U.heap.size ∧ ∀ q : Nat, q < s.heap.size → (∀ z ∈ locs, z.base ≠ q) → U.heap[q]? = s.heap[q]? := by
  obtain ⟨-, h2, -, -, -, h6⟩ := h
  refine ⟨h2, fun q hq hz => ?_⟩
  obtain ⟨c9, e1, e2, e3, e4⟩ := h6 q _ (Array.getElem?_eq_getElem hq)
  have hs : c9.slots = (s.heap[q]).slots := Array.ext_getElem? fun i => e4 i fun hm => hz _ hm rfl
  have h9 : c9 = s.heap[q] := by
    rw [hs] at e2
    exact e2
  have e5 : U.heap[q]? = some c9 := e1
  rw [e5, h9, Array.getElem?_eq_getElem hq]
/-- the words of a throw but the four that speak of the heap -/
def vx_no (w : Cond) : Bool := decide (w ≠ .isRef (.static Bundle.tN "UNASSIGNED_STACK" Bundle.steD)) && decide (w ≠ .isRef (.static Bundle.tN "SUPPRESSED_SENTINEL" Bundle.listD)) && decide (w ≠ .laysStatic Bundle.tN "UNASSIGNED_STACK" Bundle.steD) && decide (w ≠ .laysStatic Bundle.tN "SUPPRESSED_SENTINEL" Bundle.listD)
def vx_at0 (own : String) (ic : Nat) (X : String) (names : List String) : List Cond := (Bundle.ownAtoms0 own ic X names).filter vx_no
def vx_atS (own : String) (ic : Nat) (X : String) (names : List String) : List Cond := (Bundle.ownAtoms own ic X names).filter vx_no
/-- a word that the tables alone decide, or a good one -/
def vx_ot (w : Cond) : Bool := w.onTables || goodWord w
theorem vx_ot_at {args a' : Array Value} {s U : State} {w : Cond} (hW : s.WarmedH U.vm) (hvm : s.vm = U.vm) (hg : vx_ot w = true) (h : w.before args s = true) : w.before a' U = true := by
  simp only [vx_ot, Bool.or_eq_true] at hg
  rcases hg with hg | hg
  · exact va_tabs hg hvm h
  · exact word_at hW (good_of_word hg) h
/-- a list's words: the good ones out of the method's own list, the others by premises of their own -/
theorem vx_hat {args : Array Value} {s : State} {L B : List Cond} (h1 : ∀ w ∈ L.filter goodWord, w.before args s = true) (h2 : ∀ w ∈ L.filter (fun w => !goodWord w), w ∈ B) (h3 : ∀ w ∈ B, w.before args s = true) : ∀ w ∈ L, w.before args s = true := by
  intro w hw
  by_cases g : goodWord w = true
  · exact h1 w (List.mem_filter.mpr ⟨hw, g⟩)
  · refine h3 w (h2 w (List.mem_filter.mpr ⟨hw, ?_⟩))
    show (!goodWord w) = true
    cases hgw : goodWord w
    · rfl
    · exact absurd hgw g
theorem vx_c {args : Array Value} {s : State} {w : Cond} {B : List Cond} (h : w.before args s = true) (t : ∀ w ∈ B, w.before args s = true) : ∀ w' ∈ w :: B, w'.before args s = true := fun w' h' => (List.mem_cons.mp h').elim (fun e => by rw [e]; exact h) (t w')
theorem vx_n {args : Array Value} {s : State} : ∀ w ∈ ([] : List Cond), w.before args s = true := fun _ h => nomatch h
theorem vx_own {args : Array Value} {s : State} {L : List Cond} (h1 : ∀ w ∈ L.filter vx_no, w.before args s = true)
    (hU : (Cond.isRef (.static Bundle.tN "UNASSIGNED_STACK" Bundle.steD)).before args s = true) (hN : (Cond.isRef (.static Bundle.tN "SUPPRESSED_SENTINEL" Bundle.listD)).before args s = true)
    (lU : (Cond.laysStatic Bundle.tN "UNASSIGNED_STACK" Bundle.steD).before args s = true) (lN : (Cond.laysStatic Bundle.tN "SUPPRESSED_SENTINEL" Bundle.listD).before args s = true) : ∀ w ∈ L, w.before args s = true := by
  intro w hw
  by_cases e1 : w = .isRef (.static Bundle.tN "UNASSIGNED_STACK" Bundle.steD)
  · rw [e1]; exact hU
  · by_cases e2 : w = .isRef (.static Bundle.tN "SUPPRESSED_SENTINEL" Bundle.listD)
    · rw [e2]; exact hN
    · by_cases e3 : w = .laysStatic Bundle.tN "UNASSIGNED_STACK" Bundle.steD
      · rw [e3]; exact lU
      · by_cases e4 : w = .laysStatic Bundle.tN "SUPPRESSED_SENTINEL" Bundle.listD
        · rw [e4]; exact lN
        · exact h1 w (List.mem_filter.mpr ⟨hw, by unfold vx_no; rw [decide_eq_true e1, decide_eq_true e2, decide_eq_true e3, decide_eq_true e4]; rfl⟩)
/-- where a static field lies, its class's statics cell in H -/
def vx_L (C n d : String) (A : Nat → Prop) (U : State) (H : Heap) : Prop := ∃ (c : ClassId) (k : Class) (i : Nat) (f : Field) (a : Nat) (cell : Cell), U.vm.findClass C = some c ∧ U.fieldFound? C n d = some (c, k, i, f) ∧ f.isStatic = true ∧ k.statics = some a ∧ H[a]? = some cell ∧ cell.vm.isStatics = true ∧ cell.cls = c ∧ f.slot < cell.slots.size ∧ k.staticTypes[f.slot]? = some f.type ∧ ¬ A a
theorem vx_L.moved {C n d : String} {A : Nat → Prop} {u U : State} {H : Heap} (hvm : u.vm.Alike U.vm) (h : vx_L C n d A u H) : vx_L C n d A U H := by
  obtain ⟨c, k, i, f, a, cell, h1, h2, h3, h4, h5, h6, h7, h8, h9, h10⟩ := h
  obtain ⟨k', hi', he⟩ := State.fieldFound?_setVm hvm h2
  exact ⟨c, k', i, f, a, cell, by rw [hvm.findClass]; exact h1, hi', h3, by rw [he]; exact h4, h5, h6, h7, h8, by rw [he]; exact h9, h10⟩
theorem vx_L.kept {C n d : String} {A : Nat → Prop} {U : State} {H H1 : Heap} (h : vx_L C n d A U H) (hq : ∀ a : Nat, a < H.size → ¬ A a → H1[a]? = H[a]?) : vx_L C n d A U H1 := by
  obtain ⟨c, k, i, f, a, cell, h1, h2, h3, h4, h5, h6, h7, h8, h9, h10⟩ := h
  exact ⟨c, k, i, f, a, cell, h1, h2, h3, h4, by rw [hq a (Array.getElem?_eq_some_iff.mp h5).1 h10]; exact h5, h6, h7, h8, h9, h10⟩
theorem vx_L.narrow {C n d : String} {A B : Nat → Prop} {U : State} {H : Heap} (h : vx_L C n d A U H) (hAB : ∀ q, B q → A q) : vx_L C n d B U H := by
  obtain ⟨c, k, i, f, a, cell, h1, h2, h3, h4, h5, h6, h7, h8, h9, h10⟩ := h
  exact ⟨c, k, i, f, a, cell, h1, h2, h3, h4, h5, h6, h7, h8, h9, fun z => h10 (hAB _ z)⟩
theorem vx_L.word {C n d : String} {A : Nat → Prop} {s : State} {args : Array Value} (h : vx_L C n d A s s.heap) : (Cond.laysStatic C n d).before args s = true := by
  obtain ⟨c, k, i, f, a, cell, h1, h2, h3, h4, h5, h6, h7, h8, h9, -⟩ := h
  show (Cond.laysStatic C n d).holds args s none s [] = true
  exact Cond.laysStatic_of h1 h2 h3 h4 h5 h6 h7 h8 h9
/-- .. and what it holds: null or some reference -/
def vx_Zq (C n d : String) (A : Nat → Prop) (U : State) (H : Heap) : Prop := va_Zq C n d A U H ∧ vx_L C n d A U H
theorem vx_Zq.moved {C n d : String} {A : Nat → Prop} {u U : State} {H : Heap} (hvm : u.vm.Alike U.vm) (h : vx_Zq C n d A u H) : vx_Zq C n d A U H := ⟨va_Zq.moved hvm h.1, vx_L.moved hvm h.2⟩
theorem vx_Zq.kept {C n d : String} {A : Nat → Prop} {U : State} {H H1 : Heap} (h : vx_Zq C n d A U H) (hq : ∀ a : Nat, a < H.size → ¬ A a → H1[a]? = H[a]?) : vx_Zq C n d A U H1 := ⟨va_Zq.kept h.1 hq, vx_L.kept h.2 hq⟩
theorem vx_Zq.narrow {C n d : String} {A B : Nat → Prop} {U : State} {H : Heap} (h : vx_Zq C n d A U H) (hAB : ∀ q, B q → A q) : vx_Zq C n d B U H := ⟨va_Zq.narrow h.1 hAB, vx_L.narrow h.2 hAB⟩
theorem vx_Zqof {args : Array Value} {s : State} {C n d : String} {A : Nat → Prop} (hl : (Cond.laysStatic C n d).before args s = true) (hini : (Cond.initialized C).before args s = true) (h : (Cond.isRef (.static C n d)).before args s = true) (hA : ∀ a : Nat, a < s.heap.size → ¬ A a) : vx_Zq C n d A s s.heap := by
  refine ⟨va_Zqof hl hini h hA, ?_⟩
  obtain ⟨c, k, i, f, a, cell, h1, h2, h3, h4, h5, h6, h7, h8, h9⟩ := Cond.laysStatic_spec hl
  exact ⟨c, k, i, f, a, cell, h1, h2, h3, h4, h5, h6, h7, h8, h9, hA a (Array.getElem?_eq_some_iff.mp h5).1⟩
theorem vx_isRef {C n d : String} {v : Value} {A : Nat → Prop} {s : State} {args : Array Value} (h : va_Z C n d v A s s.heap) (hv : v.isRef = true) : (Cond.isRef (.static C n d)).before args s = true := by
  obtain ⟨cf, kf, fi, f, a, cell, h1, h2, h3, h4, h5, h6, h7, -⟩ := h
  have he : (Term.static C n d).eval args s none [] s = some v := by
    simp [Term.eval, State.fieldNamed?, h1, h2, h4, h5, h6, h7]
  simp only [Cond.before, Cond.holds, Cond.value, he]
  cases v <;> simp_all [Value.isRef]
theorem vx_isRefq {C n d : String} {A : Nat → Prop} {s : State} {args : Array Value} (h : va_Zq C n d A s s.heap) : (Cond.isRef (.static C n d)).before args s = true := by
  rcases h with h | ⟨t, h⟩
  · exact vx_isRef h rfl
  · exact vx_isRef h rfl
/-- the same frame, seen from here: as if the method were called anew in this heap -/
theorem vx_rebase {T : State} (X : Stand p l e R s m args below meth c T locs cells slots) {R' : Room} (hf : R'.frames ≤ R.frames) (hl : R'.locals ≤ R.locals) (hc : cells + R'.cells ≤ R.cells) (hs : slots + R'.slots ≤ R.slots) :
    Stand p l e R' ((T.setVm s.vm).setFrames (.invoking m args :: below)) m args below meth c T [] 0 0 := by
  have htop : (T.setVm s.vm).topJava?.isSome := X.here.top
  have hF : ((T.setVm s.vm).setFrames (.invoking m args :: below)).frames = .invoking m args :: below := State.frames_setFrames _ (State.cur_lt_of_top htop)
  obtain ⟨g₀, hg0⟩ := Option.isSome_iff_exists.mp htop
  obtain ⟨r, hr⟩ := State.topJava?_eq_some.mp hg0
  have hl9 : e.platform.stackLimits (T.setVm s.vm).me = e.platform.stackLimits s.me := X.limits
  have hb9 : (T.setVm s.vm).me.stackBytes = s.me.stackBytes := X.bytes
  refine ⟨X.admits, X.cas, X.clock, hF, ?_, X.hears, X.method, X.code, X.here, X.tail, X.warmed, ?_, ?_, ?_⟩
  · have h := X.room
    have hU : ((T.setVm s.vm).setFrames (.invoking m args :: below)).localsInUse = s.localsInUse := by
      rw [State.localsInUse_invoking hF (meth := meth) (c := c) X.method X.code, State.localsInUse_invoking X.frames X.method X.code]
    simp only [State.hasRoom, Bool.and_eq_true, decide_eq_true_eq] at h ⊢
    obtain ⟨⟨⟨⟨h1, h2, h3, h4, h5, h6⟩, h7⟩, h8⟩, h9⟩ := h
    rw [X.frames, List.length_cons] at h2 h3
    have q1 := X.heapSize
    have q2 := X.used
    simp only [hF, hU, List.length_cons, State.stackLimits_setFrames, State.stackBytes_setFrames, hl9, hb9]
    refine ⟨⟨⟨⟨by omega, by omega, by omega, by omega, by omega, h6⟩, ?_⟩, ?_⟩, X.book⟩
    · show T.heap.size + R'.cells ≤ e.platform.maxCells
      omega
    · show T.slotsUsed + R'.slots ≤ e.platform.maxSlots
      omega
  · rw [State.stackLimits_setFrames]; rfl
  · rw [State.stackBytes_setFrames]; rfl
  · refine ⟨?_, Nat.le_refl _, Nat.le_refl _, ?_, ?_, fun a c9 h9 => ⟨c9, h9, rfl, rfl, fun _ _ => rfl⟩⟩
    · obtain ⟨t, ht, -⟩ := State.frames_cons hr
      show T.setVm s.vm = { ((T.setVm s.vm).setFrames (.invoking m args :: below)).setFrames (T.setVm s.vm).frames with heap := T.heap, slotsUsed := T.slotsUsed }
      rw [State.setFrames_setFrames, State.setFrames_self ht]
      rfl
    · show T.slotsUsed = T.slotsUsed + ((T.heap.toList.drop T.heap.size).map (·.slots.size)).sum
      rw [List.drop_eq_nil_of_le (Nat.le_of_eq Array.length_toList)]
      rfl
    · show ((T.heap.toList.drop T.heap.size).map (·.slots.size)).sum ≤ 0
      rw [List.drop_eq_nil_of_le (Nat.le_of_eq Array.length_toList)]
      exact Nat.le_refl _
/-- 'throw new E()': new; dup; invokespecial; athrow -/
theorem vx_throw0 {cc : ByteArray} {pc : Nat} (hexec : p.tables.exec = Jvm.exec) (hb : c.code = cc) (hl : l.stackTraces = false) {own cls : String} {names : List String} {ik ic mc ms : Nat} {A : Nat → Prop}
    (hown : s.vm.findClass own = some m.cls) (hcls : Bundle.fit cls = true) (hnames : ∀ n ∈ names, Bundle.fit n = true)
    (hk : (Cond.classLink own ik cls).before args s = true) (hini : (Cond.initialized cls).before args s = true) (hat : ∀ w ∈ vx_at0 own ic cls names, w.before args s = true)
    (hgood : ∀ w ∈ Cond.classLink own ik cls :: Cond.initialized cls :: vx_at0 own ic cls names, vx_ot w = true)
    (hU : vx_Zq Bundle.tN "UNASSIGNED_STACK" Bundle.steD A s s.heap) (hN : vx_Zq Bundle.tN "SUPPRESSED_SENTINEL" Bundle.listD A s s.heap) (hS : va_S A s.heap H locs) (hsize : ls.size = c.maxLocals)
    (d0 : decode cc pc = .ok (.new ik, 3)) (d3 : decode cc (pc + 3) = .ok (.dup, 1)) (d4 : decode cc (pc + 4) = .ok (.invokespecial ic, 3)) (d7 : decode cc (pc + 7) = .ok (.athrow, 1))
    (hout : ∀ x ∈ c.exceptionTable.toList, covers x (pc + 7) = false)
    (hRframes : names.length + 3 < R.frames) (hRlocals : (rest.map fun v => v.category).sum + (13 * (names.length + 1) + 42) ≤ R.locals) (hRcells : cells + 1 ≤ R.cells) (hRslots : slots + 6 ≤ R.slots) (hlocks : meth.locks = false)
    (hx : ∀ t : State, s.vm.Alike t.vm → H.size ≤ t.heap.size → (∀ q : Nat, q < H.size → t.heap[q]? = H[q]?) → XC cls s t)
    (hf : ∀ z ∈ locs, free z.base) (hc : cells + 1 ≤ mc) (hs : slots + 6 ≤ ms) :
    W p l e R s m args below meth c H locs cells slots (vx_MQ below Qc XC args s mc ms free) (F0 m pc ls rest) := by
  intro T hT X
  have htr : e.platform.stackTraces = false := (show e.platform.stackTraces = l.stackTraces by rw [X.admits.platform]).trans hl
  have Y := vx_rebase X (R' := { frames := R.frames, locals := R.locals, cells := 1, slots := 6 }) (Nat.le_refl _) (Nat.le_refl _) hRcells hRslots
  obtain ⟨s', hA⟩ : ∃ z, z = (T.setVm s.vm).setFrames (.invoking m args :: below) := ⟨_, rfl⟩
  rw [← hA] at Y
  have hvm : s'.vm = s.vm := by rw [hA]; rfl
  have hhp : s'.heap = H := by rw [hA]; exact hT
  have hW0 : s.WarmedH s'.vm := by rw [hvm]; exact State.WarmedH.refl s
  have hat' : ∀ w ∈ vx_at0 own ic cls names, w.before args s' = true := fun w hw => vx_ot_at hW0 hvm.symm (hgood w (List.mem_cons_of_mem _ (List.mem_cons_of_mem _ hw))) (hat w hw)
  have hk' : (Cond.classLink own ik cls).before args s' = true := vx_ot_at hW0 hvm.symm (hgood _ List.mem_cons_self) hk
  have hini' : (Cond.initialized cls).before args s' = true := vx_ot_at hW0 hvm.symm (hgood _ (List.mem_cons_of_mem _ List.mem_cons_self)) hini
  have hU' : vx_Zq Bundle.tN "UNASSIGNED_STACK" Bundle.steD A s' s'.heap := by rw [hhp]; exact vx_Zq.moved hW0.alike (hU.kept hS.2.1)
  have hN' : vx_Zq Bundle.tN "SUPPRESSED_SENTINEL" Bundle.listD A s' s'.heap := by rw [hhp]; exact vx_Zq.moved hW0.alike (hN.kept hS.2.1)
  have h : ∀ w ∈ Bundle.ownAtoms0 own ic cls names, w.before args s' = true := vx_own hat' (vx_isRefq hU'.1) (vx_isRefq hN'.1) hU'.2.word hN'.2.word
  have hown' : s'.vm.findClass own = some m.cls := by rw [hvm]; exact hown
  have hins : (Cond.instantiable cls 6).before args s' = true := h _ (by simp [Bundle.ownAtoms0])
  obtain ⟨vm₁, cX, kX, hfX, hkX, -, -, X₁, st1⟩ := Y.newCold hexec (own := own) (C := cls) (index := ik) (n := 6) hown' hk' hins hini'
    (g := F0 m pc ls rest) rfl (by rw [hb]; exact d0) (Nat.le_refl _) (Nat.le_refl _)
  generalize hT1 : (T.setVm vm₁).pushCell { cls := cX, slots := kX.instanceTypes.map defaultValue, vm := .none } = T1 at X₁ st1
  have hcat : (Value.ref T.heap.size).category = 1 := rfl
  have hcellA : T1.heap[T.heap.size]? = some (freshCell cX kX) := by rw [← hT1]; exact State.heap_pushCell_size _ _
  have d3' : decode c.code (pc + 3) = .ok (.dup, 1) := by rw [hb]; exact d3
  obtain ⟨U, hsteps, hrun, hend, hW, hsame, ce, hce, hO⟩ := X₁.ctorThrow0 hexec htr (own := own) (cls := cls) (names := names) (ic := ic) hown' hcls hnames h (fun x hx => nomatch hx) hfX hkX hcellA (by rw [hhp, hT]; exact Nat.le_refl _)
    (g := { method := m, pc := pc + 4, locals := ls, stack := .ref T.heap.size :: .ref T.heap.size :: rest, locked := none }) rfl hsize rfl rfl (rest := rest) rfl
    (by rw [hb]; exact d4) (by rw [hb]; exact d7) hout hRframes (by simp only [List.map_cons, List.sum_cons, hcat]; omega) hlocks
  obtain ⟨f1, f2⟩ := vx_frame hsame
  rw [hhp] at f1 f2
  have hWs : s.WarmedH U.vm := State.WarmedH.trans hW0 hW
  have hcl : s.vm.findClass cls = some ce.cls := by
    have h9 := hO.cls
    rw [hvm] at h9
    exact h9
  have hall : s.sameButNew ({ U with vm := s.vm } : State) locs mc ms := by
    subst hA
    obtain ⟨e1, e2⟩ := hsame
    rw [State.setFrames_setFrames] at e1
    have h2 : (T.setVm s.vm).sameButNew ({ U with vm := s.vm } : State) [] (0 + 1) (0 + 6) := ⟨e1, e2⟩
    have h3 := X.same.trans h2
    rw [List.append_nil] at h3
    exact h3.mono hc hs
  refine ⟨U, ?_, .threw T.heap.size, hrun, hend, Or.inr ⟨T.heap.size, rfl, cls, ce, locs, hx U hWs.alike f1 (fun q hq => f2 q hq (fun z hz => nomatch hz)), hce, hO.vm, hcl, hWs, hall, hf⟩⟩
  refine st1 _ ?_
  show Steps p.tables e below (T1.setTop { method := m, pc := pc + 3, locals := ls, stack := .ref T.heap.size :: rest, locked := none }) _
  jvm_step X₁.here [X₁.here.top, hexec, d3', Value.category]
  exact hsteps
/-- 'throw new E("text")': new; dup; ldc; invokespecial; athrow -/
theorem vx_throwS {cc : ByteArray} {pc : Nat} (hexec : p.tables.exec = Jvm.exec) (hb : c.code = cc) (hl : l.stackTraces = false) {own cls text : String} {names : List String} {ik is ic mc ms sa : Nat} {A : Nat → Prop}
    (hown : s.vm.findClass own = some m.cls) (hcls : Bundle.fit cls = true) (hnames : ∀ n ∈ names, Bundle.fit n = true)
    (hk : (Cond.classLink own ik cls).before args s = true) (hini : (Cond.initialized cls).before args s = true) (hstr : vk_R own is text sa s) (hat : ∀ w ∈ vx_atS own ic cls names, w.before args s = true)
    (hgood : ∀ w ∈ Cond.classLink own ik cls :: Cond.initialized cls :: vx_atS own ic cls names, vx_ot w = true)
    (hU : vx_Zq Bundle.tN "UNASSIGNED_STACK" Bundle.steD A s s.heap) (hN : vx_Zq Bundle.tN "SUPPRESSED_SENTINEL" Bundle.listD A s s.heap) (hS : va_S A s.heap H locs) (hsize : ls.size = c.maxLocals)
    (d0 : decode cc pc = .ok (.new ik, 3)) (d3 : decode cc (pc + 3) = .ok (.dup, 1)) (d4 : decode cc (pc + 4) = .ok (.ldc is, 2)) (d6 : decode cc (pc + 6) = .ok (.invokespecial ic, 3)) (d9 : decode cc (pc + 9) = .ok (.athrow, 1))
    (hout : ∀ x ∈ c.exceptionTable.toList, covers x (pc + 9) = false)
    (hRframes : names.length + 3 < R.frames) (hRlocals : (rest.map fun v => v.category).sum + (13 * (names.length + 1) + 43) ≤ R.locals) (hRcells : cells + 1 ≤ R.cells) (hRslots : slots + 6 ≤ R.slots) (hlocks : meth.locks = false)
    (hx : ∀ t : State, s.vm.Alike t.vm → H.size ≤ t.heap.size → (∀ q : Nat, q < H.size → t.heap[q]? = H[q]?) → XC cls s t)
    (hf : ∀ z ∈ locs, free z.base) (hc : cells + 1 ≤ mc) (hs : slots + 6 ≤ ms) :
    W p l e R s m args below meth c H locs cells slots (vx_MQ below Qc XC args s mc ms free) (F0 m pc ls rest) := by
  intro T hT X
  have htr : e.platform.stackTraces = false := (show e.platform.stackTraces = l.stackTraces by rw [X.admits.platform]).trans hl
  have Y := vx_rebase X (R' := { frames := R.frames, locals := R.locals, cells := 1, slots := 6 }) (Nat.le_refl _) (Nat.le_refl _) hRcells hRslots
  obtain ⟨s', hA⟩ : ∃ z, z = (T.setVm s.vm).setFrames (.invoking m args :: below) := ⟨_, rfl⟩
  rw [← hA] at Y
  have hvm : s'.vm = s.vm := by rw [hA]; rfl
  have hhp : s'.heap = H := by rw [hA]; exact hT
  have hW0 : s.WarmedH s'.vm := by rw [hvm]; exact State.WarmedH.refl s
  have hat' : ∀ w ∈ vx_atS own ic cls names, w.before args s' = true := fun w hw => vx_ot_at hW0 hvm.symm (hgood w (List.mem_cons_of_mem _ (List.mem_cons_of_mem _ hw))) (hat w hw)
  have hk' : (Cond.classLink own ik cls).before args s' = true := vx_ot_at hW0 hvm.symm (hgood _ List.mem_cons_self) hk
  have hini' : (Cond.initialized cls).before args s' = true := vx_ot_at hW0 hvm.symm (hgood _ (List.mem_cons_of_mem _ List.mem_cons_self)) hini
  have hU' : vx_Zq Bundle.tN "UNASSIGNED_STACK" Bundle.steD A s' s'.heap := by rw [hhp]; exact vx_Zq.moved hW0.alike (hU.kept hS.2.1)
  have hN' : vx_Zq Bundle.tN "SUPPRESSED_SENTINEL" Bundle.listD A s' s'.heap := by rw [hhp]; exact vx_Zq.moved hW0.alike (hN.kept hS.2.1)
  have h : ∀ w ∈ Bundle.ownAtoms own ic cls names, w.before args s' = true := vx_own hat' (vx_isRefq hU'.1) (vx_isRefq hN'.1) hU'.2.word hN'.2.word
  have hown' : s'.vm.findClass own = some m.cls := by rw [hvm]; exact hown
  have hins : (Cond.instantiable cls 6).before args s' = true := h _ (by simp [Bundle.ownAtoms])
  obtain ⟨vm₁, cX, kX, hfX, hkX, -, -, X₁, st1⟩ := Y.newCold hexec (own := own) (C := cls) (index := ik) (n := 6) hown' hk' hins hini'
    (g := F0 m pc ls rest) rfl (by rw [hb]; exact d0) (Nat.le_refl _) (Nat.le_refl _)
  generalize hT1 : (T.setVm vm₁).pushCell { cls := cX, slots := kX.instanceTypes.map defaultValue, vm := .none } = T1 at X₁ st1
  have hcat : (Value.ref T.heap.size).category = 1 := rfl
  have hcellA : T1.heap[T.heap.size]? = some (freshCell cX kX) := by rw [← hT1]; exact State.heap_pushCell_size _ _
  have d3' : decode c.code (pc + 3) = .ok (.dup, 1) := by rw [hb]; exact d3
  have d4' : decode c.code (pc + 4) = .ok (.ldc is, 2) := by rw [hb]; exact d4
  have hstr' : vk_R own is text sa s' := vk_R.warm hW0 hstr
  obtain ⟨U, hsteps, hrun, hend, hW, hsame, ce, hce, hO⟩ := X₁.ctorThrowS hexec htr (own := own) (cls := cls) (names := names) (ic := ic) hown' hcls hnames h (fun x hx => nomatch hx) hfX hkX hcellA (by rw [hhp, hT]; exact Nat.le_refl _) (msg := .ref sa) rfl
    (g := { method := m, pc := pc + 6, locals := ls, stack := .ref sa :: .ref T.heap.size :: .ref T.heap.size :: rest, locked := none }) rfl hsize rfl rfl (rest := rest) rfl
    (by rw [hb]; exact d6) (by rw [hb]; exact d9) hout hRframes (by simp only [List.map_cons, List.sum_cons, hcat]; omega) hlocks
  obtain ⟨f1, f2⟩ := vx_frame hsame
  rw [hhp] at f1 f2
  have hWs : s.WarmedH U.vm := State.WarmedH.trans hW0 hW
  have hcl : s.vm.findClass cls = some ce.cls := by
    have h9 := hO.cls
    rw [hvm] at h9
    exact h9
  have hall : s.sameButNew ({ U with vm := s.vm } : State) locs mc ms := by
    subst hA
    obtain ⟨e1, e2⟩ := hsame
    rw [State.setFrames_setFrames] at e1
    have h2 : (T.setVm s.vm).sameButNew ({ U with vm := s.vm } : State) [] (0 + 1) (0 + 6) := ⟨e1, e2⟩
    have h3 := X.same.trans h2
    rw [List.append_nil] at h3
    exact h3.mono hc hs
  refine ⟨U, ?_, .threw T.heap.size, hrun, hend, Or.inr ⟨T.heap.size, rfl, cls, ce, locs, hx U hWs.alike f1 (fun q hq => f2 q hq (fun z hz => nomatch hz)), hce, hO.vm, hcl, hWs, hall, hf⟩⟩
  refine st1 _ ?_
  show Steps p.tables e below (T1.setTop { method := m, pc := pc + 3, locals := ls, stack := .ref T.heap.size :: rest, locked := none }) _
  jvm_step X₁.here [X₁.here.top, hexec, d3', Value.category]
  exact X₁.ldcString hexec (own := own) (text := text) (index := is) (a := sa) hown' hstr'.1 hstr'.2
    (g := { method := m, pc := pc + 4, locals := ls, stack := .ref T.heap.size :: .ref T.heap.size :: rest, locked := none }) rfl d4' _ hsteps
/-- 'throw new E("text")', the text by a wide index -/
theorem vx_throwSW {cc : ByteArray} {pc : Nat} (hexec : p.tables.exec = Jvm.exec) (hb : c.code = cc) (hl : l.stackTraces = false) {own cls text : String} {names : List String} {ik is ic mc ms sa : Nat} {A : Nat → Prop}
    (hown : s.vm.findClass own = some m.cls) (hcls : Bundle.fit cls = true) (hnames : ∀ n ∈ names, Bundle.fit n = true)
    (hk : (Cond.classLink own ik cls).before args s = true) (hini : (Cond.initialized cls).before args s = true) (hstr : vk_R own is text sa s) (hat : ∀ w ∈ vx_atS own ic cls names, w.before args s = true)
    (hgood : ∀ w ∈ Cond.classLink own ik cls :: Cond.initialized cls :: vx_atS own ic cls names, vx_ot w = true)
    (hU : vx_Zq Bundle.tN "UNASSIGNED_STACK" Bundle.steD A s s.heap) (hN : vx_Zq Bundle.tN "SUPPRESSED_SENTINEL" Bundle.listD A s s.heap) (hS : va_S A s.heap H locs) (hsize : ls.size = c.maxLocals)
    (d0 : decode cc pc = .ok (.new ik, 3)) (d3 : decode cc (pc + 3) = .ok (.dup, 1)) (d4 : decode cc (pc + 4) = .ok (.ldc_w is, 3)) (d7 : decode cc (pc + 7) = .ok (.invokespecial ic, 3)) (d10 : decode cc (pc + 10) = .ok (.athrow, 1))
    (hout : ∀ x ∈ c.exceptionTable.toList, covers x (pc + 10) = false)
    (hRframes : names.length + 3 < R.frames) (hRlocals : (rest.map fun v => v.category).sum + (13 * (names.length + 1) + 43) ≤ R.locals) (hRcells : cells + 1 ≤ R.cells) (hRslots : slots + 6 ≤ R.slots) (hlocks : meth.locks = false)
    (hx : ∀ t : State, s.vm.Alike t.vm → H.size ≤ t.heap.size → (∀ q : Nat, q < H.size → t.heap[q]? = H[q]?) → XC cls s t)
    (hf : ∀ z ∈ locs, free z.base) (hc : cells + 1 ≤ mc) (hs : slots + 6 ≤ ms) :
    W p l e R s m args below meth c H locs cells slots (vx_MQ below Qc XC args s mc ms free) (F0 m pc ls rest) := by
  intro T hT X
  have htr : e.platform.stackTraces = false := (show e.platform.stackTraces = l.stackTraces by rw [X.admits.platform]).trans hl
  have Y := vx_rebase X (R' := { frames := R.frames, locals := R.locals, cells := 1, slots := 6 }) (Nat.le_refl _) (Nat.le_refl _) hRcells hRslots
  obtain ⟨s', hA⟩ : ∃ z, z = (T.setVm s.vm).setFrames (.invoking m args :: below) := ⟨_, rfl⟩
  rw [← hA] at Y
  have hvm : s'.vm = s.vm := by rw [hA]; rfl
  have hhp : s'.heap = H := by rw [hA]; exact hT
  have hW0 : s.WarmedH s'.vm := by rw [hvm]; exact State.WarmedH.refl s
  have hat' : ∀ w ∈ vx_atS own ic cls names, w.before args s' = true := fun w hw => vx_ot_at hW0 hvm.symm (hgood w (List.mem_cons_of_mem _ (List.mem_cons_of_mem _ hw))) (hat w hw)
  have hk' : (Cond.classLink own ik cls).before args s' = true := vx_ot_at hW0 hvm.symm (hgood _ List.mem_cons_self) hk
  have hini' : (Cond.initialized cls).before args s' = true := vx_ot_at hW0 hvm.symm (hgood _ (List.mem_cons_of_mem _ List.mem_cons_self)) hini
  have hU' : vx_Zq Bundle.tN "UNASSIGNED_STACK" Bundle.steD A s' s'.heap := by rw [hhp]; exact vx_Zq.moved hW0.alike (hU.kept hS.2.1)
  have hN' : vx_Zq Bundle.tN "SUPPRESSED_SENTINEL" Bundle.listD A s' s'.heap := by rw [hhp]; exact vx_Zq.moved hW0.alike (hN.kept hS.2.1)
  have h : ∀ w ∈ Bundle.ownAtoms own ic cls names, w.before args s' = true := vx_own hat' (vx_isRefq hU'.1) (vx_isRefq hN'.1) hU'.2.word hN'.2.word
  have hown' : s'.vm.findClass own = some m.cls := by rw [hvm]; exact hown
  have hins : (Cond.instantiable cls 6).before args s' = true := h _ (by simp [Bundle.ownAtoms])
  obtain ⟨vm₁, cX, kX, hfX, hkX, -, -, X₁, st1⟩ := Y.newCold hexec (own := own) (C := cls) (index := ik) (n := 6) hown' hk' hins hini'
    (g := F0 m pc ls rest) rfl (by rw [hb]; exact d0) (Nat.le_refl _) (Nat.le_refl _)
  generalize hT1 : (T.setVm vm₁).pushCell { cls := cX, slots := kX.instanceTypes.map defaultValue, vm := .none } = T1 at X₁ st1
  have hcat : (Value.ref T.heap.size).category = 1 := rfl
  have hcellA : T1.heap[T.heap.size]? = some (freshCell cX kX) := by rw [← hT1]; exact State.heap_pushCell_size _ _
  have d3' : decode c.code (pc + 3) = .ok (.dup, 1) := by rw [hb]; exact d3
  have d4' : decode c.code (pc + 4) = .ok (.ldc_w is, 3) := by rw [hb]; exact d4
  have hstr' : vk_R own is text sa s' := vk_R.warm hW0 hstr
  obtain ⟨U, hsteps, hrun, hend, hW, hsame, ce, hce, hO⟩ := X₁.ctorThrowS hexec htr (own := own) (cls := cls) (names := names) (ic := ic) hown' hcls hnames h (fun x hx => nomatch hx) hfX hkX hcellA (by rw [hhp, hT]; exact Nat.le_refl _) (msg := .ref sa) rfl
    (g := { method := m, pc := pc + 7, locals := ls, stack := .ref sa :: .ref T.heap.size :: .ref T.heap.size :: rest, locked := none }) rfl hsize rfl rfl (rest := rest) rfl
    (by rw [hb]; exact d7) (by rw [hb]; exact d10) hout hRframes (by simp only [List.map_cons, List.sum_cons, hcat]; omega) hlocks
  obtain ⟨f1, f2⟩ := vx_frame hsame
  rw [hhp] at f1 f2
  have hWs : s.WarmedH U.vm := State.WarmedH.trans hW0 hW
  have hcl : s.vm.findClass cls = some ce.cls := by
    have h9 := hO.cls
    rw [hvm] at h9
    exact h9
  have hall : s.sameButNew ({ U with vm := s.vm } : State) locs mc ms := by
    subst hA
    obtain ⟨e1, e2⟩ := hsame
    rw [State.setFrames_setFrames] at e1
    have h2 : (T.setVm s.vm).sameButNew ({ U with vm := s.vm } : State) [] (0 + 1) (0 + 6) := ⟨e1, e2⟩
    have h3 := X.same.trans h2
    rw [List.append_nil] at h3
    exact h3.mono hc hs
  refine ⟨U, ?_, .threw T.heap.size, hrun, hend, Or.inr ⟨T.heap.size, rfl, cls, ce, locs, hx U hWs.alike f1 (fun q hq => f2 q hq (fun z hz => nomatch hz)), hce, hO.vm, hcl, hWs, hall, hf⟩⟩
  refine st1 _ ?_
  show Steps p.tables e below (T1.setTop { method := m, pc := pc + 3, locals := ls, stack := .ref T.heap.size :: rest, locked := none }) _
  jvm_step X₁.here [X₁.here.top, hexec, d3', Value.category]
  exact X₁.ldcStringW hexec (own := own) (text := text) (index := is) (a := sa) hown' hstr'.1 hstr'.2
    (g := { method := m, pc := pc + 4, locals := ls, stack := .ref T.heap.size :: .ref T.heap.size :: rest, locked := none }) rfl d4' _ hsteps
end Ends
section Bodies
variable {l : Launch}
theorem vx_ofW {y : MethodName} {ws ws' : List Cond} {rm : Room} {Pc : Array Value → State → Prop} {Qc : Array Value → State → Outcome → State → Prop} {XC : String → State → State → Prop} {mc ms : Nat} {free : Addr → Prop} {cc : ByteArray} {maxL : Nat} {ret : Option FieldType}
    (hy : plainName y.cls = true) (hw : ws = Cond.code y cc maxL ret :: ws')
    (body : ∀ p e s m args below meth c s₁, BodyLoose p l y (headSpec ws rm) cc maxL ret e s m args below meth c s₁ → c.maxLocals = maxL → (∀ x ∈ c.exceptionTable.toList, False) → Pc args s →
      W p l e (headSpec ws rm).room s m args below meth c s.heap [] 0 0 (vx_MQ below Qc XC args s mc ms free) (entryFrame m args maxL)) : vx_Met l y ws rm Pc Qc XC mc ms free := by
  refine MetFree.of_bodyS (code := cc) (maxLocals := maxL) (ret := ret) hy ?_ ?_
  · intro args s m h hn
    obtain ⟨meth, c, h1, h2, h3, h4, h5, h6, -, -⟩ := Cond.code_spec hn (atoms_spec (ws := ws) h _ (by rw [hw]; exact List.mem_cons_self))
    exact ⟨meth, c, h1, h2, h3, h4, h5, h6⟩
  · intro p e s m args below meth c s₁ B hml hP _
    have hh0 : s₁.heap = s.heap := by rw [B.state]; rfl
    have ht : ∀ x ∈ c.exceptionTable.toList, False := by
      obtain ⟨meth9, c9, h1, h2, -, -, -, -, h7, -⟩ := Cond.code_spec B.named (atoms_spec (ws := ws) B.pre _ (by rw [hw]; exact List.mem_cons_self))
      cases Option.some.inj (h1.symm.trans B.method)
      cases Option.some.inj (h2.symm.trans (Stand.of_body B).code)
      intro x hx
      rw [Array.isEmpty_iff.mp h7] at hx
      cases hx
    obtain ⟨t, a1, o, b1, b2, b3⟩ := body p e s m args below meth c s₁ B hml ht hP s₁ hh0 (Stand.of_body B)
    exact ⟨t, o, a1, b1, b2, b3⟩
/-- the table of a body with handlers -/
theorem vx_table {p : Program} {x y : MethodName} {S : Spec} {cc bytes : ByteArray} {maxL maxL' : Nat} {ret ret' : Option FieldType} {e : Env} {s s₁ : State} {m : MethodId} {args : Array Value} {below : List Frame} {meth : Method} {c : Code} {hh : List (Nat × Nat × Nat × Nat)}
    (B : BodyLoose p l y S cc maxL ret e s m args below meth c s₁) (h : (Cond.codeWith y bytes maxL' ret' hh).before args s = true) : c.exceptionTable.toList = tableOf hh := by
  obtain ⟨m9, meth9, c9, hn9, h1, h2, -, -, h6, -⟩ := Cond.codeWith_spec h
  cases Option.some.inj (hn9.symm.trans B.named)
  cases Option.some.inj (h1.symm.trans B.method)
  cases Option.some.inj (h2.symm.trans (Stand.of_body B).code)
  rw [← h6, table_eq]
end Bodies
end VXA
/-! ===== END ===== -/
/-! ===== BEGIN a static call of a method with an exception table ===== -/
section VXS
variable {p : Program} {l : Launch} {e : Env} {R : Room} {s : State} {m : MethodId} {args : Array Value} {below : List Frame} {meth : Method} {c : Code} {T : State} {H : Heap} {locs : List Loc} {cells slots : Nat}
abbrev vx_CSW (R : Room) (s : State) (args : Array Value) (own : String) (index : Nat) (y : MethodName) (bytes : ByteArray) (maxL : Nat) (ret : Option FieldType) (hh : List (Nat × Nat × Nat × Nat)) (ws : List Cond) (rm : Room) (mc ms n : Nat) : Prop :=
  (rm.cells = mc ∧ rm.slots = ms ∧ rm.frames + 1 ≤ R.frames ∧ 8 + (maxL + 11) + rm.locals ≤ R.locals ∧ (∀ w ∈ ws, ∀ (a' : Array Value) (U : State), s.WarmedH U.vm → w.before a' U = true) ∧ Cond.codeWith y bytes maxL ret hh ∈ ws) ∧
  (Cond.codeWith y bytes maxL ret hh).before args s = true ∧ (Cond.initialized y.cls).before args s = true ∧ (y.cls ≠ "java/lang/invoke/MethodHandle" ∧ y.cls ≠ "java/lang/invoke/VarHandle") ∧
  (∀ sig, parseMethodDescriptor y.desc = some sig → n = sig.parameters.length) ∧ (Cond.methodLink own index y).before args s = true ∧ (Cond.static y).before args s = true
theorem vx_cwSW {own : String} {index maxL mc ms : Nat} {y : MethodName} {bytes : ByteArray} {ret : Option FieldType} {hh : List (Nat × Nat × Nat × Nat)} {Ts ws ws' : List Cond} {rm : Room} (n : Nat) (ht : ∀ w ∈ Ts, w.before args s = true) (hT : GoodIn Ts (va_wsS own index y ws)) (hw : ws = Cond.codeWith y bytes maxL ret hh :: ws') (hrc : rm.cells = mc) (hrs : rm.slots = ms)
    (hd : y.cls ≠ "java/lang/invoke/MethodHandle" ∧ y.cls ≠ "java/lang/invoke/VarHandle" ∧ (parseMethodDescriptor y.desc).map (fun d => d.parameters.length) = some n) (hR : rm.frames + 1 ≤ R.frames ∧ 8 + (maxL + 11) + rm.locals ≤ R.locals) :
    vx_CSW R s args own index y bytes maxL ret hh ws rm mc ms n := by
  have ok : ∀ w ∈ va_wsS own index y ws, w.before args s = true := fun w h => ht w (hT w h).1
  have hG : GoodIn Ts ws := fun w h => hT w (by unfold va_wsS; exact List.mem_append_right _ h)
  have hc : Cond.codeWith y bytes maxL ret hh ∈ ws := by rw [hw]; exact List.mem_cons_self
  refine ⟨⟨hrc, hrs, hR.1, hR.2, pay_in ht hG, hc⟩, ht _ (hG _ hc).1, ok _ (by simp [va_wsS]), ⟨hd.1, hd.2.1⟩, fun sig h => ?_, ok _ (by simp [va_wsS]), ok _ (by simp [va_wsS])⟩
  have h2 := hd.2.2
  rw [h] at h2
  exact (Option.some.inj h2).symm
theorem vx_callSW (X : Stand p l e R s m args below meth c T locs cells slots) (hexec : p.tables.exec = Jvm.exec) {own : String} {index : Nat} {y : MethodName} {bytes : ByteArray} {maxL : Nat} {ret : Option FieldType} {hh : List (Nat × Nat × Nat × Nat)}
    (hown : s.vm.findClass own = some m.cls) (hlink : (Cond.methodLink own index y).before args s = true) (hstat : (Cond.static y).before args s = true) (hinit : (Cond.initialized y.cls).before args s = true)
    (hcode : (Cond.codeWith y bytes maxL ret hh).before args s = true) (hy : y.cls ≠ "java/lang/invoke/MethodHandle" ∧ y.cls ≠ "java/lang/invoke/VarHandle")
    {W9 : Nat} {Pre : Pt → Array Value → Prop} {Post : Pt → Array Value → Option Value → Pt → Prop} (hK : Back l R p e below s args y 3 W9 Pre Post)
    {g : JFrame} (hg : g.method = m) (hsize : g.locals.size = c.maxLocals) {argsL rest : List Value} (hlen : ∀ sig, parseMethodDescriptor y.desc = some sig → argsL.length = sig.parameters.length)
    (hstack : g.stack = argsL.reverse ++ rest) (hW : 2 * g.monitorRoom + (rest.map fun v => v.category).sum ≤ W9) (hdg : decode c.code g.pc = .ok (.invokestatic index, 3))
    (hpre : ∀ vm₁, s.WarmedH vm₁ → Pre ⟨T.setVm vm₁, locs, cells, slots⟩ argsL.toArray) :
    ∃ (v : Option Value) (vm₁ : Vm) (B : Pt), s.WarmedH vm₁ ∧ Stand p l e R s m args below meth c B.U B.locs B.cells B.slots ∧ Post ⟨T.setVm vm₁, locs, cells, slots⟩ argsL.toArray v B ∧
      ∀ target, Steps p.tables e below (B.U.setTop { g with pc := g.pc + 3, stack := v.toList ++ rest }) target → Steps p.tables e below (T.setTop g) target := by
  obtain ⟨mk, methM, cM, hnamed, hmethM, -, -, -, -, -, -, hsigM⟩ := Cond.codeWith_spec hcode
  have hstatic : methM.isStatic = true := Cond.static_spec hnamed hmethM hstat
  obtain ⟨kP, hkP, -⟩ := className_of_methodNamed hnamed
  have hinitP : kP.init = .initialized := Cond.initialized_spec (findClass_of_methodNamed hnamed) hkP hinit
  obtain ⟨vm₁, X₁, hstep₁⟩ := X.invokestatic hexec hown hlink hnamed hmethM hstatic hkP hinitP hy (g := g) hg (argsL := argsL) (rest := rest) (hlen _ hsigM) hstack hdg
  obtain ⟨v, B, X', hpost, hsteps⟩ := hK m meth c ⟨T.setVm vm₁, locs, cells, slots⟩ { g with stack := rest } (.invokestatic index) mk argsL.toArray X₁ hg hsize hdg hW (X₁.named hnamed) (hpre vm₁ X₁.warmed)
  exact ⟨v, vm₁, B, X₁.warmed, X', hpost, fun target h => hstep₁ _ fun acts => by rw [doInvoke_state]; exact hsteps.trans h⟩
theorem vx_runSW {y : MethodName} {bytes cc : ByteArray} {maxL nL mc ms n index : Nat} {ret : Option FieldType} {hh : List (Nat × Nat × Nat × Nat)} {ws : List Cond} {rm : Room} {Pc : Array Value → State → Prop} {Qc : Array Value → State → Outcome → State → Prop} {free : Addr → Prop} {Ts : List Cond} {own : String} {As rest : List Value} {g : JFrame}
    (S : CallFix p m c cc nL s args Ts own) (hM : Met l y ws rm Pc Qc mc ms free) (cw : vx_CSW R s args own index y bytes maxL ret hh ws rm mc ms n) (hp : PreS s H Pc As)
    (hg : g.method = m) (hn : As.length = n) (hsize : g.locals.size = nL) (hstack : g.stack = As.reverse ++ rest) (hW : 2 * g.monitorRoom + (rest.map fun v => v.category).sum ≤ 8) (hdg : decode cc g.pc = .ok (.invokestatic index, 3)) (hf : cells + mc ≤ R.cells ∧ slots + ms ≤ R.slots) :
    va_Run p l e R s m args below meth c H locs cells slots mc ms g rest (Qc As.toArray) (free) := by
  obtain ⟨⟨hrc, hrs, hfr, hlo, hws, hcw⟩, hcode, hini, hy, hlen, hl, hstt⟩ := cw
  have hK : Back l R p e below s args y 3 8 (PreOf R mc ms Pc) (PostOf Qc mc ms free) := va_backW (hh := hh) (bytes := bytes) (maxL := maxL) (ret := ret) hM hp.1 hrc hrs hfr hlo hws hcw (fun a' U hW => word_at hW (Or.inl (by first | rfl | simp [Cond.onTables, Cond.keeps, Cond.steady])) hini)
  obtain ⟨hx, hb, hml, ho, -⟩ := S
  intro T hT X
  obtain ⟨v, vm₁, ⟨U', l2, c2, s2⟩, hW₁, X', ⟨g', mk, t, L, e1, e2, hq, h1, hL, h2, h3⟩, st⟩ := vx_callSW X hx (hh := hh) (bytes := bytes) (maxL := maxL) (ret := ret) ho hl hstt hini hcode hy hK hg (hsize.trans hml.symm) (argsL := As) (rest := rest) (fun sig h => hn.trans (hlen sig h)) hstack hW (by rw [hb]; exact hdg)
    (fun vm₁ hW₁ => ⟨hf.1, hf.2, hp.2 (T.setVm vm₁) hT hW₁⟩)
  dsimp only [Pt.U, Pt.locs, Pt.cells, Pt.slots] at X' e1 e2 h1 h2 h3 st
  subst h1; subst h2; subst h3
  exact ⟨v, (T.setVm vm₁).calling g' mk As.toArray, t, U', L, hT, X', hL, e1, e2, hq, st⟩
/-- not caught here, past rows that name other classes: it goes on to the caller -/
theorem vx_outP {p : Program} {l : Launch} {e : Env} {R : Room} {s : State} {m : MethodId} {args : Array Value} {below : List Frame} {meth : Method} {c : Code} {H : Heap} {locs : List Loc} {cells slots : Nat} {free : Addr → Prop} {ls : Array Slot} {rest : List Value} {Qc : Array Value → State → Outcome → State → Prop} {XC : String → State → State → Prop}
    {pc : Nat} {own E : String} {ce : Cell} {q : Addr} {mc ms : Nat} (hown : s.vm.findClass own = some m.cls) (hlocks : meth.locks = false)
    (hpass : ∀ z ∈ c.exceptionTable.toList, covers z pc = false ∨ (z.catchType ≠ 0 ∧ ∃ nm : String, (Cond.classLink own z.catchType nm).before args s = true ∧ va_Nc E nm s)) (hcell : H[q]? = some ce) (hv : ce.vm = .none) (hcl : s.vm.findClass E = some ce.cls)
    (hx : ∀ t : State, t.heap = H → s.vm.Alike t.vm → XC E s t) (hf : ∀ z ∈ locs, free z.base) (hc : cells ≤ mc) (hs : slots ≤ ms) :
    vx_W p l e R s m args below meth c H locs cells slots (vx_MQ below Qc XC args s mc ms free) (F0 m pc ls rest) q := by
  intro T hT X
  have hpl : e.platform.magicAccessors = ({} : Platform).magicAccessors := by rw [X.admits.platform]
  obtain ⟨vm', hW', X', st⟩ := X.outThrough hlocks q (g := F0 m pc ls rest) rfl rfl rfl (cell := ce) (by rw [hT]; exact hcell) (by rw [hv]; rfl)
    (by obtain ⟨k9, h9, -⟩ := Vm.findClass_spec hcl; exact ⟨k9, h9⟩) (fun z hz => by
      rcases hpass z hz with h | ⟨hz0, nm, hl1, hn1⟩
      · exact Or.inl h
      · obtain ⟨c6, hc6, hcl6⟩ := Cond.classLink_spec hown hl1 e.platform hpl
        obtain ⟨a8, b8, h1, h2, h3⟩ := hn1
        cases Option.some.inj (h1.symm.trans hcl)
        cases Option.some.inj (h2.symm.trans hc6)
        exact Or.inr ⟨hz0, _, hcl6, h3⟩)
  obtain ⟨g₀, hfr⟩ := X'.frames_eq
  have hcell9 : ((T.setVm vm').setFrames (.throwing q :: below)).heap[q]? = some ce := by
    show T.heap[q]? = some ce
    rw [hT]; exact hcell
  have hend : Ended ((T.setVm vm').setFrames (.throwing q :: below)) below (.threw q) := State.frames_setFrames _ (State.cur_lt_of_frames hfr)
  refine ⟨(T.setVm vm').setFrames (.throwing q :: below), ?_, .threw q, X'.here.running, hend, Or.inr ⟨q, rfl, E, ce, locs, hx _ hT (X'.ends _).1.alike, hcell9, hv, hcl, (X'.ends _).1, (X'.ends _).2.mono hc hs, hf⟩⟩
  rw [X.pushThrowing_eq]
  exact st
/-- a thing of a world lies in the heap -/
theorem vx_lt {D : va_G} {cl : List vw_C} {ws : va_W} {H1 : Heap} (h : va_P D cl ws H1) {k : Nat} {q : Nat × va_E} (hk : ws[k]? = some q) : q.1 < H1.size := (h k q hk).lt
end VXS
/-! ===== END ===== -/
/-! ===== BEGIN methods with a table of their own: called by a name, returning or throwing ===== -/
section VXH
/-! vx_backW, vx_callVX, vx_callSX, vx_callVW, vx_runVW, vx_runVX, vx_runSX, vx_ofWH follow the same proofs as their sisters above (Free/Laws.lean, Shelf42/LK1.lean); vx_outP calls Shelf42/NT130.lean (outThrough). -/
section
variable {l : Launch} {R : Room} {p : Program} {e : Env} {below : List Frame} {s : State} {sargs : Array Value} {y : MethodName} {len W9 : Nat}
theorem vx_backW {ws : List Cond} {rm : Room} {Pc : Array Value → State → Prop} {Qc : Array Value → State → Outcome → State → Prop} {XC : String → State → State → Prop} {mc ms : Nat} {free : Addr → Prop} {bytes : ByteArray} {maxL : Nat} {ret : Option FieldType} {hh : List (Nat × Nat × Nat × Nat)}
    (hM : vx_Met l y ws rm Pc Qc XC mc ms free) (hblind : FrameBlind Pc) (hrc : rm.cells = mc) (hrs : rm.slots = ms)
    (hframes : rm.frames + 1 ≤ R.frames) (hlocals : W9 + (maxL + 11) + rm.locals ≤ R.locals)
    (hws : ∀ w ∈ ws, ∀ a' U, s.WarmedH U.vm → w.before a' U = true) (hcode : Cond.codeWith y bytes maxL ret hh ∈ ws) (hinit : ∀ a' U, s.WarmedH U.vm → (Cond.initialized y.cls).before a' U = true) :
    vx_Back l R p e below s sargs y len W9 (PreOf R mc ms Pc) (PostOf Qc mc ms free) (vx_Post XC mc ms free) := by
  intro m meth c A g ig mk a X hg hsize hdg hW hn hp
  have h1 : (headSpec ws rm).pre.before a A.U = true := atoms_intro fun w hw => hws w hw _ _ X.warmed
  have h2 : (Cond.codeWith y bytes maxL ret hh).before a A.U = true := hws _ hcode _ _ X.warmed
  have h3 : (Cond.initialized y.cls).before a A.U = true := hinit _ _ X.warmed
  have h4 : A.cells + (headSpec ws rm).room.cells ≤ R.cells := by rw [show (headSpec ws rm).room.cells = mc from hrc]; exact hp.1
  have h5 : A.slots + (headSpec ws rm).room.slots ≤ R.slots := by rw [show (headSpec ws rm).room.slots = ms from hrs]; exact hp.2.1
  have hPc : Pc a (A.U.calling g mk a) := hblind _ _ _ _ hp.2.2
  obtain ⟨U, Ls, c0, s0⟩ := A
  dsimp only [Pt.U, Pt.locs, Pt.cells, Pt.slots] at h1 h2 h3 h4 h5 X hn hPc ⊢
  obtain ⟨m9, methY, cY, hn9, hmY, hcY, -, hlY, -⟩ := Cond.codeWith_spec h2
  cases Option.some.inj (hn9.symm.trans hn)
  obtain ⟨kY, hkY, -⟩ := className_of_methodNamed hn
  have hinitY : kY.init = .initialized := Cond.initialized_spec (findClass_of_methodNamed hn) hkY h3
  have h : At U g.method c below := by rw [hg]; exact X.here
  have hlocals9 : W9 + (maxL + 11) + (headSpec ws rm).room.locals ≤ R.locals := hlocals
  have happ : (headSpec ws rm).appliesLoose y e.platform (U.calling g mk a) = true :=
    Spec.appliesLoose_calling (g := g) h hdg hn hkY hinitY
      (X.room_calling (g := g) (R' := (headSpec ws rm).room) hsize hmY hcY hframes (by rw [hlY]; omega) h4 h5) h1
  obtain ⟨mid, hmid⟩ := h.above
  have hfr : (U.setTop g).frames = (.java g :: mid) ++ below := by rw [State.frames_setTop' g h.top, hmid]; rfl
  obtain ⟨o, s₂, hsteps, -, hend, hq⟩ := Steps.callFree hM p X.admits X.cas X.clock (acts := []) hfr happ hPc trivial
  have hq' : vx_Q Qc XC mc ms free a (U.calling g mk a) o s₂ := hq
  rw [State.frames_setTop' g h.top] at hend
  obtain ⟨g₀, hg0⟩ := Option.isSome_iff_exists.mp h.top
  obtain ⟨r, hr⟩ := State.topJava?_eq_some.mp hg0
  have hr' : (({ U with heap := s₂.heap, slotsUsed := s₂.slotsUsed } : State).setVm s₂.vm).frames = .java g₀ :: r := hr
  rcases hq' with ⟨hqc, L, hfe, hL⟩ | ⟨q, rfl, E, ce, L, hx, hce, hcv, hcl, hW₂, hsm, hL⟩
  · obtain ⟨⟨v, rfl⟩, hW₂, e2, q2, q3, q4, q5, q6⟩ := id hfe
    have e3 : s₂ = ({ (U.calling g mk a).setFrames s₂.frames with heap := s₂.heap, slotsUsed := s₂.slotsUsed } : State).setVm s₂.vm := by
      have : s₂ = ({ s₂ with vm := (U.calling g mk a).vm } : State).setVm s₂.vm := rfl
      rw [e2] at this
      exact this
    obtain ⟨c₂, i₂, len₂, hc₂, hd₂, hf₂⟩ := hend
    have hW' : U.WarmedH s₂.vm := hW₂
    have hcc : c₂ = c := by
      have h1 : s₂.code? g.method = U.code? g.method := by
        rw [State.code?_eq, State.code?_eq, hW'.alike.method?]
      exact Option.some.inj (hc₂.symm.trans (h1.trans h.code))
    subst hcc
    have hlen : len₂ = len := by rw [hdg] at hd₂; cases hd₂; rfl
    subst hlen
    have hs₂ : s₂ = (({ U with heap := s₂.heap, slotsUsed := s₂.slotsUsed } : State).setVm s₂.vm).setTop { g with pc := g.pc + len₂, stack := v.toList ++ g.stack } := by
      refine e3.trans ?_
      rw [hf₂, State.calling_eq h.top, State.setFrames_setFrames, State.setTop_of_frames _ hr', hr]
      rfl
    have hsame : U.sameButNew ({ U with heap := s₂.heap, slotsUsed := s₂.slotsUsed } : State) L mc ms := by
      refine ⟨?_, q2, q3, q4, q5, q6⟩
      obtain ⟨t, ht, -⟩ := State.frames_cons hr
      show ({ U with heap := s₂.heap, slotsUsed := s₂.slotsUsed } : State) = { U.setFrames U.frames with heap := s₂.heap, slotsUsed := s₂.slotsUsed }
      rw [State.setFrames_self ht]
    subst hg
    refine Or.inl ⟨v, ⟨(({ U with heap := s₂.heap, slotsUsed := s₂.slotsUsed } : State).setVm s₂.vm), Ls ++ L, c0 + mc, s0 + ms⟩,
      ⟨X.admits, X.cas, X.clock, X.frames, X.room, X.hears, X.method, X.code, (X.here.setHeapUsed s₂.heap s₂.slotsUsed).setVm hW'.alike, X.tail, State.WarmedH.trans X.warmed hW', X.limits, X.bytes, X.same.trans (hsame.setVm s.vm)⟩,
      ⟨g, mk, s₂, L, rfl, rfl, hqc, rfl, hL, rfl, rfl⟩, ?_⟩
    show Steps p.tables e below _ ((({ U with heap := s₂.heap, slotsUsed := s₂.slotsUsed } : State).setVm s₂.vm).setTop { g with pc := g.pc + len₂, stack := v.toList ++ g.stack })
    rw [← hs₂]
    exact hsteps
  · obtain ⟨e2, q2, q3, q4, q5, q6⟩ := id hsm
    have e3 : s₂ = ({ (U.calling g mk a).setFrames s₂.frames with heap := s₂.heap, slotsUsed := s₂.slotsUsed } : State).setVm s₂.vm := by
      have : s₂ = ({ s₂ with vm := (U.calling g mk a).vm } : State).setVm s₂.vm := rfl
      rw [e2] at this
      exact this
    have hf₂ : s₂.frames = .throwing q :: .java g :: U.frames.tail := hend
    have hW' : U.WarmedH s₂.vm := hW₂
    have hs₂ : s₂ = ((({ U with heap := s₂.heap, slotsUsed := s₂.slotsUsed } : State).setVm s₂.vm).setTop g).pushFrame (.throwing q) := by
      refine e3.trans ?_
      rw [hf₂, State.calling_eq h.top, State.setFrames_setFrames, State.pushFrame, State.frames_setTop _ hr', State.setTop_of_frames _ hr', State.setFrames_setFrames, hr]
      rfl
    have hsame : U.sameButNew ({ U with heap := s₂.heap, slotsUsed := s₂.slotsUsed } : State) L mc ms := by
      refine ⟨?_, q2, q3, q4, q5, q6⟩
      obtain ⟨t, ht, -⟩ := State.frames_cons hr
      show ({ U with heap := s₂.heap, slotsUsed := s₂.slotsUsed } : State) = { U.setFrames U.frames with heap := s₂.heap, slotsUsed := s₂.slotsUsed }
      rw [State.setFrames_self ht]
    subst hg
    refine Or.inr ⟨q, ⟨(({ U with heap := s₂.heap, slotsUsed := s₂.slotsUsed } : State).setVm s₂.vm), Ls ++ L, c0 + mc, s0 + ms⟩,
      ⟨X.admits, X.cas, X.clock, X.frames, X.room, X.hears, X.method, X.code, (X.here.setHeapUsed s₂.heap s₂.slotsUsed).setVm hW'.alike, X.tail, State.WarmedH.trans X.warmed hW', X.limits, X.bytes, X.same.trans (hsame.setVm s.vm)⟩,
      ⟨g, mk, s₂, L, E, ce, rfl, rfl, hx, hce, hcv, hcl, rfl, hL, rfl, rfl⟩, ?_⟩
    show Steps p.tables e below _ (((({ U with heap := s₂.heap, slotsUsed := s₂.slotsUsed } : State).setVm s₂.vm).setTop g).pushFrame (.throwing q))
    rw [← hs₂]
    exact hsteps
end
variable {p : Program} {l : Launch} {e : Env} {R : Room} {s : State} {m : MethodId} {args : Array Value} {below : List Frame} {meth : Method} {c : Code} {T : State} {H : Heap} {locs : List Loc} {cells slots : Nat}
theorem vx_callVX (X : Stand p l e R s m args below meth c T locs cells slots) (hexec : p.tables.exec = Jvm.exec) {own C : String} {index : Nat} {y : MethodName} {bytes : ByteArray} {maxL : Nat} {ret : Option FieldType} {hh : List (Nat × Nat × Nat × Nat)}
    (hown : s.vm.findClass own = some m.cls) (hlink : (Cond.methodLink own index y).before args s = true) (hinst : (Cond.instanceMethod y).before args s = true) (hsel : (Cond.selects C y y).before args s = true)
    (hcode : (Cond.codeWith y bytes maxL ret hh).before args s = true) (hy : y.cls ≠ "java/lang/invoke/MethodHandle" ∧ y.cls ≠ "java/lang/invoke/VarHandle")
    {W9 : Nat} {Pre : Pt → Array Value → Prop} {Post : Pt → Array Value → Option Value → Pt → Prop} {PostX : Pt → Array Value → Addr → Pt → Prop} (hK : vx_Back l R p e below s args y 3 W9 Pre Post PostX)
    {b : Addr} {cellB : Cell} (hcell : T.heap[b]? = some cellB) (hobj : cellB.vm.isStatics = false) (hcls : s.vm.findClass C = some cellB.cls)
    {g : JFrame} (hg : g.method = m) (hsize : g.locals.size = c.maxLocals) {argsL rest : List Value} (hlen : ∀ sig, parseMethodDescriptor y.desc = some sig → argsL.length = sig.parameters.length)
    (hstack : g.stack = argsL.reverse ++ .ref b :: rest) (hW : 2 * g.monitorRoom + (rest.map fun v => v.category).sum ≤ W9) (hdg : decode c.code g.pc = .ok (.invokevirtual index, 3))
    (hpre : ∀ vm₁, s.WarmedH vm₁ → Pre ⟨T.setVm vm₁, locs, cells, slots⟩ (Value.ref b :: argsL).toArray) :
    (∃ (v : Option Value) (vm₁ : Vm) (B : Pt), s.WarmedH vm₁ ∧ Stand p l e R s m args below meth c B.U B.locs B.cells B.slots ∧ Post ⟨T.setVm vm₁, locs, cells, slots⟩ (Value.ref b :: argsL).toArray v B ∧
      ∀ target, Steps p.tables e below (B.U.setTop { g with pc := g.pc + 3, stack := v.toList ++ rest }) target → Steps p.tables e below (T.setTop g) target) ∨
    (∃ (q : Addr) (vm₁ : Vm) (B : Pt), s.WarmedH vm₁ ∧ Stand p l e R s m args below meth c B.U B.locs B.cells B.slots ∧ PostX ⟨T.setVm vm₁, locs, cells, slots⟩ (Value.ref b :: argsL).toArray q B ∧
      Steps p.tables e below (T.setTop g) ((B.U.setTop { g with stack := rest }).pushFrame (.throwing q))) := by
  obtain ⟨mk, methM, hnamed, hmethM, hstM, habM⟩ := Cond.instanceMethod_spec hinst
  obtain ⟨m8, methM', cM, hn8, hmethM', -, -, -, -, -, -, hsigM⟩ := Cond.codeWith_spec hcode
  cases Option.some.inj (hn8.symm.trans hnamed)
  cases hmethM.symm.trans hmethM'
  obtain ⟨c2, r2, m2, q1, q2, q3, q4, kP, hkP, hkPi⟩ := Cond.selects_spec hsel
  cases hcls.symm.trans q1
  cases (State.methodFound?_of_named hnamed hy).symm.trans q2
  cases hnamed.symm.trans q3
  have hselP : selectMethod e.platform s.vm cellB.cls mk = .method mk := by rw [Launch.admits_selectMethod X.admits]; exact q4
  obtain ⟨vm₁, X₁, hstep₁⟩ := X.invokevirtual hexec hown hlink hnamed hmethM hstM hkP hkPi hy (a := b) (cell := cellB) hcell
    (fun z h => by rw [h] at hobj; cases hobj) hselP hmethM habM hkP hkPi (g := g) hg (argsL := argsL) (rest := rest) (hlen _ hsigM) hstack hdg
  rcases hK m meth c ⟨T.setVm vm₁, locs, cells, slots⟩ { g with stack := rest } (.invokevirtual index) mk (Value.ref b :: argsL).toArray X₁ hg hsize hdg hW (X₁.named hnamed) (hpre vm₁ X₁.warmed) with ⟨v, B, X', hpost, hsteps⟩ | ⟨q, B, X', hpost, hsteps⟩
  · exact Or.inl ⟨v, vm₁, B, X₁.warmed, X', hpost, fun target h => hstep₁ _ fun acts => by rw [doInvoke_state]; exact hsteps.trans h⟩
  · exact Or.inr ⟨q, vm₁, B, X₁.warmed, X', hpost, hstep₁ _ fun acts => by rw [doInvoke_state]; exact hsteps⟩
theorem vx_callSX (X : Stand p l e R s m args below meth c T locs cells slots) (hexec : p.tables.exec = Jvm.exec) {own : String} {index : Nat} {y : MethodName} {bytes : ByteArray} {maxL : Nat} {ret : Option FieldType} {hh : List (Nat × Nat × Nat × Nat)}
    (hown : s.vm.findClass own = some m.cls) (hlink : (Cond.methodLink own index y).before args s = true) (hstat : (Cond.static y).before args s = true) (hinit : (Cond.initialized y.cls).before args s = true)
    (hcode : (Cond.codeWith y bytes maxL ret hh).before args s = true) (hy : y.cls ≠ "java/lang/invoke/MethodHandle" ∧ y.cls ≠ "java/lang/invoke/VarHandle")
    {W9 : Nat} {Pre : Pt → Array Value → Prop} {Post : Pt → Array Value → Option Value → Pt → Prop} {PostX : Pt → Array Value → Addr → Pt → Prop} (hK : vx_Back l R p e below s args y 3 W9 Pre Post PostX)
    {g : JFrame} (hg : g.method = m) (hsize : g.locals.size = c.maxLocals) {argsL rest : List Value} (hlen : ∀ sig, parseMethodDescriptor y.desc = some sig → argsL.length = sig.parameters.length)
    (hstack : g.stack = argsL.reverse ++ rest) (hW : 2 * g.monitorRoom + (rest.map fun v => v.category).sum ≤ W9) (hdg : decode c.code g.pc = .ok (.invokestatic index, 3))
    (hpre : ∀ vm₁, s.WarmedH vm₁ → Pre ⟨T.setVm vm₁, locs, cells, slots⟩ argsL.toArray) :
    (∃ (v : Option Value) (vm₁ : Vm) (B : Pt), s.WarmedH vm₁ ∧ Stand p l e R s m args below meth c B.U B.locs B.cells B.slots ∧ Post ⟨T.setVm vm₁, locs, cells, slots⟩ argsL.toArray v B ∧
      ∀ target, Steps p.tables e below (B.U.setTop { g with pc := g.pc + 3, stack := v.toList ++ rest }) target → Steps p.tables e below (T.setTop g) target) ∨
    (∃ (q : Addr) (vm₁ : Vm) (B : Pt), s.WarmedH vm₁ ∧ Stand p l e R s m args below meth c B.U B.locs B.cells B.slots ∧ PostX ⟨T.setVm vm₁, locs, cells, slots⟩ argsL.toArray q B ∧
      Steps p.tables e below (T.setTop g) ((B.U.setTop { g with stack := rest }).pushFrame (.throwing q))) := by
  obtain ⟨mk, methM, cM, hnamed, hmethM, -, -, -, -, -, -, hsigM⟩ := Cond.codeWith_spec hcode
  have hstatic : methM.isStatic = true := Cond.static_spec hnamed hmethM hstat
  obtain ⟨kP, hkP, -⟩ := className_of_methodNamed hnamed
  have hinitP : kP.init = .initialized := Cond.initialized_spec (findClass_of_methodNamed hnamed) hkP hinit
  obtain ⟨vm₁, X₁, hstep₁⟩ := X.invokestatic hexec hown hlink hnamed hmethM hstatic hkP hinitP hy (g := g) hg (argsL := argsL) (rest := rest) (hlen _ hsigM) hstack hdg
  rcases hK m meth c ⟨T.setVm vm₁, locs, cells, slots⟩ { g with stack := rest } (.invokestatic index) mk argsL.toArray X₁ hg hsize hdg hW (X₁.named hnamed) (hpre vm₁ X₁.warmed) with ⟨v, B, X', hpost, hsteps⟩ | ⟨q, B, X', hpost, hsteps⟩
  · exact Or.inl ⟨v, vm₁, B, X₁.warmed, X', hpost, fun target h => hstep₁ _ fun acts => by rw [doInvoke_state]; exact hsteps.trans h⟩
  · exact Or.inr ⟨q, vm₁, B, X₁.warmed, X', hpost, hstep₁ _ fun acts => by rw [doInvoke_state]; exact hsteps⟩
theorem vx_callVW (X : Stand p l e R s m args below meth c T locs cells slots) (hexec : p.tables.exec = Jvm.exec) {own C : String} {index : Nat} {y : MethodName} {bytes : ByteArray} {maxL : Nat} {ret : Option FieldType} {hh : List (Nat × Nat × Nat × Nat)}
    (hown : s.vm.findClass own = some m.cls) (hlink : (Cond.methodLink own index y).before args s = true) (hinst : (Cond.instanceMethod y).before args s = true) (hsel : (Cond.selects C y y).before args s = true)
    (hcode : (Cond.codeWith y bytes maxL ret hh).before args s = true) (hy : y.cls ≠ "java/lang/invoke/MethodHandle" ∧ y.cls ≠ "java/lang/invoke/VarHandle")
    {W9 : Nat} {Pre : Pt → Array Value → Prop} {Post : Pt → Array Value → Option Value → Pt → Prop} (hK : Back l R p e below s args y 3 W9 Pre Post)
    {b : Addr} {cellB : Cell} (hcell : T.heap[b]? = some cellB) (hobj : cellB.vm.isStatics = false) (hcls : s.vm.findClass C = some cellB.cls)
    {g : JFrame} (hg : g.method = m) (hsize : g.locals.size = c.maxLocals) {argsL rest : List Value} (hlen : ∀ sig, parseMethodDescriptor y.desc = some sig → argsL.length = sig.parameters.length)
    (hstack : g.stack = argsL.reverse ++ .ref b :: rest) (hW : 2 * g.monitorRoom + (rest.map fun v => v.category).sum ≤ W9) (hdg : decode c.code g.pc = .ok (.invokevirtual index, 3))
    (hpre : ∀ vm₁, s.WarmedH vm₁ → Pre ⟨T.setVm vm₁, locs, cells, slots⟩ (Value.ref b :: argsL).toArray) :
    ∃ (v : Option Value) (vm₁ : Vm) (B : Pt), s.WarmedH vm₁ ∧ Stand p l e R s m args below meth c B.U B.locs B.cells B.slots ∧ Post ⟨T.setVm vm₁, locs, cells, slots⟩ (Value.ref b :: argsL).toArray v B ∧
      ∀ target, Steps p.tables e below (B.U.setTop { g with pc := g.pc + 3, stack := v.toList ++ rest }) target → Steps p.tables e below (T.setTop g) target := by
  obtain ⟨mk, methM, hnamed, hmethM, hstM, habM⟩ := Cond.instanceMethod_spec hinst
  obtain ⟨m8, methM', cM, hn8, hmethM', -, -, -, -, -, -, hsigM⟩ := Cond.codeWith_spec hcode
  cases Option.some.inj (hn8.symm.trans hnamed)
  cases hmethM.symm.trans hmethM'
  obtain ⟨c2, r2, m2, q1, q2, q3, q4, kP, hkP, hkPi⟩ := Cond.selects_spec hsel
  cases hcls.symm.trans q1
  cases (State.methodFound?_of_named hnamed hy).symm.trans q2
  cases hnamed.symm.trans q3
  have hselP : selectMethod e.platform s.vm cellB.cls mk = .method mk := by rw [Launch.admits_selectMethod X.admits]; exact q4
  obtain ⟨vm₁, X₁, hstep₁⟩ := X.invokevirtual hexec hown hlink hnamed hmethM hstM hkP hkPi hy (a := b) (cell := cellB) hcell
    (fun z h => by rw [h] at hobj; cases hobj) hselP hmethM habM hkP hkPi (g := g) hg (argsL := argsL) (rest := rest) (hlen _ hsigM) hstack hdg
  obtain ⟨v, B, X', hpost, hsteps⟩ := hK m meth c ⟨T.setVm vm₁, locs, cells, slots⟩ { g with stack := rest } (.invokevirtual index) mk (Value.ref b :: argsL).toArray X₁ hg hsize hdg hW (X₁.named hnamed) (hpre vm₁ X₁.warmed)
  exact ⟨v, vm₁, B, X₁.warmed, X', hpost, fun target h => hstep₁ _ fun acts => by rw [doInvoke_state]; exact hsteps.trans h⟩
abbrev vx_CVW (R : Room) (s : State) (args : Array Value) (own C : String) (index : Nat) (y : MethodName) (bytes : ByteArray) (maxL : Nat) (ret : Option FieldType) (hh : List (Nat × Nat × Nat × Nat)) (ws : List Cond) (rm : Room) (mc ms n : Nat) : Prop :=
  (rm.cells = mc ∧ rm.slots = ms ∧ rm.frames + 1 ≤ R.frames ∧ 8 + (maxL + 11) + rm.locals ≤ R.locals ∧ (∀ w ∈ ws, ∀ (a' : Array Value) (U : State), s.WarmedH U.vm → w.before a' U = true) ∧ Cond.codeWith y bytes maxL ret hh ∈ ws) ∧
  (Cond.codeWith y bytes maxL ret hh).before args s = true ∧ (Cond.initialized y.cls).before args s = true ∧ (y.cls ≠ "java/lang/invoke/MethodHandle" ∧ y.cls ≠ "java/lang/invoke/VarHandle") ∧
  (∀ sig, parseMethodDescriptor y.desc = some sig → n = sig.parameters.length) ∧ (Cond.methodLink own index y).before args s = true ∧ (Cond.instanceMethod y).before args s = true ∧ (Cond.selects C y y).before args s = true
theorem vx_cwVW {own C : String} {index maxL mc ms : Nat} {y : MethodName} {bytes : ByteArray} {ret : Option FieldType} {hh : List (Nat × Nat × Nat × Nat)} {Ts ws ws' : List Cond} {rm : Room} (n : Nat) (ht : ∀ w ∈ Ts, w.before args s = true) (hT : GoodIn Ts (wsV own index C y ws)) (hw : ws = Cond.codeWith y bytes maxL ret hh :: ws') (hrc : rm.cells = mc) (hrs : rm.slots = ms)
    (hd : y.cls = C ∧ y.cls ≠ "java/lang/invoke/MethodHandle" ∧ y.cls ≠ "java/lang/invoke/VarHandle" ∧ (parseMethodDescriptor y.desc).map (fun d => d.parameters.length) = some n) (hR : rm.frames + 1 ≤ R.frames ∧ 8 + (maxL + 11) + rm.locals ≤ R.locals) :
    vx_CVW R s args own C index y bytes maxL ret hh ws rm mc ms n := by
  obtain ⟨hC, hd⟩ := hd
  subst hC
  have ok : ∀ w ∈ wsV own index y.cls y ws, w.before args s = true := fun w h => ht w (hT w h).1
  have hG : GoodIn Ts ws := fun w h => hT w (by unfold wsV; exact List.mem_append_right _ h)
  have hc : Cond.codeWith y bytes maxL ret hh ∈ ws := by rw [hw]; exact List.mem_cons_self
  refine ⟨⟨hrc, hrs, hR.1, hR.2, pay_in ht hG, hc⟩, ht _ (hG _ hc).1, ok _ (by simp [wsV]), ⟨hd.1, hd.2.1⟩, fun sig h => ?_, ok _ (by simp [wsV]), ok _ (by simp [wsV]), ok _ (by simp [wsV])⟩
  have h2 := hd.2.2
  rw [h] at h2
  exact (Option.some.inj h2).symm
theorem vx_runVW {y : MethodName} {bytes cc : ByteArray} {maxL nL mc ms n index : Nat} {ret : Option FieldType} {hh : List (Nat × Nat × Nat × Nat)} {ws : List Cond} {rm : Room} {Pc : Array Value → State → Prop} {Qc : Array Value → State → Outcome → State → Prop} {free : Addr → Prop} {Ts : List Cond} {own C : String} {b : Addr} {As rest : List Value} {g : JFrame}
    (S : CallFix p m c cc nL s args Ts own) (hM : Met l y ws rm Pc Qc mc ms free) (cw : vx_CVW R s args own C index y bytes maxL ret hh ws rm mc ms n) (hp : PreV s H C b Pc As)
    (hg : g.method = m) (hn : As.length = n) (hsize : g.locals.size = nL) (hstack : g.stack = As.reverse ++ .ref b :: rest) (hW : 2 * g.monitorRoom + (rest.map fun v => v.category).sum ≤ 8) (hdg : decode cc g.pc = .ok (.invokevirtual index, 3)) (hf : cells + mc ≤ R.cells ∧ slots + ms ≤ R.slots) :
    va_Run p l e R s m args below meth c H locs cells slots mc ms g rest (Qc (Value.ref b :: As).toArray) free := by
  obtain ⟨⟨hrc, hrs, hfr, hlo, hws, hcw⟩, hcode, hini, hy, hlen, hl, hin, hse⟩ := cw
  have hK : Back l R p e below s args y 3 8 (PreOf R mc ms Pc) (PostOf Qc mc ms free) := va_backW (hh := hh) (bytes := bytes) (maxL := maxL) (ret := ret) hM hp.1 hrc hrs hfr hlo hws hcw (fun a' U hW => word_at hW (Or.inl (by first | rfl | simp [Cond.onTables, Cond.keeps, Cond.steady])) hini)
  obtain ⟨hx, hb, hml, ho, -⟩ := S
  obtain ⟨-, ⟨cellB, hcB, hoB, hclB⟩, hPc⟩ := hp
  intro T hT X
  obtain ⟨v, vm₁, ⟨U', l2, c2, s2⟩, hW₁, X', ⟨g', mk, t, L, e1, e2, hq, h1, hL, h2, h3⟩, st⟩ := vx_callVW X hx (C := C) (hh := hh) (bytes := bytes) (maxL := maxL) (ret := ret) ho hl hin hse hcode hy hK (by rw [hT]; exact hcB) hoB hclB hg (hsize.trans hml.symm) (argsL := As) (rest := rest) (fun sig h => hn.trans (hlen sig h)) hstack hW (by rw [hb]; exact hdg)
    (fun vm₁ hW₁ => ⟨hf.1, hf.2, hPc (T.setVm vm₁) hT hW₁⟩)
  dsimp only [Pt.U, Pt.locs, Pt.cells, Pt.slots] at X' e1 e2 h1 h2 h3 st
  subst h1; subst h2; subst h3
  exact ⟨v, (T.setVm vm₁).calling g' mk (Value.ref b :: As).toArray, t, U', L, hT, X', hL, e1, e2, hq, st⟩
section
variable {y : MethodName} {bytes cc : ByteArray} {maxL nL mc ms n index : Nat} {ret : Option FieldType} {ws : List Cond} {rm : Room} {Pc : Array Value → State → Prop} {Qc : Array Value → State → Outcome → State → Prop} {XC : String → State → State → Prop} {free : Addr → Prop} {Ts : List Cond} {own C : String} {b : Addr} {As rest : List Value} {g : JFrame}
theorem vx_runVX {hh : List (Nat × Nat × Nat × Nat)} (S : CallFix p m c cc nL s args Ts own) (hM : vx_Met l y ws rm Pc Qc XC mc ms free) (cw : vx_CVW R s args own C index y bytes maxL ret hh ws rm mc ms n) (hp : PreV s H C b Pc As)
    (hg : g.method = m) (hn : As.length = n) (hsize : g.locals.size = nL) (hstack : g.stack = As.reverse ++ .ref b :: rest) (hW : 2 * g.monitorRoom + (rest.map fun v => v.category).sum ≤ 8) (hdg : decode cc g.pc = .ok (.invokevirtual index, 3)) (hf : cells + mc ≤ R.cells ∧ slots + ms ≤ R.slots) :
    vx_Run p l e R s m args below meth c H locs cells slots mc ms g rest (Qc (Value.ref b :: As).toArray) XC free := by
  obtain ⟨⟨hrc, hrs, hfr, hlo, hws, hcw⟩, hcode, hini, hy, hlen, hl, hin, hse⟩ := cw
  have hK : vx_Back l R p e below s args y 3 8 (PreOf R mc ms Pc) (PostOf Qc mc ms free) (vx_Post XC mc ms free) := vx_backW (hh := hh) (bytes := bytes) (maxL := maxL) (ret := ret) hM hp.1 hrc hrs hfr hlo hws hcw (fun a' U hW => word_at hW (Or.inl (by first | rfl | simp [Cond.onTables, Cond.keeps, Cond.steady])) hini)
  obtain ⟨hx, hb, hml, ho, -⟩ := S
  obtain ⟨-, ⟨cellB, hcB, hoB, hclB⟩, hPc⟩ := hp
  intro T hT X
  rcases vx_callVX X hx (C := C) (hh := hh) (bytes := bytes) (maxL := maxL) (ret := ret) ho hl hin hse hcode hy hK (by rw [hT]; exact hcB) hoB hclB hg (hsize.trans hml.symm) (argsL := As) (rest := rest) (fun sig h => hn.trans (hlen sig h)) hstack hW (by rw [hb]; exact hdg)
    (fun vm₁ hW₁ => ⟨hf.1, hf.2, hPc (T.setVm vm₁) hT hW₁⟩) with ⟨v, vm₁, ⟨U', l2, c2, s2⟩, hW₁, X', ⟨g', mk, t, L, e1, e2, hq, h1, hL, h2, h3⟩, st⟩ | ⟨q, vm₁, ⟨U', l2, c2, s2⟩, hW₁, X', ⟨g', mk, t, L, E, ce, e1, e2, hq, hce, hcv, hcl, h1, hL, h2, h3⟩, st⟩
  · dsimp only [Pt.U, Pt.locs, Pt.cells, Pt.slots] at X' e1 e2 h1 h2 h3 st
    subst h1; subst h2; subst h3
    exact Or.inl ⟨v, (T.setVm vm₁).calling g' mk (Value.ref b :: As).toArray, t, U', L, hT, X', hL, e1, e2, hq, st⟩
  · dsimp only [Pt.U, Pt.locs, Pt.cells, Pt.slots] at X' e1 e2 h1 h2 h3 st hcl
    subst h1; subst h2; subst h3
    exact Or.inr ⟨q, (T.setVm vm₁).calling g' mk (Value.ref b :: As).toArray, t, U', L, E, ce, hT, X', hL, e1, e2, hq, hce, hcv, vx_cls hW₁ hcl, st⟩
theorem vx_runSX {hh : List (Nat × Nat × Nat × Nat)} (S : CallFix p m c cc nL s args Ts own) (hM : vx_Met l y ws rm Pc Qc XC mc ms free) (cw : vx_CSW R s args own index y bytes maxL ret hh ws rm mc ms n) (hp : PreS s H Pc As)
    (hg : g.method = m) (hn : As.length = n) (hsize : g.locals.size = nL) (hstack : g.stack = As.reverse ++ rest) (hW : 2 * g.monitorRoom + (rest.map fun v => v.category).sum ≤ 8) (hdg : decode cc g.pc = .ok (.invokestatic index, 3)) (hf : cells + mc ≤ R.cells ∧ slots + ms ≤ R.slots) :
    vx_Run p l e R s m args below meth c H locs cells slots mc ms g rest (Qc As.toArray) XC free := by
  obtain ⟨⟨hrc, hrs, hfr, hlo, hws, hcw⟩, hcode, hini, hy, hlen, hl, hstt⟩ := cw
  have hK : vx_Back l R p e below s args y 3 8 (PreOf R mc ms Pc) (PostOf Qc mc ms free) (vx_Post XC mc ms free) := vx_backW (hh := hh) (bytes := bytes) (maxL := maxL) (ret := ret) hM hp.1 hrc hrs hfr hlo hws hcw (fun a' U hW => word_at hW (Or.inl (by first | rfl | simp [Cond.onTables, Cond.keeps, Cond.steady])) hini)
  obtain ⟨hx, hb, hml, ho, -⟩ := S
  intro T hT X
  rcases vx_callSX X hx (hh := hh) (bytes := bytes) (maxL := maxL) (ret := ret) ho hl hstt hini hcode hy hK hg (hsize.trans hml.symm) (argsL := As) (rest := rest) (fun sig h => hn.trans (hlen sig h)) hstack hW (by rw [hb]; exact hdg)
    (fun vm₁ hW₁ => ⟨hf.1, hf.2, hp.2 (T.setVm vm₁) hT hW₁⟩) with ⟨v, vm₁, ⟨U', l2, c2, s2⟩, hW₁, X', ⟨g', mk, t, L, e1, e2, hq, h1, hL, h2, h3⟩, st⟩ | ⟨q, vm₁, ⟨U', l2, c2, s2⟩, hW₁, X', ⟨g', mk, t, L, E, ce, e1, e2, hq, hce, hcv, hcl, h1, hL, h2, h3⟩, st⟩
  · dsimp only [Pt.U, Pt.locs, Pt.cells, Pt.slots] at X' e1 e2 h1 h2 h3 st
    subst h1; subst h2; subst h3
    exact Or.inl ⟨v, (T.setVm vm₁).calling g' mk As.toArray, t, U', L, hT, X', hL, e1, e2, hq, st⟩
  · dsimp only [Pt.U, Pt.locs, Pt.cells, Pt.slots] at X' e1 e2 h1 h2 h3 st hcl
    subst h1; subst h2; subst h3
    exact Or.inr ⟨q, (T.setVm vm₁).calling g' mk As.toArray, t, U', L, E, ce, hT, X', hL, e1, e2, hq, hce, hcv, vx_cls hW₁ hcl, st⟩
end
end VXH
theorem vx_ofWH {l : Launch} {y : MethodName} {ws ws' : List Cond} {rm : Room} {Pc : Array Value → State → Prop} {Qc : Array Value → State → Outcome → State → Prop} {XC : String → State → State → Prop} {mc ms : Nat} {free : Addr → Prop} {cc : ByteArray} {maxL : Nat} {ret : Option FieldType} {hh : List (Nat × Nat × Nat × Nat)}
    (hy : plainName y.cls = true) (hw : ws = Cond.codeWith y cc maxL ret hh :: ws')
    (body : ∀ p e s m args below meth c s₁, BodyLoose p l y (headSpec ws rm) cc maxL ret e s m args below meth c s₁ → c.maxLocals = maxL → Pc args s →
      W p l e (headSpec ws rm).room s m args below meth c s.heap [] 0 0 (vx_MQ below Qc XC args s mc ms free) (entryFrame m args maxL)) : vx_Met l y ws rm Pc Qc XC mc ms free := by
  refine MetFree.of_bodyS (code := cc) (maxLocals := maxL) (ret := ret) hy ?_ ?_
  · intro args s m h hn
    obtain ⟨m9, meth, c, hn9, h1, h2, h3, h4, -, h5, h6, -⟩ := Cond.codeWith_spec (atoms_spec (ws := ws) h _ (by rw [hw]; exact List.mem_cons_self))
    cases hn.symm.trans hn9
    exact ⟨meth, c, h1, h2, h3, h4, h5, h6⟩
  · intro p e s m args below meth c s₁ B hml hP _
    have hh0 : s₁.heap = s.heap := by rw [B.state]; rfl
    obtain ⟨t, a1, o, b1, b2, b3⟩ := body p e s m args below meth c s₁ B hml hP s₁ hh0 (Stand.of_body B)
    exact ⟨t, o, a1, b1, b2, b3⟩
/-! ===== END ===== -/
end
section
/-! ===== BEGIN printed: names, fields, word lists, decode rows ===== -/
def RX0 : String := "VaultMovements$Windings"
def TX0 : u_T := fun k => match k with
  | 0 => ("VaultMovements$Windings", "kinds", "[I", true)
  | 1 => ("VaultMovements$Windings", "signs", "[I", true)
  | 2 => ("VaultMovements$Windings", "numbers", "[I", true)
  | _ => ("VaultMovements$Windings", "part", "I", false)
def tyX0 : Nat → FieldType := fun k => match k with
  | 0 => .array .int
  | 1 => .array .int
  | 2 => .array .int
  | _ => .int
abbrev wsX00 : List Cond := u_ws RX0 TX0 4
theorem nmX0 : ∀ a, a < 4 → ∀ b, b < 4 → a ≠ b → (TX0 a).2.1 ≠ (TX0 b).2.1 := by decide +kernel
theorem tyX0_ok : ∀ k, k < 4 → parseFieldDescriptor (TX0 k).2.2.1 = some (tyX0 k) := by decide +kernel
abbrev cX0_init : ByteArray := prog_2_method_1_code
def yX0_init : MethodName := ⟨RX0, "<init>", "()V"⟩
def RX1 : String := "VaultMovements"
def TX1 : u_T := fun k => match k with
  | 0 => ("VaultMovements", "now", "[I", true)
  | 1 => ("VaultMovements", "saved", "[I", true)
  | 2 => ("VaultMovements", "savedStates", "I", false)
  | 3 => ("VaultMovements", "buffer", "[I", true)
  | 4 => ("VaultMovements", "length", "I", false)
  | _ => ("VaultMovements", "windings", "LVaultMovements$Windings;", true)
def tyX1 : Nat → FieldType := fun k => match k with
  | 0 => .array .int
  | 1 => .array .int
  | 2 => .int
  | 3 => .array .int
  | 4 => .int
  | _ => .object "VaultMovements$Windings"
abbrev wsX10 : List Cond := u_ws RX1 TX1 6
theorem nmX1 : ∀ a, a < 6 → ∀ b, b < 6 → a ≠ b → (TX1 a).2.1 ≠ (TX1 b).2.1 := by decide +kernel
theorem tyX1_ok : ∀ k, k < 6 → parseFieldDescriptor (TX1 k).2.2.1 = some (tyX1 k) := by decide +kernel
abbrev cX1_init : ByteArray := prog_1_method_1_code
def yX1_init : MethodName := ⟨RX1, "<init>", "()V"⟩
abbrev cX1_opening : ByteArray := prog_1_method_2_code
def yX1_opening : MethodName := ⟨RX1, "opening", "(II)I"⟩
abbrev cX1_set : ByteArray := prog_1_method_3_code
def yX1_set : MethodName := ⟨RX1, "set", "(II)I"⟩
abbrev cX1_wind : ByteArray := prog_1_method_4_code
def yX1_wind : MethodName := ⟨RX1, "wind", "(II)I"⟩
abbrev cX1_fault : ByteArray := prog_1_method_5_code
def yX1_fault : MethodName := ⟨RX1, "fault", "(IZ)I"⟩
abbrev cX1_loss : ByteArray := prog_1_method_6_code
def yX1_loss : MethodName := ⟨RX1, "loss", "(II)I"⟩
abbrev cX1_service : ByteArray := prog_1_method_7_code
def yX1_service : MethodName := ⟨RX1, "service", "(I)I"⟩
abbrev cX1_lock : ByteArray := prog_1_method_8_code
def yX1_lock : MethodName := ⟨RX1, "lock", "()I"⟩
abbrev cX1_open : ByteArray := prog_1_method_9_code
def yX1_open : MethodName := ⟨RX1, "open", "()I"⟩
abbrev cX1_drill : ByteArray := prog_1_method_10_code
def yX1_drill : MethodName := ⟨RX1, "drill", "()I"⟩
abbrev cX1_pass : ByteArray := prog_1_method_11_code
def yX1_pass : MethodName := ⟨RX1, "pass", "(I)I"⟩
abbrev cX1_undo : ByteArray := prog_1_method_16_code
def yX1_undo : MethodName := ⟨RX1, "undo", "()I"⟩
abbrev cX1_movement : ByteArray := prog_1_method_17_code
def yX1_movement : MethodName := ⟨RX1, "movement", "(II)I"⟩
abbrev cX1_day : ByteArray := prog_1_method_18_code
def yX1_day : MethodName := ⟨RX1, "day", "(I)I"⟩
abbrev cX1_count : ByteArray := prog_1_method_19_code
def yX1_count : MethodName := ⟨RX1, "count", "(I)I"⟩
abbrev cX1_setting : ByteArray := prog_1_method_20_code
def yX1_setting : MethodName := ⟨RX1, "setting", "(I)I"⟩
abbrev cX1_opensIn : ByteArray := prog_1_method_21_code
def yX1_opensIn : MethodName := ⟨RX1, "opensIn", "()I"⟩
abbrev cX1_lateness : ByteArray := prog_1_method_22_code
def yX1_lateness : MethodName := ⟨RX1, "lateness", "()I"⟩
abbrev cX1_keyMovement : ByteArray := prog_1_method_23_code
def yX1_keyMovement : MethodName := ⟨RX1, "keyMovement", "()I"⟩
abbrev cX1_rightWinding : ByteArray := prog_1_method_24_code
def yX1_rightWinding : MethodName := ⟨RX1, "rightWinding", "(I)I"⟩
abbrev cX1_punctuality : ByteArray := prog_1_method_25_code
def yX1_punctuality : MethodName := ⟨RX1, "punctuality", "()D"⟩
abbrev cX1_isDay : ByteArray := prog_1_method_27_code
def yX1_isDay : MethodName := ⟨RX1, "isDay", "(I)Z"⟩
abbrev cX1_isSetting : ByteArray := prog_1_method_28_code
def yX1_isSetting : MethodName := ⟨RX1, "isSetting", "(I)Z"⟩
abbrev cX1_isMovement : ByteArray := prog_1_method_29_code
def yX1_isMovement : MethodName := ⟨RX1, "isMovement", "(I)Z"⟩
abbrev cX1_areWindingHours : ByteArray := prog_1_method_30_code
def yX1_areWindingHours : MethodName := ⟨RX1, "areWindingHours", "(I)Z"⟩
abbrev cX1_isLostHour : ByteArray := prog_1_method_31_code
def yX1_isLostHour : MethodName := ⟨RX1, "isLostHour", "(II)Z"⟩
abbrev cX1_change : ByteArray := prog_1_method_33_code
def yX1_change : MethodName := ⟨RX1, "change", "(II)I"⟩
abbrev cX1_save : ByteArray := prog_1_method_34_code
def yX1_save : MethodName := ⟨RX1, "save", "()V"⟩
abbrev cX1_today : ByteArray := prog_1_method_35_code
def yX1_today : MethodName := ⟨RX1, "today", "()I"⟩
abbrev cX1_timeOfDay : ByteArray := prog_1_method_36_code
def yX1_timeOfDay : MethodName := ⟨RX1, "timeOfDay", "()I"⟩
abbrev cX1_hoursToOpening : ByteArray := prog_1_method_37_code
def yX1_hoursToOpening : MethodName := ⟨RX1, "hoursToOpening", "()I"⟩
abbrev cX1_place : ByteArray := prog_1_method_38_code
def yX1_place : MethodName := ⟨RX1, "place", "(II)I"⟩
abbrev cX1_goes : ByteArray := prog_1_method_39_code
def yX1_goes : MethodName := ⟨RX1, "goes", "(I)Z"⟩
abbrev cX1_property : ByteArray := prog_1_method_40_code
def yX1_property : MethodName := ⟨RX1, "property", "(II)I"⟩
abbrev cX1_someMovementRuns : ByteArray := prog_1_method_41_code
def yX1_someMovementRuns : MethodName := ⟨RX1, "someMovementRuns", "()Z"⟩
abbrev cX1_movementsRunDown : ByteArray := prog_1_method_42_code
def yX1_movementsRunDown : MethodName := ⟨RX1, "movementsRunDown", "()I"⟩
abbrev cX1_hoursToRunDown : ByteArray := prog_1_method_43_code
def yX1_hoursToRunDown : MethodName := ⟨RX1, "hoursToRunDown", "(IZ)I"⟩
abbrev cX1_hoursToWind : ByteArray := prog_1_method_44_code
def yX1_hoursToWind : MethodName := ⟨RX1, "hoursToWind", "(I)I"⟩
abbrev cX1_isLocked : ByteArray := prog_1_method_46_code
def yX1_isLocked : MethodName := ⟨RX1, "isLocked", "()Z"⟩
abbrev cX1_passHour : ByteArray := prog_1_method_47_code
def yX1_passHour : MethodName := ⟨RX1, "passHour", "()V"⟩
abbrev cX1_runHour : ByteArray := prog_1_method_48_code
def yX1_runHour : MethodName := ⟨RX1, "runHour", "(I)V"⟩
abbrev cX1_hoursToWait : ByteArray := prog_1_method_49_code
def yX1_hoursToWait : MethodName := ⟨RX1, "hoursToWait", "()I"⟩
abbrev cX1_hoursToOpen : ByteArray := prog_1_method_50_code
def yX1_hoursToOpen : MethodName := ⟨RX1, "hoursToOpen", "(I)I"⟩
abbrev cX1_latenessAfter : ByteArray := prog_1_method_51_code
def yX1_latenessAfter : MethodName := ⟨RX1, "latenessAfter", "(I)I"⟩
abbrev cX1_countEarlyTry : ByteArray := prog_1_method_52_code
def yX1_countEarlyTry : MethodName := ⟨RX1, "countEarlyTry", "()V"⟩
abbrev cX1_countOpening : ByteArray := prog_1_method_53_code
def yX1_countOpening : MethodName := ⟨RX1, "countOpening", "(I)V"⟩
abbrev cX1_leaveOpen : ByteArray := prog_1_method_54_code
def yX1_leaveOpen : MethodName := ⟨RX1, "leaveOpen", "()V"⟩
abbrev cX1_number : ByteArray := prog_1_method_55_code
def yX1_number : MethodName := ⟨RX1, "number", "(I)I"⟩
def RX2 : String := "VaultMovementsModel"
def TX2 : u_T := fun k => match k with
  | _ => ("", "", "", false)
def tyX2 : Nat → FieldType := fun k => match k with
  | _ => .int
abbrev wsX20 : List Cond := u_ws RX2 TX2 0
theorem nmX2 : ∀ a, a < 0 → ∀ b, b < 0 → a ≠ b → (TX2 a).2.1 ≠ (TX2 b).2.1 := by decide +kernel
theorem tyX2_ok : ∀ k, k < 0 → parseFieldDescriptor (TX2 k).2.2.1 = some (tyX2 k) := by decide +kernel
def RJ9 : String := "java/lang/Math"
def TJ9 : u_T := fun k => match k with
  | _ => ("", "", "", false)
def tyJ9 : Nat → FieldType := fun k => match k with
  | _ => .int
abbrev wsJ90 : List Cond := u_ws RJ9 TJ9 0
theorem nmJ9 : ∀ a, a < 0 → ∀ b, b < 0 → a ≠ b → (TJ9 a).2.1 ≠ (TJ9 b).2.1 := by decide +kernel
theorem tyJ9_ok : ∀ k, k < 0 → parseFieldDescriptor (TJ9 k).2.2.1 = some (tyJ9 k) := by decide +kernel
abbrev cJ9_max_7cf53 : ByteArray := prog_9_method_65_code
def yJ9_max_7cf53 : MethodName := ⟨RJ9, "max", "(II)I"⟩
def RJ0 : String := "java/lang/String"
def TJ0 : u_T := fun k => match k with
  | _ => ("", "", "", false)
def tyJ0 : Nat → FieldType := fun k => match k with
  | _ => .int
abbrev wsJ00 : List Cond := u_ws RJ0 TJ0 0
theorem nmJ0 : ∀ a, a < 0 → ∀ b, b < 0 → a ≠ b → (TJ0 a).2.1 ≠ (TJ0 b).2.1 := by decide +kernel
theorem tyJ0_ok : ∀ k, k < 0 → parseFieldDescriptor (TJ0 k).2.2.1 = some (tyJ0 k) := by decide +kernel
def RJ10 : String := "java/lang/System"
def TJ10 : u_T := fun k => match k with
  | _ => ("", "", "", false)
def tyJ10 : Nat → FieldType := fun k => match k with
  | _ => .int
abbrev wsJ100 : List Cond := u_ws RJ10 TJ10 0
theorem nmJ10 : ∀ a, a < 0 → ∀ b, b < 0 → a ≠ b → (TJ10 a).2.1 ≠ (TJ10 b).2.1 := by decide +kernel
theorem tyJ10_ok : ∀ k, k < 0 → parseFieldDescriptor (TJ10 k).2.2.1 = some (tyJ10 k) := by decide +kernel
def RL : String := "VaultMovementsLaw"
abbrev cL_low : ByteArray := method_2_code
def yL_low : MethodName := ⟨RL, "low", "(II)I"⟩
abbrev cL_cell : ByteArray := method_3_code
def yL_cell : MethodName := ⟨RL, "cell", "([II)I"⟩
abbrev cL_lock : ByteArray := method_4_code
def yL_lock : MethodName := ⟨RL, "lock", "(LVaultMovements;)I"⟩
abbrev cL_open : ByteArray := method_5_code
def yL_open : MethodName := ⟨RL, "open", "(LVaultMovements;)I"⟩
abbrev cL_wind : ByteArray := method_6_code
def yL_wind : MethodName := ⟨RL, "wind", "(LVaultMovements;II)I"⟩
abbrev cL_service : ByteArray := method_7_code
def yL_service : MethodName := ⟨RL, "service", "(LVaultMovements;I)I"⟩
abbrev cL_undo : ByteArray := method_8_code
def yL_undo : MethodName := ⟨RL, "undo", "(LVaultMovements;)I"⟩
abbrev cL_drill : ByteArray := method_9_code
def yL_drill : MethodName := ⟨RL, "drill", "(LVaultMovements;)I"⟩
abbrev cL_clock : ByteArray := method_10_code
def yL_clock : MethodName := ⟨RL, "clock", "(LVaultMovements;)Z"⟩
abbrev cL_act : ByteArray := method_11_code
def yL_act : MethodName := ⟨RL, "act", "(LVaultMovements;[II)I"⟩
abbrev cL_law : ByteArray := code
def yL_law : MethodName := ⟨RL, "law", "([I)Z"⟩
def wsX0_init : List Cond := .code yX0_init cX0_init 1 none :: ([.methodLink RX0 3 objectInit, .instanceMethod objectInit, .code objectInit ⟨#[0xb1]⟩ 1 none, .arrayClass .int, .fieldLink RX0 9 "VaultMovements$Windings" "kinds" "[I", .fieldLink RX0 15 "VaultMovements$Windings" "signs" "[I", .fieldLink RX0 18 "VaultMovements$Windings" "numbers" "[I", .fieldLink RX0 21 "VaultMovements$Windings" "part" "I"] ++ wsX00)
def wsX1_init : List Cond := .code yX1_init cX1_init 2 none :: ([.methodLink RX1 3 objectInit, .instanceMethod objectInit, .code objectInit ⟨#[0xb1]⟩ 1 none, .arrayClass .int, .fieldLink RX1 9 "VaultMovements" "now" "[I", .fieldLink RX1 13 "VaultMovements" "saved" "[I", .fieldLink RX1 16 "VaultMovements" "savedStates" "I", .fieldLink RX1 20 "VaultMovements" "buffer" "[I", .fieldLink RX1 23 "VaultMovements" "length" "I", .classLink RX1 26 RX0, .instantiable RX0 4, .initialized RX0, .fieldLink RX1 29 "VaultMovements" "windings" "LVaultMovements$Windings;", .fieldLink RX1 33 "VaultMovements" "SETTING_AT_FIRST" "[I", .instanceMethod yX0_init, .code yX0_init cX0_init 1 none, .methodLink RX0 3 objectInit, .fieldLink RX0 9 "VaultMovements$Windings" "kinds" "[I", .fieldLink RX0 15 "VaultMovements$Windings" "signs" "[I", .fieldLink RX0 18 "VaultMovements$Windings" "numbers" "[I", .fieldLink RX0 21 "VaultMovements$Windings" "part" "I"] ++ wsX10 ++ wsX00)
def wsX1_isDay : List Cond := .code yX1_isDay cX1_isDay 1 (some .boolean) :: ([])
def wsX1_save : List Cond := .code yX1_save cX1_save 1 none :: ([.fieldLink RX1 16 "VaultMovements" "savedStates" "I", .fieldLink RX1 13 "VaultMovements" "saved" "[I", .methodLink RX1 163 arraycopyName, .native arraycopyName, .static arraycopyName, .initialized "java/lang/System", .fieldLink RX1 9 "VaultMovements" "now" "[I"] ++ wsX10)
def wsX1_change : List Cond := .code yX1_change cX1_change 4 (some .int) :: ([.fieldLink RX1 9 "VaultMovements" "now" "[I", .methodLink RX1 103 yX1_save, .instanceMethod yX1_save, .selects RX1 yX1_save yX1_save, .initialized RX1, .code yX1_save cX1_save 1 none, .fieldLink RX1 16 "VaultMovements" "savedStates" "I", .fieldLink RX1 13 "VaultMovements" "saved" "[I", .methodLink RX1 163 arraycopyName, .native arraycopyName, .static arraycopyName, .initialized "java/lang/System"] ++ wsX10)
def wsX1_opening : List Cond := .code yX1_opening cX1_opening 3 (some .int) :: ([.classLink RX1 40 "java/lang/IndexOutOfBoundsException", .initialized "java/lang/IndexOutOfBoundsException", .classLink RX1 47 "java/lang/IllegalArgumentException", .initialized "java/lang/IllegalArgumentException", .methodLink RX1 36 yX1_isDay, .static yX1_isDay, .initialized RX1, .code yX1_isDay cX1_isDay 1 (some .boolean), .methodLink RX1 52 yX1_change, .instanceMethod yX1_change, .selects RX1 yX1_change yX1_change, .code yX1_change cX1_change 4 (some .int), .fieldLink RX1 9 "VaultMovements" "now" "[I", .methodLink RX1 103 yX1_save, .instanceMethod yX1_save, .selects RX1 yX1_save yX1_save, .code yX1_save cX1_save 1 none, .fieldLink RX1 16 "VaultMovements" "savedStates" "I", .fieldLink RX1 13 "VaultMovements" "saved" "[I", .methodLink RX1 163 arraycopyName, .native arraycopyName, .static arraycopyName, .initialized "java/lang/System"] ++ wsX10 ++ (vx_atS RX1 44 "java/lang/IndexOutOfBoundsException" ["java/lang/RuntimeException", "java/lang/Exception"]).filter goodWord ++ (vx_atS RX1 51 "java/lang/IllegalArgumentException" ["java/lang/RuntimeException", "java/lang/Exception"]).filter goodWord)
def wsX1_isSetting : List Cond := .code yX1_isSetting cX1_isSetting 1 (some .boolean) :: ([])
def wsX1_set_r1 : List Cond := [Cond.classLink RX1 40 "java/lang/IndexOutOfBoundsException", Cond.initialized "java/lang/IndexOutOfBoundsException", Cond.classLink RX1 47 "java/lang/IllegalArgumentException", Cond.initialized "java/lang/IllegalArgumentException", Cond.fieldLink RX1 61 "VaultMovements" "SETTING_LEAST" "[I", Cond.fieldLink RX1 64 "VaultMovements" "SETTING_MOST" "[I", Cond.methodLink RX1 56 yX1_isSetting, Cond.static yX1_isSetting, Cond.initialized RX1, Cond.code yX1_isSetting cX1_isSetting 1 (some .boolean), Cond.methodLink RX1 52 yX1_change, Cond.instanceMethod yX1_change, Cond.selects RX1 yX1_change yX1_change, Cond.code yX1_change cX1_change 4 (some .int), Cond.fieldLink RX1 9 "VaultMovements" "now" "[I", Cond.methodLink RX1 103 yX1_save, Cond.instanceMethod yX1_save, Cond.selects RX1 yX1_save yX1_save, Cond.code yX1_save cX1_save 1 none, Cond.fieldLink RX1 16 "VaultMovements" "savedStates" "I", Cond.fieldLink RX1 13 "VaultMovements" "saved" "[I", Cond.methodLink RX1 163 arraycopyName, Cond.native arraycopyName, Cond.static arraycopyName]
def wsX1_set_r2 : List Cond := [Cond.initialized "java/lang/System"]
def wsX1_set : List Cond := .code yX1_set cX1_set 3 (some .int) :: ((wsX1_set_r1 ++ wsX1_set_r2) ++ wsX10 ++ (vx_atS RX1 44 "java/lang/IndexOutOfBoundsException" ["java/lang/RuntimeException", "java/lang/Exception"]).filter goodWord ++ (vx_atS RX1 51 "java/lang/IllegalArgumentException" ["java/lang/RuntimeException", "java/lang/Exception"]).filter goodWord)
def wsX1_isMovement : List Cond := .code yX1_isMovement cX1_isMovement 1 (some .boolean) :: ([])
def wsX1_areWindingHours : List Cond := .code yX1_areWindingHours cX1_areWindingHours 1 (some .boolean) :: ([])
def wsX1_isLocked : List Cond := .code yX1_isLocked cX1_isLocked 1 (some .boolean) :: ([.fieldLink RX1 9 "VaultMovements" "now" "[I"] ++ wsX10)
def wsX1_place : List Cond := .code yX1_place cX1_place 2 (some .int) :: ([])
def wsX1_goes : List Cond := .code yX1_goes cX1_goes 2 (some .boolean) :: ([.fieldLink RX1 9 "VaultMovements" "now" "[I", .methodLink RX1 91 yX1_place, .static yX1_place, .initialized RX1, .code yX1_place cX1_place 2 (some .int)] ++ wsX10)
def wsX1_wind_r1 : List Cond := [Cond.classLink RX1 40 "java/lang/IndexOutOfBoundsException", Cond.initialized "java/lang/IndexOutOfBoundsException", Cond.classLink RX1 47 "java/lang/IllegalArgumentException", Cond.initialized "java/lang/IllegalArgumentException", Cond.classLink RX1 86 "java/lang/IllegalStateException", Cond.initialized "java/lang/IllegalStateException", Cond.methodLink RX1 69 yX1_isMovement, Cond.static yX1_isMovement, Cond.initialized RX1, Cond.code yX1_isMovement cX1_isMovement 1 (some .boolean), Cond.methodLink RX1 74 yX1_areWindingHours, Cond.static yX1_areWindingHours, Cond.code yX1_areWindingHours cX1_areWindingHours 1 (some .boolean), Cond.methodLink RX1 79 yX1_isLocked, Cond.instanceMethod yX1_isLocked, Cond.selects RX1 yX1_isLocked yX1_isLocked, Cond.code yX1_isLocked cX1_isLocked 1 (some .boolean), Cond.fieldLink RX1 9 "VaultMovements" "now" "[I", Cond.methodLink RX1 83 yX1_goes, Cond.instanceMethod yX1_goes, Cond.selects RX1 yX1_goes yX1_goes, Cond.code yX1_goes cX1_goes 2 (some .boolean), Cond.methodLink RX1 91 yX1_place, Cond.static yX1_place]
def wsX1_wind_r2 : List Cond := [Cond.code yX1_place cX1_place 2 (some .int), Cond.methodLink RX1 52 yX1_change, Cond.instanceMethod yX1_change, Cond.selects RX1 yX1_change yX1_change, Cond.code yX1_change cX1_change 4 (some .int), Cond.methodLink RX1 103 yX1_save, Cond.instanceMethod yX1_save, Cond.selects RX1 yX1_save yX1_save, Cond.code yX1_save cX1_save 1 none, Cond.fieldLink RX1 16 "VaultMovements" "savedStates" "I", Cond.fieldLink RX1 13 "VaultMovements" "saved" "[I", Cond.methodLink RX1 163 arraycopyName, Cond.native arraycopyName, Cond.static arraycopyName, Cond.initialized "java/lang/System"]
def wsX1_wind : List Cond := .code yX1_wind cX1_wind 3 (some .int) :: ((wsX1_wind_r1 ++ wsX1_wind_r2) ++ wsX10 ++ (vx_atS RX1 44 "java/lang/IndexOutOfBoundsException" ["java/lang/RuntimeException", "java/lang/Exception"]).filter goodWord ++ (vx_atS RX1 51 "java/lang/IllegalArgumentException" ["java/lang/RuntimeException", "java/lang/Exception"]).filter goodWord ++ (vx_atS RX1 90 "java/lang/IllegalStateException" ["java/lang/RuntimeException", "java/lang/Exception"]).filter goodWord)
def wsX1_fault : List Cond := .code yX1_fault cX1_fault 3 (some .int) :: ([.classLink RX1 40 "java/lang/IndexOutOfBoundsException", .initialized "java/lang/IndexOutOfBoundsException", .methodLink RX1 69 yX1_isMovement, .static yX1_isMovement, .initialized RX1, .code yX1_isMovement cX1_isMovement 1 (some .boolean), .methodLink RX1 91 yX1_place, .static yX1_place, .code yX1_place cX1_place 2 (some .int), .methodLink RX1 52 yX1_change, .instanceMethod yX1_change, .selects RX1 yX1_change yX1_change, .code yX1_change cX1_change 4 (some .int), .fieldLink RX1 9 "VaultMovements" "now" "[I", .methodLink RX1 103 yX1_save, .instanceMethod yX1_save, .selects RX1 yX1_save yX1_save, .code yX1_save cX1_save 1 none, .fieldLink RX1 16 "VaultMovements" "savedStates" "I", .fieldLink RX1 13 "VaultMovements" "saved" "[I", .methodLink RX1 163 arraycopyName, .native arraycopyName, .static arraycopyName, .initialized "java/lang/System"] ++ wsX10 ++ (vx_atS RX1 44 "java/lang/IndexOutOfBoundsException" ["java/lang/RuntimeException", "java/lang/Exception"]).filter goodWord)
def wsX1_loss_r1 : List Cond := [Cond.classLink RX1 40 "java/lang/IndexOutOfBoundsException", Cond.initialized "java/lang/IndexOutOfBoundsException", Cond.classLink RX1 47 "java/lang/IllegalArgumentException", Cond.initialized "java/lang/IllegalArgumentException", Cond.methodLink RX1 69 yX1_isMovement, Cond.static yX1_isMovement, Cond.initialized RX1, Cond.code yX1_isMovement cX1_isMovement 1 (some .boolean), Cond.methodLink RX1 91 yX1_place, Cond.static yX1_place, Cond.code yX1_place cX1_place 2 (some .int), Cond.methodLink RX1 52 yX1_change, Cond.instanceMethod yX1_change, Cond.selects RX1 yX1_change yX1_change, Cond.code yX1_change cX1_change 4 (some .int), Cond.fieldLink RX1 9 "VaultMovements" "now" "[I", Cond.methodLink RX1 103 yX1_save, Cond.instanceMethod yX1_save, Cond.selects RX1 yX1_save yX1_save, Cond.code yX1_save cX1_save 1 none, Cond.fieldLink RX1 16 "VaultMovements" "savedStates" "I", Cond.fieldLink RX1 13 "VaultMovements" "saved" "[I", Cond.methodLink RX1 163 arraycopyName, Cond.native arraycopyName]
def wsX1_loss_r2 : List Cond := [Cond.static arraycopyName, Cond.initialized "java/lang/System"]
def wsX1_loss : List Cond := .code yX1_loss cX1_loss 3 (some .int) :: ((wsX1_loss_r1 ++ wsX1_loss_r2) ++ wsX10 ++ (vx_atS RX1 44 "java/lang/IndexOutOfBoundsException" ["java/lang/RuntimeException", "java/lang/Exception"]).filter goodWord ++ (vx_atS RX1 51 "java/lang/IllegalArgumentException" ["java/lang/RuntimeException", "java/lang/Exception"]).filter goodWord)
def wsX1_service_r1 : List Cond := [Cond.classLink RX1 40 "java/lang/IndexOutOfBoundsException", Cond.initialized "java/lang/IndexOutOfBoundsException", Cond.classLink RX1 86 "java/lang/IllegalStateException", Cond.initialized "java/lang/IllegalStateException", Cond.fieldLink RX1 9 "VaultMovements" "now" "[I", Cond.methodLink RX1 69 yX1_isMovement, Cond.static yX1_isMovement, Cond.initialized RX1, Cond.code yX1_isMovement cX1_isMovement 1 (some .boolean), Cond.methodLink RX1 79 yX1_isLocked, Cond.instanceMethod yX1_isLocked, Cond.selects RX1 yX1_isLocked yX1_isLocked, Cond.code yX1_isLocked cX1_isLocked 1 (some .boolean), Cond.methodLink RX1 91 yX1_place, Cond.static yX1_place, Cond.code yX1_place cX1_place 2 (some .int), Cond.methodLink RX1 52 yX1_change, Cond.instanceMethod yX1_change, Cond.selects RX1 yX1_change yX1_change, Cond.code yX1_change cX1_change 4 (some .int), Cond.methodLink RX1 103 yX1_save, Cond.instanceMethod yX1_save, Cond.selects RX1 yX1_save yX1_save, Cond.code yX1_save cX1_save 1 none]
def wsX1_service_r2 : List Cond := [Cond.fieldLink RX1 16 "VaultMovements" "savedStates" "I", Cond.fieldLink RX1 13 "VaultMovements" "saved" "[I", Cond.methodLink RX1 163 arraycopyName, Cond.native arraycopyName, Cond.static arraycopyName, Cond.initialized "java/lang/System"]
def wsX1_service : List Cond := .code yX1_service cX1_service 3 (some .int) :: ((wsX1_service_r1 ++ wsX1_service_r2) ++ wsX10 ++ (vx_atS RX1 44 "java/lang/IndexOutOfBoundsException" ["java/lang/RuntimeException", "java/lang/Exception"]).filter goodWord ++ (vx_atS RX1 90 "java/lang/IllegalStateException" ["java/lang/RuntimeException", "java/lang/Exception"]).filter goodWord)
def wsX1_someMovementRuns : List Cond := .code yX1_someMovementRuns cX1_someMovementRuns 2 (some .boolean) :: ([.fieldLink RX1 9 "VaultMovements" "now" "[I", .methodLink RX1 83 yX1_goes, .instanceMethod yX1_goes, .selects RX1 yX1_goes yX1_goes, .initialized RX1, .code yX1_goes cX1_goes 2 (some .boolean), .methodLink RX1 91 yX1_place, .static yX1_place, .code yX1_place cX1_place 2 (some .int)] ++ wsX10)
def wsX1_today : List Cond := .code yX1_today cX1_today 1 (some .int) :: ([.fieldLink RX1 9 "VaultMovements" "now" "[I"] ++ wsX10)
def wsX1_timeOfDay : List Cond := .code yX1_timeOfDay cX1_timeOfDay 1 (some .int) :: ([.fieldLink RX1 9 "VaultMovements" "now" "[I"] ++ wsX10)
def wsX1_hoursToOpening : List Cond := .code yX1_hoursToOpening cX1_hoursToOpening 4 (some .int) :: ([.fieldLink RX1 9 "VaultMovements" "now" "[I", .methodLink RX1 214 yX1_today, .instanceMethod yX1_today, .selects RX1 yX1_today yX1_today, .initialized RX1, .code yX1_today cX1_today 1 (some .int), .methodLink RX1 217 yX1_timeOfDay, .instanceMethod yX1_timeOfDay, .selects RX1 yX1_timeOfDay yX1_timeOfDay, .code yX1_timeOfDay cX1_timeOfDay 1 (some .int)] ++ wsX10)
def wsX1_lock_r1 : List Cond := [Cond.classLink RX1 86 "java/lang/IllegalStateException", Cond.initialized "java/lang/IllegalStateException", Cond.fieldLink RX1 9 "VaultMovements" "now" "[I", Cond.methodLink RX1 79 yX1_isLocked, Cond.instanceMethod yX1_isLocked, Cond.selects RX1 yX1_isLocked yX1_isLocked, Cond.initialized RX1, Cond.code yX1_isLocked cX1_isLocked 1 (some .boolean), Cond.methodLink RX1 98 yX1_someMovementRuns, Cond.instanceMethod yX1_someMovementRuns, Cond.selects RX1 yX1_someMovementRuns yX1_someMovementRuns, Cond.code yX1_someMovementRuns cX1_someMovementRuns 2 (some .boolean), Cond.methodLink RX1 83 yX1_goes, Cond.instanceMethod yX1_goes, Cond.selects RX1 yX1_goes yX1_goes, Cond.code yX1_goes cX1_goes 2 (some .boolean), Cond.methodLink RX1 91 yX1_place, Cond.static yX1_place, Cond.code yX1_place cX1_place 2 (some .int), Cond.methodLink RX1 103 yX1_save, Cond.instanceMethod yX1_save, Cond.selects RX1 yX1_save yX1_save, Cond.code yX1_save cX1_save 1 none, Cond.fieldLink RX1 16 "VaultMovements" "savedStates" "I"]
def wsX1_lock_r2 : List Cond := [Cond.fieldLink RX1 13 "VaultMovements" "saved" "[I", Cond.methodLink RX1 163 arraycopyName, Cond.native arraycopyName, Cond.static arraycopyName, Cond.initialized "java/lang/System", Cond.methodLink RX1 106 yX1_hoursToOpening, Cond.instanceMethod yX1_hoursToOpening, Cond.selects RX1 yX1_hoursToOpening yX1_hoursToOpening, Cond.code yX1_hoursToOpening cX1_hoursToOpening 4 (some .int), Cond.methodLink RX1 214 yX1_today, Cond.instanceMethod yX1_today, Cond.selects RX1 yX1_today yX1_today, Cond.code yX1_today cX1_today 1 (some .int), Cond.methodLink RX1 217 yX1_timeOfDay, Cond.instanceMethod yX1_timeOfDay, Cond.selects RX1 yX1_timeOfDay yX1_timeOfDay, Cond.code yX1_timeOfDay cX1_timeOfDay 1 (some .int)]
def wsX1_lock : List Cond := .code yX1_lock cX1_lock 2 (some .int) :: ((wsX1_lock_r1 ++ wsX1_lock_r2) ++ wsX10 ++ (vx_atS RX1 90 "java/lang/IllegalStateException" ["java/lang/RuntimeException", "java/lang/Exception"]).filter goodWord)
def wsX1_hoursToRunDown : List Cond := .code yX1_hoursToRunDown cX1_hoursToRunDown 6 (some .int) :: ([.fieldLink RX1 9 "VaultMovements" "now" "[I", .methodLink RX1 91 yX1_place, .static yX1_place, .initialized RX1, .code yX1_place cX1_place 2 (some .int)] ++ wsX10)
def wsX1_hoursToWait : List Cond := .code yX1_hoursToWait cX1_hoursToWait 1 (some .int) :: ([.fieldLink RX1 9 "VaultMovements" "now" "[I", .methodLink RX1 179 Lib.Math.max.name, .static Lib.Math.max.name, .initialized "java/lang/Math", .code Lib.Math.max.name Lib.Math.max.code 2 (some .int)] ++ wsX10)
def wsX1_hoursToOpen_r1 : List Cond := [Cond.methodLink RX1 179 Lib.Math.max.name, Cond.static Lib.Math.max.name, Cond.initialized "java/lang/Math", Cond.code Lib.Math.max.name Lib.Math.max.code 2 (some .int), Cond.methodLink RX1 79 yX1_isLocked, Cond.instanceMethod yX1_isLocked, Cond.selects RX1 yX1_isLocked yX1_isLocked, Cond.initialized RX1, Cond.code yX1_isLocked cX1_isLocked 1 (some .boolean), Cond.fieldLink RX1 9 "VaultMovements" "now" "[I", Cond.methodLink RX1 83 yX1_goes, Cond.instanceMethod yX1_goes, Cond.selects RX1 yX1_goes yX1_goes, Cond.code yX1_goes cX1_goes 2 (some .boolean), Cond.methodLink RX1 91 yX1_place, Cond.static yX1_place, Cond.code yX1_place cX1_place 2 (some .int), Cond.methodLink RX1 220 yX1_hoursToRunDown, Cond.instanceMethod yX1_hoursToRunDown, Cond.selects RX1 yX1_hoursToRunDown yX1_hoursToRunDown, Cond.code yX1_hoursToRunDown cX1_hoursToRunDown 6 (some .int), Cond.methodLink RX1 231 yX1_hoursToWait, Cond.instanceMethod yX1_hoursToWait, Cond.selects RX1 yX1_hoursToWait yX1_hoursToWait]
def wsX1_hoursToOpen_r2 : List Cond := [Cond.code yX1_hoursToWait cX1_hoursToWait 1 (some .int)]
def wsX1_hoursToOpen : List Cond := .code yX1_hoursToOpen cX1_hoursToOpen 5 (some .int) :: ((wsX1_hoursToOpen_r1 ++ wsX1_hoursToOpen_r2) ++ wsX10)
def wsX1_countEarlyTry : List Cond := .code yX1_countEarlyTry cX1_countEarlyTry 1 none :: ([.fieldLink RX1 9 "VaultMovements" "now" "[I"] ++ wsX10)
def wsX1_latenessAfter : List Cond := .code yX1_latenessAfter cX1_latenessAfter 2 (some .int) :: ([.fieldLink RX1 9 "VaultMovements" "now" "[I"] ++ wsX10)
def wsX1_countOpening : List Cond := .code yX1_countOpening cX1_countOpening 2 none :: ([.fieldLink RX1 9 "VaultMovements" "now" "[I"] ++ wsX10)
def wsX1_leaveOpen : List Cond := .code yX1_leaveOpen cX1_leaveOpen 1 none :: ([.fieldLink RX1 9 "VaultMovements" "now" "[I"] ++ wsX10)
def wsX1_open_r1 : List Cond := [Cond.classLink RX1 86 "java/lang/IllegalStateException", Cond.initialized "java/lang/IllegalStateException", Cond.methodLink RX1 79 yX1_isLocked, Cond.instanceMethod yX1_isLocked, Cond.selects RX1 yX1_isLocked yX1_isLocked, Cond.initialized RX1, Cond.code yX1_isLocked cX1_isLocked 1 (some .boolean), Cond.fieldLink RX1 9 "VaultMovements" "now" "[I", Cond.methodLink RX1 103 yX1_save, Cond.instanceMethod yX1_save, Cond.selects RX1 yX1_save yX1_save, Cond.code yX1_save cX1_save 1 none, Cond.fieldLink RX1 16 "VaultMovements" "savedStates" "I", Cond.fieldLink RX1 13 "VaultMovements" "saved" "[I", Cond.methodLink RX1 163 arraycopyName, Cond.native arraycopyName, Cond.static arraycopyName, Cond.initialized "java/lang/System", Cond.methodLink RX1 112 yX1_hoursToOpen, Cond.instanceMethod yX1_hoursToOpen, Cond.selects RX1 yX1_hoursToOpen yX1_hoursToOpen, Cond.code yX1_hoursToOpen cX1_hoursToOpen 5 (some .int), Cond.methodLink RX1 179 Lib.Math.max.name, Cond.static Lib.Math.max.name]
def wsX1_open_r2 : List Cond := [Cond.initialized "java/lang/Math", Cond.code Lib.Math.max.name Lib.Math.max.code 2 (some .int), Cond.methodLink RX1 83 yX1_goes, Cond.instanceMethod yX1_goes, Cond.selects RX1 yX1_goes yX1_goes, Cond.code yX1_goes cX1_goes 2 (some .boolean), Cond.methodLink RX1 91 yX1_place, Cond.static yX1_place, Cond.code yX1_place cX1_place 2 (some .int), Cond.methodLink RX1 220 yX1_hoursToRunDown, Cond.instanceMethod yX1_hoursToRunDown, Cond.selects RX1 yX1_hoursToRunDown yX1_hoursToRunDown, Cond.code yX1_hoursToRunDown cX1_hoursToRunDown 6 (some .int), Cond.methodLink RX1 231 yX1_hoursToWait, Cond.instanceMethod yX1_hoursToWait, Cond.selects RX1 yX1_hoursToWait yX1_hoursToWait, Cond.code yX1_hoursToWait cX1_hoursToWait 1 (some .int), Cond.methodLink RX1 116 yX1_countEarlyTry, Cond.instanceMethod yX1_countEarlyTry, Cond.selects RX1 yX1_countEarlyTry yX1_countEarlyTry, Cond.code yX1_countEarlyTry cX1_countEarlyTry 1 none, Cond.methodLink RX1 119 yX1_latenessAfter, Cond.instanceMethod yX1_latenessAfter, Cond.selects RX1 yX1_latenessAfter yX1_latenessAfter]
def wsX1_open_r3 : List Cond := [Cond.code yX1_latenessAfter cX1_latenessAfter 2 (some .int), Cond.methodLink RX1 122 yX1_countOpening, Cond.instanceMethod yX1_countOpening, Cond.selects RX1 yX1_countOpening yX1_countOpening, Cond.code yX1_countOpening cX1_countOpening 2 none, Cond.methodLink RX1 126 yX1_leaveOpen, Cond.instanceMethod yX1_leaveOpen, Cond.selects RX1 yX1_leaveOpen yX1_leaveOpen, Cond.code yX1_leaveOpen cX1_leaveOpen 1 none]
def wsX1_open : List Cond := .code yX1_open cX1_open 1 (some .int) :: ((wsX1_open_r1 ++ (wsX1_open_r2 ++ wsX1_open_r3)) ++ wsX10 ++ (vx_atS RX1 90 "java/lang/IllegalStateException" ["java/lang/RuntimeException", "java/lang/Exception"]).filter goodWord)
def wsX1_drill_r1 : List Cond := [Cond.classLink RX1 86 "java/lang/IllegalStateException", Cond.initialized "java/lang/IllegalStateException", Cond.fieldLink RX1 9 "VaultMovements" "now" "[I", Cond.methodLink RX1 79 yX1_isLocked, Cond.instanceMethod yX1_isLocked, Cond.selects RX1 yX1_isLocked yX1_isLocked, Cond.initialized RX1, Cond.code yX1_isLocked cX1_isLocked 1 (some .boolean), Cond.methodLink RX1 103 yX1_save, Cond.instanceMethod yX1_save, Cond.selects RX1 yX1_save yX1_save, Cond.code yX1_save cX1_save 1 none, Cond.fieldLink RX1 16 "VaultMovements" "savedStates" "I", Cond.fieldLink RX1 13 "VaultMovements" "saved" "[I", Cond.methodLink RX1 163 arraycopyName, Cond.native arraycopyName, Cond.static arraycopyName, Cond.initialized "java/lang/System", Cond.methodLink RX1 91 yX1_place, Cond.static yX1_place, Cond.code yX1_place cX1_place 2 (some .int), Cond.methodLink RX1 126 yX1_leaveOpen, Cond.instanceMethod yX1_leaveOpen, Cond.selects RX1 yX1_leaveOpen yX1_leaveOpen]
def wsX1_drill_r2 : List Cond := [Cond.code yX1_leaveOpen cX1_leaveOpen 1 none]
def wsX1_drill : List Cond := .code yX1_drill cX1_drill 2 (some .int) :: ((wsX1_drill_r1 ++ wsX1_drill_r2) ++ wsX10 ++ (vx_atS RX1 90 "java/lang/IllegalStateException" ["java/lang/RuntimeException", "java/lang/Exception"]).filter goodWord)
def wsX1_isLostHour : List Cond := .code yX1_isLostHour cX1_isLostHour 2 (some .boolean) :: ([])
def wsX1_runHour : List Cond := .code yX1_runHour cX1_runHour 2 none :: ([.fieldLink RX1 9 "VaultMovements" "now" "[I", .methodLink RX1 83 yX1_goes, .instanceMethod yX1_goes, .selects RX1 yX1_goes yX1_goes, .initialized RX1, .code yX1_goes cX1_goes 2 (some .boolean), .methodLink RX1 91 yX1_place, .static yX1_place, .code yX1_place cX1_place 2 (some .int), .methodLink RX1 224 yX1_isLostHour, .static yX1_isLostHour, .code yX1_isLostHour cX1_isLostHour 2 (some .boolean)] ++ wsX10)
def wsX1_passHour : List Cond := .code yX1_passHour cX1_passHour 2 none :: ([.fieldLink RX1 9 "VaultMovements" "now" "[I", .methodLink RX1 79 yX1_isLocked, .instanceMethod yX1_isLocked, .selects RX1 yX1_isLocked yX1_isLocked, .initialized RX1, .code yX1_isLocked cX1_isLocked 1 (some .boolean), .methodLink RX1 228 yX1_runHour, .instanceMethod yX1_runHour, .selects RX1 yX1_runHour yX1_runHour, .code yX1_runHour cX1_runHour 2 none, .methodLink RX1 83 yX1_goes, .instanceMethod yX1_goes, .selects RX1 yX1_goes yX1_goes, .code yX1_goes cX1_goes 2 (some .boolean), .methodLink RX1 91 yX1_place, .static yX1_place, .code yX1_place cX1_place 2 (some .int), .methodLink RX1 224 yX1_isLostHour, .static yX1_isLostHour, .code yX1_isLostHour cX1_isLostHour 2 (some .boolean)] ++ wsX10)
def wsX1_movementsRunDown : List Cond := .code yX1_movementsRunDown cX1_movementsRunDown 3 (some .int) :: ([.fieldLink RX1 9 "VaultMovements" "now" "[I", .methodLink RX1 91 yX1_place, .static yX1_place, .initialized RX1, .code yX1_place cX1_place 2 (some .int)] ++ wsX10)
def wsX1_pass_r1 : List Cond := [Cond.classLink RX1 47 "java/lang/IllegalArgumentException", Cond.initialized "java/lang/IllegalArgumentException", Cond.classLink RX1 86 "java/lang/IllegalStateException", Cond.initialized "java/lang/IllegalStateException", Cond.fieldLink RX1 9 "VaultMovements" "now" "[I", Cond.constant RX1 129 (99999), Cond.methodLink RX1 103 yX1_save, Cond.instanceMethod yX1_save, Cond.selects RX1 yX1_save yX1_save, Cond.initialized RX1, Cond.code yX1_save cX1_save 1 none, Cond.fieldLink RX1 16 "VaultMovements" "savedStates" "I", Cond.fieldLink RX1 13 "VaultMovements" "saved" "[I", Cond.methodLink RX1 163 arraycopyName, Cond.native arraycopyName, Cond.static arraycopyName, Cond.initialized "java/lang/System", Cond.methodLink RX1 132 yX1_passHour, Cond.instanceMethod yX1_passHour, Cond.selects RX1 yX1_passHour yX1_passHour, Cond.code yX1_passHour cX1_passHour 2 none, Cond.methodLink RX1 79 yX1_isLocked, Cond.instanceMethod yX1_isLocked, Cond.selects RX1 yX1_isLocked yX1_isLocked]
def wsX1_pass_r2 : List Cond := [Cond.code yX1_isLocked cX1_isLocked 1 (some .boolean), Cond.methodLink RX1 228 yX1_runHour, Cond.instanceMethod yX1_runHour, Cond.selects RX1 yX1_runHour yX1_runHour, Cond.code yX1_runHour cX1_runHour 2 none, Cond.methodLink RX1 83 yX1_goes, Cond.instanceMethod yX1_goes, Cond.selects RX1 yX1_goes yX1_goes, Cond.code yX1_goes cX1_goes 2 (some .boolean), Cond.methodLink RX1 91 yX1_place, Cond.static yX1_place, Cond.code yX1_place cX1_place 2 (some .int), Cond.methodLink RX1 224 yX1_isLostHour, Cond.static yX1_isLostHour, Cond.code yX1_isLostHour cX1_isLostHour 2 (some .boolean), Cond.methodLink RX1 135 yX1_movementsRunDown, Cond.instanceMethod yX1_movementsRunDown, Cond.selects RX1 yX1_movementsRunDown yX1_movementsRunDown, Cond.code yX1_movementsRunDown cX1_movementsRunDown 3 (some .int)]
def wsX1_pass : List Cond := .code yX1_pass cX1_pass 3 (some .int) :: ((wsX1_pass_r1 ++ wsX1_pass_r2) ++ wsX10 ++ (vx_atS RX1 51 "java/lang/IllegalArgumentException" ["java/lang/RuntimeException", "java/lang/Exception"]).filter goodWord ++ (vx_atS RX1 90 "java/lang/IllegalStateException" ["java/lang/RuntimeException", "java/lang/Exception"]).filter goodWord)
def wsX1_undo : List Cond := .code yX1_undo cX1_undo 1 (some .int) :: ([.classLink RX1 86 "java/lang/IllegalStateException", .initialized "java/lang/IllegalStateException", .fieldLink RX1 16 "VaultMovements" "savedStates" "I", .fieldLink RX1 13 "VaultMovements" "saved" "[I", .fieldLink RX1 9 "VaultMovements" "now" "[I", .methodLink RX1 163 arraycopyName, .native arraycopyName, .static arraycopyName, .initialized "java/lang/System"] ++ wsX10 ++ (vx_atS RX1 90 "java/lang/IllegalStateException" ["java/lang/RuntimeException", "java/lang/Exception"]).filter goodWord)
def wsX1_property : List Cond := .code yX1_property cX1_property 3 (some .int) :: ([.fieldLink RX1 9 "VaultMovements" "now" "[I", .methodLink RX1 91 yX1_place, .static yX1_place, .initialized RX1, .code yX1_place cX1_place 2 (some .int), .methodLink RX1 83 yX1_goes, .instanceMethod yX1_goes, .selects RX1 yX1_goes yX1_goes, .code yX1_goes cX1_goes 2 (some .boolean), .methodLink RX1 220 yX1_hoursToRunDown, .instanceMethod yX1_hoursToRunDown, .selects RX1 yX1_hoursToRunDown yX1_hoursToRunDown, .code yX1_hoursToRunDown cX1_hoursToRunDown 6 (some .int)] ++ wsX10)
def wsX1_movement : List Cond := .code yX1_movement cX1_movement 3 (some .int) :: ([.classLink RX1 40 "java/lang/IndexOutOfBoundsException", .initialized "java/lang/IndexOutOfBoundsException", .classLink RX1 47 "java/lang/IllegalArgumentException", .initialized "java/lang/IllegalArgumentException", .methodLink RX1 69 yX1_isMovement, .static yX1_isMovement, .initialized RX1, .code yX1_isMovement cX1_isMovement 1 (some .boolean), .methodLink RX1 171 yX1_property, .instanceMethod yX1_property, .selects RX1 yX1_property yX1_property, .code yX1_property cX1_property 3 (some .int), .fieldLink RX1 9 "VaultMovements" "now" "[I", .methodLink RX1 91 yX1_place, .static yX1_place, .code yX1_place cX1_place 2 (some .int), .methodLink RX1 83 yX1_goes, .instanceMethod yX1_goes, .selects RX1 yX1_goes yX1_goes, .code yX1_goes cX1_goes 2 (some .boolean), .methodLink RX1 220 yX1_hoursToRunDown, .instanceMethod yX1_hoursToRunDown, .selects RX1 yX1_hoursToRunDown yX1_hoursToRunDown, .code yX1_hoursToRunDown cX1_hoursToRunDown 6 (some .int)] ++ wsX10 ++ (vx_atS RX1 44 "java/lang/IndexOutOfBoundsException" ["java/lang/RuntimeException", "java/lang/Exception"]).filter goodWord ++ (vx_atS RX1 51 "java/lang/IllegalArgumentException" ["java/lang/RuntimeException", "java/lang/Exception"]).filter goodWord)
def wsX1_day : List Cond := .code yX1_day cX1_day 2 (some .int) :: ([.classLink RX1 40 "java/lang/IndexOutOfBoundsException", .initialized "java/lang/IndexOutOfBoundsException", .fieldLink RX1 9 "VaultMovements" "now" "[I", .methodLink RX1 36 yX1_isDay, .static yX1_isDay, .initialized RX1, .code yX1_isDay cX1_isDay 1 (some .boolean)] ++ wsX10 ++ (vx_atS RX1 44 "java/lang/IndexOutOfBoundsException" ["java/lang/RuntimeException", "java/lang/Exception"]).filter goodWord)
def wsX1_number : List Cond := .code yX1_number cX1_number 2 (some .int) :: ([.fieldLink RX1 9 "VaultMovements" "now" "[I", .fieldLink RX1 16 "VaultMovements" "savedStates" "I", .methodLink RX1 214 yX1_today, .instanceMethod yX1_today, .selects RX1 yX1_today yX1_today, .initialized RX1, .code yX1_today cX1_today 1 (some .int), .methodLink RX1 217 yX1_timeOfDay, .instanceMethod yX1_timeOfDay, .selects RX1 yX1_timeOfDay yX1_timeOfDay, .code yX1_timeOfDay cX1_timeOfDay 1 (some .int), .methodLink RX1 106 yX1_hoursToOpening, .instanceMethod yX1_hoursToOpening, .selects RX1 yX1_hoursToOpening yX1_hoursToOpening, .code yX1_hoursToOpening cX1_hoursToOpening 4 (some .int), .methodLink RX1 231 yX1_hoursToWait, .instanceMethod yX1_hoursToWait, .selects RX1 yX1_hoursToWait yX1_hoursToWait, .code yX1_hoursToWait cX1_hoursToWait 1 (some .int), .methodLink RX1 179 Lib.Math.max.name, .static Lib.Math.max.name, .initialized "java/lang/Math", .code Lib.Math.max.name Lib.Math.max.code 2 (some .int)] ++ wsX10)
def wsX1_count_r1 : List Cond := [Cond.classLink RX1 47 "java/lang/IllegalArgumentException", Cond.initialized "java/lang/IllegalArgumentException", Cond.methodLink RX1 176 yX1_number, Cond.instanceMethod yX1_number, Cond.selects RX1 yX1_number yX1_number, Cond.initialized RX1, Cond.code yX1_number cX1_number 2 (some .int), Cond.fieldLink RX1 9 "VaultMovements" "now" "[I", Cond.fieldLink RX1 16 "VaultMovements" "savedStates" "I", Cond.methodLink RX1 214 yX1_today, Cond.instanceMethod yX1_today, Cond.selects RX1 yX1_today yX1_today, Cond.code yX1_today cX1_today 1 (some .int), Cond.methodLink RX1 217 yX1_timeOfDay, Cond.instanceMethod yX1_timeOfDay, Cond.selects RX1 yX1_timeOfDay yX1_timeOfDay, Cond.code yX1_timeOfDay cX1_timeOfDay 1 (some .int), Cond.methodLink RX1 106 yX1_hoursToOpening, Cond.instanceMethod yX1_hoursToOpening, Cond.selects RX1 yX1_hoursToOpening yX1_hoursToOpening, Cond.code yX1_hoursToOpening cX1_hoursToOpening 4 (some .int), Cond.methodLink RX1 231 yX1_hoursToWait, Cond.instanceMethod yX1_hoursToWait, Cond.selects RX1 yX1_hoursToWait yX1_hoursToWait]
def wsX1_count_r2 : List Cond := [Cond.code yX1_hoursToWait cX1_hoursToWait 1 (some .int), Cond.methodLink RX1 179 Lib.Math.max.name, Cond.static Lib.Math.max.name, Cond.initialized "java/lang/Math", Cond.code Lib.Math.max.name Lib.Math.max.code 2 (some .int)]
def wsX1_count : List Cond := .code yX1_count cX1_count 2 (some .int) :: ((wsX1_count_r1 ++ wsX1_count_r2) ++ wsX10 ++ (vx_atS RX1 51 "java/lang/IllegalArgumentException" ["java/lang/RuntimeException", "java/lang/Exception"]).filter goodWord)
def wsX1_setting : List Cond := .code yX1_setting cX1_setting 2 (some .int) :: ([.classLink RX1 40 "java/lang/IndexOutOfBoundsException", .initialized "java/lang/IndexOutOfBoundsException", .fieldLink RX1 9 "VaultMovements" "now" "[I", .methodLink RX1 56 yX1_isSetting, .static yX1_isSetting, .initialized RX1, .code yX1_isSetting cX1_isSetting 1 (some .boolean)] ++ wsX10 ++ (vx_atS RX1 44 "java/lang/IndexOutOfBoundsException" ["java/lang/RuntimeException", "java/lang/Exception"]).filter goodWord)
def wsX1_opensIn_r1 : List Cond := [Cond.methodLink RX1 112 yX1_hoursToOpen, Cond.instanceMethod yX1_hoursToOpen, Cond.selects RX1 yX1_hoursToOpen yX1_hoursToOpen, Cond.initialized RX1, Cond.code yX1_hoursToOpen cX1_hoursToOpen 5 (some .int), Cond.methodLink RX1 179 Lib.Math.max.name, Cond.static Lib.Math.max.name, Cond.initialized "java/lang/Math", Cond.code Lib.Math.max.name Lib.Math.max.code 2 (some .int), Cond.methodLink RX1 79 yX1_isLocked, Cond.instanceMethod yX1_isLocked, Cond.selects RX1 yX1_isLocked yX1_isLocked, Cond.code yX1_isLocked cX1_isLocked 1 (some .boolean), Cond.fieldLink RX1 9 "VaultMovements" "now" "[I", Cond.methodLink RX1 83 yX1_goes, Cond.instanceMethod yX1_goes, Cond.selects RX1 yX1_goes yX1_goes, Cond.code yX1_goes cX1_goes 2 (some .boolean), Cond.methodLink RX1 91 yX1_place, Cond.static yX1_place, Cond.code yX1_place cX1_place 2 (some .int), Cond.methodLink RX1 220 yX1_hoursToRunDown, Cond.instanceMethod yX1_hoursToRunDown, Cond.selects RX1 yX1_hoursToRunDown yX1_hoursToRunDown]
def wsX1_opensIn_r2 : List Cond := [Cond.code yX1_hoursToRunDown cX1_hoursToRunDown 6 (some .int), Cond.methodLink RX1 231 yX1_hoursToWait, Cond.instanceMethod yX1_hoursToWait, Cond.selects RX1 yX1_hoursToWait yX1_hoursToWait, Cond.code yX1_hoursToWait cX1_hoursToWait 1 (some .int)]
def wsX1_opensIn : List Cond := .code yX1_opensIn cX1_opensIn 1 (some .int) :: ((wsX1_opensIn_r1 ++ wsX1_opensIn_r2) ++ wsX10)
def wsX1_lateness_r1 : List Cond := [Cond.methodLink RX1 179 Lib.Math.max.name, Cond.static Lib.Math.max.name, Cond.initialized "java/lang/Math", Cond.code Lib.Math.max.name Lib.Math.max.code 2 (some .int), Cond.methodLink RX1 79 yX1_isLocked, Cond.instanceMethod yX1_isLocked, Cond.selects RX1 yX1_isLocked yX1_isLocked, Cond.initialized RX1, Cond.code yX1_isLocked cX1_isLocked 1 (some .boolean), Cond.fieldLink RX1 9 "VaultMovements" "now" "[I", Cond.methodLink RX1 112 yX1_hoursToOpen, Cond.instanceMethod yX1_hoursToOpen, Cond.selects RX1 yX1_hoursToOpen yX1_hoursToOpen, Cond.code yX1_hoursToOpen cX1_hoursToOpen 5 (some .int), Cond.methodLink RX1 83 yX1_goes, Cond.instanceMethod yX1_goes, Cond.selects RX1 yX1_goes yX1_goes, Cond.code yX1_goes cX1_goes 2 (some .boolean), Cond.methodLink RX1 91 yX1_place, Cond.static yX1_place, Cond.code yX1_place cX1_place 2 (some .int), Cond.methodLink RX1 220 yX1_hoursToRunDown, Cond.instanceMethod yX1_hoursToRunDown, Cond.selects RX1 yX1_hoursToRunDown yX1_hoursToRunDown]
def wsX1_lateness_r2 : List Cond := [Cond.code yX1_hoursToRunDown cX1_hoursToRunDown 6 (some .int), Cond.methodLink RX1 231 yX1_hoursToWait, Cond.instanceMethod yX1_hoursToWait, Cond.selects RX1 yX1_hoursToWait yX1_hoursToWait, Cond.code yX1_hoursToWait cX1_hoursToWait 1 (some .int), Cond.methodLink RX1 119 yX1_latenessAfter, Cond.instanceMethod yX1_latenessAfter, Cond.selects RX1 yX1_latenessAfter yX1_latenessAfter, Cond.code yX1_latenessAfter cX1_latenessAfter 2 (some .int)]
def wsX1_lateness : List Cond := .code yX1_lateness cX1_lateness 2 (some .int) :: ((wsX1_lateness_r1 ++ wsX1_lateness_r2) ++ wsX10)
def wsX1_keyMovement_r1 : List Cond := [Cond.methodLink RX1 112 yX1_hoursToOpen, Cond.instanceMethod yX1_hoursToOpen, Cond.selects RX1 yX1_hoursToOpen yX1_hoursToOpen, Cond.initialized RX1, Cond.code yX1_hoursToOpen cX1_hoursToOpen 5 (some .int), Cond.methodLink RX1 179 Lib.Math.max.name, Cond.static Lib.Math.max.name, Cond.initialized "java/lang/Math", Cond.code Lib.Math.max.name Lib.Math.max.code 2 (some .int), Cond.methodLink RX1 79 yX1_isLocked, Cond.instanceMethod yX1_isLocked, Cond.selects RX1 yX1_isLocked yX1_isLocked, Cond.code yX1_isLocked cX1_isLocked 1 (some .boolean), Cond.fieldLink RX1 9 "VaultMovements" "now" "[I", Cond.methodLink RX1 83 yX1_goes, Cond.instanceMethod yX1_goes, Cond.selects RX1 yX1_goes yX1_goes, Cond.code yX1_goes cX1_goes 2 (some .boolean), Cond.methodLink RX1 91 yX1_place, Cond.static yX1_place, Cond.code yX1_place cX1_place 2 (some .int), Cond.methodLink RX1 220 yX1_hoursToRunDown, Cond.instanceMethod yX1_hoursToRunDown, Cond.selects RX1 yX1_hoursToRunDown yX1_hoursToRunDown]
def wsX1_keyMovement_r2 : List Cond := [Cond.code yX1_hoursToRunDown cX1_hoursToRunDown 6 (some .int), Cond.methodLink RX1 231 yX1_hoursToWait, Cond.instanceMethod yX1_hoursToWait, Cond.selects RX1 yX1_hoursToWait yX1_hoursToWait, Cond.code yX1_hoursToWait cX1_hoursToWait 1 (some .int)]
def wsX1_keyMovement : List Cond := .code yX1_keyMovement cX1_keyMovement 3 (some .int) :: ((wsX1_keyMovement_r1 ++ wsX1_keyMovement_r2) ++ wsX10)
def wsX1_hoursToWind_r1 : List Cond := [Cond.fieldLink RX1 9 "VaultMovements" "now" "[I", Cond.methodLink RX1 106 yX1_hoursToOpening, Cond.instanceMethod yX1_hoursToOpening, Cond.selects RX1 yX1_hoursToOpening yX1_hoursToOpening, Cond.initialized RX1, Cond.code yX1_hoursToOpening cX1_hoursToOpening 4 (some .int), Cond.methodLink RX1 214 yX1_today, Cond.instanceMethod yX1_today, Cond.selects RX1 yX1_today yX1_today, Cond.code yX1_today cX1_today 1 (some .int), Cond.methodLink RX1 217 yX1_timeOfDay, Cond.instanceMethod yX1_timeOfDay, Cond.selects RX1 yX1_timeOfDay yX1_timeOfDay, Cond.code yX1_timeOfDay cX1_timeOfDay 1 (some .int), Cond.methodLink RX1 91 yX1_place, Cond.static yX1_place, Cond.code yX1_place cX1_place 2 (some .int), Cond.methodLink RX1 83 yX1_goes, Cond.instanceMethod yX1_goes, Cond.selects RX1 yX1_goes yX1_goes, Cond.code yX1_goes cX1_goes 2 (some .boolean), Cond.methodLink RX1 224 yX1_isLostHour, Cond.static yX1_isLostHour, Cond.code yX1_isLostHour cX1_isLostHour 2 (some .boolean)]
def wsX1_hoursToWind_r2 : List Cond := [Cond.methodLink RX1 74 yX1_areWindingHours, Cond.static yX1_areWindingHours, Cond.code yX1_areWindingHours cX1_areWindingHours 1 (some .boolean)]
def wsX1_hoursToWind : List Cond := .code yX1_hoursToWind cX1_hoursToWind 6 (some .int) :: ((wsX1_hoursToWind_r1 ++ wsX1_hoursToWind_r2) ++ wsX10)
def wsX1_rightWinding_r1 : List Cond := [Cond.classLink RX1 40 "java/lang/IndexOutOfBoundsException", Cond.initialized "java/lang/IndexOutOfBoundsException", Cond.methodLink RX1 69 yX1_isMovement, Cond.static yX1_isMovement, Cond.initialized RX1, Cond.code yX1_isMovement cX1_isMovement 1 (some .boolean), Cond.methodLink RX1 184 yX1_hoursToWind, Cond.instanceMethod yX1_hoursToWind, Cond.selects RX1 yX1_hoursToWind yX1_hoursToWind, Cond.code yX1_hoursToWind cX1_hoursToWind 6 (some .int), Cond.fieldLink RX1 9 "VaultMovements" "now" "[I", Cond.methodLink RX1 106 yX1_hoursToOpening, Cond.instanceMethod yX1_hoursToOpening, Cond.selects RX1 yX1_hoursToOpening yX1_hoursToOpening, Cond.code yX1_hoursToOpening cX1_hoursToOpening 4 (some .int), Cond.methodLink RX1 214 yX1_today, Cond.instanceMethod yX1_today, Cond.selects RX1 yX1_today yX1_today, Cond.code yX1_today cX1_today 1 (some .int), Cond.methodLink RX1 217 yX1_timeOfDay, Cond.instanceMethod yX1_timeOfDay, Cond.selects RX1 yX1_timeOfDay yX1_timeOfDay, Cond.code yX1_timeOfDay cX1_timeOfDay 1 (some .int), Cond.methodLink RX1 91 yX1_place]
def wsX1_rightWinding_r2 : List Cond := [Cond.static yX1_place, Cond.code yX1_place cX1_place 2 (some .int), Cond.methodLink RX1 83 yX1_goes, Cond.instanceMethod yX1_goes, Cond.selects RX1 yX1_goes yX1_goes, Cond.code yX1_goes cX1_goes 2 (some .boolean), Cond.methodLink RX1 224 yX1_isLostHour, Cond.static yX1_isLostHour, Cond.code yX1_isLostHour cX1_isLostHour 2 (some .boolean), Cond.methodLink RX1 74 yX1_areWindingHours, Cond.static yX1_areWindingHours, Cond.code yX1_areWindingHours cX1_areWindingHours 1 (some .boolean)]
def wsX1_rightWinding : List Cond := .code yX1_rightWinding cX1_rightWinding 2 (some .int) :: ((wsX1_rightWinding_r1 ++ wsX1_rightWinding_r2) ++ wsX10 ++ (vx_atS RX1 44 "java/lang/IndexOutOfBoundsException" ["java/lang/RuntimeException", "java/lang/Exception"]).filter goodWord)
def wsX1_punctuality : List Cond := .code yX1_punctuality cX1_punctuality 2 (some .double) :: ([.fieldLink RX1 9 "VaultMovements" "now" "[I"] ++ wsX10)
def wsJ9_max_7cf53 : List Cond := .code yJ9_max_7cf53 cJ9_max_7cf53 2 (some .int) :: ([])
def wsL_low : List Cond := .code yL_low cL_low 2 (some .int) :: ([.constant RL 7 (2147483647)])
def wsL_cell : List Cond := .code yL_cell cL_cell 2 (some .int) :: ([.constant RL 8 (40503)])
def wsL_lock_r1 : List Cond := [Cond.classLink RL 15 "java/lang/IllegalStateException", Cond.methodLink RL 9 yX1_lock, Cond.instanceMethod yX1_lock, Cond.selects RX1 yX1_lock yX1_lock, Cond.initialized RX1, Cond.code yX1_lock cX1_lock 2 (some .int), Cond.classLink RX1 86 "java/lang/IllegalStateException", Cond.initialized "java/lang/IllegalStateException", Cond.fieldLink RX1 9 "VaultMovements" "now" "[I", Cond.methodLink RX1 79 yX1_isLocked, Cond.instanceMethod yX1_isLocked, Cond.selects RX1 yX1_isLocked yX1_isLocked, Cond.code yX1_isLocked cX1_isLocked 1 (some .boolean), Cond.methodLink RX1 98 yX1_someMovementRuns, Cond.instanceMethod yX1_someMovementRuns, Cond.selects RX1 yX1_someMovementRuns yX1_someMovementRuns, Cond.code yX1_someMovementRuns cX1_someMovementRuns 2 (some .boolean), Cond.methodLink RX1 83 yX1_goes, Cond.instanceMethod yX1_goes, Cond.selects RX1 yX1_goes yX1_goes, Cond.code yX1_goes cX1_goes 2 (some .boolean), Cond.methodLink RX1 91 yX1_place, Cond.static yX1_place, Cond.code yX1_place cX1_place 2 (some .int)]
def wsL_lock_r2 : List Cond := [Cond.methodLink RX1 103 yX1_save, Cond.instanceMethod yX1_save, Cond.selects RX1 yX1_save yX1_save, Cond.code yX1_save cX1_save 1 none, Cond.fieldLink RX1 16 "VaultMovements" "savedStates" "I", Cond.fieldLink RX1 13 "VaultMovements" "saved" "[I", Cond.methodLink RX1 163 arraycopyName, Cond.native arraycopyName, Cond.static arraycopyName, Cond.initialized "java/lang/System", Cond.methodLink RX1 106 yX1_hoursToOpening, Cond.instanceMethod yX1_hoursToOpening, Cond.selects RX1 yX1_hoursToOpening yX1_hoursToOpening, Cond.code yX1_hoursToOpening cX1_hoursToOpening 4 (some .int), Cond.methodLink RX1 214 yX1_today, Cond.instanceMethod yX1_today, Cond.selects RX1 yX1_today yX1_today, Cond.code yX1_today cX1_today 1 (some .int), Cond.methodLink RX1 217 yX1_timeOfDay, Cond.instanceMethod yX1_timeOfDay, Cond.selects RX1 yX1_timeOfDay yX1_timeOfDay, Cond.code yX1_timeOfDay cX1_timeOfDay 1 (some .int)]
def wsL_lock : List Cond := .codeWith yL_lock cL_lock 2 (some .int) [(0, 4, 5, 15)] :: ((wsL_lock_r1 ++ wsL_lock_r2) ++ wsX10 ++ (vx_atS RX1 90 "java/lang/IllegalStateException" ["java/lang/RuntimeException", "java/lang/Exception"]).filter goodWord)
def wsL_open_r1 : List Cond := [Cond.classLink RL 15 "java/lang/IllegalStateException", Cond.methodLink RL 17 yX1_open, Cond.instanceMethod yX1_open, Cond.selects RX1 yX1_open yX1_open, Cond.initialized RX1, Cond.code yX1_open cX1_open 1 (some .int), Cond.classLink RX1 86 "java/lang/IllegalStateException", Cond.initialized "java/lang/IllegalStateException", Cond.methodLink RX1 79 yX1_isLocked, Cond.instanceMethod yX1_isLocked, Cond.selects RX1 yX1_isLocked yX1_isLocked, Cond.code yX1_isLocked cX1_isLocked 1 (some .boolean), Cond.fieldLink RX1 9 "VaultMovements" "now" "[I", Cond.methodLink RX1 103 yX1_save, Cond.instanceMethod yX1_save, Cond.selects RX1 yX1_save yX1_save, Cond.code yX1_save cX1_save 1 none, Cond.fieldLink RX1 16 "VaultMovements" "savedStates" "I", Cond.fieldLink RX1 13 "VaultMovements" "saved" "[I", Cond.methodLink RX1 163 arraycopyName, Cond.native arraycopyName, Cond.static arraycopyName, Cond.initialized "java/lang/System", Cond.methodLink RX1 112 yX1_hoursToOpen]
def wsL_open_r2 : List Cond := [Cond.instanceMethod yX1_hoursToOpen, Cond.selects RX1 yX1_hoursToOpen yX1_hoursToOpen, Cond.code yX1_hoursToOpen cX1_hoursToOpen 5 (some .int), Cond.methodLink RX1 179 Lib.Math.max.name, Cond.static Lib.Math.max.name, Cond.initialized "java/lang/Math", Cond.code Lib.Math.max.name Lib.Math.max.code 2 (some .int), Cond.methodLink RX1 83 yX1_goes, Cond.instanceMethod yX1_goes, Cond.selects RX1 yX1_goes yX1_goes, Cond.code yX1_goes cX1_goes 2 (some .boolean), Cond.methodLink RX1 91 yX1_place, Cond.static yX1_place, Cond.code yX1_place cX1_place 2 (some .int), Cond.methodLink RX1 220 yX1_hoursToRunDown, Cond.instanceMethod yX1_hoursToRunDown, Cond.selects RX1 yX1_hoursToRunDown yX1_hoursToRunDown, Cond.code yX1_hoursToRunDown cX1_hoursToRunDown 6 (some .int), Cond.methodLink RX1 231 yX1_hoursToWait, Cond.instanceMethod yX1_hoursToWait, Cond.selects RX1 yX1_hoursToWait yX1_hoursToWait, Cond.code yX1_hoursToWait cX1_hoursToWait 1 (some .int), Cond.methodLink RX1 116 yX1_countEarlyTry, Cond.instanceMethod yX1_countEarlyTry]
def wsL_open_r3 : List Cond := [Cond.selects RX1 yX1_countEarlyTry yX1_countEarlyTry, Cond.code yX1_countEarlyTry cX1_countEarlyTry 1 none, Cond.methodLink RX1 119 yX1_latenessAfter, Cond.instanceMethod yX1_latenessAfter, Cond.selects RX1 yX1_latenessAfter yX1_latenessAfter, Cond.code yX1_latenessAfter cX1_latenessAfter 2 (some .int), Cond.methodLink RX1 122 yX1_countOpening, Cond.instanceMethod yX1_countOpening, Cond.selects RX1 yX1_countOpening yX1_countOpening, Cond.code yX1_countOpening cX1_countOpening 2 none, Cond.methodLink RX1 126 yX1_leaveOpen, Cond.instanceMethod yX1_leaveOpen, Cond.selects RX1 yX1_leaveOpen yX1_leaveOpen, Cond.code yX1_leaveOpen cX1_leaveOpen 1 none]
def wsL_open : List Cond := .codeWith yL_open cL_open 2 (some .int) [(0, 4, 5, 15)] :: ((wsL_open_r1 ++ (wsL_open_r2 ++ wsL_open_r3)) ++ wsX10 ++ (vx_atS RX1 90 "java/lang/IllegalStateException" ["java/lang/RuntimeException", "java/lang/Exception"]).filter goodWord)
def wsL_wind_r1 : List Cond := [Cond.classLink RL 15 "java/lang/IllegalStateException", Cond.methodLink RL 20 yX1_wind, Cond.instanceMethod yX1_wind, Cond.selects RX1 yX1_wind yX1_wind, Cond.initialized RX1, Cond.code yX1_wind cX1_wind 3 (some .int), Cond.classLink RX1 40 "java/lang/IndexOutOfBoundsException", Cond.initialized "java/lang/IndexOutOfBoundsException", Cond.classLink RX1 47 "java/lang/IllegalArgumentException", Cond.initialized "java/lang/IllegalArgumentException", Cond.classLink RX1 86 "java/lang/IllegalStateException", Cond.initialized "java/lang/IllegalStateException", Cond.methodLink RX1 69 yX1_isMovement, Cond.static yX1_isMovement, Cond.code yX1_isMovement cX1_isMovement 1 (some .boolean), Cond.methodLink RX1 74 yX1_areWindingHours, Cond.static yX1_areWindingHours, Cond.code yX1_areWindingHours cX1_areWindingHours 1 (some .boolean), Cond.methodLink RX1 79 yX1_isLocked, Cond.instanceMethod yX1_isLocked, Cond.selects RX1 yX1_isLocked yX1_isLocked, Cond.code yX1_isLocked cX1_isLocked 1 (some .boolean), Cond.fieldLink RX1 9 "VaultMovements" "now" "[I", Cond.methodLink RX1 83 yX1_goes]
def wsL_wind_r2 : List Cond := [Cond.instanceMethod yX1_goes, Cond.selects RX1 yX1_goes yX1_goes, Cond.code yX1_goes cX1_goes 2 (some .boolean), Cond.methodLink RX1 91 yX1_place, Cond.static yX1_place, Cond.code yX1_place cX1_place 2 (some .int), Cond.methodLink RX1 52 yX1_change, Cond.instanceMethod yX1_change, Cond.selects RX1 yX1_change yX1_change, Cond.code yX1_change cX1_change 4 (some .int), Cond.methodLink RX1 103 yX1_save, Cond.instanceMethod yX1_save, Cond.selects RX1 yX1_save yX1_save, Cond.code yX1_save cX1_save 1 none, Cond.fieldLink RX1 16 "VaultMovements" "savedStates" "I", Cond.fieldLink RX1 13 "VaultMovements" "saved" "[I", Cond.methodLink RX1 163 arraycopyName, Cond.native arraycopyName, Cond.static arraycopyName, Cond.initialized "java/lang/System"]
def wsL_wind : List Cond := .codeWith yL_wind cL_wind 4 (some .int) [(0, 6, 7, 15)] :: ((wsL_wind_r1 ++ wsL_wind_r2) ++ wsX10 ++ (vx_atS RX1 44 "java/lang/IndexOutOfBoundsException" ["java/lang/RuntimeException", "java/lang/Exception"]).filter goodWord ++ (vx_atS RX1 51 "java/lang/IllegalArgumentException" ["java/lang/RuntimeException", "java/lang/Exception"]).filter goodWord ++ (vx_atS RX1 90 "java/lang/IllegalStateException" ["java/lang/RuntimeException", "java/lang/Exception"]).filter goodWord)
def wsL_service_r1 : List Cond := [Cond.classLink RL 15 "java/lang/IllegalStateException", Cond.methodLink RL 24 yX1_service, Cond.instanceMethod yX1_service, Cond.selects RX1 yX1_service yX1_service, Cond.initialized RX1, Cond.code yX1_service cX1_service 3 (some .int), Cond.classLink RX1 40 "java/lang/IndexOutOfBoundsException", Cond.initialized "java/lang/IndexOutOfBoundsException", Cond.classLink RX1 86 "java/lang/IllegalStateException", Cond.initialized "java/lang/IllegalStateException", Cond.fieldLink RX1 9 "VaultMovements" "now" "[I", Cond.methodLink RX1 69 yX1_isMovement, Cond.static yX1_isMovement, Cond.code yX1_isMovement cX1_isMovement 1 (some .boolean), Cond.methodLink RX1 79 yX1_isLocked, Cond.instanceMethod yX1_isLocked, Cond.selects RX1 yX1_isLocked yX1_isLocked, Cond.code yX1_isLocked cX1_isLocked 1 (some .boolean), Cond.methodLink RX1 91 yX1_place, Cond.static yX1_place, Cond.code yX1_place cX1_place 2 (some .int), Cond.methodLink RX1 52 yX1_change, Cond.instanceMethod yX1_change, Cond.selects RX1 yX1_change yX1_change]
def wsL_service_r2 : List Cond := [Cond.code yX1_change cX1_change 4 (some .int), Cond.methodLink RX1 103 yX1_save, Cond.instanceMethod yX1_save, Cond.selects RX1 yX1_save yX1_save, Cond.code yX1_save cX1_save 1 none, Cond.fieldLink RX1 16 "VaultMovements" "savedStates" "I", Cond.fieldLink RX1 13 "VaultMovements" "saved" "[I", Cond.methodLink RX1 163 arraycopyName, Cond.native arraycopyName, Cond.static arraycopyName, Cond.initialized "java/lang/System"]
def wsL_service : List Cond := .codeWith yL_service cL_service 3 (some .int) [(0, 5, 6, 15)] :: ((wsL_service_r1 ++ wsL_service_r2) ++ wsX10 ++ (vx_atS RX1 44 "java/lang/IndexOutOfBoundsException" ["java/lang/RuntimeException", "java/lang/Exception"]).filter goodWord ++ (vx_atS RX1 90 "java/lang/IllegalStateException" ["java/lang/RuntimeException", "java/lang/Exception"]).filter goodWord)
def wsL_undo : List Cond := .codeWith yL_undo cL_undo 2 (some .int) [(0, 4, 5, 15)] :: ([.classLink RL 15 "java/lang/IllegalStateException", .methodLink RL 28 yX1_undo, .instanceMethod yX1_undo, .selects RX1 yX1_undo yX1_undo, .initialized RX1, .code yX1_undo cX1_undo 1 (some .int), .classLink RX1 86 "java/lang/IllegalStateException", .initialized "java/lang/IllegalStateException", .fieldLink RX1 16 "VaultMovements" "savedStates" "I", .fieldLink RX1 13 "VaultMovements" "saved" "[I", .fieldLink RX1 9 "VaultMovements" "now" "[I", .methodLink RX1 163 arraycopyName, .native arraycopyName, .static arraycopyName, .initialized "java/lang/System"] ++ wsX10 ++ (vx_atS RX1 90 "java/lang/IllegalStateException" ["java/lang/RuntimeException", "java/lang/Exception"]).filter goodWord)
def wsL_drill_r1 : List Cond := [Cond.classLink RL 15 "java/lang/IllegalStateException", Cond.methodLink RL 31 yX1_drill, Cond.instanceMethod yX1_drill, Cond.selects RX1 yX1_drill yX1_drill, Cond.initialized RX1, Cond.code yX1_drill cX1_drill 2 (some .int), Cond.classLink RX1 86 "java/lang/IllegalStateException", Cond.initialized "java/lang/IllegalStateException", Cond.fieldLink RX1 9 "VaultMovements" "now" "[I", Cond.methodLink RX1 79 yX1_isLocked, Cond.instanceMethod yX1_isLocked, Cond.selects RX1 yX1_isLocked yX1_isLocked, Cond.code yX1_isLocked cX1_isLocked 1 (some .boolean), Cond.methodLink RX1 103 yX1_save, Cond.instanceMethod yX1_save, Cond.selects RX1 yX1_save yX1_save, Cond.code yX1_save cX1_save 1 none, Cond.fieldLink RX1 16 "VaultMovements" "savedStates" "I", Cond.fieldLink RX1 13 "VaultMovements" "saved" "[I", Cond.methodLink RX1 163 arraycopyName, Cond.native arraycopyName, Cond.static arraycopyName, Cond.initialized "java/lang/System", Cond.methodLink RX1 91 yX1_place]
def wsL_drill_r2 : List Cond := [Cond.static yX1_place, Cond.code yX1_place cX1_place 2 (some .int), Cond.methodLink RX1 126 yX1_leaveOpen, Cond.instanceMethod yX1_leaveOpen, Cond.selects RX1 yX1_leaveOpen yX1_leaveOpen, Cond.code yX1_leaveOpen cX1_leaveOpen 1 none]
def wsL_drill : List Cond := .codeWith yL_drill cL_drill 2 (some .int) [(0, 4, 5, 15)] :: ((wsL_drill_r1 ++ wsL_drill_r2) ++ wsX10 ++ (vx_atS RX1 90 "java/lang/IllegalStateException" ["java/lang/RuntimeException", "java/lang/Exception"]).filter goodWord)
def wsL_clock_r1 : List Cond := [Cond.methodLink RL 34 yX1_count, Cond.instanceMethod yX1_count, Cond.selects RX1 yX1_count yX1_count, Cond.initialized RX1, Cond.code yX1_count cX1_count 2 (some .int), Cond.classLink RX1 47 "java/lang/IllegalArgumentException", Cond.initialized "java/lang/IllegalArgumentException", Cond.methodLink RX1 176 yX1_number, Cond.instanceMethod yX1_number, Cond.selects RX1 yX1_number yX1_number, Cond.code yX1_number cX1_number 2 (some .int), Cond.fieldLink RX1 9 "VaultMovements" "now" "[I", Cond.fieldLink RX1 16 "VaultMovements" "savedStates" "I", Cond.methodLink RX1 214 yX1_today, Cond.instanceMethod yX1_today, Cond.selects RX1 yX1_today yX1_today, Cond.code yX1_today cX1_today 1 (some .int), Cond.methodLink RX1 217 yX1_timeOfDay, Cond.instanceMethod yX1_timeOfDay, Cond.selects RX1 yX1_timeOfDay yX1_timeOfDay, Cond.code yX1_timeOfDay cX1_timeOfDay 1 (some .int), Cond.methodLink RX1 106 yX1_hoursToOpening, Cond.instanceMethod yX1_hoursToOpening, Cond.selects RX1 yX1_hoursToOpening yX1_hoursToOpening]
def wsL_clock_r2 : List Cond := [Cond.code yX1_hoursToOpening cX1_hoursToOpening 4 (some .int), Cond.methodLink RX1 231 yX1_hoursToWait, Cond.instanceMethod yX1_hoursToWait, Cond.selects RX1 yX1_hoursToWait yX1_hoursToWait, Cond.code yX1_hoursToWait cX1_hoursToWait 1 (some .int), Cond.methodLink RX1 179 Lib.Math.max.name, Cond.static Lib.Math.max.name, Cond.initialized "java/lang/Math", Cond.code Lib.Math.max.name Lib.Math.max.code 2 (some .int), Cond.methodLink RL 37 yX1_day, Cond.instanceMethod yX1_day, Cond.selects RX1 yX1_day yX1_day, Cond.code yX1_day cX1_day 2 (some .int), Cond.classLink RX1 40 "java/lang/IndexOutOfBoundsException", Cond.initialized "java/lang/IndexOutOfBoundsException", Cond.methodLink RX1 36 yX1_isDay, Cond.static yX1_isDay, Cond.code yX1_isDay cX1_isDay 1 (some .boolean), Cond.methodLink RL 40 yX1_movement, Cond.instanceMethod yX1_movement, Cond.selects RX1 yX1_movement yX1_movement, Cond.code yX1_movement cX1_movement 3 (some .int), Cond.methodLink RX1 69 yX1_isMovement, Cond.static yX1_isMovement]
def wsL_clock_r3 : List Cond := [Cond.code yX1_isMovement cX1_isMovement 1 (some .boolean), Cond.methodLink RX1 171 yX1_property, Cond.instanceMethod yX1_property, Cond.selects RX1 yX1_property yX1_property, Cond.code yX1_property cX1_property 3 (some .int), Cond.methodLink RX1 91 yX1_place, Cond.static yX1_place, Cond.code yX1_place cX1_place 2 (some .int), Cond.methodLink RX1 83 yX1_goes, Cond.instanceMethod yX1_goes, Cond.selects RX1 yX1_goes yX1_goes, Cond.code yX1_goes cX1_goes 2 (some .boolean), Cond.methodLink RX1 220 yX1_hoursToRunDown, Cond.instanceMethod yX1_hoursToRunDown, Cond.selects RX1 yX1_hoursToRunDown yX1_hoursToRunDown, Cond.code yX1_hoursToRunDown cX1_hoursToRunDown 6 (some .int), Cond.methodLink RL 43 yX1_setting, Cond.instanceMethod yX1_setting, Cond.selects RX1 yX1_setting yX1_setting, Cond.code yX1_setting cX1_setting 2 (some .int), Cond.methodLink RX1 56 yX1_isSetting, Cond.static yX1_isSetting, Cond.code yX1_isSetting cX1_isSetting 1 (some .boolean), Cond.methodLink RL 46 yX1_rightWinding]
def wsL_clock_r4 : List Cond := [Cond.instanceMethod yX1_rightWinding, Cond.selects RX1 yX1_rightWinding yX1_rightWinding, Cond.code yX1_rightWinding cX1_rightWinding 2 (some .int), Cond.methodLink RX1 184 yX1_hoursToWind, Cond.instanceMethod yX1_hoursToWind, Cond.selects RX1 yX1_hoursToWind yX1_hoursToWind, Cond.code yX1_hoursToWind cX1_hoursToWind 6 (some .int), Cond.methodLink RX1 224 yX1_isLostHour, Cond.static yX1_isLostHour, Cond.code yX1_isLostHour cX1_isLostHour 2 (some .boolean), Cond.methodLink RX1 74 yX1_areWindingHours, Cond.static yX1_areWindingHours, Cond.code yX1_areWindingHours cX1_areWindingHours 1 (some .boolean), Cond.methodLink RL 49 yX1_opensIn, Cond.instanceMethod yX1_opensIn, Cond.selects RX1 yX1_opensIn yX1_opensIn, Cond.code yX1_opensIn cX1_opensIn 1 (some .int), Cond.methodLink RX1 112 yX1_hoursToOpen, Cond.instanceMethod yX1_hoursToOpen, Cond.selects RX1 yX1_hoursToOpen yX1_hoursToOpen, Cond.code yX1_hoursToOpen cX1_hoursToOpen 5 (some .int), Cond.methodLink RX1 79 yX1_isLocked, Cond.instanceMethod yX1_isLocked, Cond.selects RX1 yX1_isLocked yX1_isLocked]
def wsL_clock_r5 : List Cond := [Cond.code yX1_isLocked cX1_isLocked 1 (some .boolean), Cond.methodLink RL 52 yX1_lateness, Cond.instanceMethod yX1_lateness, Cond.selects RX1 yX1_lateness yX1_lateness, Cond.code yX1_lateness cX1_lateness 2 (some .int), Cond.methodLink RX1 119 yX1_latenessAfter, Cond.instanceMethod yX1_latenessAfter, Cond.selects RX1 yX1_latenessAfter yX1_latenessAfter, Cond.code yX1_latenessAfter cX1_latenessAfter 2 (some .int), Cond.methodLink RL 55 yX1_keyMovement, Cond.instanceMethod yX1_keyMovement, Cond.selects RX1 yX1_keyMovement yX1_keyMovement, Cond.code yX1_keyMovement cX1_keyMovement 3 (some .int), Cond.methodLink RL 58 yX1_punctuality, Cond.instanceMethod yX1_punctuality, Cond.selects RX1 yX1_punctuality yX1_punctuality, Cond.code yX1_punctuality cX1_punctuality 2 (some .double)]
def wsL_clock : List Cond := .code yL_clock cL_clock 7 (some .boolean) :: ((wsL_clock_r1 ++ (wsL_clock_r2 ++ (wsL_clock_r3 ++ (wsL_clock_r4 ++ wsL_clock_r5)))) ++ wsX10 ++ (vx_atS RX1 51 "java/lang/IllegalArgumentException" ["java/lang/RuntimeException", "java/lang/Exception"]).filter goodWord ++ (vx_atS RX1 44 "java/lang/IndexOutOfBoundsException" ["java/lang/RuntimeException", "java/lang/Exception"]).filter goodWord)
def wsL_act_r1 : List Cond := [Cond.methodLink RL 62 yL_cell, Cond.static yL_cell, Cond.initialized RL, Cond.code yL_cell cL_cell 2 (some .int), Cond.constant RL 8 (40503), Cond.methodLink RL 68 yL_low, Cond.static yL_low, Cond.code yL_low cL_low 2 (some .int), Cond.constant RL 7 (2147483647), Cond.methodLink RL 71 yL_wind, Cond.static yL_wind, Cond.codeWith yL_wind cL_wind 4 (some .int) [(0, 6, 7, 15)], Cond.classLink RL 15 "java/lang/IllegalStateException", Cond.methodLink RL 20 yX1_wind, Cond.instanceMethod yX1_wind, Cond.selects RX1 yX1_wind yX1_wind, Cond.initialized RX1, Cond.code yX1_wind cX1_wind 3 (some .int), Cond.classLink RX1 40 "java/lang/IndexOutOfBoundsException", Cond.initialized "java/lang/IndexOutOfBoundsException", Cond.classLink RX1 47 "java/lang/IllegalArgumentException", Cond.initialized "java/lang/IllegalArgumentException", Cond.classLink RX1 86 "java/lang/IllegalStateException", Cond.initialized "java/lang/IllegalStateException"]
def wsL_act_r2 : List Cond := [Cond.methodLink RX1 69 yX1_isMovement, Cond.static yX1_isMovement, Cond.code yX1_isMovement cX1_isMovement 1 (some .boolean), Cond.methodLink RX1 74 yX1_areWindingHours, Cond.static yX1_areWindingHours, Cond.code yX1_areWindingHours cX1_areWindingHours 1 (some .boolean), Cond.methodLink RX1 79 yX1_isLocked, Cond.instanceMethod yX1_isLocked, Cond.selects RX1 yX1_isLocked yX1_isLocked, Cond.code yX1_isLocked cX1_isLocked 1 (some .boolean), Cond.fieldLink RX1 9 "VaultMovements" "now" "[I", Cond.methodLink RX1 83 yX1_goes, Cond.instanceMethod yX1_goes, Cond.selects RX1 yX1_goes yX1_goes, Cond.code yX1_goes cX1_goes 2 (some .boolean), Cond.methodLink RX1 91 yX1_place, Cond.static yX1_place, Cond.code yX1_place cX1_place 2 (some .int), Cond.methodLink RX1 52 yX1_change, Cond.instanceMethod yX1_change, Cond.selects RX1 yX1_change yX1_change, Cond.code yX1_change cX1_change 4 (some .int), Cond.methodLink RX1 103 yX1_save, Cond.instanceMethod yX1_save]
def wsL_act_r3 : List Cond := [Cond.selects RX1 yX1_save yX1_save, Cond.code yX1_save cX1_save 1 none, Cond.fieldLink RX1 16 "VaultMovements" "savedStates" "I", Cond.fieldLink RX1 13 "VaultMovements" "saved" "[I", Cond.methodLink RX1 163 arraycopyName, Cond.native arraycopyName, Cond.static arraycopyName, Cond.initialized "java/lang/System", Cond.methodLink RL 74 yL_lock, Cond.static yL_lock, Cond.codeWith yL_lock cL_lock 2 (some .int) [(0, 4, 5, 15)], Cond.methodLink RL 9 yX1_lock, Cond.instanceMethod yX1_lock, Cond.selects RX1 yX1_lock yX1_lock, Cond.code yX1_lock cX1_lock 2 (some .int), Cond.methodLink RX1 98 yX1_someMovementRuns, Cond.instanceMethod yX1_someMovementRuns, Cond.selects RX1 yX1_someMovementRuns yX1_someMovementRuns, Cond.code yX1_someMovementRuns cX1_someMovementRuns 2 (some .boolean), Cond.methodLink RX1 106 yX1_hoursToOpening, Cond.instanceMethod yX1_hoursToOpening, Cond.selects RX1 yX1_hoursToOpening yX1_hoursToOpening, Cond.code yX1_hoursToOpening cX1_hoursToOpening 4 (some .int), Cond.methodLink RX1 214 yX1_today]
def wsL_act_r4 : List Cond := [Cond.instanceMethod yX1_today, Cond.selects RX1 yX1_today yX1_today, Cond.code yX1_today cX1_today 1 (some .int), Cond.methodLink RX1 217 yX1_timeOfDay, Cond.instanceMethod yX1_timeOfDay, Cond.selects RX1 yX1_timeOfDay yX1_timeOfDay, Cond.code yX1_timeOfDay cX1_timeOfDay 1 (some .int), Cond.methodLink RL 77 yX1_fault, Cond.instanceMethod yX1_fault, Cond.selects RX1 yX1_fault yX1_fault, Cond.code yX1_fault cX1_fault 3 (some .int), Cond.methodLink RL 81 yX1_loss, Cond.instanceMethod yX1_loss, Cond.selects RX1 yX1_loss yX1_loss, Cond.code yX1_loss cX1_loss 3 (some .int), Cond.methodLink RL 84 yL_service, Cond.static yL_service, Cond.codeWith yL_service cL_service 3 (some .int) [(0, 5, 6, 15)], Cond.methodLink RL 24 yX1_service, Cond.instanceMethod yX1_service, Cond.selects RX1 yX1_service yX1_service, Cond.code yX1_service cX1_service 3 (some .int), Cond.methodLink RL 87 yX1_opening, Cond.instanceMethod yX1_opening]
def wsL_act_r5 : List Cond := [Cond.selects RX1 yX1_opening yX1_opening, Cond.code yX1_opening cX1_opening 3 (some .int), Cond.methodLink RX1 36 yX1_isDay, Cond.static yX1_isDay, Cond.code yX1_isDay cX1_isDay 1 (some .boolean), Cond.methodLink RL 90 yX1_set, Cond.instanceMethod yX1_set, Cond.selects RX1 yX1_set yX1_set, Cond.code yX1_set cX1_set 3 (some .int), Cond.fieldLink RX1 61 "VaultMovements" "SETTING_LEAST" "[I", Cond.fieldLink RX1 64 "VaultMovements" "SETTING_MOST" "[I", Cond.methodLink RX1 56 yX1_isSetting, Cond.static yX1_isSetting, Cond.code yX1_isSetting cX1_isSetting 1 (some .boolean), Cond.methodLink RL 93 yL_drill, Cond.static yL_drill, Cond.codeWith yL_drill cL_drill 2 (some .int) [(0, 4, 5, 15)], Cond.methodLink RL 31 yX1_drill, Cond.instanceMethod yX1_drill, Cond.selects RX1 yX1_drill yX1_drill, Cond.code yX1_drill cX1_drill 2 (some .int), Cond.methodLink RX1 126 yX1_leaveOpen, Cond.instanceMethod yX1_leaveOpen, Cond.selects RX1 yX1_leaveOpen yX1_leaveOpen]
def wsL_act_r6 : List Cond := [Cond.code yX1_leaveOpen cX1_leaveOpen 1 none, Cond.methodLink RL 95 yL_undo, Cond.static yL_undo, Cond.codeWith yL_undo cL_undo 2 (some .int) [(0, 4, 5, 15)], Cond.methodLink RL 28 yX1_undo, Cond.instanceMethod yX1_undo, Cond.selects RX1 yX1_undo yX1_undo, Cond.code yX1_undo cX1_undo 1 (some .int), Cond.methodLink RL 97 yX1_pass, Cond.instanceMethod yX1_pass, Cond.selects RX1 yX1_pass yX1_pass, Cond.code yX1_pass cX1_pass 3 (some .int), Cond.constant RX1 129 (99999), Cond.methodLink RX1 132 yX1_passHour, Cond.instanceMethod yX1_passHour, Cond.selects RX1 yX1_passHour yX1_passHour, Cond.code yX1_passHour cX1_passHour 2 none, Cond.methodLink RX1 228 yX1_runHour, Cond.instanceMethod yX1_runHour, Cond.selects RX1 yX1_runHour yX1_runHour, Cond.code yX1_runHour cX1_runHour 2 none, Cond.methodLink RX1 224 yX1_isLostHour, Cond.static yX1_isLostHour, Cond.code yX1_isLostHour cX1_isLostHour 2 (some .boolean)]
def wsL_act_r7 : List Cond := [Cond.methodLink RX1 135 yX1_movementsRunDown, Cond.instanceMethod yX1_movementsRunDown, Cond.selects RX1 yX1_movementsRunDown yX1_movementsRunDown, Cond.code yX1_movementsRunDown cX1_movementsRunDown 3 (some .int)]
def wsL_act : List Cond := .code yL_act cL_act 6 (some .int) :: ((wsL_act_r1 ++ (wsL_act_r2 ++ (wsL_act_r3 ++ (wsL_act_r4 ++ (wsL_act_r5 ++ (wsL_act_r6 ++ wsL_act_r7)))))) ++ wsX10 ++ (vx_atS RX1 44 "java/lang/IndexOutOfBoundsException" ["java/lang/RuntimeException", "java/lang/Exception"]).filter goodWord ++ (vx_atS RX1 51 "java/lang/IllegalArgumentException" ["java/lang/RuntimeException", "java/lang/Exception"]).filter goodWord ++ (vx_atS RX1 90 "java/lang/IllegalStateException" ["java/lang/RuntimeException", "java/lang/Exception"]).filter goodWord)
def wsL_law0_r1 : List Cond := [Cond.classLink RL 10 RX1, Cond.instantiable RX1 6, Cond.initialized RX1, Cond.methodLink RL 100 yX1_init, Cond.instanceMethod yX1_init, Cond.code yX1_init cX1_init 2 none, Cond.methodLink RX1 3 objectInit, Cond.instanceMethod objectInit, Cond.code objectInit ⟨#[0xb1]⟩ 1 none, Cond.arrayClass .int, Cond.fieldLink RX1 9 "VaultMovements" "now" "[I", Cond.fieldLink RX1 13 "VaultMovements" "saved" "[I", Cond.fieldLink RX1 16 "VaultMovements" "savedStates" "I", Cond.fieldLink RX1 20 "VaultMovements" "buffer" "[I", Cond.fieldLink RX1 23 "VaultMovements" "length" "I", Cond.classLink RX1 26 RX0, Cond.instantiable RX0 4, Cond.initialized RX0, Cond.fieldLink RX1 29 "VaultMovements" "windings" "LVaultMovements$Windings;", Cond.fieldLink RX1 33 "VaultMovements" "SETTING_AT_FIRST" "[I", Cond.instanceMethod yX0_init, Cond.code yX0_init cX0_init 1 none, Cond.methodLink RX0 3 objectInit, Cond.fieldLink RX0 9 "VaultMovements$Windings" "kinds" "[I"]
def wsL_law0_r2 : List Cond := [Cond.fieldLink RX0 15 "VaultMovements$Windings" "signs" "[I", Cond.fieldLink RX0 18 "VaultMovements$Windings" "numbers" "[I", Cond.fieldLink RX0 21 "VaultMovements$Windings" "part" "I", Cond.methodLink RL 34 yX1_count, Cond.instanceMethod yX1_count, Cond.selects RX1 yX1_count yX1_count, Cond.code yX1_count cX1_count 2 (some .int), Cond.classLink RX1 47 "java/lang/IllegalArgumentException", Cond.initialized "java/lang/IllegalArgumentException", Cond.methodLink RX1 176 yX1_number, Cond.instanceMethod yX1_number, Cond.selects RX1 yX1_number yX1_number, Cond.code yX1_number cX1_number 2 (some .int), Cond.methodLink RX1 214 yX1_today, Cond.instanceMethod yX1_today, Cond.selects RX1 yX1_today yX1_today, Cond.code yX1_today cX1_today 1 (some .int), Cond.methodLink RX1 217 yX1_timeOfDay, Cond.instanceMethod yX1_timeOfDay, Cond.selects RX1 yX1_timeOfDay yX1_timeOfDay, Cond.code yX1_timeOfDay cX1_timeOfDay 1 (some .int), Cond.methodLink RX1 106 yX1_hoursToOpening, Cond.instanceMethod yX1_hoursToOpening, Cond.selects RX1 yX1_hoursToOpening yX1_hoursToOpening]
def wsL_law0_r3 : List Cond := [Cond.code yX1_hoursToOpening cX1_hoursToOpening 4 (some .int), Cond.methodLink RX1 231 yX1_hoursToWait, Cond.instanceMethod yX1_hoursToWait, Cond.selects RX1 yX1_hoursToWait yX1_hoursToWait, Cond.code yX1_hoursToWait cX1_hoursToWait 1 (some .int), Cond.methodLink RX1 179 Lib.Math.max.name, Cond.static Lib.Math.max.name, Cond.initialized "java/lang/Math", Cond.code Lib.Math.max.name Lib.Math.max.code 2 (some .int), Cond.methodLink RL 62 yL_cell, Cond.static yL_cell, Cond.initialized RL, Cond.code yL_cell cL_cell 2 (some .int), Cond.constant RL 8 (40503), Cond.methodLink RL 68 yL_low, Cond.static yL_low, Cond.code yL_low cL_low 2 (some .int), Cond.constant RL 7 (2147483647), Cond.methodLink RL 49 yX1_opensIn, Cond.instanceMethod yX1_opensIn, Cond.selects RX1 yX1_opensIn yX1_opensIn, Cond.code yX1_opensIn cX1_opensIn 1 (some .int), Cond.methodLink RX1 112 yX1_hoursToOpen, Cond.instanceMethod yX1_hoursToOpen]
def wsL_law0_r4 : List Cond := [Cond.selects RX1 yX1_hoursToOpen yX1_hoursToOpen, Cond.code yX1_hoursToOpen cX1_hoursToOpen 5 (some .int), Cond.methodLink RX1 79 yX1_isLocked, Cond.instanceMethod yX1_isLocked, Cond.selects RX1 yX1_isLocked yX1_isLocked, Cond.code yX1_isLocked cX1_isLocked 1 (some .boolean), Cond.methodLink RX1 83 yX1_goes, Cond.instanceMethod yX1_goes, Cond.selects RX1 yX1_goes yX1_goes, Cond.code yX1_goes cX1_goes 2 (some .boolean), Cond.methodLink RX1 91 yX1_place, Cond.static yX1_place, Cond.code yX1_place cX1_place 2 (some .int), Cond.methodLink RX1 220 yX1_hoursToRunDown, Cond.instanceMethod yX1_hoursToRunDown, Cond.selects RX1 yX1_hoursToRunDown yX1_hoursToRunDown, Cond.code yX1_hoursToRunDown cX1_hoursToRunDown 6 (some .int), Cond.methodLink RL 101 yL_open, Cond.static yL_open, Cond.codeWith yL_open cL_open 2 (some .int) [(0, 4, 5, 15)], Cond.classLink RL 15 "java/lang/IllegalStateException", Cond.methodLink RL 17 yX1_open, Cond.instanceMethod yX1_open, Cond.selects RX1 yX1_open yX1_open]
def wsL_law0_r5 : List Cond := [Cond.code yX1_open cX1_open 1 (some .int), Cond.classLink RX1 86 "java/lang/IllegalStateException", Cond.initialized "java/lang/IllegalStateException", Cond.methodLink RX1 103 yX1_save, Cond.instanceMethod yX1_save, Cond.selects RX1 yX1_save yX1_save, Cond.code yX1_save cX1_save 1 none, Cond.methodLink RX1 163 arraycopyName, Cond.native arraycopyName, Cond.static arraycopyName, Cond.initialized "java/lang/System", Cond.methodLink RX1 116 yX1_countEarlyTry, Cond.instanceMethod yX1_countEarlyTry, Cond.selects RX1 yX1_countEarlyTry yX1_countEarlyTry, Cond.code yX1_countEarlyTry cX1_countEarlyTry 1 none, Cond.methodLink RX1 119 yX1_latenessAfter, Cond.instanceMethod yX1_latenessAfter, Cond.selects RX1 yX1_latenessAfter yX1_latenessAfter, Cond.code yX1_latenessAfter cX1_latenessAfter 2 (some .int), Cond.methodLink RX1 122 yX1_countOpening, Cond.instanceMethod yX1_countOpening, Cond.selects RX1 yX1_countOpening yX1_countOpening, Cond.code yX1_countOpening cX1_countOpening 2 none, Cond.methodLink RX1 126 yX1_leaveOpen]
def wsL_law0_r6 : List Cond := [Cond.instanceMethod yX1_leaveOpen, Cond.selects RX1 yX1_leaveOpen yX1_leaveOpen, Cond.code yX1_leaveOpen cX1_leaveOpen 1 none, Cond.methodLink RL 43 yX1_setting, Cond.instanceMethod yX1_setting, Cond.selects RX1 yX1_setting yX1_setting, Cond.code yX1_setting cX1_setting 2 (some .int), Cond.classLink RX1 40 "java/lang/IndexOutOfBoundsException", Cond.initialized "java/lang/IndexOutOfBoundsException", Cond.methodLink RX1 56 yX1_isSetting, Cond.static yX1_isSetting, Cond.code yX1_isSetting cX1_isSetting 1 (some .boolean), Cond.methodLink RL 103 yL_act, Cond.static yL_act, Cond.code yL_act cL_act 6 (some .int), Cond.methodLink RL 71 yL_wind, Cond.static yL_wind, Cond.codeWith yL_wind cL_wind 4 (some .int) [(0, 6, 7, 15)], Cond.methodLink RL 20 yX1_wind, Cond.instanceMethod yX1_wind, Cond.selects RX1 yX1_wind yX1_wind, Cond.code yX1_wind cX1_wind 3 (some .int), Cond.methodLink RX1 69 yX1_isMovement, Cond.static yX1_isMovement]
def wsL_law0_r7 : List Cond := [Cond.code yX1_isMovement cX1_isMovement 1 (some .boolean), Cond.methodLink RX1 74 yX1_areWindingHours, Cond.static yX1_areWindingHours, Cond.code yX1_areWindingHours cX1_areWindingHours 1 (some .boolean), Cond.methodLink RX1 52 yX1_change, Cond.instanceMethod yX1_change, Cond.selects RX1 yX1_change yX1_change, Cond.code yX1_change cX1_change 4 (some .int), Cond.methodLink RL 74 yL_lock, Cond.static yL_lock, Cond.codeWith yL_lock cL_lock 2 (some .int) [(0, 4, 5, 15)], Cond.methodLink RL 9 yX1_lock, Cond.instanceMethod yX1_lock, Cond.selects RX1 yX1_lock yX1_lock, Cond.code yX1_lock cX1_lock 2 (some .int), Cond.methodLink RX1 98 yX1_someMovementRuns, Cond.instanceMethod yX1_someMovementRuns, Cond.selects RX1 yX1_someMovementRuns yX1_someMovementRuns, Cond.code yX1_someMovementRuns cX1_someMovementRuns 2 (some .boolean), Cond.methodLink RL 77 yX1_fault, Cond.instanceMethod yX1_fault, Cond.selects RX1 yX1_fault yX1_fault, Cond.code yX1_fault cX1_fault 3 (some .int), Cond.methodLink RL 81 yX1_loss]
def wsL_law0_r8 : List Cond := [Cond.instanceMethod yX1_loss, Cond.selects RX1 yX1_loss yX1_loss, Cond.code yX1_loss cX1_loss 3 (some .int), Cond.methodLink RL 84 yL_service, Cond.static yL_service, Cond.codeWith yL_service cL_service 3 (some .int) [(0, 5, 6, 15)], Cond.methodLink RL 24 yX1_service, Cond.instanceMethod yX1_service, Cond.selects RX1 yX1_service yX1_service, Cond.code yX1_service cX1_service 3 (some .int), Cond.methodLink RL 87 yX1_opening, Cond.instanceMethod yX1_opening, Cond.selects RX1 yX1_opening yX1_opening, Cond.code yX1_opening cX1_opening 3 (some .int), Cond.methodLink RX1 36 yX1_isDay, Cond.static yX1_isDay, Cond.code yX1_isDay cX1_isDay 1 (some .boolean), Cond.methodLink RL 90 yX1_set, Cond.instanceMethod yX1_set, Cond.selects RX1 yX1_set yX1_set, Cond.code yX1_set cX1_set 3 (some .int), Cond.fieldLink RX1 61 "VaultMovements" "SETTING_LEAST" "[I", Cond.fieldLink RX1 64 "VaultMovements" "SETTING_MOST" "[I", Cond.methodLink RL 93 yL_drill]
def wsL_law0_r9 : List Cond := [Cond.static yL_drill, Cond.codeWith yL_drill cL_drill 2 (some .int) [(0, 4, 5, 15)], Cond.methodLink RL 31 yX1_drill, Cond.instanceMethod yX1_drill, Cond.selects RX1 yX1_drill yX1_drill, Cond.code yX1_drill cX1_drill 2 (some .int), Cond.methodLink RL 95 yL_undo, Cond.static yL_undo, Cond.codeWith yL_undo cL_undo 2 (some .int) [(0, 4, 5, 15)], Cond.methodLink RL 28 yX1_undo, Cond.instanceMethod yX1_undo, Cond.selects RX1 yX1_undo yX1_undo, Cond.code yX1_undo cX1_undo 1 (some .int), Cond.methodLink RL 97 yX1_pass, Cond.instanceMethod yX1_pass, Cond.selects RX1 yX1_pass yX1_pass, Cond.code yX1_pass cX1_pass 3 (some .int), Cond.constant RX1 129 (99999), Cond.methodLink RX1 132 yX1_passHour, Cond.instanceMethod yX1_passHour, Cond.selects RX1 yX1_passHour yX1_passHour, Cond.code yX1_passHour cX1_passHour 2 none, Cond.methodLink RX1 228 yX1_runHour, Cond.instanceMethod yX1_runHour]
def wsL_law0_r10 : List Cond := [Cond.selects RX1 yX1_runHour yX1_runHour, Cond.code yX1_runHour cX1_runHour 2 none, Cond.methodLink RX1 224 yX1_isLostHour, Cond.static yX1_isLostHour, Cond.code yX1_isLostHour cX1_isLostHour 2 (some .boolean), Cond.methodLink RX1 135 yX1_movementsRunDown, Cond.instanceMethod yX1_movementsRunDown, Cond.selects RX1 yX1_movementsRunDown yX1_movementsRunDown, Cond.code yX1_movementsRunDown cX1_movementsRunDown 3 (some .int), Cond.methodLink RL 107 yL_clock, Cond.static yL_clock, Cond.code yL_clock cL_clock 7 (some .boolean), Cond.methodLink RL 37 yX1_day, Cond.instanceMethod yX1_day, Cond.selects RX1 yX1_day yX1_day, Cond.code yX1_day cX1_day 2 (some .int), Cond.methodLink RL 40 yX1_movement, Cond.instanceMethod yX1_movement, Cond.selects RX1 yX1_movement yX1_movement, Cond.code yX1_movement cX1_movement 3 (some .int), Cond.methodLink RX1 171 yX1_property, Cond.instanceMethod yX1_property, Cond.selects RX1 yX1_property yX1_property, Cond.code yX1_property cX1_property 3 (some .int)]
def wsL_law0_r11 : List Cond := [Cond.methodLink RL 46 yX1_rightWinding, Cond.instanceMethod yX1_rightWinding, Cond.selects RX1 yX1_rightWinding yX1_rightWinding, Cond.code yX1_rightWinding cX1_rightWinding 2 (some .int), Cond.methodLink RX1 184 yX1_hoursToWind, Cond.instanceMethod yX1_hoursToWind, Cond.selects RX1 yX1_hoursToWind yX1_hoursToWind, Cond.code yX1_hoursToWind cX1_hoursToWind 6 (some .int), Cond.methodLink RL 52 yX1_lateness, Cond.instanceMethod yX1_lateness, Cond.selects RX1 yX1_lateness yX1_lateness, Cond.code yX1_lateness cX1_lateness 2 (some .int), Cond.methodLink RL 55 yX1_keyMovement, Cond.instanceMethod yX1_keyMovement, Cond.selects RX1 yX1_keyMovement yX1_keyMovement, Cond.code yX1_keyMovement cX1_keyMovement 3 (some .int), Cond.methodLink RL 58 yX1_punctuality, Cond.instanceMethod yX1_punctuality, Cond.selects RX1 yX1_punctuality yX1_punctuality, Cond.code yX1_punctuality cX1_punctuality 2 (some .double)]
def wsL_law0 : List Cond := (wsL_law0_r1 ++ (wsL_law0_r2 ++ (wsL_law0_r3 ++ (wsL_law0_r4 ++ (wsL_law0_r5 ++ (wsL_law0_r6 ++ (wsL_law0_r7 ++ (wsL_law0_r8 ++ (wsL_law0_r9 ++ (wsL_law0_r10 ++ wsL_law0_r11)))))))))) ++ wsX10 ++ wsX00 ++ ([] : List Cond)
def wsL_law : List Cond := wsL_law0 ++ (vx_atS RX1 51 "java/lang/IllegalArgumentException" ["java/lang/RuntimeException", "java/lang/Exception"]).filter goodWord ++ (vx_atS RX1 90 "java/lang/IllegalStateException" ["java/lang/RuntimeException", "java/lang/Exception"]).filter goodWord ++ (vx_atS RX1 44 "java/lang/IndexOutOfBoundsException" ["java/lang/RuntimeException", "java/lang/Exception"]).filter goodWord
abbrev vwCl : List vw_C := [(RX0, TX0, 4), (RX1, TX1, 6)]
end
section
theorem dX0_init_0 : decode cX0_init 0 = .ok (.aload_n 0, 1) := by decide +kernel
theorem dX0_init_1 : decode cX0_init 1 = .ok (.invokespecial 3, 3) := by decide +kernel
theorem dX0_init_4 : decode cX0_init 4 = .ok (.aload_n 0, 1) := by decide +kernel
theorem dX0_init_5 : decode cX0_init 5 = .ok (.iconst 3, 1) := by decide +kernel
theorem dX0_init_6 : decode cX0_init 6 = .ok (.newarray .int, 2) := by decide +kernel
theorem dX0_init_8 : decode cX0_init 8 = .ok (.putfield 9, 3) := by decide +kernel
theorem dX0_init_11 : decode cX0_init 11 = .ok (.aload_n 0, 1) := by decide +kernel
theorem dX0_init_12 : decode cX0_init 12 = .ok (.iconst 3, 1) := by decide +kernel
theorem dX0_init_13 : decode cX0_init 13 = .ok (.newarray .int, 2) := by decide +kernel
theorem dX0_init_15 : decode cX0_init 15 = .ok (.putfield 15, 3) := by decide +kernel
theorem dX0_init_18 : decode cX0_init 18 = .ok (.aload_n 0, 1) := by decide +kernel
theorem dX0_init_19 : decode cX0_init 19 = .ok (.iconst 3, 1) := by decide +kernel
theorem dX0_init_20 : decode cX0_init 20 = .ok (.newarray .int, 2) := by decide +kernel
theorem dX0_init_22 : decode cX0_init 22 = .ok (.putfield 18, 3) := by decide +kernel
theorem dX0_init_25 : decode cX0_init 25 = .ok (.aload_n 0, 1) := by decide +kernel
theorem dX0_init_26 : decode cX0_init 26 = .ok (.iconst 0, 1) := by decide +kernel
theorem dX0_init_27 : decode cX0_init 27 = .ok (.putfield 21, 3) := by decide +kernel
theorem dX0_init_30 : decode cX0_init 30 = .ok (.return_, 1) := by decide +kernel
set_option maxRecDepth 20000 in
theorem ggX1_init_X0_init : GoodIn wsX1_init wsX0_init := goodIn_r _ [16, 17, 2, 3, 4, 18, 19, 20, 21, 28, 29, 30, 31] (by decide +kernel) (by decide +kernel)
set_option maxRecDepth 20000 in
theorem gX1_init_X0_init_n28 : GoodIn wsX1_init (wsX0_init) := ggX1_init_X0_init
theorem dX1_init_0 : decode cX1_init 0 = .ok (.aload_n 0, 1) := by decide +kernel
theorem dX1_init_1 : decode cX1_init 1 = .ok (.invokespecial 3, 3) := by decide +kernel
theorem dX1_init_4 : decode cX1_init 4 = .ok (.aload_n 0, 1) := by decide +kernel
theorem dX1_init_5 : decode cX1_init 5 = .ok (.bipush 33, 2) := by decide +kernel
theorem dX1_init_7 : decode cX1_init 7 = .ok (.newarray .int, 2) := by decide +kernel
theorem dX1_init_9 : decode cX1_init 9 = .ok (.putfield 9, 3) := by decide +kernel
theorem dX1_init_12 : decode cX1_init 12 = .ok (.aload_n 0, 1) := by decide +kernel
theorem dX1_init_13 : decode cX1_init 13 = .ok (.sipush 198, 3) := by decide +kernel
theorem dX1_init_16 : decode cX1_init 16 = .ok (.newarray .int, 2) := by decide +kernel
theorem dX1_init_18 : decode cX1_init 18 = .ok (.putfield 13, 3) := by decide +kernel
theorem dX1_init_21 : decode cX1_init 21 = .ok (.aload_n 0, 1) := by decide +kernel
theorem dX1_init_22 : decode cX1_init 22 = .ok (.iconst 0, 1) := by decide +kernel
theorem dX1_init_23 : decode cX1_init 23 = .ok (.putfield 16, 3) := by decide +kernel
theorem dX1_init_26 : decode cX1_init 26 = .ok (.aload_n 0, 1) := by decide +kernel
theorem dX1_init_27 : decode cX1_init 27 = .ok (.bipush 60, 2) := by decide +kernel
theorem dX1_init_29 : decode cX1_init 29 = .ok (.newarray .int, 2) := by decide +kernel
theorem dX1_init_31 : decode cX1_init 31 = .ok (.putfield 20, 3) := by decide +kernel
theorem dX1_init_34 : decode cX1_init 34 = .ok (.aload_n 0, 1) := by decide +kernel
theorem dX1_init_35 : decode cX1_init 35 = .ok (.iconst 0, 1) := by decide +kernel
theorem dX1_init_36 : decode cX1_init 36 = .ok (.putfield 23, 3) := by decide +kernel
theorem dX1_init_39 : decode cX1_init 39 = .ok (.aload_n 0, 1) := by decide +kernel
theorem dX1_init_40 : decode cX1_init 40 = .ok (.new 26, 3) := by decide +kernel
theorem dX1_init_43 : decode cX1_init 43 = .ok (.dup, 1) := by decide +kernel
theorem dX1_init_44 : decode cX1_init 44 = .ok (.invokespecial 28, 3) := by decide +kernel
theorem dX1_init_47 : decode cX1_init 47 = .ok (.putfield 29, 3) := by decide +kernel
theorem dX1_init_50 : decode cX1_init 50 = .ok (.aload_n 0, 1) := by decide +kernel
theorem dX1_init_51 : decode cX1_init 51 = .ok (.getfield 9, 3) := by decide +kernel
theorem dX1_init_54 : decode cX1_init 54 = .ok (.iconst 2, 1) := by decide +kernel
theorem dX1_init_55 : decode cX1_init 55 = .ok (.iconst (-1), 1) := by decide +kernel
theorem dX1_init_56 : decode cX1_init 56 = .ok (.iastore, 1) := by decide +kernel
theorem dX1_init_57 : decode cX1_init 57 = .ok (.iconst 0, 1) := by decide +kernel
theorem dX1_init_58 : decode cX1_init 58 = .ok (.istore_n 1, 1) := by decide +kernel
theorem dX1_init_59 : decode cX1_init 59 = .ok (.iload_n 1, 1) := by decide +kernel
theorem dX1_init_60 : decode cX1_init 60 = .ok (.iconst 3, 1) := by decide +kernel
theorem dX1_init_61 : decode cX1_init 61 = .ok (.if_icmp .ge 23, 3) := by decide +kernel
theorem dX1_init_64 : decode cX1_init 64 = .ok (.aload_n 0, 1) := by decide +kernel
theorem dX1_init_65 : decode cX1_init 65 = .ok (.getfield 9, 3) := by decide +kernel
theorem dX1_init_68 : decode cX1_init 68 = .ok (.bipush 11, 2) := by decide +kernel
theorem dX1_init_70 : decode cX1_init 70 = .ok (.iload_n 1, 1) := by decide +kernel
theorem dX1_init_71 : decode cX1_init 71 = .ok (.iadd, 1) := by decide +kernel
theorem dX1_init_72 : decode cX1_init 72 = .ok (.getstatic 33, 3) := by decide +kernel
theorem dX1_init_75 : decode cX1_init 75 = .ok (.iload_n 1, 1) := by decide +kernel
theorem dX1_init_76 : decode cX1_init 76 = .ok (.iaload, 1) := by decide +kernel
theorem dX1_init_77 : decode cX1_init 77 = .ok (.iastore, 1) := by decide +kernel
theorem dX1_init_78 : decode cX1_init 78 = .ok (.iinc 1 1, 3) := by decide +kernel
theorem dX1_init_81 : decode cX1_init 81 = .ok (.goto (-22), 3) := by decide +kernel
theorem dX1_init_84 : decode cX1_init 84 = .ok (.iconst 0, 1) := by decide +kernel
theorem dX1_init_85 : decode cX1_init 85 = .ok (.istore_n 1, 1) := by decide +kernel
theorem dX1_init_86 : decode cX1_init 86 = .ok (.iload_n 1, 1) := by decide +kernel
theorem dX1_init_87 : decode cX1_init 87 = .ok (.bipush 7, 2) := by decide +kernel
theorem dX1_init_89 : decode cX1_init 89 = .ok (.if_icmp .ge 29, 3) := by decide +kernel
theorem dX1_init_92 : decode cX1_init 92 = .ok (.aload_n 0, 1) := by decide +kernel
theorem dX1_init_93 : decode cX1_init 93 = .ok (.getfield 9, 3) := by decide +kernel
theorem dX1_init_96 : decode cX1_init 96 = .ok (.bipush 14, 2) := by decide +kernel
theorem dX1_init_98 : decode cX1_init 98 = .ok (.iload_n 1, 1) := by decide +kernel
theorem dX1_init_99 : decode cX1_init 99 = .ok (.iadd, 1) := by decide +kernel
theorem dX1_init_100 : decode cX1_init 100 = .ok (.iload_n 1, 1) := by decide +kernel
theorem dX1_init_101 : decode cX1_init 101 = .ok (.iconst 5, 1) := by decide +kernel
theorem dX1_init_102 : decode cX1_init 102 = .ok (.if_icmp .ge 8, 3) := by decide +kernel
theorem dX1_init_105 : decode cX1_init 105 = .ok (.bipush 8, 2) := by decide +kernel
theorem dX1_init_107 : decode cX1_init 107 = .ok (.goto 4, 3) := by decide +kernel
theorem dX1_init_110 : decode cX1_init 110 = .ok (.iconst (-1), 1) := by decide +kernel
theorem dX1_init_111 : decode cX1_init 111 = .ok (.iastore, 1) := by decide +kernel
theorem dX1_init_112 : decode cX1_init 112 = .ok (.iinc 1 1, 3) := by decide +kernel
theorem dX1_init_115 : decode cX1_init 115 = .ok (.goto (-29), 3) := by decide +kernel
theorem dX1_init_118 : decode cX1_init 118 = .ok (.iconst 0, 1) := by decide +kernel
theorem dX1_init_119 : decode cX1_init 119 = .ok (.istore_n 1, 1) := by decide +kernel
theorem dX1_init_120 : decode cX1_init 120 = .ok (.iload_n 1, 1) := by decide +kernel
theorem dX1_init_121 : decode cX1_init 121 = .ok (.iconst 3, 1) := by decide +kernel
theorem dX1_init_122 : decode cX1_init 122 = .ok (.if_icmp .ge 23, 3) := by decide +kernel
theorem dX1_init_125 : decode cX1_init 125 = .ok (.aload_n 0, 1) := by decide +kernel
theorem dX1_init_126 : decode cX1_init 126 = .ok (.getfield 9, 3) := by decide +kernel
theorem dX1_init_129 : decode cX1_init 129 = .ok (.bipush 21, 2) := by decide +kernel
theorem dX1_init_131 : decode cX1_init 131 = .ok (.iload_n 1, 1) := by decide +kernel
theorem dX1_init_132 : decode cX1_init 132 = .ok (.iconst 4, 1) := by decide +kernel
theorem dX1_init_133 : decode cX1_init 133 = .ok (.imul, 1) := by decide +kernel
theorem dX1_init_134 : decode cX1_init 134 = .ok (.iadd, 1) := by decide +kernel
theorem dX1_init_135 : decode cX1_init 135 = .ok (.iconst 1, 1) := by decide +kernel
theorem dX1_init_136 : decode cX1_init 136 = .ok (.iadd, 1) := by decide +kernel
theorem dX1_init_137 : decode cX1_init 137 = .ok (.iconst 1, 1) := by decide +kernel
theorem dX1_init_138 : decode cX1_init 138 = .ok (.iastore, 1) := by decide +kernel
theorem dX1_init_139 : decode cX1_init 139 = .ok (.iinc 1 1, 3) := by decide +kernel
theorem dX1_init_142 : decode cX1_init 142 = .ok (.goto (-22), 3) := by decide +kernel
theorem dX1_init_145 : decode cX1_init 145 = .ok (.return_, 1) := by decide +kernel
set_option maxRecDepth 20000 in
theorem ggX1_opening_X1_isDay : GoodIn wsX1_opening wsX1_isDay := goodIn_r _ [8] (by decide +kernel) (by decide +kernel)
set_option maxRecDepth 20000 in
theorem gX1_opening_X1_isDay : GoodIn wsX1_opening (va_wsS RX1 36 yX1_isDay wsX1_isDay) := goodIn_app (goodIn_of _ (by decide +kernel)) ggX1_opening_X1_isDay
set_option maxRecDepth 20000 in
theorem ggX1_opening_X1_change : GoodIn wsX1_opening wsX1_change := goodIn_r _ [12, 13, 14, 15, 16, 7, 17, 18, 19, 20, 21, 22, 23, 24, 25, 26, 27, 28, 29] (by decide +kernel) (by decide +kernel)
set_option maxRecDepth 20000 in
theorem gX1_opening_X1_change : GoodIn wsX1_opening (wsV RX1 52 RX1 yX1_change wsX1_change) := goodIn_app (goodIn_of _ (by decide +kernel)) ggX1_opening_X1_change
theorem dX1_opening_0 : decode cX1_opening 0 = .ok (.iload_n 1, 1) := by decide +kernel
theorem dX1_opening_1 : decode cX1_opening 1 = .ok (.invokestatic 36, 3) := by decide +kernel
theorem dX1_opening_4 : decode cX1_opening 4 = .ok (.ifCond .ne 13, 3) := by decide +kernel
theorem dX1_opening_7 : decode cX1_opening 7 = .ok (.new 40, 3) := by decide +kernel
theorem dX1_opening_10 : decode cX1_opening 10 = .ok (.dup, 1) := by decide +kernel
theorem dX1_opening_11 : decode cX1_opening 11 = .ok (.ldc 42, 2) := by decide +kernel
theorem dX1_opening_13 : decode cX1_opening 13 = .ok (.invokespecial 44, 3) := by decide +kernel
theorem dX1_opening_16 : decode cX1_opening 16 = .ok (.athrow, 1) := by decide +kernel
theorem dX1_opening_17 : decode cX1_opening 17 = .ok (.iload_n 2, 1) := by decide +kernel
theorem dX1_opening_18 : decode cX1_opening 18 = .ok (.iconst (-1), 1) := by decide +kernel
theorem dX1_opening_19 : decode cX1_opening 19 = .ok (.if_icmp .eq 23, 3) := by decide +kernel
theorem dX1_opening_22 : decode cX1_opening 22 = .ok (.iload_n 2, 1) := by decide +kernel
theorem dX1_opening_23 : decode cX1_opening 23 = .ok (.ifCond .lt 9, 3) := by decide +kernel
theorem dX1_opening_26 : decode cX1_opening 26 = .ok (.iload_n 2, 1) := by decide +kernel
theorem dX1_opening_27 : decode cX1_opening 27 = .ok (.bipush 24, 2) := by decide +kernel
theorem dX1_opening_29 : decode cX1_opening 29 = .ok (.if_icmp .lt 13, 3) := by decide +kernel
theorem dX1_opening_32 : decode cX1_opening 32 = .ok (.new 47, 3) := by decide +kernel
theorem dX1_opening_35 : decode cX1_opening 35 = .ok (.dup, 1) := by decide +kernel
theorem dX1_opening_36 : decode cX1_opening 36 = .ok (.ldc 49, 2) := by decide +kernel
theorem dX1_opening_38 : decode cX1_opening 38 = .ok (.invokespecial 51, 3) := by decide +kernel
theorem dX1_opening_41 : decode cX1_opening 41 = .ok (.athrow, 1) := by decide +kernel
theorem dX1_opening_42 : decode cX1_opening 42 = .ok (.aload_n 0, 1) := by decide +kernel
theorem dX1_opening_43 : decode cX1_opening 43 = .ok (.bipush 14, 2) := by decide +kernel
theorem dX1_opening_45 : decode cX1_opening 45 = .ok (.iload_n 1, 1) := by decide +kernel
theorem dX1_opening_46 : decode cX1_opening 46 = .ok (.iadd, 1) := by decide +kernel
theorem dX1_opening_47 : decode cX1_opening 47 = .ok (.iload_n 2, 1) := by decide +kernel
theorem dX1_opening_48 : decode cX1_opening 48 = .ok (.invokevirtual 52, 3) := by decide +kernel
theorem dX1_opening_51 : decode cX1_opening 51 = .ok (.ireturn, 1) := by decide +kernel
set_option maxRecDepth 20000 in
theorem ggX1_set_X1_isSetting : GoodIn wsX1_set wsX1_isSetting := goodIn_r _ [10] (by decide +kernel) (by decide +kernel)
set_option maxRecDepth 20000 in
theorem gX1_set_X1_isSetting : GoodIn wsX1_set (va_wsS RX1 56 yX1_isSetting wsX1_isSetting) := goodIn_app (goodIn_of _ (by decide +kernel)) ggX1_set_X1_isSetting
set_option maxRecDepth 20000 in
theorem ggX1_set_X1_change : GoodIn wsX1_set wsX1_change := goodIn_r _ [14, 15, 16, 17, 18, 9, 19, 20, 21, 22, 23, 24, 25, 26, 27, 28, 29, 30, 31] (by decide +kernel) (by decide +kernel)
set_option maxRecDepth 20000 in
theorem gX1_set_X1_change : GoodIn wsX1_set (wsV RX1 52 RX1 yX1_change wsX1_change) := goodIn_app (goodIn_of _ (by decide +kernel)) ggX1_set_X1_change
theorem dX1_set_0 : decode cX1_set 0 = .ok (.iload_n 1, 1) := by decide +kernel
theorem dX1_set_1 : decode cX1_set 1 = .ok (.invokestatic 56, 3) := by decide +kernel
theorem dX1_set_4 : decode cX1_set 4 = .ok (.ifCond .ne 13, 3) := by decide +kernel
theorem dX1_set_7 : decode cX1_set 7 = .ok (.new 40, 3) := by decide +kernel
theorem dX1_set_10 : decode cX1_set 10 = .ok (.dup, 1) := by decide +kernel
theorem dX1_set_11 : decode cX1_set 11 = .ok (.ldc 59, 2) := by decide +kernel
theorem dX1_set_13 : decode cX1_set 13 = .ok (.invokespecial 44, 3) := by decide +kernel
theorem dX1_set_16 : decode cX1_set 16 = .ok (.athrow, 1) := by decide +kernel
theorem dX1_set_17 : decode cX1_set 17 = .ok (.iload_n 2, 1) := by decide +kernel
theorem dX1_set_18 : decode cX1_set 18 = .ok (.getstatic 61, 3) := by decide +kernel
theorem dX1_set_21 : decode cX1_set 21 = .ok (.iload_n 1, 1) := by decide +kernel
theorem dX1_set_22 : decode cX1_set 22 = .ok (.iaload, 1) := by decide +kernel
theorem dX1_set_23 : decode cX1_set 23 = .ok (.if_icmp .lt 12, 3) := by decide +kernel
theorem dX1_set_26 : decode cX1_set 26 = .ok (.iload_n 2, 1) := by decide +kernel
theorem dX1_set_27 : decode cX1_set 27 = .ok (.getstatic 64, 3) := by decide +kernel
theorem dX1_set_30 : decode cX1_set 30 = .ok (.iload_n 1, 1) := by decide +kernel
theorem dX1_set_31 : decode cX1_set 31 = .ok (.iaload, 1) := by decide +kernel
theorem dX1_set_32 : decode cX1_set 32 = .ok (.if_icmp .le 13, 3) := by decide +kernel
theorem dX1_set_35 : decode cX1_set 35 = .ok (.new 47, 3) := by decide +kernel
theorem dX1_set_38 : decode cX1_set 38 = .ok (.dup, 1) := by decide +kernel
theorem dX1_set_39 : decode cX1_set 39 = .ok (.ldc 67, 2) := by decide +kernel
theorem dX1_set_41 : decode cX1_set 41 = .ok (.invokespecial 51, 3) := by decide +kernel
theorem dX1_set_44 : decode cX1_set 44 = .ok (.athrow, 1) := by decide +kernel
theorem dX1_set_45 : decode cX1_set 45 = .ok (.aload_n 0, 1) := by decide +kernel
theorem dX1_set_46 : decode cX1_set 46 = .ok (.bipush 11, 2) := by decide +kernel
theorem dX1_set_48 : decode cX1_set 48 = .ok (.iload_n 1, 1) := by decide +kernel
theorem dX1_set_49 : decode cX1_set 49 = .ok (.iadd, 1) := by decide +kernel
theorem dX1_set_50 : decode cX1_set 50 = .ok (.iload_n 2, 1) := by decide +kernel
theorem dX1_set_51 : decode cX1_set 51 = .ok (.invokevirtual 52, 3) := by decide +kernel
theorem dX1_set_54 : decode cX1_set 54 = .ok (.ireturn, 1) := by decide +kernel
set_option maxRecDepth 20000 in
theorem ggX1_wind_X1_isMovement : GoodIn wsX1_wind wsX1_isMovement := goodIn_r _ [10] (by decide +kernel) (by decide +kernel)
set_option maxRecDepth 20000 in
theorem gX1_wind_X1_isMovement : GoodIn wsX1_wind (va_wsS RX1 69 yX1_isMovement wsX1_isMovement) := goodIn_app (goodIn_of _ (by decide +kernel)) ggX1_wind_X1_isMovement
set_option maxRecDepth 20000 in
theorem ggX1_wind_X1_areWindingHours : GoodIn wsX1_wind wsX1_areWindingHours := goodIn_r _ [13] (by decide +kernel) (by decide +kernel)
set_option maxRecDepth 20000 in
theorem gX1_wind_X1_areWindingHours : GoodIn wsX1_wind (va_wsS RX1 74 yX1_areWindingHours wsX1_areWindingHours) := goodIn_app (goodIn_of _ (by decide +kernel)) ggX1_wind_X1_areWindingHours
set_option maxRecDepth 20000 in
theorem ggX1_wind_X1_isLocked : GoodIn wsX1_wind wsX1_isLocked := goodIn_r _ [17, 18, 40, 41, 42, 43, 44, 45] (by decide +kernel) (by decide +kernel)
set_option maxRecDepth 20000 in
theorem gX1_wind_X1_isLocked : GoodIn wsX1_wind (wsV RX1 79 RX1 yX1_isLocked wsX1_isLocked) := goodIn_app (goodIn_of _ (by decide +kernel)) ggX1_wind_X1_isLocked
set_option maxRecDepth 20000 in
theorem ggX1_wind_X1_goes : GoodIn wsX1_wind wsX1_goes := goodIn_r _ [22, 18, 23, 24, 9, 25, 40, 41, 42, 43, 44, 45] (by decide +kernel) (by decide +kernel)
set_option maxRecDepth 20000 in
theorem gX1_wind_X1_goes : GoodIn wsX1_wind (wsV RX1 83 RX1 yX1_goes wsX1_goes) := goodIn_app (goodIn_of _ (by decide +kernel)) ggX1_wind_X1_goes
set_option maxRecDepth 20000 in
theorem ggX1_wind_X1_place : GoodIn wsX1_wind wsX1_place := goodIn_r _ [25] (by decide +kernel) (by decide +kernel)
set_option maxRecDepth 20000 in
theorem gX1_wind_X1_place : GoodIn wsX1_wind (va_wsS RX1 91 yX1_place wsX1_place) := goodIn_app (goodIn_of _ (by decide +kernel)) ggX1_wind_X1_place
set_option maxRecDepth 20000 in
theorem ggX1_wind_X1_change : GoodIn wsX1_wind wsX1_change := goodIn_r _ [29, 18, 30, 31, 32, 9, 33, 34, 35, 36, 37, 38, 39, 40, 41, 42, 43, 44, 45] (by decide +kernel) (by decide +kernel)
set_option maxRecDepth 20000 in
theorem gX1_wind_X1_change : GoodIn wsX1_wind (wsV RX1 52 RX1 yX1_change wsX1_change) := goodIn_app (goodIn_of _ (by decide +kernel)) ggX1_wind_X1_change
theorem dX1_wind_0 : decode cX1_wind 0 = .ok (.iload_n 1, 1) := by decide +kernel
theorem dX1_wind_1 : decode cX1_wind 1 = .ok (.invokestatic 69, 3) := by decide +kernel
theorem dX1_wind_4 : decode cX1_wind 4 = .ok (.ifCond .ne 13, 3) := by decide +kernel
theorem dX1_wind_7 : decode cX1_wind 7 = .ok (.new 40, 3) := by decide +kernel
theorem dX1_wind_10 : decode cX1_wind 10 = .ok (.dup, 1) := by decide +kernel
theorem dX1_wind_11 : decode cX1_wind 11 = .ok (.ldc 72, 2) := by decide +kernel
theorem dX1_wind_13 : decode cX1_wind 13 = .ok (.invokespecial 44, 3) := by decide +kernel
theorem dX1_wind_16 : decode cX1_wind 16 = .ok (.athrow, 1) := by decide +kernel
theorem dX1_wind_17 : decode cX1_wind 17 = .ok (.iload_n 2, 1) := by decide +kernel
theorem dX1_wind_18 : decode cX1_wind 18 = .ok (.invokestatic 74, 3) := by decide +kernel
theorem dX1_wind_21 : decode cX1_wind 21 = .ok (.ifCond .ne 13, 3) := by decide +kernel
theorem dX1_wind_24 : decode cX1_wind 24 = .ok (.new 47, 3) := by decide +kernel
theorem dX1_wind_27 : decode cX1_wind 27 = .ok (.dup, 1) := by decide +kernel
theorem dX1_wind_28 : decode cX1_wind 28 = .ok (.ldc 77, 2) := by decide +kernel
theorem dX1_wind_30 : decode cX1_wind 30 = .ok (.invokespecial 51, 3) := by decide +kernel
theorem dX1_wind_33 : decode cX1_wind 33 = .ok (.athrow, 1) := by decide +kernel
theorem dX1_wind_34 : decode cX1_wind 34 = .ok (.aload_n 0, 1) := by decide +kernel
theorem dX1_wind_35 : decode cX1_wind 35 = .ok (.invokevirtual 79, 3) := by decide +kernel
theorem dX1_wind_38 : decode cX1_wind 38 = .ok (.ifCond .ne 11, 3) := by decide +kernel
theorem dX1_wind_41 : decode cX1_wind 41 = .ok (.aload_n 0, 1) := by decide +kernel
theorem dX1_wind_42 : decode cX1_wind 42 = .ok (.iload_n 1, 1) := by decide +kernel
theorem dX1_wind_43 : decode cX1_wind 43 = .ok (.invokevirtual 83, 3) := by decide +kernel
theorem dX1_wind_46 : decode cX1_wind 46 = .ok (.ifCond .ne 13, 3) := by decide +kernel
theorem dX1_wind_49 : decode cX1_wind 49 = .ok (.new 86, 3) := by decide +kernel
theorem dX1_wind_52 : decode cX1_wind 52 = .ok (.dup, 1) := by decide +kernel
theorem dX1_wind_53 : decode cX1_wind 53 = .ok (.ldc 88, 2) := by decide +kernel
theorem dX1_wind_55 : decode cX1_wind 55 = .ok (.invokespecial 90, 3) := by decide +kernel
theorem dX1_wind_58 : decode cX1_wind 58 = .ok (.athrow, 1) := by decide +kernel
theorem dX1_wind_59 : decode cX1_wind 59 = .ok (.aload_n 0, 1) := by decide +kernel
theorem dX1_wind_60 : decode cX1_wind 60 = .ok (.iload_n 1, 1) := by decide +kernel
theorem dX1_wind_61 : decode cX1_wind 61 = .ok (.iconst 0, 1) := by decide +kernel
theorem dX1_wind_62 : decode cX1_wind 62 = .ok (.invokestatic 91, 3) := by decide +kernel
theorem dX1_wind_65 : decode cX1_wind 65 = .ok (.iload_n 2, 1) := by decide +kernel
theorem dX1_wind_66 : decode cX1_wind 66 = .ok (.invokevirtual 52, 3) := by decide +kernel
theorem dX1_wind_69 : decode cX1_wind 69 = .ok (.ireturn, 1) := by decide +kernel
set_option maxRecDepth 20000 in
theorem ggX1_fault_X1_isMovement : GoodIn wsX1_fault wsX1_isMovement := goodIn_r _ [6] (by decide +kernel) (by decide +kernel)
set_option maxRecDepth 20000 in
theorem gX1_fault_X1_isMovement : GoodIn wsX1_fault (va_wsS RX1 69 yX1_isMovement wsX1_isMovement) := goodIn_app (goodIn_of _ (by decide +kernel)) ggX1_fault_X1_isMovement
set_option maxRecDepth 20000 in
theorem ggX1_fault_X1_place : GoodIn wsX1_fault wsX1_place := goodIn_r _ [9] (by decide +kernel) (by decide +kernel)
set_option maxRecDepth 20000 in
theorem gX1_fault_X1_place : GoodIn wsX1_fault (va_wsS RX1 91 yX1_place wsX1_place) := goodIn_app (goodIn_of _ (by decide +kernel)) ggX1_fault_X1_place
set_option maxRecDepth 20000 in
theorem ggX1_fault_X1_change : GoodIn wsX1_fault wsX1_change := goodIn_r _ [13, 14, 15, 16, 17, 5, 18, 19, 20, 21, 22, 23, 24, 25, 26, 27, 28, 29, 30] (by decide +kernel) (by decide +kernel)
set_option maxRecDepth 20000 in
theorem gX1_fault_X1_change : GoodIn wsX1_fault (wsV RX1 52 RX1 yX1_change wsX1_change) := goodIn_app (goodIn_of _ (by decide +kernel)) ggX1_fault_X1_change
theorem dX1_fault_0 : decode cX1_fault 0 = .ok (.iload_n 1, 1) := by decide +kernel
theorem dX1_fault_1 : decode cX1_fault 1 = .ok (.invokestatic 69, 3) := by decide +kernel
theorem dX1_fault_4 : decode cX1_fault 4 = .ok (.ifCond .ne 13, 3) := by decide +kernel
theorem dX1_fault_7 : decode cX1_fault 7 = .ok (.new 40, 3) := by decide +kernel
theorem dX1_fault_10 : decode cX1_fault 10 = .ok (.dup, 1) := by decide +kernel
theorem dX1_fault_11 : decode cX1_fault 11 = .ok (.ldc 72, 2) := by decide +kernel
theorem dX1_fault_13 : decode cX1_fault 13 = .ok (.invokespecial 44, 3) := by decide +kernel
theorem dX1_fault_16 : decode cX1_fault 16 = .ok (.athrow, 1) := by decide +kernel
theorem dX1_fault_17 : decode cX1_fault 17 = .ok (.aload_n 0, 1) := by decide +kernel
theorem dX1_fault_18 : decode cX1_fault 18 = .ok (.iload_n 1, 1) := by decide +kernel
theorem dX1_fault_19 : decode cX1_fault 19 = .ok (.iconst 1, 1) := by decide +kernel
theorem dX1_fault_20 : decode cX1_fault 20 = .ok (.invokestatic 91, 3) := by decide +kernel
theorem dX1_fault_23 : decode cX1_fault 23 = .ok (.iload_n 2, 1) := by decide +kernel
theorem dX1_fault_24 : decode cX1_fault 24 = .ok (.ifCond .eq 7, 3) := by decide +kernel
theorem dX1_fault_27 : decode cX1_fault 27 = .ok (.iconst 1, 1) := by decide +kernel
theorem dX1_fault_28 : decode cX1_fault 28 = .ok (.goto 4, 3) := by decide +kernel
theorem dX1_fault_31 : decode cX1_fault 31 = .ok (.iconst 0, 1) := by decide +kernel
theorem dX1_fault_32 : decode cX1_fault 32 = .ok (.invokevirtual 52, 3) := by decide +kernel
theorem dX1_fault_35 : decode cX1_fault 35 = .ok (.ireturn, 1) := by decide +kernel
set_option maxRecDepth 20000 in
theorem ggX1_loss_X1_isMovement : GoodIn wsX1_loss wsX1_isMovement := goodIn_r _ [8] (by decide +kernel) (by decide +kernel)
set_option maxRecDepth 20000 in
theorem gX1_loss_X1_isMovement : GoodIn wsX1_loss (va_wsS RX1 69 yX1_isMovement wsX1_isMovement) := goodIn_app (goodIn_of _ (by decide +kernel)) ggX1_loss_X1_isMovement
set_option maxRecDepth 20000 in
theorem ggX1_loss_X1_place : GoodIn wsX1_loss wsX1_place := goodIn_r _ [11] (by decide +kernel) (by decide +kernel)
set_option maxRecDepth 20000 in
theorem gX1_loss_X1_place : GoodIn wsX1_loss (va_wsS RX1 91 yX1_place wsX1_place) := goodIn_app (goodIn_of _ (by decide +kernel)) ggX1_loss_X1_place
set_option maxRecDepth 20000 in
theorem ggX1_loss_X1_change : GoodIn wsX1_loss wsX1_change := goodIn_r _ [15, 16, 17, 18, 19, 7, 20, 21, 22, 23, 24, 25, 26, 27, 28, 29, 30, 31, 32] (by decide +kernel) (by decide +kernel)
set_option maxRecDepth 20000 in
theorem gX1_loss_X1_change : GoodIn wsX1_loss (wsV RX1 52 RX1 yX1_change wsX1_change) := goodIn_app (goodIn_of _ (by decide +kernel)) ggX1_loss_X1_change
theorem dX1_loss_0 : decode cX1_loss 0 = .ok (.iload_n 1, 1) := by decide +kernel
theorem dX1_loss_1 : decode cX1_loss 1 = .ok (.invokestatic 69, 3) := by decide +kernel
theorem dX1_loss_4 : decode cX1_loss 4 = .ok (.ifCond .ne 13, 3) := by decide +kernel
theorem dX1_loss_7 : decode cX1_loss 7 = .ok (.new 40, 3) := by decide +kernel
theorem dX1_loss_10 : decode cX1_loss 10 = .ok (.dup, 1) := by decide +kernel
theorem dX1_loss_11 : decode cX1_loss 11 = .ok (.ldc 72, 2) := by decide +kernel
theorem dX1_loss_13 : decode cX1_loss 13 = .ok (.invokespecial 44, 3) := by decide +kernel
theorem dX1_loss_16 : decode cX1_loss 16 = .ok (.athrow, 1) := by decide +kernel
theorem dX1_loss_17 : decode cX1_loss 17 = .ok (.iload_n 2, 1) := by decide +kernel
theorem dX1_loss_18 : decode cX1_loss 18 = .ok (.ifCond .lt 9, 3) := by decide +kernel
theorem dX1_loss_21 : decode cX1_loss 21 = .ok (.iload_n 2, 1) := by decide +kernel
theorem dX1_loss_22 : decode cX1_loss 22 = .ok (.bipush 20, 2) := by decide +kernel
theorem dX1_loss_24 : decode cX1_loss 24 = .ok (.if_icmp .le 13, 3) := by decide +kernel
theorem dX1_loss_27 : decode cX1_loss 27 = .ok (.new 47, 3) := by decide +kernel
theorem dX1_loss_30 : decode cX1_loss 30 = .ok (.dup, 1) := by decide +kernel
theorem dX1_loss_31 : decode cX1_loss 31 = .ok (.ldc 94, 2) := by decide +kernel
theorem dX1_loss_33 : decode cX1_loss 33 = .ok (.invokespecial 51, 3) := by decide +kernel
theorem dX1_loss_36 : decode cX1_loss 36 = .ok (.athrow, 1) := by decide +kernel
theorem dX1_loss_37 : decode cX1_loss 37 = .ok (.aload_n 0, 1) := by decide +kernel
theorem dX1_loss_38 : decode cX1_loss 38 = .ok (.iload_n 1, 1) := by decide +kernel
theorem dX1_loss_39 : decode cX1_loss 39 = .ok (.iconst 2, 1) := by decide +kernel
theorem dX1_loss_40 : decode cX1_loss 40 = .ok (.invokestatic 91, 3) := by decide +kernel
theorem dX1_loss_43 : decode cX1_loss 43 = .ok (.iload_n 2, 1) := by decide +kernel
theorem dX1_loss_44 : decode cX1_loss 44 = .ok (.invokevirtual 52, 3) := by decide +kernel
theorem dX1_loss_47 : decode cX1_loss 47 = .ok (.ireturn, 1) := by decide +kernel
set_option maxRecDepth 20000 in
theorem ggX1_service_X1_isMovement : GoodIn wsX1_service wsX1_isMovement := goodIn_r _ [9] (by decide +kernel) (by decide +kernel)
set_option maxRecDepth 20000 in
theorem gX1_service_X1_isMovement : GoodIn wsX1_service (va_wsS RX1 69 yX1_isMovement wsX1_isMovement) := goodIn_app (goodIn_of _ (by decide +kernel)) ggX1_service_X1_isMovement
set_option maxRecDepth 20000 in
theorem ggX1_service_X1_isLocked : GoodIn wsX1_service wsX1_isLocked := goodIn_r _ [13, 5, 31, 32, 33, 34, 35, 36] (by decide +kernel) (by decide +kernel)
set_option maxRecDepth 20000 in
theorem gX1_service_X1_isLocked : GoodIn wsX1_service (wsV RX1 79 RX1 yX1_isLocked wsX1_isLocked) := goodIn_app (goodIn_of _ (by decide +kernel)) ggX1_service_X1_isLocked
set_option maxRecDepth 20000 in
theorem ggX1_service_X1_place : GoodIn wsX1_service wsX1_place := goodIn_r _ [16] (by decide +kernel) (by decide +kernel)
set_option maxRecDepth 20000 in
theorem gX1_service_X1_place : GoodIn wsX1_service (va_wsS RX1 91 yX1_place wsX1_place) := goodIn_app (goodIn_of _ (by decide +kernel)) ggX1_service_X1_place
set_option maxRecDepth 20000 in
theorem ggX1_service_X1_change : GoodIn wsX1_service wsX1_change := goodIn_r _ [20, 5, 21, 22, 23, 8, 24, 25, 26, 27, 28, 29, 30, 31, 32, 33, 34, 35, 36] (by decide +kernel) (by decide +kernel)
set_option maxRecDepth 20000 in
theorem gX1_service_X1_change : GoodIn wsX1_service (wsV RX1 52 RX1 yX1_change wsX1_change) := goodIn_app (goodIn_of _ (by decide +kernel)) ggX1_service_X1_change
theorem dX1_service_0 : decode cX1_service 0 = .ok (.iload_n 1, 1) := by decide +kernel
theorem dX1_service_1 : decode cX1_service 1 = .ok (.invokestatic 69, 3) := by decide +kernel
theorem dX1_service_4 : decode cX1_service 4 = .ok (.ifCond .ne 13, 3) := by decide +kernel
theorem dX1_service_7 : decode cX1_service 7 = .ok (.new 40, 3) := by decide +kernel
theorem dX1_service_10 : decode cX1_service 10 = .ok (.dup, 1) := by decide +kernel
theorem dX1_service_11 : decode cX1_service 11 = .ok (.ldc 72, 2) := by decide +kernel
theorem dX1_service_13 : decode cX1_service 13 = .ok (.invokespecial 44, 3) := by decide +kernel
theorem dX1_service_16 : decode cX1_service 16 = .ok (.athrow, 1) := by decide +kernel
theorem dX1_service_17 : decode cX1_service 17 = .ok (.aload_n 0, 1) := by decide +kernel
theorem dX1_service_18 : decode cX1_service 18 = .ok (.invokevirtual 79, 3) := by decide +kernel
theorem dX1_service_21 : decode cX1_service 21 = .ok (.ifCond .eq 13, 3) := by decide +kernel
theorem dX1_service_24 : decode cX1_service 24 = .ok (.new 86, 3) := by decide +kernel
theorem dX1_service_27 : decode cX1_service 27 = .ok (.dup, 1) := by decide +kernel
theorem dX1_service_28 : decode cX1_service 28 = .ok (.ldc 96, 2) := by decide +kernel
theorem dX1_service_30 : decode cX1_service 30 = .ok (.invokespecial 90, 3) := by decide +kernel
theorem dX1_service_33 : decode cX1_service 33 = .ok (.athrow, 1) := by decide +kernel
theorem dX1_service_34 : decode cX1_service 34 = .ok (.aload_n 0, 1) := by decide +kernel
theorem dX1_service_35 : decode cX1_service 35 = .ok (.iload_n 1, 1) := by decide +kernel
theorem dX1_service_36 : decode cX1_service 36 = .ok (.iconst 3, 1) := by decide +kernel
theorem dX1_service_37 : decode cX1_service 37 = .ok (.invokestatic 91, 3) := by decide +kernel
theorem dX1_service_40 : decode cX1_service 40 = .ok (.iconst 0, 1) := by decide +kernel
theorem dX1_service_41 : decode cX1_service 41 = .ok (.invokevirtual 52, 3) := by decide +kernel
theorem dX1_service_44 : decode cX1_service 44 = .ok (.istore_n 2, 1) := by decide +kernel
theorem dX1_service_45 : decode cX1_service 45 = .ok (.aload_n 0, 1) := by decide +kernel
theorem dX1_service_46 : decode cX1_service 46 = .ok (.getfield 9, 3) := by decide +kernel
theorem dX1_service_49 : decode cX1_service 49 = .ok (.iload_n 1, 1) := by decide +kernel
theorem dX1_service_50 : decode cX1_service 50 = .ok (.iconst 1, 1) := by decide +kernel
theorem dX1_service_51 : decode cX1_service 51 = .ok (.invokestatic 91, 3) := by decide +kernel
theorem dX1_service_54 : decode cX1_service 54 = .ok (.iconst 1, 1) := by decide +kernel
theorem dX1_service_55 : decode cX1_service 55 = .ok (.iastore, 1) := by decide +kernel
theorem dX1_service_56 : decode cX1_service 56 = .ok (.aload_n 0, 1) := by decide +kernel
theorem dX1_service_57 : decode cX1_service 57 = .ok (.getfield 9, 3) := by decide +kernel
theorem dX1_service_60 : decode cX1_service 60 = .ok (.iload_n 1, 1) := by decide +kernel
theorem dX1_service_61 : decode cX1_service 61 = .ok (.iconst 2, 1) := by decide +kernel
theorem dX1_service_62 : decode cX1_service 62 = .ok (.invokestatic 91, 3) := by decide +kernel
theorem dX1_service_65 : decode cX1_service 65 = .ok (.iconst 0, 1) := by decide +kernel
theorem dX1_service_66 : decode cX1_service 66 = .ok (.iastore, 1) := by decide +kernel
theorem dX1_service_67 : decode cX1_service 67 = .ok (.iload_n 2, 1) := by decide +kernel
theorem dX1_service_68 : decode cX1_service 68 = .ok (.ireturn, 1) := by decide +kernel
set_option maxRecDepth 20000 in
theorem ggX1_lock_X1_isLocked : GoodIn wsX1_lock wsX1_isLocked := goodIn_r _ [8, 3, 42, 43, 44, 45, 46, 47] (by decide +kernel) (by decide +kernel)
set_option maxRecDepth 20000 in
theorem gX1_lock_X1_isLocked : GoodIn wsX1_lock (wsV RX1 79 RX1 yX1_isLocked wsX1_isLocked) := goodIn_app (goodIn_of _ (by decide +kernel)) ggX1_lock_X1_isLocked
set_option maxRecDepth 20000 in
theorem ggX1_lock_X1_someMovementRuns : GoodIn wsX1_lock wsX1_someMovementRuns := goodIn_r _ [12, 3, 13, 14, 15, 7, 16, 17, 18, 19, 42, 43, 44, 45, 46, 47] (by decide +kernel) (by decide +kernel)
set_option maxRecDepth 20000 in
theorem gX1_lock_X1_someMovementRuns : GoodIn wsX1_lock (wsV RX1 98 RX1 yX1_someMovementRuns wsX1_someMovementRuns) := goodIn_app (goodIn_of _ (by decide +kernel)) ggX1_lock_X1_someMovementRuns
set_option maxRecDepth 20000 in
theorem ggX1_lock_X1_save : GoodIn wsX1_lock wsX1_save := goodIn_r _ [23, 24, 25, 26, 27, 28, 29, 3, 42, 43, 44, 45, 46, 47] (by decide +kernel) (by decide +kernel)
set_option maxRecDepth 20000 in
theorem gX1_lock_X1_save : GoodIn wsX1_lock (wsV RX1 103 RX1 yX1_save wsX1_save) := goodIn_app (goodIn_of _ (by decide +kernel)) ggX1_lock_X1_save
set_option maxRecDepth 20000 in
theorem ggX1_lock_X1_hoursToOpening : GoodIn wsX1_lock wsX1_hoursToOpening := goodIn_r _ [33, 3, 34, 35, 36, 7, 37, 38, 39, 40, 41, 42, 43, 44, 45, 46, 47] (by decide +kernel) (by decide +kernel)
set_option maxRecDepth 20000 in
theorem gX1_lock_X1_hoursToOpening : GoodIn wsX1_lock (wsV RX1 106 RX1 yX1_hoursToOpening wsX1_hoursToOpening) := goodIn_app (goodIn_of _ (by decide +kernel)) ggX1_lock_X1_hoursToOpening
theorem dX1_lock_0 : decode cX1_lock 0 = .ok (.aload_n 0, 1) := by decide +kernel
theorem dX1_lock_1 : decode cX1_lock 1 = .ok (.invokevirtual 79, 3) := by decide +kernel
theorem dX1_lock_4 : decode cX1_lock 4 = .ok (.ifCond .ne 10, 3) := by decide +kernel
theorem dX1_lock_7 : decode cX1_lock 7 = .ok (.aload_n 0, 1) := by decide +kernel
theorem dX1_lock_8 : decode cX1_lock 8 = .ok (.invokevirtual 98, 3) := by decide +kernel
theorem dX1_lock_11 : decode cX1_lock 11 = .ok (.ifCond .ne 13, 3) := by decide +kernel
theorem dX1_lock_14 : decode cX1_lock 14 = .ok (.new 86, 3) := by decide +kernel
theorem dX1_lock_17 : decode cX1_lock 17 = .ok (.dup, 1) := by decide +kernel
theorem dX1_lock_18 : decode cX1_lock 18 = .ok (.ldc 101, 2) := by decide +kernel
theorem dX1_lock_20 : decode cX1_lock 20 = .ok (.invokespecial 90, 3) := by decide +kernel
theorem dX1_lock_23 : decode cX1_lock 23 = .ok (.athrow, 1) := by decide +kernel
theorem dX1_lock_24 : decode cX1_lock 24 = .ok (.aload_n 0, 1) := by decide +kernel
theorem dX1_lock_25 : decode cX1_lock 25 = .ok (.invokevirtual 103, 3) := by decide +kernel
theorem dX1_lock_28 : decode cX1_lock 28 = .ok (.aload_n 0, 1) := by decide +kernel
theorem dX1_lock_29 : decode cX1_lock 29 = .ok (.invokevirtual 106, 3) := by decide +kernel
theorem dX1_lock_32 : decode cX1_lock 32 = .ok (.istore_n 1, 1) := by decide +kernel
theorem dX1_lock_33 : decode cX1_lock 33 = .ok (.aload_n 0, 1) := by decide +kernel
theorem dX1_lock_34 : decode cX1_lock 34 = .ok (.getfield 9, 3) := by decide +kernel
theorem dX1_lock_37 : decode cX1_lock 37 = .ok (.iconst 1, 1) := by decide +kernel
theorem dX1_lock_38 : decode cX1_lock 38 = .ok (.iconst 1, 1) := by decide +kernel
theorem dX1_lock_39 : decode cX1_lock 39 = .ok (.iastore, 1) := by decide +kernel
theorem dX1_lock_40 : decode cX1_lock 40 = .ok (.aload_n 0, 1) := by decide +kernel
theorem dX1_lock_41 : decode cX1_lock 41 = .ok (.getfield 9, 3) := by decide +kernel
theorem dX1_lock_44 : decode cX1_lock 44 = .ok (.iconst 2, 1) := by decide +kernel
theorem dX1_lock_45 : decode cX1_lock 45 = .ok (.iload_n 1, 1) := by decide +kernel
theorem dX1_lock_46 : decode cX1_lock 46 = .ok (.iconst (-1), 1) := by decide +kernel
theorem dX1_lock_47 : decode cX1_lock 47 = .ok (.if_icmp .ne 7, 3) := by decide +kernel
theorem dX1_lock_50 : decode cX1_lock 50 = .ok (.iconst (-1), 1) := by decide +kernel
theorem dX1_lock_51 : decode cX1_lock 51 = .ok (.goto 11, 3) := by decide +kernel
theorem dX1_lock_54 : decode cX1_lock 54 = .ok (.aload_n 0, 1) := by decide +kernel
theorem dX1_lock_55 : decode cX1_lock 55 = .ok (.getfield 9, 3) := by decide +kernel
theorem dX1_lock_58 : decode cX1_lock 58 = .ok (.iconst 0, 1) := by decide +kernel
theorem dX1_lock_59 : decode cX1_lock 59 = .ok (.iaload, 1) := by decide +kernel
theorem dX1_lock_60 : decode cX1_lock 60 = .ok (.iload_n 1, 1) := by decide +kernel
theorem dX1_lock_61 : decode cX1_lock 61 = .ok (.iadd, 1) := by decide +kernel
theorem dX1_lock_62 : decode cX1_lock 62 = .ok (.iastore, 1) := by decide +kernel
theorem dX1_lock_63 : decode cX1_lock 63 = .ok (.iload_n 1, 1) := by decide +kernel
theorem dX1_lock_64 : decode cX1_lock 64 = .ok (.ireturn, 1) := by decide +kernel
set_option maxRecDepth 20000 in
theorem ggX1_open_X1_isLocked : GoodIn wsX1_open wsX1_isLocked := goodIn_r _ [7, 8, 58, 59, 60, 61, 62, 63] (by decide +kernel) (by decide +kernel)
set_option maxRecDepth 20000 in
theorem gX1_open_X1_isLocked : GoodIn wsX1_open (wsV RX1 79 RX1 yX1_isLocked wsX1_isLocked) := goodIn_app (goodIn_of _ (by decide +kernel)) ggX1_open_X1_isLocked
set_option maxRecDepth 20000 in
theorem ggX1_open_X1_save : GoodIn wsX1_open wsX1_save := goodIn_r _ [12, 13, 14, 15, 16, 17, 18, 8, 58, 59, 60, 61, 62, 63] (by decide +kernel) (by decide +kernel)
set_option maxRecDepth 20000 in
theorem gX1_open_X1_save : GoodIn wsX1_open (wsV RX1 103 RX1 yX1_save wsX1_save) := goodIn_app (goodIn_of _ (by decide +kernel)) ggX1_open_X1_save
set_option maxRecDepth 20000 in
theorem ggX1_open_X1_hoursToOpen : GoodIn wsX1_open wsX1_hoursToOpen := goodIn_r _ [22, 23, 24, 25, 26, 3, 4, 5, 6, 7, 8, 27, 28, 29, 30, 31, 32, 33, 34, 35, 36, 37, 38, 39, 40, 41, 58, 59, 60, 61, 62, 63] (by decide +kernel) (by decide +kernel)
set_option maxRecDepth 20000 in
theorem gX1_open_X1_hoursToOpen : GoodIn wsX1_open (wsV RX1 112 RX1 yX1_hoursToOpen wsX1_hoursToOpen) := goodIn_app (goodIn_of _ (by decide +kernel)) ggX1_open_X1_hoursToOpen
set_option maxRecDepth 20000 in
theorem ggX1_open_X1_countEarlyTry : GoodIn wsX1_open wsX1_countEarlyTry := goodIn_r _ [45, 8, 58, 59, 60, 61, 62, 63] (by decide +kernel) (by decide +kernel)
set_option maxRecDepth 20000 in
theorem gX1_open_X1_countEarlyTry : GoodIn wsX1_open (wsV RX1 116 RX1 yX1_countEarlyTry wsX1_countEarlyTry) := goodIn_app (goodIn_of _ (by decide +kernel)) ggX1_open_X1_countEarlyTry
set_option maxRecDepth 20000 in
theorem ggX1_open_X1_latenessAfter : GoodIn wsX1_open wsX1_latenessAfter := goodIn_r _ [49, 8, 58, 59, 60, 61, 62, 63] (by decide +kernel) (by decide +kernel)
set_option maxRecDepth 20000 in
theorem gX1_open_X1_latenessAfter : GoodIn wsX1_open (wsV RX1 119 RX1 yX1_latenessAfter wsX1_latenessAfter) := goodIn_app (goodIn_of _ (by decide +kernel)) ggX1_open_X1_latenessAfter
set_option maxRecDepth 20000 in
theorem ggX1_open_X1_countOpening : GoodIn wsX1_open wsX1_countOpening := goodIn_r _ [53, 8, 58, 59, 60, 61, 62, 63] (by decide +kernel) (by decide +kernel)
set_option maxRecDepth 20000 in
theorem gX1_open_X1_countOpening : GoodIn wsX1_open (wsV RX1 122 RX1 yX1_countOpening wsX1_countOpening) := goodIn_app (goodIn_of _ (by decide +kernel)) ggX1_open_X1_countOpening
set_option maxRecDepth 20000 in
theorem ggX1_open_X1_leaveOpen : GoodIn wsX1_open wsX1_leaveOpen := goodIn_r _ [57, 8, 58, 59, 60, 61, 62, 63] (by decide +kernel) (by decide +kernel)
set_option maxRecDepth 20000 in
theorem gX1_open_X1_leaveOpen : GoodIn wsX1_open (wsV RX1 126 RX1 yX1_leaveOpen wsX1_leaveOpen) := goodIn_app (goodIn_of _ (by decide +kernel)) ggX1_open_X1_leaveOpen
theorem dX1_open_0 : decode cX1_open 0 = .ok (.aload_n 0, 1) := by decide +kernel
theorem dX1_open_1 : decode cX1_open 1 = .ok (.invokevirtual 79, 3) := by decide +kernel
theorem dX1_open_4 : decode cX1_open 4 = .ok (.ifCond .ne 13, 3) := by decide +kernel
theorem dX1_open_7 : decode cX1_open 7 = .ok (.new 86, 3) := by decide +kernel
theorem dX1_open_10 : decode cX1_open 10 = .ok (.dup, 1) := by decide +kernel
theorem dX1_open_11 : decode cX1_open 11 = .ok (.ldc 110, 2) := by decide +kernel
theorem dX1_open_13 : decode cX1_open 13 = .ok (.invokespecial 90, 3) := by decide +kernel
theorem dX1_open_16 : decode cX1_open 16 = .ok (.athrow, 1) := by decide +kernel
theorem dX1_open_17 : decode cX1_open 17 = .ok (.aload_n 0, 1) := by decide +kernel
theorem dX1_open_18 : decode cX1_open 18 = .ok (.invokevirtual 103, 3) := by decide +kernel
theorem dX1_open_21 : decode cX1_open 21 = .ok (.aload_n 0, 1) := by decide +kernel
theorem dX1_open_22 : decode cX1_open 22 = .ok (.iconst (-1), 1) := by decide +kernel
theorem dX1_open_23 : decode cX1_open 23 = .ok (.invokevirtual 112, 3) := by decide +kernel
theorem dX1_open_26 : decode cX1_open 26 = .ok (.ifCond .eq 9, 3) := by decide +kernel
theorem dX1_open_29 : decode cX1_open 29 = .ok (.aload_n 0, 1) := by decide +kernel
theorem dX1_open_30 : decode cX1_open 30 = .ok (.invokevirtual 116, 3) := by decide +kernel
theorem dX1_open_33 : decode cX1_open 33 = .ok (.iconst 0, 1) := by decide +kernel
theorem dX1_open_34 : decode cX1_open 34 = .ok (.ireturn, 1) := by decide +kernel
theorem dX1_open_35 : decode cX1_open 35 = .ok (.aload_n 0, 1) := by decide +kernel
theorem dX1_open_36 : decode cX1_open 36 = .ok (.aload_n 0, 1) := by decide +kernel
theorem dX1_open_37 : decode cX1_open 37 = .ok (.iconst 0, 1) := by decide +kernel
theorem dX1_open_38 : decode cX1_open 38 = .ok (.invokevirtual 119, 3) := by decide +kernel
theorem dX1_open_41 : decode cX1_open 41 = .ok (.invokevirtual 122, 3) := by decide +kernel
theorem dX1_open_44 : decode cX1_open 44 = .ok (.aload_n 0, 1) := by decide +kernel
theorem dX1_open_45 : decode cX1_open 45 = .ok (.invokevirtual 126, 3) := by decide +kernel
theorem dX1_open_48 : decode cX1_open 48 = .ok (.iconst 1, 1) := by decide +kernel
theorem dX1_open_49 : decode cX1_open 49 = .ok (.ireturn, 1) := by decide +kernel
set_option maxRecDepth 20000 in
theorem ggX1_drill_X1_isLocked : GoodIn wsX1_drill wsX1_isLocked := goodIn_r _ [8, 3, 26, 27, 28, 29, 30, 31] (by decide +kernel) (by decide +kernel)
set_option maxRecDepth 20000 in
theorem gX1_drill_X1_isLocked : GoodIn wsX1_drill (wsV RX1 79 RX1 yX1_isLocked wsX1_isLocked) := goodIn_app (goodIn_of _ (by decide +kernel)) ggX1_drill_X1_isLocked
set_option maxRecDepth 20000 in
theorem ggX1_drill_X1_save : GoodIn wsX1_drill wsX1_save := goodIn_r _ [12, 13, 14, 15, 16, 17, 18, 3, 26, 27, 28, 29, 30, 31] (by decide +kernel) (by decide +kernel)
set_option maxRecDepth 20000 in
theorem gX1_drill_X1_save : GoodIn wsX1_drill (wsV RX1 103 RX1 yX1_save wsX1_save) := goodIn_app (goodIn_of _ (by decide +kernel)) ggX1_drill_X1_save
set_option maxRecDepth 20000 in
theorem ggX1_drill_X1_place : GoodIn wsX1_drill wsX1_place := goodIn_r _ [21] (by decide +kernel) (by decide +kernel)
set_option maxRecDepth 20000 in
theorem gX1_drill_X1_place : GoodIn wsX1_drill (va_wsS RX1 91 yX1_place wsX1_place) := goodIn_app (goodIn_of _ (by decide +kernel)) ggX1_drill_X1_place
set_option maxRecDepth 20000 in
theorem ggX1_drill_X1_leaveOpen : GoodIn wsX1_drill wsX1_leaveOpen := goodIn_r _ [25, 3, 26, 27, 28, 29, 30, 31] (by decide +kernel) (by decide +kernel)
set_option maxRecDepth 20000 in
theorem gX1_drill_X1_leaveOpen : GoodIn wsX1_drill (wsV RX1 126 RX1 yX1_leaveOpen wsX1_leaveOpen) := goodIn_app (goodIn_of _ (by decide +kernel)) ggX1_drill_X1_leaveOpen
theorem dX1_drill_0 : decode cX1_drill 0 = .ok (.aload_n 0, 1) := by decide +kernel
theorem dX1_drill_1 : decode cX1_drill 1 = .ok (.invokevirtual 79, 3) := by decide +kernel
theorem dX1_drill_4 : decode cX1_drill 4 = .ok (.ifCond .ne 13, 3) := by decide +kernel
theorem dX1_drill_7 : decode cX1_drill 7 = .ok (.new 86, 3) := by decide +kernel
theorem dX1_drill_10 : decode cX1_drill 10 = .ok (.dup, 1) := by decide +kernel
theorem dX1_drill_11 : decode cX1_drill 11 = .ok (.ldc 110, 2) := by decide +kernel
theorem dX1_drill_13 : decode cX1_drill 13 = .ok (.invokespecial 90, 3) := by decide +kernel
theorem dX1_drill_16 : decode cX1_drill 16 = .ok (.athrow, 1) := by decide +kernel
theorem dX1_drill_17 : decode cX1_drill 17 = .ok (.aload_n 0, 1) := by decide +kernel
theorem dX1_drill_18 : decode cX1_drill 18 = .ok (.invokevirtual 103, 3) := by decide +kernel
theorem dX1_drill_21 : decode cX1_drill 21 = .ok (.iconst 0, 1) := by decide +kernel
theorem dX1_drill_22 : decode cX1_drill 22 = .ok (.istore_n 1, 1) := by decide +kernel
theorem dX1_drill_23 : decode cX1_drill 23 = .ok (.iload_n 1, 1) := by decide +kernel
theorem dX1_drill_24 : decode cX1_drill 24 = .ok (.iconst 3, 1) := by decide +kernel
theorem dX1_drill_25 : decode cX1_drill 25 = .ok (.if_icmp .ge 31, 3) := by decide +kernel
theorem dX1_drill_28 : decode cX1_drill 28 = .ok (.aload_n 0, 1) := by decide +kernel
theorem dX1_drill_29 : decode cX1_drill 29 = .ok (.getfield 9, 3) := by decide +kernel
theorem dX1_drill_32 : decode cX1_drill 32 = .ok (.iload_n 1, 1) := by decide +kernel
theorem dX1_drill_33 : decode cX1_drill 33 = .ok (.iconst 0, 1) := by decide +kernel
theorem dX1_drill_34 : decode cX1_drill 34 = .ok (.invokestatic 91, 3) := by decide +kernel
theorem dX1_drill_37 : decode cX1_drill 37 = .ok (.iconst 0, 1) := by decide +kernel
theorem dX1_drill_38 : decode cX1_drill 38 = .ok (.iastore, 1) := by decide +kernel
theorem dX1_drill_39 : decode cX1_drill 39 = .ok (.aload_n 0, 1) := by decide +kernel
theorem dX1_drill_40 : decode cX1_drill 40 = .ok (.getfield 9, 3) := by decide +kernel
theorem dX1_drill_43 : decode cX1_drill 43 = .ok (.iload_n 1, 1) := by decide +kernel
theorem dX1_drill_44 : decode cX1_drill 44 = .ok (.iconst 1, 1) := by decide +kernel
theorem dX1_drill_45 : decode cX1_drill 45 = .ok (.invokestatic 91, 3) := by decide +kernel
theorem dX1_drill_48 : decode cX1_drill 48 = .ok (.iconst 0, 1) := by decide +kernel
theorem dX1_drill_49 : decode cX1_drill 49 = .ok (.iastore, 1) := by decide +kernel
theorem dX1_drill_50 : decode cX1_drill 50 = .ok (.iinc 1 1, 3) := by decide +kernel
theorem dX1_drill_53 : decode cX1_drill 53 = .ok (.goto (-30), 3) := by decide +kernel
theorem dX1_drill_56 : decode cX1_drill 56 = .ok (.aload_n 0, 1) := by decide +kernel
theorem dX1_drill_57 : decode cX1_drill 57 = .ok (.invokevirtual 126, 3) := by decide +kernel
theorem dX1_drill_60 : decode cX1_drill 60 = .ok (.aload_n 0, 1) := by decide +kernel
theorem dX1_drill_61 : decode cX1_drill 61 = .ok (.getfield 9, 3) := by decide +kernel
theorem dX1_drill_64 : decode cX1_drill 64 = .ok (.bipush 10, 2) := by decide +kernel
theorem dX1_drill_66 : decode cX1_drill 66 = .ok (.dup2, 1) := by decide +kernel
theorem dX1_drill_67 : decode cX1_drill 67 = .ok (.iaload, 1) := by decide +kernel
theorem dX1_drill_68 : decode cX1_drill 68 = .ok (.iconst 1, 1) := by decide +kernel
theorem dX1_drill_69 : decode cX1_drill 69 = .ok (.iadd, 1) := by decide +kernel
theorem dX1_drill_70 : decode cX1_drill 70 = .ok (.iastore, 1) := by decide +kernel
theorem dX1_drill_71 : decode cX1_drill 71 = .ok (.aload_n 0, 1) := by decide +kernel
theorem dX1_drill_72 : decode cX1_drill 72 = .ok (.getfield 9, 3) := by decide +kernel
theorem dX1_drill_75 : decode cX1_drill 75 = .ok (.bipush 10, 2) := by decide +kernel
theorem dX1_drill_77 : decode cX1_drill 77 = .ok (.iaload, 1) := by decide +kernel
theorem dX1_drill_78 : decode cX1_drill 78 = .ok (.ireturn, 1) := by decide +kernel
set_option maxRecDepth 20000 in
theorem ggX1_pass_X1_save : GoodIn wsX1_pass wsX1_save := goodIn_r _ [11, 12, 13, 14, 15, 16, 17, 5, 44, 45, 46, 47, 48, 49] (by decide +kernel) (by decide +kernel)
set_option maxRecDepth 20000 in
theorem gX1_pass_X1_save : GoodIn wsX1_pass (wsV RX1 103 RX1 yX1_save wsX1_save) := goodIn_app (goodIn_of _ (by decide +kernel)) ggX1_pass_X1_save
set_option maxRecDepth 20000 in
theorem ggX1_pass_X1_passHour : GoodIn wsX1_pass wsX1_passHour := goodIn_r _ [21, 5, 22, 23, 24, 10, 25, 26, 27, 28, 29, 30, 31, 32, 33, 34, 35, 36, 37, 38, 39, 44, 45, 46, 47, 48, 49] (by decide +kernel) (by decide +kernel)
set_option maxRecDepth 20000 in
theorem gX1_pass_X1_passHour : GoodIn wsX1_pass (wsV RX1 132 RX1 yX1_passHour wsX1_passHour) := goodIn_app (goodIn_of _ (by decide +kernel)) ggX1_pass_X1_passHour
set_option maxRecDepth 20000 in
theorem ggX1_pass_X1_movementsRunDown : GoodIn wsX1_pass wsX1_movementsRunDown := goodIn_r _ [43, 5, 34, 35, 10, 36, 44, 45, 46, 47, 48, 49] (by decide +kernel) (by decide +kernel)
set_option maxRecDepth 20000 in
theorem gX1_pass_X1_movementsRunDown : GoodIn wsX1_pass (wsV RX1 135 RX1 yX1_movementsRunDown wsX1_movementsRunDown) := goodIn_app (goodIn_of _ (by decide +kernel)) ggX1_pass_X1_movementsRunDown
theorem dX1_pass_0 : decode cX1_pass 0 = .ok (.iload_n 1, 1) := by decide +kernel
theorem dX1_pass_1 : decode cX1_pass 1 = .ok (.iconst 1, 1) := by decide +kernel
theorem dX1_pass_2 : decode cX1_pass 2 = .ok (.if_icmp .lt 10, 3) := by decide +kernel
theorem dX1_pass_5 : decode cX1_pass 5 = .ok (.iload_n 1, 1) := by decide +kernel
theorem dX1_pass_6 : decode cX1_pass 6 = .ok (.sipush 200, 3) := by decide +kernel
theorem dX1_pass_9 : decode cX1_pass 9 = .ok (.if_icmp .le 13, 3) := by decide +kernel
theorem dX1_pass_12 : decode cX1_pass 12 = .ok (.new 47, 3) := by decide +kernel
theorem dX1_pass_15 : decode cX1_pass 15 = .ok (.dup, 1) := by decide +kernel
theorem dX1_pass_16 : decode cX1_pass 16 = .ok (.ldc 77, 2) := by decide +kernel
theorem dX1_pass_18 : decode cX1_pass 18 = .ok (.invokespecial 51, 3) := by decide +kernel
theorem dX1_pass_21 : decode cX1_pass 21 = .ok (.athrow, 1) := by decide +kernel
theorem dX1_pass_22 : decode cX1_pass 22 = .ok (.aload_n 0, 1) := by decide +kernel
theorem dX1_pass_23 : decode cX1_pass 23 = .ok (.getfield 9, 3) := by decide +kernel
theorem dX1_pass_26 : decode cX1_pass 26 = .ok (.iconst 0, 1) := by decide +kernel
theorem dX1_pass_27 : decode cX1_pass 27 = .ok (.iaload, 1) := by decide +kernel
theorem dX1_pass_28 : decode cX1_pass 28 = .ok (.iload_n 1, 1) := by decide +kernel
theorem dX1_pass_29 : decode cX1_pass 29 = .ok (.iadd, 1) := by decide +kernel
theorem dX1_pass_30 : decode cX1_pass 30 = .ok (.ldc 129, 2) := by decide +kernel
theorem dX1_pass_32 : decode cX1_pass 32 = .ok (.if_icmp .le 13, 3) := by decide +kernel
theorem dX1_pass_35 : decode cX1_pass 35 = .ok (.new 86, 3) := by decide +kernel
theorem dX1_pass_38 : decode cX1_pass 38 = .ok (.dup, 1) := by decide +kernel
theorem dX1_pass_39 : decode cX1_pass 39 = .ok (.ldc 130, 2) := by decide +kernel
theorem dX1_pass_41 : decode cX1_pass 41 = .ok (.invokespecial 90, 3) := by decide +kernel
theorem dX1_pass_44 : decode cX1_pass 44 = .ok (.athrow, 1) := by decide +kernel
theorem dX1_pass_45 : decode cX1_pass 45 = .ok (.aload_n 0, 1) := by decide +kernel
theorem dX1_pass_46 : decode cX1_pass 46 = .ok (.invokevirtual 103, 3) := by decide +kernel
theorem dX1_pass_49 : decode cX1_pass 49 = .ok (.iconst 0, 1) := by decide +kernel
theorem dX1_pass_50 : decode cX1_pass 50 = .ok (.istore_n 2, 1) := by decide +kernel
theorem dX1_pass_51 : decode cX1_pass 51 = .ok (.iload_n 2, 1) := by decide +kernel
theorem dX1_pass_52 : decode cX1_pass 52 = .ok (.iload_n 1, 1) := by decide +kernel
theorem dX1_pass_53 : decode cX1_pass 53 = .ok (.if_icmp .ge 13, 3) := by decide +kernel
theorem dX1_pass_56 : decode cX1_pass 56 = .ok (.aload_n 0, 1) := by decide +kernel
theorem dX1_pass_57 : decode cX1_pass 57 = .ok (.invokevirtual 132, 3) := by decide +kernel
theorem dX1_pass_60 : decode cX1_pass 60 = .ok (.iinc 2 1, 3) := by decide +kernel
theorem dX1_pass_63 : decode cX1_pass 63 = .ok (.goto (-12), 3) := by decide +kernel
theorem dX1_pass_66 : decode cX1_pass 66 = .ok (.aload_n 0, 1) := by decide +kernel
theorem dX1_pass_67 : decode cX1_pass 67 = .ok (.invokevirtual 135, 3) := by decide +kernel
theorem dX1_pass_70 : decode cX1_pass 70 = .ok (.ireturn, 1) := by decide +kernel
theorem dX1_undo_0 : decode cX1_undo 0 = .ok (.aload_n 0, 1) := by decide +kernel
theorem dX1_undo_1 : decode cX1_undo 1 = .ok (.getfield 16, 3) := by decide +kernel
theorem dX1_undo_4 : decode cX1_undo 4 = .ok (.ifCond .gt 13, 3) := by decide +kernel
theorem dX1_undo_7 : decode cX1_undo 7 = .ok (.new 86, 3) := by decide +kernel
theorem dX1_undo_10 : decode cX1_undo 10 = .ok (.dup, 1) := by decide +kernel
theorem dX1_undo_11 : decode cX1_undo 11 = .ok (.ldc 161, 2) := by decide +kernel
theorem dX1_undo_13 : decode cX1_undo 13 = .ok (.invokespecial 90, 3) := by decide +kernel
theorem dX1_undo_16 : decode cX1_undo 16 = .ok (.athrow, 1) := by decide +kernel
theorem dX1_undo_17 : decode cX1_undo 17 = .ok (.aload_n 0, 1) := by decide +kernel
theorem dX1_undo_18 : decode cX1_undo 18 = .ok (.dup, 1) := by decide +kernel
theorem dX1_undo_19 : decode cX1_undo 19 = .ok (.getfield 16, 3) := by decide +kernel
theorem dX1_undo_22 : decode cX1_undo 22 = .ok (.iconst 1, 1) := by decide +kernel
theorem dX1_undo_23 : decode cX1_undo 23 = .ok (.isub, 1) := by decide +kernel
theorem dX1_undo_24 : decode cX1_undo 24 = .ok (.putfield 16, 3) := by decide +kernel
theorem dX1_undo_27 : decode cX1_undo 27 = .ok (.aload_n 0, 1) := by decide +kernel
theorem dX1_undo_28 : decode cX1_undo 28 = .ok (.getfield 13, 3) := by decide +kernel
theorem dX1_undo_31 : decode cX1_undo 31 = .ok (.aload_n 0, 1) := by decide +kernel
theorem dX1_undo_32 : decode cX1_undo 32 = .ok (.getfield 16, 3) := by decide +kernel
theorem dX1_undo_35 : decode cX1_undo 35 = .ok (.bipush 33, 2) := by decide +kernel
theorem dX1_undo_37 : decode cX1_undo 37 = .ok (.imul, 1) := by decide +kernel
theorem dX1_undo_38 : decode cX1_undo 38 = .ok (.aload_n 0, 1) := by decide +kernel
theorem dX1_undo_39 : decode cX1_undo 39 = .ok (.getfield 9, 3) := by decide +kernel
theorem dX1_undo_42 : decode cX1_undo 42 = .ok (.iconst 0, 1) := by decide +kernel
theorem dX1_undo_43 : decode cX1_undo 43 = .ok (.bipush 33, 2) := by decide +kernel
theorem dX1_undo_45 : decode cX1_undo 45 = .ok (.invokestatic 163, 3) := by decide +kernel
theorem dX1_undo_48 : decode cX1_undo 48 = .ok (.aload_n 0, 1) := by decide +kernel
theorem dX1_undo_49 : decode cX1_undo 49 = .ok (.getfield 16, 3) := by decide +kernel
theorem dX1_undo_52 : decode cX1_undo 52 = .ok (.ireturn, 1) := by decide +kernel
set_option maxRecDepth 20000 in
theorem ggX1_movement_X1_isMovement : GoodIn wsX1_movement wsX1_isMovement := goodIn_r _ [8] (by decide +kernel) (by decide +kernel)
set_option maxRecDepth 20000 in
theorem gX1_movement_X1_isMovement : GoodIn wsX1_movement (va_wsS RX1 69 yX1_isMovement wsX1_isMovement) := goodIn_app (goodIn_of _ (by decide +kernel)) ggX1_movement_X1_isMovement
set_option maxRecDepth 20000 in
theorem ggX1_movement_X1_property : GoodIn wsX1_movement wsX1_property := goodIn_r _ [12, 13, 14, 15, 7, 16, 17, 18, 19, 20, 21, 22, 23, 24, 25, 26, 27, 28, 29, 30] (by decide +kernel) (by decide +kernel)
set_option maxRecDepth 20000 in
theorem gX1_movement_X1_property : GoodIn wsX1_movement (wsV RX1 171 RX1 yX1_property wsX1_property) := goodIn_app (goodIn_of _ (by decide +kernel)) ggX1_movement_X1_property
theorem dX1_movement_0 : decode cX1_movement 0 = .ok (.iload_n 1, 1) := by decide +kernel
theorem dX1_movement_1 : decode cX1_movement 1 = .ok (.invokestatic 69, 3) := by decide +kernel
theorem dX1_movement_4 : decode cX1_movement 4 = .ok (.ifCond .ne 13, 3) := by decide +kernel
theorem dX1_movement_7 : decode cX1_movement 7 = .ok (.new 40, 3) := by decide +kernel
theorem dX1_movement_10 : decode cX1_movement 10 = .ok (.dup, 1) := by decide +kernel
theorem dX1_movement_11 : decode cX1_movement 11 = .ok (.ldc 72, 2) := by decide +kernel
theorem dX1_movement_13 : decode cX1_movement 13 = .ok (.invokespecial 44, 3) := by decide +kernel
theorem dX1_movement_16 : decode cX1_movement 16 = .ok (.athrow, 1) := by decide +kernel
theorem dX1_movement_17 : decode cX1_movement 17 = .ok (.iload_n 2, 1) := by decide +kernel
theorem dX1_movement_18 : decode cX1_movement 18 = .ok (.ifCond .lt 8, 3) := by decide +kernel
theorem dX1_movement_21 : decode cX1_movement 21 = .ok (.iload_n 2, 1) := by decide +kernel
theorem dX1_movement_22 : decode cX1_movement 22 = .ok (.iconst 5, 1) := by decide +kernel
theorem dX1_movement_23 : decode cX1_movement 23 = .ok (.if_icmp .le 13, 3) := by decide +kernel
theorem dX1_movement_26 : decode cX1_movement 26 = .ok (.new 47, 3) := by decide +kernel
theorem dX1_movement_29 : decode cX1_movement 29 = .ok (.dup, 1) := by decide +kernel
theorem dX1_movement_30 : decode cX1_movement 30 = .ok (.ldc 169, 2) := by decide +kernel
theorem dX1_movement_32 : decode cX1_movement 32 = .ok (.invokespecial 51, 3) := by decide +kernel
theorem dX1_movement_35 : decode cX1_movement 35 = .ok (.athrow, 1) := by decide +kernel
theorem dX1_movement_36 : decode cX1_movement 36 = .ok (.aload_n 0, 1) := by decide +kernel
theorem dX1_movement_37 : decode cX1_movement 37 = .ok (.iload_n 1, 1) := by decide +kernel
theorem dX1_movement_38 : decode cX1_movement 38 = .ok (.iload_n 2, 1) := by decide +kernel
theorem dX1_movement_39 : decode cX1_movement 39 = .ok (.invokevirtual 171, 3) := by decide +kernel
theorem dX1_movement_42 : decode cX1_movement 42 = .ok (.ireturn, 1) := by decide +kernel
set_option maxRecDepth 20000 in
theorem ggX1_day_X1_isDay : GoodIn wsX1_day wsX1_isDay := goodIn_r _ [7] (by decide +kernel) (by decide +kernel)
set_option maxRecDepth 20000 in
theorem gX1_day_X1_isDay : GoodIn wsX1_day (va_wsS RX1 36 yX1_isDay wsX1_isDay) := goodIn_app (goodIn_of _ (by decide +kernel)) ggX1_day_X1_isDay
theorem dX1_day_0 : decode cX1_day 0 = .ok (.iload_n 1, 1) := by decide +kernel
theorem dX1_day_1 : decode cX1_day 1 = .ok (.invokestatic 36, 3) := by decide +kernel
theorem dX1_day_4 : decode cX1_day 4 = .ok (.ifCond .ne 13, 3) := by decide +kernel
theorem dX1_day_7 : decode cX1_day 7 = .ok (.new 40, 3) := by decide +kernel
theorem dX1_day_10 : decode cX1_day 10 = .ok (.dup, 1) := by decide +kernel
theorem dX1_day_11 : decode cX1_day 11 = .ok (.ldc 42, 2) := by decide +kernel
theorem dX1_day_13 : decode cX1_day 13 = .ok (.invokespecial 44, 3) := by decide +kernel
theorem dX1_day_16 : decode cX1_day 16 = .ok (.athrow, 1) := by decide +kernel
theorem dX1_day_17 : decode cX1_day 17 = .ok (.aload_n 0, 1) := by decide +kernel
theorem dX1_day_18 : decode cX1_day 18 = .ok (.getfield 9, 3) := by decide +kernel
theorem dX1_day_21 : decode cX1_day 21 = .ok (.bipush 14, 2) := by decide +kernel
theorem dX1_day_23 : decode cX1_day 23 = .ok (.iload_n 1, 1) := by decide +kernel
theorem dX1_day_24 : decode cX1_day 24 = .ok (.iadd, 1) := by decide +kernel
theorem dX1_day_25 : decode cX1_day 25 = .ok (.iaload, 1) := by decide +kernel
theorem dX1_day_26 : decode cX1_day 26 = .ok (.ireturn, 1) := by decide +kernel
set_option maxRecDepth 20000 in
theorem ggX1_count_X1_number : GoodIn wsX1_count wsX1_number := goodIn_r _ [7, 8, 9, 10, 11, 12, 6, 13, 14, 15, 16, 17, 18, 19, 20, 21, 22, 23, 24, 25, 26, 27, 28, 29, 30, 31, 32, 33, 34, 35] (by decide +kernel) (by decide +kernel)
set_option maxRecDepth 20000 in
theorem gX1_count_X1_number : GoodIn wsX1_count (wsV RX1 176 RX1 yX1_number wsX1_number) := goodIn_app (goodIn_of _ (by decide +kernel)) ggX1_count_X1_number
theorem dX1_count_0 : decode cX1_count 0 = .ok (.iload_n 1, 1) := by decide +kernel
theorem dX1_count_1 : decode cX1_count 1 = .ok (.ifCond .lt 9, 3) := by decide +kernel
theorem dX1_count_4 : decode cX1_count 4 = .ok (.iload_n 1, 1) := by decide +kernel
theorem dX1_count_5 : decode cX1_count 5 = .ok (.bipush 14, 2) := by decide +kernel
theorem dX1_count_7 : decode cX1_count 7 = .ok (.if_icmp .le 13, 3) := by decide +kernel
theorem dX1_count_10 : decode cX1_count 10 = .ok (.new 47, 3) := by decide +kernel
theorem dX1_count_13 : decode cX1_count 13 = .ok (.dup, 1) := by decide +kernel
theorem dX1_count_14 : decode cX1_count 14 = .ok (.ldc 174, 2) := by decide +kernel
theorem dX1_count_16 : decode cX1_count 16 = .ok (.invokespecial 51, 3) := by decide +kernel
theorem dX1_count_19 : decode cX1_count 19 = .ok (.athrow, 1) := by decide +kernel
theorem dX1_count_20 : decode cX1_count 20 = .ok (.aload_n 0, 1) := by decide +kernel
theorem dX1_count_21 : decode cX1_count 21 = .ok (.iload_n 1, 1) := by decide +kernel
theorem dX1_count_22 : decode cX1_count 22 = .ok (.invokevirtual 176, 3) := by decide +kernel
theorem dX1_count_25 : decode cX1_count 25 = .ok (.ireturn, 1) := by decide +kernel
set_option maxRecDepth 20000 in
theorem ggX1_setting_X1_isSetting : GoodIn wsX1_setting wsX1_isSetting := goodIn_r _ [7] (by decide +kernel) (by decide +kernel)
set_option maxRecDepth 20000 in
theorem gX1_setting_X1_isSetting : GoodIn wsX1_setting (va_wsS RX1 56 yX1_isSetting wsX1_isSetting) := goodIn_app (goodIn_of _ (by decide +kernel)) ggX1_setting_X1_isSetting
theorem dX1_setting_0 : decode cX1_setting 0 = .ok (.iload_n 1, 1) := by decide +kernel
theorem dX1_setting_1 : decode cX1_setting 1 = .ok (.invokestatic 56, 3) := by decide +kernel
theorem dX1_setting_4 : decode cX1_setting 4 = .ok (.ifCond .ne 13, 3) := by decide +kernel
theorem dX1_setting_7 : decode cX1_setting 7 = .ok (.new 40, 3) := by decide +kernel
theorem dX1_setting_10 : decode cX1_setting 10 = .ok (.dup, 1) := by decide +kernel
theorem dX1_setting_11 : decode cX1_setting 11 = .ok (.ldc 59, 2) := by decide +kernel
theorem dX1_setting_13 : decode cX1_setting 13 = .ok (.invokespecial 44, 3) := by decide +kernel
theorem dX1_setting_16 : decode cX1_setting 16 = .ok (.athrow, 1) := by decide +kernel
theorem dX1_setting_17 : decode cX1_setting 17 = .ok (.aload_n 0, 1) := by decide +kernel
theorem dX1_setting_18 : decode cX1_setting 18 = .ok (.getfield 9, 3) := by decide +kernel
theorem dX1_setting_21 : decode cX1_setting 21 = .ok (.bipush 11, 2) := by decide +kernel
theorem dX1_setting_23 : decode cX1_setting 23 = .ok (.iload_n 1, 1) := by decide +kernel
theorem dX1_setting_24 : decode cX1_setting 24 = .ok (.iadd, 1) := by decide +kernel
theorem dX1_setting_25 : decode cX1_setting 25 = .ok (.iaload, 1) := by decide +kernel
theorem dX1_setting_26 : decode cX1_setting 26 = .ok (.ireturn, 1) := by decide +kernel
set_option maxRecDepth 20000 in
theorem ggX1_opensIn_X1_hoursToOpen : GoodIn wsX1_opensIn wsX1_hoursToOpen := goodIn_r _ [5, 6, 7, 8, 9, 10, 11, 12, 4, 13, 14, 15, 16, 17, 18, 19, 20, 21, 22, 23, 24, 25, 26, 27, 28, 29, 30, 31, 32, 33, 34, 35] (by decide +kernel) (by decide +kernel)
set_option maxRecDepth 20000 in
theorem gX1_opensIn_X1_hoursToOpen : GoodIn wsX1_opensIn (wsV RX1 112 RX1 yX1_hoursToOpen wsX1_hoursToOpen) := goodIn_app (goodIn_of _ (by decide +kernel)) ggX1_opensIn_X1_hoursToOpen
theorem dX1_opensIn_0 : decode cX1_opensIn 0 = .ok (.aload_n 0, 1) := by decide +kernel
theorem dX1_opensIn_1 : decode cX1_opensIn 1 = .ok (.iconst (-1), 1) := by decide +kernel
theorem dX1_opensIn_2 : decode cX1_opensIn 2 = .ok (.invokevirtual 112, 3) := by decide +kernel
theorem dX1_opensIn_5 : decode cX1_opensIn 5 = .ok (.ireturn, 1) := by decide +kernel
set_option maxRecDepth 20000 in
theorem ggX1_lateness_X1_isLocked : GoodIn wsX1_lateness wsX1_isLocked := goodIn_r _ [9, 10, 34, 35, 36, 37, 38, 39] (by decide +kernel) (by decide +kernel)
set_option maxRecDepth 20000 in
theorem gX1_lateness_X1_isLocked : GoodIn wsX1_lateness (wsV RX1 79 RX1 yX1_isLocked wsX1_isLocked) := goodIn_app (goodIn_of _ (by decide +kernel)) ggX1_lateness_X1_isLocked
set_option maxRecDepth 20000 in
theorem ggX1_lateness_X1_hoursToOpen : GoodIn wsX1_lateness wsX1_hoursToOpen := goodIn_r _ [14, 1, 2, 3, 4, 5, 6, 7, 8, 9, 10, 15, 16, 17, 18, 19, 20, 21, 22, 23, 24, 25, 26, 27, 28, 29, 34, 35, 36, 37, 38, 39] (by decide +kernel) (by decide +kernel)
set_option maxRecDepth 20000 in
theorem gX1_lateness_X1_hoursToOpen : GoodIn wsX1_lateness (wsV RX1 112 RX1 yX1_hoursToOpen wsX1_hoursToOpen) := goodIn_app (goodIn_of _ (by decide +kernel)) ggX1_lateness_X1_hoursToOpen
set_option maxRecDepth 20000 in
theorem ggX1_lateness_X1_latenessAfter : GoodIn wsX1_lateness wsX1_latenessAfter := goodIn_r _ [33, 10, 34, 35, 36, 37, 38, 39] (by decide +kernel) (by decide +kernel)
set_option maxRecDepth 20000 in
theorem gX1_lateness_X1_latenessAfter : GoodIn wsX1_lateness (wsV RX1 119 RX1 yX1_latenessAfter wsX1_latenessAfter) := goodIn_app (goodIn_of _ (by decide +kernel)) ggX1_lateness_X1_latenessAfter
theorem dX1_lateness_0 : decode cX1_lateness 0 = .ok (.aload_n 0, 1) := by decide +kernel
theorem dX1_lateness_1 : decode cX1_lateness 1 = .ok (.invokevirtual 79, 3) := by decide +kernel
theorem dX1_lateness_4 : decode cX1_lateness 4 = .ok (.ifCond .ne 5, 3) := by decide +kernel
theorem dX1_lateness_7 : decode cX1_lateness 7 = .ok (.iconst 0, 1) := by decide +kernel
theorem dX1_lateness_8 : decode cX1_lateness 8 = .ok (.ireturn, 1) := by decide +kernel
theorem dX1_lateness_9 : decode cX1_lateness 9 = .ok (.aload_n 0, 1) := by decide +kernel
theorem dX1_lateness_10 : decode cX1_lateness 10 = .ok (.iconst (-1), 1) := by decide +kernel
theorem dX1_lateness_11 : decode cX1_lateness 11 = .ok (.invokevirtual 112, 3) := by decide +kernel
theorem dX1_lateness_14 : decode cX1_lateness 14 = .ok (.istore_n 1, 1) := by decide +kernel
theorem dX1_lateness_15 : decode cX1_lateness 15 = .ok (.iload_n 1, 1) := by decide +kernel
theorem dX1_lateness_16 : decode cX1_lateness 16 = .ok (.iconst (-1), 1) := by decide +kernel
theorem dX1_lateness_17 : decode cX1_lateness 17 = .ok (.if_icmp .ne 9, 3) := by decide +kernel
theorem dX1_lateness_20 : decode cX1_lateness 20 = .ok (.sipush 1000, 3) := by decide +kernel
theorem dX1_lateness_23 : decode cX1_lateness 23 = .ok (.goto 12, 3) := by decide +kernel
theorem dX1_lateness_26 : decode cX1_lateness 26 = .ok (.aload_n 0, 1) := by decide +kernel
theorem dX1_lateness_27 : decode cX1_lateness 27 = .ok (.iload_n 1, 1) := by decide +kernel
theorem dX1_lateness_28 : decode cX1_lateness 28 = .ok (.iconst 1, 1) := by decide +kernel
theorem dX1_lateness_29 : decode cX1_lateness 29 = .ok (.invokestatic 179, 3) := by decide +kernel
theorem dX1_lateness_32 : decode cX1_lateness 32 = .ok (.invokevirtual 119, 3) := by decide +kernel
theorem dX1_lateness_35 : decode cX1_lateness 35 = .ok (.ireturn, 1) := by decide +kernel
set_option maxRecDepth 20000 in
theorem ggX1_keyMovement_X1_hoursToOpen : GoodIn wsX1_keyMovement wsX1_hoursToOpen := goodIn_r _ [5, 6, 7, 8, 9, 10, 11, 12, 4, 13, 14, 15, 16, 17, 18, 19, 20, 21, 22, 23, 24, 25, 26, 27, 28, 29, 30, 31, 32, 33, 34, 35] (by decide +kernel) (by decide +kernel)
set_option maxRecDepth 20000 in
theorem gX1_keyMovement_X1_hoursToOpen : GoodIn wsX1_keyMovement (wsV RX1 112 RX1 yX1_hoursToOpen wsX1_hoursToOpen) := goodIn_app (goodIn_of _ (by decide +kernel)) ggX1_keyMovement_X1_hoursToOpen
theorem dX1_keyMovement_0 : decode cX1_keyMovement 0 = .ok (.aload_n 0, 1) := by decide +kernel
theorem dX1_keyMovement_1 : decode cX1_keyMovement 1 = .ok (.iconst (-1), 1) := by decide +kernel
theorem dX1_keyMovement_2 : decode cX1_keyMovement 2 = .ok (.invokevirtual 112, 3) := by decide +kernel
theorem dX1_keyMovement_5 : decode cX1_keyMovement 5 = .ok (.istore_n 1, 1) := by decide +kernel
theorem dX1_keyMovement_6 : decode cX1_keyMovement 6 = .ok (.iconst 0, 1) := by decide +kernel
theorem dX1_keyMovement_7 : decode cX1_keyMovement 7 = .ok (.istore_n 2, 1) := by decide +kernel
theorem dX1_keyMovement_8 : decode cX1_keyMovement 8 = .ok (.iload_n 2, 1) := by decide +kernel
theorem dX1_keyMovement_9 : decode cX1_keyMovement 9 = .ok (.iconst 3, 1) := by decide +kernel
theorem dX1_keyMovement_10 : decode cX1_keyMovement 10 = .ok (.if_icmp .ge 20, 3) := by decide +kernel
theorem dX1_keyMovement_13 : decode cX1_keyMovement 13 = .ok (.aload_n 0, 1) := by decide +kernel
theorem dX1_keyMovement_14 : decode cX1_keyMovement 14 = .ok (.iload_n 2, 1) := by decide +kernel
theorem dX1_keyMovement_15 : decode cX1_keyMovement 15 = .ok (.invokevirtual 112, 3) := by decide +kernel
theorem dX1_keyMovement_18 : decode cX1_keyMovement 18 = .ok (.iload_n 1, 1) := by decide +kernel
theorem dX1_keyMovement_19 : decode cX1_keyMovement 19 = .ok (.if_icmp .eq 5, 3) := by decide +kernel
theorem dX1_keyMovement_22 : decode cX1_keyMovement 22 = .ok (.iload_n 2, 1) := by decide +kernel
theorem dX1_keyMovement_23 : decode cX1_keyMovement 23 = .ok (.ireturn, 1) := by decide +kernel
theorem dX1_keyMovement_24 : decode cX1_keyMovement 24 = .ok (.iinc 2 1, 3) := by decide +kernel
theorem dX1_keyMovement_27 : decode cX1_keyMovement 27 = .ok (.goto (-19), 3) := by decide +kernel
theorem dX1_keyMovement_30 : decode cX1_keyMovement 30 = .ok (.iconst (-1), 1) := by decide +kernel
theorem dX1_keyMovement_31 : decode cX1_keyMovement 31 = .ok (.ireturn, 1) := by decide +kernel
set_option maxRecDepth 20000 in
theorem ggX1_rightWinding_X1_isMovement : GoodIn wsX1_rightWinding wsX1_isMovement := goodIn_r _ [6] (by decide +kernel) (by decide +kernel)
set_option maxRecDepth 20000 in
theorem gX1_rightWinding_X1_isMovement : GoodIn wsX1_rightWinding (va_wsS RX1 69 yX1_isMovement wsX1_isMovement) := goodIn_app (goodIn_of _ (by decide +kernel)) ggX1_rightWinding_X1_isMovement
set_option maxRecDepth 20000 in
theorem ggX1_rightWinding_X1_hoursToWind : GoodIn wsX1_rightWinding wsX1_hoursToWind := goodIn_r _ [10, 11, 12, 13, 14, 5, 15, 16, 17, 18, 19, 20, 21, 22, 23, 24, 25, 26, 27, 28, 29, 30, 31, 32, 33, 34, 35, 36, 37, 38, 39, 40, 41, 42] (by decide +kernel) (by decide +kernel)
set_option maxRecDepth 20000 in
theorem gX1_rightWinding_X1_hoursToWind : GoodIn wsX1_rightWinding (wsV RX1 184 RX1 yX1_hoursToWind wsX1_hoursToWind) := goodIn_app (goodIn_of _ (by decide +kernel)) ggX1_rightWinding_X1_hoursToWind
theorem dX1_rightWinding_0 : decode cX1_rightWinding 0 = .ok (.iload_n 1, 1) := by decide +kernel
theorem dX1_rightWinding_1 : decode cX1_rightWinding 1 = .ok (.invokestatic 69, 3) := by decide +kernel
theorem dX1_rightWinding_4 : decode cX1_rightWinding 4 = .ok (.ifCond .ne 13, 3) := by decide +kernel
theorem dX1_rightWinding_7 : decode cX1_rightWinding 7 = .ok (.new 40, 3) := by decide +kernel
theorem dX1_rightWinding_10 : decode cX1_rightWinding 10 = .ok (.dup, 1) := by decide +kernel
theorem dX1_rightWinding_11 : decode cX1_rightWinding 11 = .ok (.ldc 72, 2) := by decide +kernel
theorem dX1_rightWinding_13 : decode cX1_rightWinding 13 = .ok (.invokespecial 44, 3) := by decide +kernel
theorem dX1_rightWinding_16 : decode cX1_rightWinding 16 = .ok (.athrow, 1) := by decide +kernel
theorem dX1_rightWinding_17 : decode cX1_rightWinding 17 = .ok (.aload_n 0, 1) := by decide +kernel
theorem dX1_rightWinding_18 : decode cX1_rightWinding 18 = .ok (.iload_n 1, 1) := by decide +kernel
theorem dX1_rightWinding_19 : decode cX1_rightWinding 19 = .ok (.invokevirtual 184, 3) := by decide +kernel
theorem dX1_rightWinding_22 : decode cX1_rightWinding 22 = .ok (.ireturn, 1) := by decide +kernel
theorem dX1_punctuality_0 : decode cX1_punctuality 0 = .ok (.aload_n 0, 1) := by decide +kernel
theorem dX1_punctuality_1 : decode cX1_punctuality 1 = .ok (.getfield 9, 3) := by decide +kernel
theorem dX1_punctuality_4 : decode cX1_punctuality 4 = .ok (.bipush 6, 2) := by decide +kernel
theorem dX1_punctuality_6 : decode cX1_punctuality 6 = .ok (.iaload, 1) := by decide +kernel
theorem dX1_punctuality_7 : decode cX1_punctuality 7 = .ok (.aload_n 0, 1) := by decide +kernel
theorem dX1_punctuality_8 : decode cX1_punctuality 8 = .ok (.getfield 9, 3) := by decide +kernel
theorem dX1_punctuality_11 : decode cX1_punctuality 11 = .ok (.bipush 10, 2) := by decide +kernel
theorem dX1_punctuality_13 : decode cX1_punctuality 13 = .ok (.iaload, 1) := by decide +kernel
theorem dX1_punctuality_14 : decode cX1_punctuality 14 = .ok (.iadd, 1) := by decide +kernel
theorem dX1_punctuality_15 : decode cX1_punctuality 15 = .ok (.istore_n 1, 1) := by decide +kernel
theorem dX1_punctuality_16 : decode cX1_punctuality 16 = .ok (.iload_n 1, 1) := by decide +kernel
theorem dX1_punctuality_17 : decode cX1_punctuality 17 = .ok (.ifCond .ne 7, 3) := by decide +kernel
theorem dX1_punctuality_20 : decode cX1_punctuality 20 = .ok (.dconst 1, 1) := by decide +kernel
theorem dX1_punctuality_21 : decode cX1_punctuality 21 = .ok (.goto 14, 3) := by decide +kernel
theorem dX1_punctuality_24 : decode cX1_punctuality 24 = .ok (.aload_n 0, 1) := by decide +kernel
theorem dX1_punctuality_25 : decode cX1_punctuality 25 = .ok (.getfield 9, 3) := by decide +kernel
theorem dX1_punctuality_28 : decode cX1_punctuality 28 = .ok (.bipush 7, 2) := by decide +kernel
theorem dX1_punctuality_30 : decode cX1_punctuality 30 = .ok (.iaload, 1) := by decide +kernel
theorem dX1_punctuality_31 : decode cX1_punctuality 31 = .ok (.i2d, 1) := by decide +kernel
theorem dX1_punctuality_32 : decode cX1_punctuality 32 = .ok (.iload_n 1, 1) := by decide +kernel
theorem dX1_punctuality_33 : decode cX1_punctuality 33 = .ok (.i2d, 1) := by decide +kernel
theorem dX1_punctuality_34 : decode cX1_punctuality 34 = .ok (.ddiv, 1) := by decide +kernel
theorem dX1_punctuality_35 : decode cX1_punctuality 35 = .ok (.dreturn, 1) := by decide +kernel
theorem dX1_isDay_0 : decode cX1_isDay 0 = .ok (.iload_n 0, 1) := by decide +kernel
theorem dX1_isDay_1 : decode cX1_isDay 1 = .ok (.ifCond .lt 13, 3) := by decide +kernel
theorem dX1_isDay_4 : decode cX1_isDay 4 = .ok (.iload_n 0, 1) := by decide +kernel
theorem dX1_isDay_5 : decode cX1_isDay 5 = .ok (.bipush 7, 2) := by decide +kernel
theorem dX1_isDay_7 : decode cX1_isDay 7 = .ok (.if_icmp .ge 7, 3) := by decide +kernel
theorem dX1_isDay_10 : decode cX1_isDay 10 = .ok (.iconst 1, 1) := by decide +kernel
theorem dX1_isDay_11 : decode cX1_isDay 11 = .ok (.goto 4, 3) := by decide +kernel
theorem dX1_isDay_14 : decode cX1_isDay 14 = .ok (.iconst 0, 1) := by decide +kernel
theorem dX1_isDay_15 : decode cX1_isDay 15 = .ok (.ireturn, 1) := by decide +kernel
theorem dX1_isSetting_0 : decode cX1_isSetting 0 = .ok (.iload_n 0, 1) := by decide +kernel
theorem dX1_isSetting_1 : decode cX1_isSetting 1 = .ok (.ifCond .lt 12, 3) := by decide +kernel
theorem dX1_isSetting_4 : decode cX1_isSetting 4 = .ok (.iload_n 0, 1) := by decide +kernel
theorem dX1_isSetting_5 : decode cX1_isSetting 5 = .ok (.iconst 3, 1) := by decide +kernel
theorem dX1_isSetting_6 : decode cX1_isSetting 6 = .ok (.if_icmp .ge 7, 3) := by decide +kernel
theorem dX1_isSetting_9 : decode cX1_isSetting 9 = .ok (.iconst 1, 1) := by decide +kernel
theorem dX1_isSetting_10 : decode cX1_isSetting 10 = .ok (.goto 4, 3) := by decide +kernel
theorem dX1_isSetting_13 : decode cX1_isSetting 13 = .ok (.iconst 0, 1) := by decide +kernel
theorem dX1_isSetting_14 : decode cX1_isSetting 14 = .ok (.ireturn, 1) := by decide +kernel
theorem dX1_isMovement_0 : decode cX1_isMovement 0 = .ok (.iload_n 0, 1) := by decide +kernel
theorem dX1_isMovement_1 : decode cX1_isMovement 1 = .ok (.ifCond .lt 12, 3) := by decide +kernel
theorem dX1_isMovement_4 : decode cX1_isMovement 4 = .ok (.iload_n 0, 1) := by decide +kernel
theorem dX1_isMovement_5 : decode cX1_isMovement 5 = .ok (.iconst 3, 1) := by decide +kernel
theorem dX1_isMovement_6 : decode cX1_isMovement 6 = .ok (.if_icmp .ge 7, 3) := by decide +kernel
theorem dX1_isMovement_9 : decode cX1_isMovement 9 = .ok (.iconst 1, 1) := by decide +kernel
theorem dX1_isMovement_10 : decode cX1_isMovement 10 = .ok (.goto 4, 3) := by decide +kernel
theorem dX1_isMovement_13 : decode cX1_isMovement 13 = .ok (.iconst 0, 1) := by decide +kernel
theorem dX1_isMovement_14 : decode cX1_isMovement 14 = .ok (.ireturn, 1) := by decide +kernel
theorem dX1_areWindingHours_0 : decode cX1_areWindingHours 0 = .ok (.iload_n 0, 1) := by decide +kernel
theorem dX1_areWindingHours_1 : decode cX1_areWindingHours 1 = .ok (.iconst 1, 1) := by decide +kernel
theorem dX1_areWindingHours_2 : decode cX1_areWindingHours 2 = .ok (.if_icmp .lt 14, 3) := by decide +kernel
theorem dX1_areWindingHours_5 : decode cX1_areWindingHours 5 = .ok (.iload_n 0, 1) := by decide +kernel
theorem dX1_areWindingHours_6 : decode cX1_areWindingHours 6 = .ok (.sipush 200, 3) := by decide +kernel
theorem dX1_areWindingHours_9 : decode cX1_areWindingHours 9 = .ok (.if_icmp .gt 7, 3) := by decide +kernel
theorem dX1_areWindingHours_12 : decode cX1_areWindingHours 12 = .ok (.iconst 1, 1) := by decide +kernel
theorem dX1_areWindingHours_13 : decode cX1_areWindingHours 13 = .ok (.goto 4, 3) := by decide +kernel
theorem dX1_areWindingHours_16 : decode cX1_areWindingHours 16 = .ok (.iconst 0, 1) := by decide +kernel
theorem dX1_areWindingHours_17 : decode cX1_areWindingHours 17 = .ok (.ireturn, 1) := by decide +kernel
theorem dX1_isLostHour_0 : decode cX1_isLostHour 0 = .ok (.iload_n 1, 1) := by decide +kernel
theorem dX1_isLostHour_1 : decode cX1_isLostHour 1 = .ok (.ifCond .le 13, 3) := by decide +kernel
theorem dX1_isLostHour_4 : decode cX1_isLostHour 4 = .ok (.iload_n 0, 1) := by decide +kernel
theorem dX1_isLostHour_5 : decode cX1_isLostHour 5 = .ok (.iload_n 1, 1) := by decide +kernel
theorem dX1_isLostHour_6 : decode cX1_isLostHour 6 = .ok (.irem, 1) := by decide +kernel
theorem dX1_isLostHour_7 : decode cX1_isLostHour 7 = .ok (.ifCond .ne 7, 3) := by decide +kernel
theorem dX1_isLostHour_10 : decode cX1_isLostHour 10 = .ok (.iconst 1, 1) := by decide +kernel
theorem dX1_isLostHour_11 : decode cX1_isLostHour 11 = .ok (.goto 4, 3) := by decide +kernel
theorem dX1_isLostHour_14 : decode cX1_isLostHour 14 = .ok (.iconst 0, 1) := by decide +kernel
theorem dX1_isLostHour_15 : decode cX1_isLostHour 15 = .ok (.ireturn, 1) := by decide +kernel
set_option maxRecDepth 20000 in
theorem ggX1_change_X1_save : GoodIn wsX1_change wsX1_save := goodIn_r _ [6, 7, 8, 9, 10, 11, 12, 1, 13, 14, 15, 16, 17, 18] (by decide +kernel) (by decide +kernel)
set_option maxRecDepth 20000 in
theorem gX1_change_X1_save : GoodIn wsX1_change (wsV RX1 103 RX1 yX1_save wsX1_save) := goodIn_app (goodIn_of _ (by decide +kernel)) ggX1_change_X1_save
theorem dX1_change_0 : decode cX1_change 0 = .ok (.aload_n 0, 1) := by decide +kernel
theorem dX1_change_1 : decode cX1_change 1 = .ok (.invokevirtual 103, 3) := by decide +kernel
theorem dX1_change_4 : decode cX1_change 4 = .ok (.aload_n 0, 1) := by decide +kernel
theorem dX1_change_5 : decode cX1_change 5 = .ok (.getfield 9, 3) := by decide +kernel
theorem dX1_change_8 : decode cX1_change 8 = .ok (.iload_n 1, 1) := by decide +kernel
theorem dX1_change_9 : decode cX1_change 9 = .ok (.iaload, 1) := by decide +kernel
theorem dX1_change_10 : decode cX1_change 10 = .ok (.istore_n 3, 1) := by decide +kernel
theorem dX1_change_11 : decode cX1_change 11 = .ok (.aload_n 0, 1) := by decide +kernel
theorem dX1_change_12 : decode cX1_change 12 = .ok (.getfield 9, 3) := by decide +kernel
theorem dX1_change_15 : decode cX1_change 15 = .ok (.iload_n 1, 1) := by decide +kernel
theorem dX1_change_16 : decode cX1_change 16 = .ok (.iload_n 2, 1) := by decide +kernel
theorem dX1_change_17 : decode cX1_change 17 = .ok (.iastore, 1) := by decide +kernel
theorem dX1_change_18 : decode cX1_change 18 = .ok (.iload_n 3, 1) := by decide +kernel
theorem dX1_change_19 : decode cX1_change 19 = .ok (.ireturn, 1) := by decide +kernel
theorem dX1_save_0 : decode cX1_save 0 = .ok (.aload_n 0, 1) := by decide +kernel
theorem dX1_save_1 : decode cX1_save 1 = .ok (.getfield 16, 3) := by decide +kernel
theorem dX1_save_4 : decode cX1_save 4 = .ok (.bipush 6, 2) := by decide +kernel
theorem dX1_save_6 : decode cX1_save 6 = .ok (.if_icmp .lt 25, 3) := by decide +kernel
theorem dX1_save_9 : decode cX1_save 9 = .ok (.aload_n 0, 1) := by decide +kernel
theorem dX1_save_10 : decode cX1_save 10 = .ok (.getfield 13, 3) := by decide +kernel
theorem dX1_save_13 : decode cX1_save 13 = .ok (.bipush 33, 2) := by decide +kernel
theorem dX1_save_15 : decode cX1_save 15 = .ok (.aload_n 0, 1) := by decide +kernel
theorem dX1_save_16 : decode cX1_save 16 = .ok (.getfield 13, 3) := by decide +kernel
theorem dX1_save_19 : decode cX1_save 19 = .ok (.iconst 0, 1) := by decide +kernel
theorem dX1_save_20 : decode cX1_save 20 = .ok (.sipush 165, 3) := by decide +kernel
theorem dX1_save_23 : decode cX1_save 23 = .ok (.invokestatic 163, 3) := by decide +kernel
theorem dX1_save_26 : decode cX1_save 26 = .ok (.aload_n 0, 1) := by decide +kernel
theorem dX1_save_27 : decode cX1_save 27 = .ok (.iconst 5, 1) := by decide +kernel
theorem dX1_save_28 : decode cX1_save 28 = .ok (.putfield 16, 3) := by decide +kernel
theorem dX1_save_31 : decode cX1_save 31 = .ok (.aload_n 0, 1) := by decide +kernel
theorem dX1_save_32 : decode cX1_save 32 = .ok (.getfield 9, 3) := by decide +kernel
theorem dX1_save_35 : decode cX1_save 35 = .ok (.iconst 0, 1) := by decide +kernel
theorem dX1_save_36 : decode cX1_save 36 = .ok (.aload_n 0, 1) := by decide +kernel
theorem dX1_save_37 : decode cX1_save 37 = .ok (.getfield 13, 3) := by decide +kernel
theorem dX1_save_40 : decode cX1_save 40 = .ok (.aload_n 0, 1) := by decide +kernel
theorem dX1_save_41 : decode cX1_save 41 = .ok (.getfield 16, 3) := by decide +kernel
theorem dX1_save_44 : decode cX1_save 44 = .ok (.bipush 33, 2) := by decide +kernel
theorem dX1_save_46 : decode cX1_save 46 = .ok (.imul, 1) := by decide +kernel
theorem dX1_save_47 : decode cX1_save 47 = .ok (.bipush 33, 2) := by decide +kernel
theorem dX1_save_49 : decode cX1_save 49 = .ok (.invokestatic 163, 3) := by decide +kernel
theorem dX1_save_52 : decode cX1_save 52 = .ok (.aload_n 0, 1) := by decide +kernel
theorem dX1_save_53 : decode cX1_save 53 = .ok (.dup, 1) := by decide +kernel
theorem dX1_save_54 : decode cX1_save 54 = .ok (.getfield 16, 3) := by decide +kernel
theorem dX1_save_57 : decode cX1_save 57 = .ok (.iconst 1, 1) := by decide +kernel
theorem dX1_save_58 : decode cX1_save 58 = .ok (.iadd, 1) := by decide +kernel
theorem dX1_save_59 : decode cX1_save 59 = .ok (.putfield 16, 3) := by decide +kernel
theorem dX1_save_62 : decode cX1_save 62 = .ok (.return_, 1) := by decide +kernel
theorem dX1_today_0 : decode cX1_today 0 = .ok (.aload_n 0, 1) := by decide +kernel
theorem dX1_today_1 : decode cX1_today 1 = .ok (.getfield 9, 3) := by decide +kernel
theorem dX1_today_4 : decode cX1_today 4 = .ok (.iconst 0, 1) := by decide +kernel
theorem dX1_today_5 : decode cX1_today 5 = .ok (.iaload, 1) := by decide +kernel
theorem dX1_today_6 : decode cX1_today 6 = .ok (.bipush 24, 2) := by decide +kernel
theorem dX1_today_8 : decode cX1_today 8 = .ok (.idiv, 1) := by decide +kernel
theorem dX1_today_9 : decode cX1_today 9 = .ok (.bipush 7, 2) := by decide +kernel
theorem dX1_today_11 : decode cX1_today 11 = .ok (.irem, 1) := by decide +kernel
theorem dX1_today_12 : decode cX1_today 12 = .ok (.ireturn, 1) := by decide +kernel
theorem dX1_timeOfDay_0 : decode cX1_timeOfDay 0 = .ok (.aload_n 0, 1) := by decide +kernel
theorem dX1_timeOfDay_1 : decode cX1_timeOfDay 1 = .ok (.getfield 9, 3) := by decide +kernel
theorem dX1_timeOfDay_4 : decode cX1_timeOfDay 4 = .ok (.iconst 0, 1) := by decide +kernel
theorem dX1_timeOfDay_5 : decode cX1_timeOfDay 5 = .ok (.iaload, 1) := by decide +kernel
theorem dX1_timeOfDay_6 : decode cX1_timeOfDay 6 = .ok (.bipush 24, 2) := by decide +kernel
theorem dX1_timeOfDay_8 : decode cX1_timeOfDay 8 = .ok (.irem, 1) := by decide +kernel
theorem dX1_timeOfDay_9 : decode cX1_timeOfDay 9 = .ok (.ireturn, 1) := by decide +kernel
set_option maxRecDepth 20000 in
theorem ggX1_hoursToOpening_X1_today : GoodIn wsX1_hoursToOpening wsX1_today := goodIn_r _ [6, 1, 11, 12, 13, 14, 15, 16] (by decide +kernel) (by decide +kernel)
set_option maxRecDepth 20000 in
theorem gX1_hoursToOpening_X1_today : GoodIn wsX1_hoursToOpening (wsV RX1 214 RX1 yX1_today wsX1_today) := goodIn_app (goodIn_of _ (by decide +kernel)) ggX1_hoursToOpening_X1_today
set_option maxRecDepth 20000 in
theorem ggX1_hoursToOpening_X1_timeOfDay : GoodIn wsX1_hoursToOpening wsX1_timeOfDay := goodIn_r _ [10, 1, 11, 12, 13, 14, 15, 16] (by decide +kernel) (by decide +kernel)
set_option maxRecDepth 20000 in
theorem gX1_hoursToOpening_X1_timeOfDay : GoodIn wsX1_hoursToOpening (wsV RX1 217 RX1 yX1_timeOfDay wsX1_timeOfDay) := goodIn_app (goodIn_of _ (by decide +kernel)) ggX1_hoursToOpening_X1_timeOfDay
theorem dX1_hoursToOpening_0 : decode cX1_hoursToOpening 0 = .ok (.iconst 0, 1) := by decide +kernel
theorem dX1_hoursToOpening_1 : decode cX1_hoursToOpening 1 = .ok (.istore_n 1, 1) := by decide +kernel
theorem dX1_hoursToOpening_2 : decode cX1_hoursToOpening 2 = .ok (.iload_n 1, 1) := by decide +kernel
theorem dX1_hoursToOpening_3 : decode cX1_hoursToOpening 3 = .ok (.bipush 7, 2) := by decide +kernel
theorem dX1_hoursToOpening_5 : decode cX1_hoursToOpening 5 = .ok (.if_icmp .gt 50, 3) := by decide +kernel
theorem dX1_hoursToOpening_8 : decode cX1_hoursToOpening 8 = .ok (.aload_n 0, 1) := by decide +kernel
theorem dX1_hoursToOpening_9 : decode cX1_hoursToOpening 9 = .ok (.getfield 9, 3) := by decide +kernel
theorem dX1_hoursToOpening_12 : decode cX1_hoursToOpening 12 = .ok (.bipush 14, 2) := by decide +kernel
theorem dX1_hoursToOpening_14 : decode cX1_hoursToOpening 14 = .ok (.aload_n 0, 1) := by decide +kernel
theorem dX1_hoursToOpening_15 : decode cX1_hoursToOpening 15 = .ok (.invokevirtual 214, 3) := by decide +kernel
theorem dX1_hoursToOpening_18 : decode cX1_hoursToOpening 18 = .ok (.iload_n 1, 1) := by decide +kernel
theorem dX1_hoursToOpening_19 : decode cX1_hoursToOpening 19 = .ok (.iadd, 1) := by decide +kernel
theorem dX1_hoursToOpening_20 : decode cX1_hoursToOpening 20 = .ok (.bipush 7, 2) := by decide +kernel
theorem dX1_hoursToOpening_22 : decode cX1_hoursToOpening 22 = .ok (.irem, 1) := by decide +kernel
theorem dX1_hoursToOpening_23 : decode cX1_hoursToOpening 23 = .ok (.iadd, 1) := by decide +kernel
theorem dX1_hoursToOpening_24 : decode cX1_hoursToOpening 24 = .ok (.iaload, 1) := by decide +kernel
theorem dX1_hoursToOpening_25 : decode cX1_hoursToOpening 25 = .ok (.istore_n 2, 1) := by decide +kernel
theorem dX1_hoursToOpening_26 : decode cX1_hoursToOpening 26 = .ok (.iload_n 1, 1) := by decide +kernel
theorem dX1_hoursToOpening_27 : decode cX1_hoursToOpening 27 = .ok (.bipush 24, 2) := by decide +kernel
theorem dX1_hoursToOpening_29 : decode cX1_hoursToOpening 29 = .ok (.imul, 1) := by decide +kernel
theorem dX1_hoursToOpening_30 : decode cX1_hoursToOpening 30 = .ok (.iload_n 2, 1) := by decide +kernel
theorem dX1_hoursToOpening_31 : decode cX1_hoursToOpening 31 = .ok (.iadd, 1) := by decide +kernel
theorem dX1_hoursToOpening_32 : decode cX1_hoursToOpening 32 = .ok (.aload_n 0, 1) := by decide +kernel
theorem dX1_hoursToOpening_33 : decode cX1_hoursToOpening 33 = .ok (.invokevirtual 217, 3) := by decide +kernel
theorem dX1_hoursToOpening_36 : decode cX1_hoursToOpening 36 = .ok (.isub, 1) := by decide +kernel
theorem dX1_hoursToOpening_37 : decode cX1_hoursToOpening 37 = .ok (.istore_n 3, 1) := by decide +kernel
theorem dX1_hoursToOpening_38 : decode cX1_hoursToOpening 38 = .ok (.iload_n 2, 1) := by decide +kernel
theorem dX1_hoursToOpening_39 : decode cX1_hoursToOpening 39 = .ok (.iconst (-1), 1) := by decide +kernel
theorem dX1_hoursToOpening_40 : decode cX1_hoursToOpening 40 = .ok (.if_icmp .eq 9, 3) := by decide +kernel
theorem dX1_hoursToOpening_43 : decode cX1_hoursToOpening 43 = .ok (.iload_n 3, 1) := by decide +kernel
theorem dX1_hoursToOpening_44 : decode cX1_hoursToOpening 44 = .ok (.ifCond .le 5, 3) := by decide +kernel
theorem dX1_hoursToOpening_47 : decode cX1_hoursToOpening 47 = .ok (.iload_n 3, 1) := by decide +kernel
theorem dX1_hoursToOpening_48 : decode cX1_hoursToOpening 48 = .ok (.ireturn, 1) := by decide +kernel
theorem dX1_hoursToOpening_49 : decode cX1_hoursToOpening 49 = .ok (.iinc 1 1, 3) := by decide +kernel
theorem dX1_hoursToOpening_52 : decode cX1_hoursToOpening 52 = .ok (.goto (-50), 3) := by decide +kernel
theorem dX1_hoursToOpening_55 : decode cX1_hoursToOpening 55 = .ok (.iconst (-1), 1) := by decide +kernel
theorem dX1_hoursToOpening_56 : decode cX1_hoursToOpening 56 = .ok (.ireturn, 1) := by decide +kernel
theorem dX1_place_0 : decode cX1_place 0 = .ok (.bipush 21, 2) := by decide +kernel
theorem dX1_place_2 : decode cX1_place 2 = .ok (.iload_n 0, 1) := by decide +kernel
theorem dX1_place_3 : decode cX1_place 3 = .ok (.iconst 4, 1) := by decide +kernel
theorem dX1_place_4 : decode cX1_place 4 = .ok (.imul, 1) := by decide +kernel
theorem dX1_place_5 : decode cX1_place 5 = .ok (.iadd, 1) := by decide +kernel
theorem dX1_place_6 : decode cX1_place 6 = .ok (.iload_n 1, 1) := by decide +kernel
theorem dX1_place_7 : decode cX1_place 7 = .ok (.iadd, 1) := by decide +kernel
theorem dX1_place_8 : decode cX1_place 8 = .ok (.ireturn, 1) := by decide +kernel
set_option maxRecDepth 20000 in
theorem ggX1_goes_X1_place : GoodIn wsX1_goes wsX1_place := goodIn_r _ [5] (by decide +kernel) (by decide +kernel)
set_option maxRecDepth 20000 in
theorem gX1_goes_X1_place : GoodIn wsX1_goes (va_wsS RX1 91 yX1_place wsX1_place) := goodIn_app (goodIn_of _ (by decide +kernel)) ggX1_goes_X1_place
theorem dX1_goes_0 : decode cX1_goes 0 = .ok (.aload_n 0, 1) := by decide +kernel
theorem dX1_goes_1 : decode cX1_goes 1 = .ok (.getfield 9, 3) := by decide +kernel
theorem dX1_goes_4 : decode cX1_goes 4 = .ok (.iload_n 1, 1) := by decide +kernel
theorem dX1_goes_5 : decode cX1_goes 5 = .ok (.iconst 1, 1) := by decide +kernel
theorem dX1_goes_6 : decode cX1_goes 6 = .ok (.invokestatic 91, 3) := by decide +kernel
theorem dX1_goes_9 : decode cX1_goes 9 = .ok (.iaload, 1) := by decide +kernel
theorem dX1_goes_10 : decode cX1_goes 10 = .ok (.ifCond .eq 7, 3) := by decide +kernel
theorem dX1_goes_13 : decode cX1_goes 13 = .ok (.iconst 1, 1) := by decide +kernel
theorem dX1_goes_14 : decode cX1_goes 14 = .ok (.goto 4, 3) := by decide +kernel
theorem dX1_goes_17 : decode cX1_goes 17 = .ok (.iconst 0, 1) := by decide +kernel
theorem dX1_goes_18 : decode cX1_goes 18 = .ok (.ireturn, 1) := by decide +kernel
set_option maxRecDepth 20000 in
theorem ggX1_property_X1_place : GoodIn wsX1_property wsX1_place := goodIn_r _ [5] (by decide +kernel) (by decide +kernel)
set_option maxRecDepth 20000 in
theorem gX1_property_X1_place : GoodIn wsX1_property (va_wsS RX1 91 yX1_place wsX1_place) := goodIn_app (goodIn_of _ (by decide +kernel)) ggX1_property_X1_place
set_option maxRecDepth 20000 in
theorem ggX1_property_X1_goes : GoodIn wsX1_property wsX1_goes := goodIn_r _ [9, 1, 2, 3, 4, 5, 14, 15, 16, 17, 18, 19] (by decide +kernel) (by decide +kernel)
set_option maxRecDepth 20000 in
theorem gX1_property_X1_goes : GoodIn wsX1_property (wsV RX1 83 RX1 yX1_goes wsX1_goes) := goodIn_app (goodIn_of _ (by decide +kernel)) ggX1_property_X1_goes
set_option maxRecDepth 20000 in
theorem ggX1_property_X1_hoursToRunDown : GoodIn wsX1_property wsX1_hoursToRunDown := goodIn_r _ [13, 1, 2, 3, 4, 5, 14, 15, 16, 17, 18, 19] (by decide +kernel) (by decide +kernel)
set_option maxRecDepth 20000 in
theorem gX1_property_X1_hoursToRunDown : GoodIn wsX1_property (wsV RX1 220 RX1 yX1_hoursToRunDown wsX1_hoursToRunDown) := goodIn_app (goodIn_of _ (by decide +kernel)) ggX1_property_X1_hoursToRunDown
theorem dX1_property_0 : decode cX1_property 0 = .ok (.iload_n 2, 1) := by decide +kernel
end
section
theorem dX1_property_1 : decode cX1_property 1 = .ok (.iconst 4, 1) := by decide +kernel
theorem dX1_property_2 : decode cX1_property 2 = .ok (.if_icmp .ne 29, 3) := by decide +kernel
theorem dX1_property_5 : decode cX1_property 5 = .ok (.aload_n 0, 1) := by decide +kernel
theorem dX1_property_6 : decode cX1_property 6 = .ok (.getfield 9, 3) := by decide +kernel
theorem dX1_property_9 : decode cX1_property 9 = .ok (.iload_n 1, 1) := by decide +kernel
theorem dX1_property_10 : decode cX1_property 10 = .ok (.iconst 3, 1) := by decide +kernel
theorem dX1_property_11 : decode cX1_property 11 = .ok (.invokestatic 91, 3) := by decide +kernel
theorem dX1_property_14 : decode cX1_property 14 = .ok (.iaload, 1) := by decide +kernel
theorem dX1_property_15 : decode cX1_property 15 = .ok (.aload_n 0, 1) := by decide +kernel
theorem dX1_property_16 : decode cX1_property 16 = .ok (.getfield 9, 3) := by decide +kernel
theorem dX1_property_19 : decode cX1_property 19 = .ok (.bipush 13, 2) := by decide +kernel
theorem dX1_property_21 : decode cX1_property 21 = .ok (.iaload, 1) := by decide +kernel
theorem dX1_property_22 : decode cX1_property 22 = .ok (.if_icmp .lt 7, 3) := by decide +kernel
theorem dX1_property_25 : decode cX1_property 25 = .ok (.iconst 1, 1) := by decide +kernel
theorem dX1_property_26 : decode cX1_property 26 = .ok (.goto 4, 3) := by decide +kernel
theorem dX1_property_29 : decode cX1_property 29 = .ok (.iconst 0, 1) := by decide +kernel
theorem dX1_property_30 : decode cX1_property 30 = .ok (.ireturn, 1) := by decide +kernel
theorem dX1_property_31 : decode cX1_property 31 = .ok (.iload_n 2, 1) := by decide +kernel
theorem dX1_property_32 : decode cX1_property 32 = .ok (.iconst 5, 1) := by decide +kernel
theorem dX1_property_33 : decode cX1_property 33 = .ok (.if_icmp .ne 14, 3) := by decide +kernel
theorem dX1_property_36 : decode cX1_property 36 = .ok (.aload_n 0, 1) := by decide +kernel
theorem dX1_property_37 : decode cX1_property 37 = .ok (.iload_n 1, 1) := by decide +kernel
theorem dX1_property_38 : decode cX1_property 38 = .ok (.aload_n 0, 1) := by decide +kernel
theorem dX1_property_39 : decode cX1_property 39 = .ok (.iload_n 1, 1) := by decide +kernel
theorem dX1_property_40 : decode cX1_property 40 = .ok (.invokevirtual 83, 3) := by decide +kernel
theorem dX1_property_43 : decode cX1_property 43 = .ok (.invokevirtual 220, 3) := by decide +kernel
theorem dX1_property_46 : decode cX1_property 46 = .ok (.ireturn, 1) := by decide +kernel
theorem dX1_property_47 : decode cX1_property 47 = .ok (.aload_n 0, 1) := by decide +kernel
theorem dX1_property_48 : decode cX1_property 48 = .ok (.getfield 9, 3) := by decide +kernel
theorem dX1_property_51 : decode cX1_property 51 = .ok (.iload_n 1, 1) := by decide +kernel
theorem dX1_property_52 : decode cX1_property 52 = .ok (.iload_n 2, 1) := by decide +kernel
theorem dX1_property_53 : decode cX1_property 53 = .ok (.invokestatic 91, 3) := by decide +kernel
theorem dX1_property_56 : decode cX1_property 56 = .ok (.iaload, 1) := by decide +kernel
theorem dX1_property_57 : decode cX1_property 57 = .ok (.ireturn, 1) := by decide +kernel
set_option maxRecDepth 20000 in
theorem ggX1_someMovementRuns_X1_goes : GoodIn wsX1_someMovementRuns wsX1_goes := goodIn_r _ [6, 1, 7, 8, 5, 9, 10, 11, 12, 13, 14, 15] (by decide +kernel) (by decide +kernel)
set_option maxRecDepth 20000 in
theorem gX1_someMovementRuns_X1_goes : GoodIn wsX1_someMovementRuns (wsV RX1 83 RX1 yX1_goes wsX1_goes) := goodIn_app (goodIn_of _ (by decide +kernel)) ggX1_someMovementRuns_X1_goes
set_option maxRecDepth 20000 in
theorem ggX1_someMovementRuns_X1_place : GoodIn wsX1_someMovementRuns wsX1_place := goodIn_r _ [9] (by decide +kernel) (by decide +kernel)
set_option maxRecDepth 20000 in
theorem gX1_someMovementRuns_X1_place : GoodIn wsX1_someMovementRuns (va_wsS RX1 91 yX1_place wsX1_place) := goodIn_app (goodIn_of _ (by decide +kernel)) ggX1_someMovementRuns_X1_place
theorem dX1_someMovementRuns_0 : decode cX1_someMovementRuns 0 = .ok (.iconst 0, 1) := by decide +kernel
theorem dX1_someMovementRuns_1 : decode cX1_someMovementRuns 1 = .ok (.istore_n 1, 1) := by decide +kernel
theorem dX1_someMovementRuns_2 : decode cX1_someMovementRuns 2 = .ok (.iload_n 1, 1) := by decide +kernel
theorem dX1_someMovementRuns_3 : decode cX1_someMovementRuns 3 = .ok (.iconst 3, 1) := by decide +kernel
theorem dX1_someMovementRuns_4 : decode cX1_someMovementRuns 4 = .ok (.if_icmp .ge 32, 3) := by decide +kernel
theorem dX1_someMovementRuns_7 : decode cX1_someMovementRuns 7 = .ok (.aload_n 0, 1) := by decide +kernel
theorem dX1_someMovementRuns_8 : decode cX1_someMovementRuns 8 = .ok (.iload_n 1, 1) := by decide +kernel
theorem dX1_someMovementRuns_9 : decode cX1_someMovementRuns 9 = .ok (.invokevirtual 83, 3) := by decide +kernel
theorem dX1_someMovementRuns_12 : decode cX1_someMovementRuns 12 = .ok (.ifCond .eq 18, 3) := by decide +kernel
theorem dX1_someMovementRuns_15 : decode cX1_someMovementRuns 15 = .ok (.aload_n 0, 1) := by decide +kernel
theorem dX1_someMovementRuns_16 : decode cX1_someMovementRuns 16 = .ok (.getfield 9, 3) := by decide +kernel
theorem dX1_someMovementRuns_19 : decode cX1_someMovementRuns 19 = .ok (.iload_n 1, 1) := by decide +kernel
theorem dX1_someMovementRuns_20 : decode cX1_someMovementRuns 20 = .ok (.iconst 0, 1) := by decide +kernel
theorem dX1_someMovementRuns_21 : decode cX1_someMovementRuns 21 = .ok (.invokestatic 91, 3) := by decide +kernel
theorem dX1_someMovementRuns_24 : decode cX1_someMovementRuns 24 = .ok (.iaload, 1) := by decide +kernel
theorem dX1_someMovementRuns_25 : decode cX1_someMovementRuns 25 = .ok (.ifCond .le 5, 3) := by decide +kernel
theorem dX1_someMovementRuns_28 : decode cX1_someMovementRuns 28 = .ok (.iconst 1, 1) := by decide +kernel
theorem dX1_someMovementRuns_29 : decode cX1_someMovementRuns 29 = .ok (.ireturn, 1) := by decide +kernel
theorem dX1_someMovementRuns_30 : decode cX1_someMovementRuns 30 = .ok (.iinc 1 1, 3) := by decide +kernel
theorem dX1_someMovementRuns_33 : decode cX1_someMovementRuns 33 = .ok (.goto (-31), 3) := by decide +kernel
theorem dX1_someMovementRuns_36 : decode cX1_someMovementRuns 36 = .ok (.iconst 0, 1) := by decide +kernel
theorem dX1_someMovementRuns_37 : decode cX1_someMovementRuns 37 = .ok (.ireturn, 1) := by decide +kernel
set_option maxRecDepth 20000 in
theorem ggX1_movementsRunDown_X1_place : GoodIn wsX1_movementsRunDown wsX1_place := goodIn_r _ [5] (by decide +kernel) (by decide +kernel)
set_option maxRecDepth 20000 in
theorem gX1_movementsRunDown_X1_place : GoodIn wsX1_movementsRunDown (va_wsS RX1 91 yX1_place wsX1_place) := goodIn_app (goodIn_of _ (by decide +kernel)) ggX1_movementsRunDown_X1_place
theorem dX1_movementsRunDown_0 : decode cX1_movementsRunDown 0 = .ok (.iconst 0, 1) := by decide +kernel
theorem dX1_movementsRunDown_1 : decode cX1_movementsRunDown 1 = .ok (.istore_n 1, 1) := by decide +kernel
theorem dX1_movementsRunDown_2 : decode cX1_movementsRunDown 2 = .ok (.iconst 0, 1) := by decide +kernel
theorem dX1_movementsRunDown_3 : decode cX1_movementsRunDown 3 = .ok (.istore_n 2, 1) := by decide +kernel
theorem dX1_movementsRunDown_4 : decode cX1_movementsRunDown 4 = .ok (.iload_n 2, 1) := by decide +kernel
theorem dX1_movementsRunDown_5 : decode cX1_movementsRunDown 5 = .ok (.iconst 3, 1) := by decide +kernel
theorem dX1_movementsRunDown_6 : decode cX1_movementsRunDown 6 = .ok (.if_icmp .ge 25, 3) := by decide +kernel
theorem dX1_movementsRunDown_9 : decode cX1_movementsRunDown 9 = .ok (.aload_n 0, 1) := by decide +kernel
theorem dX1_movementsRunDown_10 : decode cX1_movementsRunDown 10 = .ok (.getfield 9, 3) := by decide +kernel
theorem dX1_movementsRunDown_13 : decode cX1_movementsRunDown 13 = .ok (.iload_n 2, 1) := by decide +kernel
theorem dX1_movementsRunDown_14 : decode cX1_movementsRunDown 14 = .ok (.iconst 0, 1) := by decide +kernel
theorem dX1_movementsRunDown_15 : decode cX1_movementsRunDown 15 = .ok (.invokestatic 91, 3) := by decide +kernel
theorem dX1_movementsRunDown_18 : decode cX1_movementsRunDown 18 = .ok (.iaload, 1) := by decide +kernel
theorem dX1_movementsRunDown_19 : decode cX1_movementsRunDown 19 = .ok (.ifCond .ne 6, 3) := by decide +kernel
theorem dX1_movementsRunDown_22 : decode cX1_movementsRunDown 22 = .ok (.iinc 1 1, 3) := by decide +kernel
theorem dX1_movementsRunDown_25 : decode cX1_movementsRunDown 25 = .ok (.iinc 2 1, 3) := by decide +kernel
theorem dX1_movementsRunDown_28 : decode cX1_movementsRunDown 28 = .ok (.goto (-24), 3) := by decide +kernel
theorem dX1_movementsRunDown_31 : decode cX1_movementsRunDown 31 = .ok (.iload_n 1, 1) := by decide +kernel
theorem dX1_movementsRunDown_32 : decode cX1_movementsRunDown 32 = .ok (.ireturn, 1) := by decide +kernel
set_option maxRecDepth 20000 in
theorem ggX1_hoursToRunDown_X1_place : GoodIn wsX1_hoursToRunDown wsX1_place := goodIn_r _ [5] (by decide +kernel) (by decide +kernel)
set_option maxRecDepth 20000 in
theorem gX1_hoursToRunDown_X1_place : GoodIn wsX1_hoursToRunDown (va_wsS RX1 91 yX1_place wsX1_place) := goodIn_app (goodIn_of _ (by decide +kernel)) ggX1_hoursToRunDown_X1_place
theorem dX1_hoursToRunDown_0 : decode cX1_hoursToRunDown 0 = .ok (.aload_n 0, 1) := by decide +kernel
theorem dX1_hoursToRunDown_1 : decode cX1_hoursToRunDown 1 = .ok (.getfield 9, 3) := by decide +kernel
theorem dX1_hoursToRunDown_4 : decode cX1_hoursToRunDown 4 = .ok (.iload_n 1, 1) := by decide +kernel
theorem dX1_hoursToRunDown_5 : decode cX1_hoursToRunDown 5 = .ok (.iconst 0, 1) := by decide +kernel
theorem dX1_hoursToRunDown_6 : decode cX1_hoursToRunDown 6 = .ok (.invokestatic 91, 3) := by decide +kernel
theorem dX1_hoursToRunDown_9 : decode cX1_hoursToRunDown 9 = .ok (.iaload, 1) := by decide +kernel
theorem dX1_hoursToRunDown_10 : decode cX1_hoursToRunDown 10 = .ok (.istore_n 3, 1) := by decide +kernel
theorem dX1_hoursToRunDown_11 : decode cX1_hoursToRunDown 11 = .ok (.aload_n 0, 1) := by decide +kernel
theorem dX1_hoursToRunDown_12 : decode cX1_hoursToRunDown 12 = .ok (.getfield 9, 3) := by decide +kernel
theorem dX1_hoursToRunDown_15 : decode cX1_hoursToRunDown 15 = .ok (.iload_n 1, 1) := by decide +kernel
theorem dX1_hoursToRunDown_16 : decode cX1_hoursToRunDown 16 = .ok (.iconst 2, 1) := by decide +kernel
theorem dX1_hoursToRunDown_17 : decode cX1_hoursToRunDown 17 = .ok (.invokestatic 91, 3) := by decide +kernel
theorem dX1_hoursToRunDown_20 : decode cX1_hoursToRunDown 20 = .ok (.iaload, 1) := by decide +kernel
theorem dX1_hoursToRunDown_21 : decode cX1_hoursToRunDown 21 = .ok (.istore 4, 2) := by decide +kernel
theorem dX1_hoursToRunDown_23 : decode cX1_hoursToRunDown 23 = .ok (.iload_n 3, 1) := by decide +kernel
theorem dX1_hoursToRunDown_24 : decode cX1_hoursToRunDown 24 = .ok (.ifCond .ne 5, 3) := by decide +kernel
theorem dX1_hoursToRunDown_27 : decode cX1_hoursToRunDown 27 = .ok (.iconst 0, 1) := by decide +kernel
theorem dX1_hoursToRunDown_28 : decode cX1_hoursToRunDown 28 = .ok (.ireturn, 1) := by decide +kernel
theorem dX1_hoursToRunDown_29 : decode cX1_hoursToRunDown 29 = .ok (.iload_n 2, 1) := by decide +kernel
theorem dX1_hoursToRunDown_30 : decode cX1_hoursToRunDown 30 = .ok (.ifCond .eq 9, 3) := by decide +kernel
theorem dX1_hoursToRunDown_33 : decode cX1_hoursToRunDown 33 = .ok (.iload 4, 2) := by decide +kernel
theorem dX1_hoursToRunDown_35 : decode cX1_hoursToRunDown 35 = .ok (.iconst 1, 1) := by decide +kernel
theorem dX1_hoursToRunDown_36 : decode cX1_hoursToRunDown 36 = .ok (.if_icmp .ne 5, 3) := by decide +kernel
theorem dX1_hoursToRunDown_39 : decode cX1_hoursToRunDown 39 = .ok (.iconst (-1), 1) := by decide +kernel
theorem dX1_hoursToRunDown_40 : decode cX1_hoursToRunDown 40 = .ok (.ireturn, 1) := by decide +kernel
theorem dX1_hoursToRunDown_41 : decode cX1_hoursToRunDown 41 = .ok (.iload 4, 2) := by decide +kernel
theorem dX1_hoursToRunDown_43 : decode cX1_hoursToRunDown 43 = .ok (.ifCond .gt 5, 3) := by decide +kernel
theorem dX1_hoursToRunDown_46 : decode cX1_hoursToRunDown 46 = .ok (.iload_n 3, 1) := by decide +kernel
theorem dX1_hoursToRunDown_47 : decode cX1_hoursToRunDown 47 = .ok (.ireturn, 1) := by decide +kernel
theorem dX1_hoursToRunDown_48 : decode cX1_hoursToRunDown 48 = .ok (.aload_n 0, 1) := by decide +kernel
theorem dX1_hoursToRunDown_49 : decode cX1_hoursToRunDown 49 = .ok (.getfield 9, 3) := by decide +kernel
theorem dX1_hoursToRunDown_52 : decode cX1_hoursToRunDown 52 = .ok (.iload_n 1, 1) := by decide +kernel
theorem dX1_hoursToRunDown_53 : decode cX1_hoursToRunDown 53 = .ok (.iconst 3, 1) := by decide +kernel
theorem dX1_hoursToRunDown_54 : decode cX1_hoursToRunDown 54 = .ok (.invokestatic 91, 3) := by decide +kernel
theorem dX1_hoursToRunDown_57 : decode cX1_hoursToRunDown 57 = .ok (.iaload, 1) := by decide +kernel
theorem dX1_hoursToRunDown_58 : decode cX1_hoursToRunDown 58 = .ok (.iload 4, 2) := by decide +kernel
theorem dX1_hoursToRunDown_60 : decode cX1_hoursToRunDown 60 = .ok (.irem, 1) := by decide +kernel
theorem dX1_hoursToRunDown_61 : decode cX1_hoursToRunDown 61 = .ok (.istore 5, 2) := by decide +kernel
theorem dX1_hoursToRunDown_63 : decode cX1_hoursToRunDown 63 = .ok (.iload_n 3, 1) := by decide +kernel
theorem dX1_hoursToRunDown_64 : decode cX1_hoursToRunDown 64 = .ok (.iload 5, 2) := by decide +kernel
theorem dX1_hoursToRunDown_66 : decode cX1_hoursToRunDown 66 = .ok (.iload_n 3, 1) := by decide +kernel
theorem dX1_hoursToRunDown_67 : decode cX1_hoursToRunDown 67 = .ok (.iadd, 1) := by decide +kernel
theorem dX1_hoursToRunDown_68 : decode cX1_hoursToRunDown 68 = .ok (.iconst 1, 1) := by decide +kernel
theorem dX1_hoursToRunDown_69 : decode cX1_hoursToRunDown 69 = .ok (.isub, 1) := by decide +kernel
theorem dX1_hoursToRunDown_70 : decode cX1_hoursToRunDown 70 = .ok (.iload 4, 2) := by decide +kernel
theorem dX1_hoursToRunDown_72 : decode cX1_hoursToRunDown 72 = .ok (.iconst 1, 1) := by decide +kernel
theorem dX1_hoursToRunDown_73 : decode cX1_hoursToRunDown 73 = .ok (.isub, 1) := by decide +kernel
theorem dX1_hoursToRunDown_74 : decode cX1_hoursToRunDown 74 = .ok (.idiv, 1) := by decide +kernel
theorem dX1_hoursToRunDown_75 : decode cX1_hoursToRunDown 75 = .ok (.iadd, 1) := by decide +kernel
theorem dX1_hoursToRunDown_76 : decode cX1_hoursToRunDown 76 = .ok (.ireturn, 1) := by decide +kernel
set_option maxRecDepth 20000 in
theorem ggX1_hoursToWind_X1_hoursToOpening : GoodIn wsX1_hoursToWind wsX1_hoursToOpening := goodIn_r _ [6, 1, 7, 8, 9, 5, 10, 11, 12, 13, 14, 28, 29, 30, 31, 32, 33] (by decide +kernel) (by decide +kernel)
set_option maxRecDepth 20000 in
theorem gX1_hoursToWind_X1_hoursToOpening : GoodIn wsX1_hoursToWind (wsV RX1 106 RX1 yX1_hoursToOpening wsX1_hoursToOpening) := goodIn_app (goodIn_of _ (by decide +kernel)) ggX1_hoursToWind_X1_hoursToOpening
set_option maxRecDepth 20000 in
theorem ggX1_hoursToWind_X1_place : GoodIn wsX1_hoursToWind wsX1_place := goodIn_r _ [17] (by decide +kernel) (by decide +kernel)
set_option maxRecDepth 20000 in
theorem gX1_hoursToWind_X1_place : GoodIn wsX1_hoursToWind (va_wsS RX1 91 yX1_place wsX1_place) := goodIn_app (goodIn_of _ (by decide +kernel)) ggX1_hoursToWind_X1_place
set_option maxRecDepth 20000 in
theorem ggX1_hoursToWind_X1_goes : GoodIn wsX1_hoursToWind wsX1_goes := goodIn_r _ [21, 1, 15, 16, 5, 17, 28, 29, 30, 31, 32, 33] (by decide +kernel) (by decide +kernel)
set_option maxRecDepth 20000 in
theorem gX1_hoursToWind_X1_goes : GoodIn wsX1_hoursToWind (wsV RX1 83 RX1 yX1_goes wsX1_goes) := goodIn_app (goodIn_of _ (by decide +kernel)) ggX1_hoursToWind_X1_goes
set_option maxRecDepth 20000 in
theorem ggX1_hoursToWind_X1_isLostHour : GoodIn wsX1_hoursToWind wsX1_isLostHour := goodIn_r _ [24] (by decide +kernel) (by decide +kernel)
set_option maxRecDepth 20000 in
theorem gX1_hoursToWind_X1_isLostHour : GoodIn wsX1_hoursToWind (va_wsS RX1 224 yX1_isLostHour wsX1_isLostHour) := goodIn_app (goodIn_of _ (by decide +kernel)) ggX1_hoursToWind_X1_isLostHour
set_option maxRecDepth 20000 in
theorem ggX1_hoursToWind_X1_areWindingHours : GoodIn wsX1_hoursToWind wsX1_areWindingHours := goodIn_r _ [27] (by decide +kernel) (by decide +kernel)
set_option maxRecDepth 20000 in
theorem gX1_hoursToWind_X1_areWindingHours : GoodIn wsX1_hoursToWind (va_wsS RX1 74 yX1_areWindingHours wsX1_areWindingHours) := goodIn_app (goodIn_of _ (by decide +kernel)) ggX1_hoursToWind_X1_areWindingHours
theorem dX1_hoursToWind_0 : decode cX1_hoursToWind 0 = .ok (.aload_n 0, 1) := by decide +kernel
theorem dX1_hoursToWind_1 : decode cX1_hoursToWind 1 = .ok (.invokevirtual 106, 3) := by decide +kernel
theorem dX1_hoursToWind_4 : decode cX1_hoursToWind 4 = .ok (.istore_n 2, 1) := by decide +kernel
theorem dX1_hoursToWind_5 : decode cX1_hoursToWind 5 = .ok (.aload_n 0, 1) := by decide +kernel
theorem dX1_hoursToWind_6 : decode cX1_hoursToWind 6 = .ok (.getfield 9, 3) := by decide +kernel
theorem dX1_hoursToWind_9 : decode cX1_hoursToWind 9 = .ok (.iload_n 1, 1) := by decide +kernel
theorem dX1_hoursToWind_10 : decode cX1_hoursToWind 10 = .ok (.iconst 2, 1) := by decide +kernel
theorem dX1_hoursToWind_11 : decode cX1_hoursToWind 11 = .ok (.invokestatic 91, 3) := by decide +kernel
theorem dX1_hoursToWind_14 : decode cX1_hoursToWind 14 = .ok (.iaload, 1) := by decide +kernel
theorem dX1_hoursToWind_15 : decode cX1_hoursToWind 15 = .ok (.istore_n 3, 1) := by decide +kernel
theorem dX1_hoursToWind_16 : decode cX1_hoursToWind 16 = .ok (.aload_n 0, 1) := by decide +kernel
theorem dX1_hoursToWind_17 : decode cX1_hoursToWind 17 = .ok (.getfield 9, 3) := by decide +kernel
theorem dX1_hoursToWind_20 : decode cX1_hoursToWind 20 = .ok (.iload_n 1, 1) := by decide +kernel
theorem dX1_hoursToWind_21 : decode cX1_hoursToWind 21 = .ok (.iconst 3, 1) := by decide +kernel
theorem dX1_hoursToWind_22 : decode cX1_hoursToWind 22 = .ok (.invokestatic 91, 3) := by decide +kernel
theorem dX1_hoursToWind_25 : decode cX1_hoursToWind 25 = .ok (.iaload, 1) := by decide +kernel
theorem dX1_hoursToWind_26 : decode cX1_hoursToWind 26 = .ok (.istore 4, 2) := by decide +kernel
theorem dX1_hoursToWind_28 : decode cX1_hoursToWind 28 = .ok (.iload_n 2, 1) := by decide +kernel
theorem dX1_hoursToWind_29 : decode cX1_hoursToWind 29 = .ok (.iconst (-1), 1) := by decide +kernel
theorem dX1_hoursToWind_30 : decode cX1_hoursToWind 30 = .ok (.if_icmp .eq 22, 3) := by decide +kernel
theorem dX1_hoursToWind_33 : decode cX1_hoursToWind 33 = .ok (.aload_n 0, 1) := by decide +kernel
theorem dX1_hoursToWind_34 : decode cX1_hoursToWind 34 = .ok (.iload_n 1, 1) := by decide +kernel
theorem dX1_hoursToWind_35 : decode cX1_hoursToWind 35 = .ok (.invokevirtual 83, 3) := by decide +kernel
theorem dX1_hoursToWind_38 : decode cX1_hoursToWind 38 = .ok (.ifCond .eq 14, 3) := by decide +kernel
theorem dX1_hoursToWind_41 : decode cX1_hoursToWind 41 = .ok (.iload 4, 2) := by decide +kernel
theorem dX1_hoursToWind_43 : decode cX1_hoursToWind 43 = .ok (.iload_n 2, 1) := by decide +kernel
theorem dX1_hoursToWind_44 : decode cX1_hoursToWind 44 = .ok (.iadd, 1) := by decide +kernel
theorem dX1_hoursToWind_45 : decode cX1_hoursToWind 45 = .ok (.iload_n 3, 1) := by decide +kernel
theorem dX1_hoursToWind_46 : decode cX1_hoursToWind 46 = .ok (.invokestatic 224, 3) := by decide +kernel
theorem dX1_hoursToWind_49 : decode cX1_hoursToWind 49 = .ok (.ifCond .eq 5, 3) := by decide +kernel
theorem dX1_hoursToWind_52 : decode cX1_hoursToWind 52 = .ok (.iconst (-1), 1) := by decide +kernel
theorem dX1_hoursToWind_53 : decode cX1_hoursToWind 53 = .ok (.ireturn, 1) := by decide +kernel
theorem dX1_hoursToWind_54 : decode cX1_hoursToWind 54 = .ok (.iload_n 3, 1) := by decide +kernel
theorem dX1_hoursToWind_55 : decode cX1_hoursToWind 55 = .ok (.ifCond .gt 7, 3) := by decide +kernel
theorem dX1_hoursToWind_58 : decode cX1_hoursToWind 58 = .ok (.iconst 0, 1) := by decide +kernel
theorem dX1_hoursToWind_59 : decode cX1_hoursToWind 59 = .ok (.goto 14, 3) := by decide +kernel
theorem dX1_hoursToWind_62 : decode cX1_hoursToWind 62 = .ok (.iload 4, 2) := by decide +kernel
theorem dX1_hoursToWind_64 : decode cX1_hoursToWind 64 = .ok (.iload_n 2, 1) := by decide +kernel
theorem dX1_hoursToWind_65 : decode cX1_hoursToWind 65 = .ok (.iadd, 1) := by decide +kernel
theorem dX1_hoursToWind_66 : decode cX1_hoursToWind 66 = .ok (.iload_n 3, 1) := by decide +kernel
theorem dX1_hoursToWind_67 : decode cX1_hoursToWind 67 = .ok (.idiv, 1) := by decide +kernel
theorem dX1_hoursToWind_68 : decode cX1_hoursToWind 68 = .ok (.iload 4, 2) := by decide +kernel
theorem dX1_hoursToWind_70 : decode cX1_hoursToWind 70 = .ok (.iload_n 3, 1) := by decide +kernel
theorem dX1_hoursToWind_71 : decode cX1_hoursToWind 71 = .ok (.idiv, 1) := by decide +kernel
theorem dX1_hoursToWind_72 : decode cX1_hoursToWind 72 = .ok (.isub, 1) := by decide +kernel
theorem dX1_hoursToWind_73 : decode cX1_hoursToWind 73 = .ok (.istore 5, 2) := by decide +kernel
theorem dX1_hoursToWind_75 : decode cX1_hoursToWind 75 = .ok (.iload_n 2, 1) := by decide +kernel
theorem dX1_hoursToWind_76 : decode cX1_hoursToWind 76 = .ok (.iload 5, 2) := by decide +kernel
theorem dX1_hoursToWind_78 : decode cX1_hoursToWind 78 = .ok (.isub, 1) := by decide +kernel
theorem dX1_hoursToWind_79 : decode cX1_hoursToWind 79 = .ok (.invokestatic 74, 3) := by decide +kernel
theorem dX1_hoursToWind_82 : decode cX1_hoursToWind 82 = .ok (.ifCond .eq 10, 3) := by decide +kernel
theorem dX1_hoursToWind_85 : decode cX1_hoursToWind 85 = .ok (.iload_n 2, 1) := by decide +kernel
theorem dX1_hoursToWind_86 : decode cX1_hoursToWind 86 = .ok (.iload 5, 2) := by decide +kernel
theorem dX1_hoursToWind_88 : decode cX1_hoursToWind 88 = .ok (.isub, 1) := by decide +kernel
theorem dX1_hoursToWind_89 : decode cX1_hoursToWind 89 = .ok (.goto 4, 3) := by decide +kernel
theorem dX1_hoursToWind_92 : decode cX1_hoursToWind 92 = .ok (.iconst (-1), 1) := by decide +kernel
theorem dX1_hoursToWind_93 : decode cX1_hoursToWind 93 = .ok (.ireturn, 1) := by decide +kernel
theorem dX1_isLocked_0 : decode cX1_isLocked 0 = .ok (.aload_n 0, 1) := by decide +kernel
theorem dX1_isLocked_1 : decode cX1_isLocked 1 = .ok (.getfield 9, 3) := by decide +kernel
theorem dX1_isLocked_4 : decode cX1_isLocked 4 = .ok (.iconst 1, 1) := by decide +kernel
theorem dX1_isLocked_5 : decode cX1_isLocked 5 = .ok (.iaload, 1) := by decide +kernel
theorem dX1_isLocked_6 : decode cX1_isLocked 6 = .ok (.ifCond .eq 7, 3) := by decide +kernel
theorem dX1_isLocked_9 : decode cX1_isLocked 9 = .ok (.iconst 1, 1) := by decide +kernel
theorem dX1_isLocked_10 : decode cX1_isLocked 10 = .ok (.goto 4, 3) := by decide +kernel
theorem dX1_isLocked_13 : decode cX1_isLocked 13 = .ok (.iconst 0, 1) := by decide +kernel
theorem dX1_isLocked_14 : decode cX1_isLocked 14 = .ok (.ireturn, 1) := by decide +kernel
set_option maxRecDepth 20000 in
theorem ggX1_passHour_X1_isLocked : GoodIn wsX1_passHour wsX1_isLocked := goodIn_r _ [6, 1, 21, 22, 23, 24, 25, 26] (by decide +kernel) (by decide +kernel)
set_option maxRecDepth 20000 in
theorem gX1_passHour_X1_isLocked : GoodIn wsX1_passHour (wsV RX1 79 RX1 yX1_isLocked wsX1_isLocked) := goodIn_app (goodIn_of _ (by decide +kernel)) ggX1_passHour_X1_isLocked
set_option maxRecDepth 20000 in
theorem ggX1_passHour_X1_runHour : GoodIn wsX1_passHour wsX1_runHour := goodIn_r _ [10, 1, 11, 12, 13, 5, 14, 15, 16, 17, 18, 19, 20, 21, 22, 23, 24, 25, 26] (by decide +kernel) (by decide +kernel)
set_option maxRecDepth 20000 in
theorem gX1_passHour_X1_runHour : GoodIn wsX1_passHour (wsV RX1 228 RX1 yX1_runHour wsX1_runHour) := goodIn_app (goodIn_of _ (by decide +kernel)) ggX1_passHour_X1_runHour
theorem dX1_passHour_0 : decode cX1_passHour 0 = .ok (.aload_n 0, 1) := by decide +kernel
theorem dX1_passHour_1 : decode cX1_passHour 1 = .ok (.getfield 9, 3) := by decide +kernel
theorem dX1_passHour_4 : decode cX1_passHour 4 = .ok (.iconst 0, 1) := by decide +kernel
theorem dX1_passHour_5 : decode cX1_passHour 5 = .ok (.dup2, 1) := by decide +kernel
theorem dX1_passHour_6 : decode cX1_passHour 6 = .ok (.iaload, 1) := by decide +kernel
theorem dX1_passHour_7 : decode cX1_passHour 7 = .ok (.iconst 1, 1) := by decide +kernel
theorem dX1_passHour_8 : decode cX1_passHour 8 = .ok (.iadd, 1) := by decide +kernel
theorem dX1_passHour_9 : decode cX1_passHour 9 = .ok (.iastore, 1) := by decide +kernel
theorem dX1_passHour_10 : decode cX1_passHour 10 = .ok (.aload_n 0, 1) := by decide +kernel
theorem dX1_passHour_11 : decode cX1_passHour 11 = .ok (.invokevirtual 79, 3) := by decide +kernel
theorem dX1_passHour_14 : decode cX1_passHour 14 = .ok (.ifCond .eq 21, 3) := by decide +kernel
theorem dX1_passHour_17 : decode cX1_passHour 17 = .ok (.iconst 0, 1) := by decide +kernel
theorem dX1_passHour_18 : decode cX1_passHour 18 = .ok (.istore_n 1, 1) := by decide +kernel
theorem dX1_passHour_19 : decode cX1_passHour 19 = .ok (.iload_n 1, 1) := by decide +kernel
theorem dX1_passHour_20 : decode cX1_passHour 20 = .ok (.iconst 3, 1) := by decide +kernel
theorem dX1_passHour_21 : decode cX1_passHour 21 = .ok (.if_icmp .ge 14, 3) := by decide +kernel
theorem dX1_passHour_24 : decode cX1_passHour 24 = .ok (.aload_n 0, 1) := by decide +kernel
theorem dX1_passHour_25 : decode cX1_passHour 25 = .ok (.iload_n 1, 1) := by decide +kernel
theorem dX1_passHour_26 : decode cX1_passHour 26 = .ok (.invokevirtual 228, 3) := by decide +kernel
theorem dX1_passHour_29 : decode cX1_passHour 29 = .ok (.iinc 1 1, 3) := by decide +kernel
theorem dX1_passHour_32 : decode cX1_passHour 32 = .ok (.goto (-13), 3) := by decide +kernel
theorem dX1_passHour_35 : decode cX1_passHour 35 = .ok (.return_, 1) := by decide +kernel
set_option maxRecDepth 20000 in
theorem ggX1_runHour_X1_goes : GoodIn wsX1_runHour wsX1_goes := goodIn_r _ [6, 1, 7, 8, 5, 9, 13, 14, 15, 16, 17, 18] (by decide +kernel) (by decide +kernel)
set_option maxRecDepth 20000 in
theorem gX1_runHour_X1_goes : GoodIn wsX1_runHour (wsV RX1 83 RX1 yX1_goes wsX1_goes) := goodIn_app (goodIn_of _ (by decide +kernel)) ggX1_runHour_X1_goes
set_option maxRecDepth 20000 in
theorem ggX1_runHour_X1_place : GoodIn wsX1_runHour wsX1_place := goodIn_r _ [9] (by decide +kernel) (by decide +kernel)
set_option maxRecDepth 20000 in
theorem gX1_runHour_X1_place : GoodIn wsX1_runHour (va_wsS RX1 91 yX1_place wsX1_place) := goodIn_app (goodIn_of _ (by decide +kernel)) ggX1_runHour_X1_place
set_option maxRecDepth 20000 in
theorem ggX1_runHour_X1_isLostHour : GoodIn wsX1_runHour wsX1_isLostHour := goodIn_r _ [12] (by decide +kernel) (by decide +kernel)
set_option maxRecDepth 20000 in
theorem gX1_runHour_X1_isLostHour : GoodIn wsX1_runHour (va_wsS RX1 224 yX1_isLostHour wsX1_isLostHour) := goodIn_app (goodIn_of _ (by decide +kernel)) ggX1_runHour_X1_isLostHour
theorem dX1_runHour_0 : decode cX1_runHour 0 = .ok (.aload_n 0, 1) := by decide +kernel
theorem dX1_runHour_1 : decode cX1_runHour 1 = .ok (.iload_n 1, 1) := by decide +kernel
theorem dX1_runHour_2 : decode cX1_runHour 2 = .ok (.invokevirtual 83, 3) := by decide +kernel
theorem dX1_runHour_5 : decode cX1_runHour 5 = .ok (.ifCond .eq 16, 3) := by decide +kernel
theorem dX1_runHour_8 : decode cX1_runHour 8 = .ok (.aload_n 0, 1) := by decide +kernel
theorem dX1_runHour_9 : decode cX1_runHour 9 = .ok (.getfield 9, 3) := by decide +kernel
theorem dX1_runHour_12 : decode cX1_runHour 12 = .ok (.iload_n 1, 1) := by decide +kernel
theorem dX1_runHour_13 : decode cX1_runHour 13 = .ok (.iconst 0, 1) := by decide +kernel
theorem dX1_runHour_14 : decode cX1_runHour 14 = .ok (.invokestatic 91, 3) := by decide +kernel
theorem dX1_runHour_17 : decode cX1_runHour 17 = .ok (.iaload, 1) := by decide +kernel
theorem dX1_runHour_18 : decode cX1_runHour 18 = .ok (.ifCond .ne 4, 3) := by decide +kernel
theorem dX1_runHour_21 : decode cX1_runHour 21 = .ok (.return_, 1) := by decide +kernel
theorem dX1_runHour_22 : decode cX1_runHour 22 = .ok (.aload_n 0, 1) := by decide +kernel
theorem dX1_runHour_23 : decode cX1_runHour 23 = .ok (.getfield 9, 3) := by decide +kernel
theorem dX1_runHour_26 : decode cX1_runHour 26 = .ok (.iload_n 1, 1) := by decide +kernel
theorem dX1_runHour_27 : decode cX1_runHour 27 = .ok (.iconst 3, 1) := by decide +kernel
theorem dX1_runHour_28 : decode cX1_runHour 28 = .ok (.invokestatic 91, 3) := by decide +kernel
theorem dX1_runHour_31 : decode cX1_runHour 31 = .ok (.dup2, 1) := by decide +kernel
theorem dX1_runHour_32 : decode cX1_runHour 32 = .ok (.iaload, 1) := by decide +kernel
theorem dX1_runHour_33 : decode cX1_runHour 33 = .ok (.iconst 1, 1) := by decide +kernel
theorem dX1_runHour_34 : decode cX1_runHour 34 = .ok (.iadd, 1) := by decide +kernel
theorem dX1_runHour_35 : decode cX1_runHour 35 = .ok (.iastore, 1) := by decide +kernel
theorem dX1_runHour_36 : decode cX1_runHour 36 = .ok (.aload_n 0, 1) := by decide +kernel
theorem dX1_runHour_37 : decode cX1_runHour 37 = .ok (.getfield 9, 3) := by decide +kernel
theorem dX1_runHour_40 : decode cX1_runHour 40 = .ok (.iload_n 1, 1) := by decide +kernel
theorem dX1_runHour_41 : decode cX1_runHour 41 = .ok (.iconst 3, 1) := by decide +kernel
theorem dX1_runHour_42 : decode cX1_runHour 42 = .ok (.invokestatic 91, 3) := by decide +kernel
theorem dX1_runHour_45 : decode cX1_runHour 45 = .ok (.iaload, 1) := by decide +kernel
theorem dX1_runHour_46 : decode cX1_runHour 46 = .ok (.aload_n 0, 1) := by decide +kernel
theorem dX1_runHour_47 : decode cX1_runHour 47 = .ok (.getfield 9, 3) := by decide +kernel
theorem dX1_runHour_50 : decode cX1_runHour 50 = .ok (.iload_n 1, 1) := by decide +kernel
theorem dX1_runHour_51 : decode cX1_runHour 51 = .ok (.iconst 2, 1) := by decide +kernel
theorem dX1_runHour_52 : decode cX1_runHour 52 = .ok (.invokestatic 91, 3) := by decide +kernel
theorem dX1_runHour_55 : decode cX1_runHour 55 = .ok (.iaload, 1) := by decide +kernel
theorem dX1_runHour_56 : decode cX1_runHour 56 = .ok (.invokestatic 224, 3) := by decide +kernel
theorem dX1_runHour_59 : decode cX1_runHour 59 = .ok (.ifCond .ne 17, 3) := by decide +kernel
theorem dX1_runHour_62 : decode cX1_runHour 62 = .ok (.aload_n 0, 1) := by decide +kernel
theorem dX1_runHour_63 : decode cX1_runHour 63 = .ok (.getfield 9, 3) := by decide +kernel
theorem dX1_runHour_66 : decode cX1_runHour 66 = .ok (.iload_n 1, 1) := by decide +kernel
theorem dX1_runHour_67 : decode cX1_runHour 67 = .ok (.iconst 0, 1) := by decide +kernel
theorem dX1_runHour_68 : decode cX1_runHour 68 = .ok (.invokestatic 91, 3) := by decide +kernel
theorem dX1_runHour_71 : decode cX1_runHour 71 = .ok (.dup2, 1) := by decide +kernel
theorem dX1_runHour_72 : decode cX1_runHour 72 = .ok (.iaload, 1) := by decide +kernel
theorem dX1_runHour_73 : decode cX1_runHour 73 = .ok (.iconst 1, 1) := by decide +kernel
theorem dX1_runHour_74 : decode cX1_runHour 74 = .ok (.isub, 1) := by decide +kernel
theorem dX1_runHour_75 : decode cX1_runHour 75 = .ok (.iastore, 1) := by decide +kernel
theorem dX1_runHour_76 : decode cX1_runHour 76 = .ok (.return_, 1) := by decide +kernel
theorem dX1_hoursToWait_0 : decode cX1_hoursToWait 0 = .ok (.aload_n 0, 1) := by decide +kernel
theorem dX1_hoursToWait_1 : decode cX1_hoursToWait 1 = .ok (.getfield 9, 3) := by decide +kernel
theorem dX1_hoursToWait_4 : decode cX1_hoursToWait 4 = .ok (.iconst 4, 1) := by decide +kernel
theorem dX1_hoursToWait_5 : decode cX1_hoursToWait 5 = .ok (.iaload, 1) := by decide +kernel
theorem dX1_hoursToWait_6 : decode cX1_hoursToWait 6 = .ok (.aload_n 0, 1) := by decide +kernel
theorem dX1_hoursToWait_7 : decode cX1_hoursToWait 7 = .ok (.getfield 9, 3) := by decide +kernel
theorem dX1_hoursToWait_10 : decode cX1_hoursToWait 10 = .ok (.iconst 0, 1) := by decide +kernel
theorem dX1_hoursToWait_11 : decode cX1_hoursToWait 11 = .ok (.iaload, 1) := by decide +kernel
theorem dX1_hoursToWait_12 : decode cX1_hoursToWait 12 = .ok (.isub, 1) := by decide +kernel
theorem dX1_hoursToWait_13 : decode cX1_hoursToWait 13 = .ok (.iconst 0, 1) := by decide +kernel
theorem dX1_hoursToWait_14 : decode cX1_hoursToWait 14 = .ok (.invokestatic 179, 3) := by decide +kernel
theorem dX1_hoursToWait_17 : decode cX1_hoursToWait 17 = .ok (.ireturn, 1) := by decide +kernel
set_option maxRecDepth 20000 in
theorem ggX1_hoursToOpen_X1_isLocked : GoodIn wsX1_hoursToOpen wsX1_isLocked := goodIn_r _ [9, 10, 26, 27, 28, 29, 30, 31] (by decide +kernel) (by decide +kernel)
set_option maxRecDepth 20000 in
theorem gX1_hoursToOpen_X1_isLocked : GoodIn wsX1_hoursToOpen (wsV RX1 79 RX1 yX1_isLocked wsX1_isLocked) := goodIn_app (goodIn_of _ (by decide +kernel)) ggX1_hoursToOpen_X1_isLocked
set_option maxRecDepth 20000 in
theorem ggX1_hoursToOpen_X1_goes : GoodIn wsX1_hoursToOpen wsX1_goes := goodIn_r _ [14, 10, 15, 16, 8, 17, 26, 27, 28, 29, 30, 31] (by decide +kernel) (by decide +kernel)
set_option maxRecDepth 20000 in
theorem gX1_hoursToOpen_X1_goes : GoodIn wsX1_hoursToOpen (wsV RX1 83 RX1 yX1_goes wsX1_goes) := goodIn_app (goodIn_of _ (by decide +kernel)) ggX1_hoursToOpen_X1_goes
set_option maxRecDepth 20000 in
theorem ggX1_hoursToOpen_X1_hoursToRunDown : GoodIn wsX1_hoursToOpen wsX1_hoursToRunDown := goodIn_r _ [21, 10, 15, 16, 8, 17, 26, 27, 28, 29, 30, 31] (by decide +kernel) (by decide +kernel)
set_option maxRecDepth 20000 in
theorem gX1_hoursToOpen_X1_hoursToRunDown : GoodIn wsX1_hoursToOpen (wsV RX1 220 RX1 yX1_hoursToRunDown wsX1_hoursToRunDown) := goodIn_app (goodIn_of _ (by decide +kernel)) ggX1_hoursToOpen_X1_hoursToRunDown
set_option maxRecDepth 20000 in
theorem ggX1_hoursToOpen_X1_hoursToWait : GoodIn wsX1_hoursToOpen wsX1_hoursToWait := goodIn_r _ [25, 10, 1, 2, 3, 4, 26, 27, 28, 29, 30, 31] (by decide +kernel) (by decide +kernel)
set_option maxRecDepth 20000 in
theorem gX1_hoursToOpen_X1_hoursToWait : GoodIn wsX1_hoursToOpen (wsV RX1 231 RX1 yX1_hoursToWait wsX1_hoursToWait) := goodIn_app (goodIn_of _ (by decide +kernel)) ggX1_hoursToOpen_X1_hoursToWait
theorem dX1_hoursToOpen_0 : decode cX1_hoursToOpen 0 = .ok (.aload_n 0, 1) := by decide +kernel
theorem dX1_hoursToOpen_1 : decode cX1_hoursToOpen 1 = .ok (.invokevirtual 79, 3) := by decide +kernel
theorem dX1_hoursToOpen_4 : decode cX1_hoursToOpen 4 = .ok (.ifCond .ne 5, 3) := by decide +kernel
theorem dX1_hoursToOpen_7 : decode cX1_hoursToOpen 7 = .ok (.iconst (-1), 1) := by decide +kernel
theorem dX1_hoursToOpen_8 : decode cX1_hoursToOpen 8 = .ok (.ireturn, 1) := by decide +kernel
theorem dX1_hoursToOpen_9 : decode cX1_hoursToOpen 9 = .ok (.iconst (-1), 1) := by decide +kernel
theorem dX1_hoursToOpen_10 : decode cX1_hoursToOpen 10 = .ok (.istore_n 2, 1) := by decide +kernel
theorem dX1_hoursToOpen_11 : decode cX1_hoursToOpen 11 = .ok (.iconst 0, 1) := by decide +kernel
theorem dX1_hoursToOpen_12 : decode cX1_hoursToOpen 12 = .ok (.istore_n 3, 1) := by decide +kernel
theorem dX1_hoursToOpen_13 : decode cX1_hoursToOpen 13 = .ok (.iload_n 3, 1) := by decide +kernel
theorem dX1_hoursToOpen_14 : decode cX1_hoursToOpen 14 = .ok (.iconst 3, 1) := by decide +kernel
theorem dX1_hoursToOpen_15 : decode cX1_hoursToOpen 15 = .ok (.if_icmp .ge 54, 3) := by decide +kernel
theorem dX1_hoursToOpen_18 : decode cX1_hoursToOpen 18 = .ok (.aload_n 0, 1) := by decide +kernel
theorem dX1_hoursToOpen_19 : decode cX1_hoursToOpen 19 = .ok (.iload_n 3, 1) := by decide +kernel
theorem dX1_hoursToOpen_20 : decode cX1_hoursToOpen 20 = .ok (.aload_n 0, 1) := by decide +kernel
theorem dX1_hoursToOpen_21 : decode cX1_hoursToOpen 21 = .ok (.iload_n 3, 1) := by decide +kernel
theorem dX1_hoursToOpen_22 : decode cX1_hoursToOpen 22 = .ok (.invokevirtual 83, 3) := by decide +kernel
theorem dX1_hoursToOpen_25 : decode cX1_hoursToOpen 25 = .ok (.ifCond .eq 12, 3) := by decide +kernel
theorem dX1_hoursToOpen_28 : decode cX1_hoursToOpen 28 = .ok (.iload_n 3, 1) := by decide +kernel
theorem dX1_hoursToOpen_29 : decode cX1_hoursToOpen 29 = .ok (.iload_n 1, 1) := by decide +kernel
theorem dX1_hoursToOpen_30 : decode cX1_hoursToOpen 30 = .ok (.if_icmp .eq 7, 3) := by decide +kernel
theorem dX1_hoursToOpen_33 : decode cX1_hoursToOpen 33 = .ok (.iconst 1, 1) := by decide +kernel
theorem dX1_hoursToOpen_34 : decode cX1_hoursToOpen 34 = .ok (.goto 4, 3) := by decide +kernel
theorem dX1_hoursToOpen_37 : decode cX1_hoursToOpen 37 = .ok (.iconst 0, 1) := by decide +kernel
theorem dX1_hoursToOpen_38 : decode cX1_hoursToOpen 38 = .ok (.invokevirtual 220, 3) := by decide +kernel
theorem dX1_hoursToOpen_41 : decode cX1_hoursToOpen 41 = .ok (.istore 4, 2) := by decide +kernel
theorem dX1_hoursToOpen_43 : decode cX1_hoursToOpen 43 = .ok (.iload 4, 2) := by decide +kernel
theorem dX1_hoursToOpen_45 : decode cX1_hoursToOpen 45 = .ok (.iconst (-1), 1) := by decide +kernel
theorem dX1_hoursToOpen_46 : decode cX1_hoursToOpen 46 = .ok (.if_icmp .eq 17, 3) := by decide +kernel
theorem dX1_hoursToOpen_49 : decode cX1_hoursToOpen 49 = .ok (.iload_n 2, 1) := by decide +kernel
theorem dX1_hoursToOpen_50 : decode cX1_hoursToOpen 50 = .ok (.iconst (-1), 1) := by decide +kernel
theorem dX1_hoursToOpen_51 : decode cX1_hoursToOpen 51 = .ok (.if_icmp .eq 9, 3) := by decide +kernel
theorem dX1_hoursToOpen_54 : decode cX1_hoursToOpen 54 = .ok (.iload 4, 2) := by decide +kernel
theorem dX1_hoursToOpen_56 : decode cX1_hoursToOpen 56 = .ok (.iload_n 2, 1) := by decide +kernel
theorem dX1_hoursToOpen_57 : decode cX1_hoursToOpen 57 = .ok (.if_icmp .ge 6, 3) := by decide +kernel
theorem dX1_hoursToOpen_60 : decode cX1_hoursToOpen 60 = .ok (.iload 4, 2) := by decide +kernel
theorem dX1_hoursToOpen_62 : decode cX1_hoursToOpen 62 = .ok (.istore_n 2, 1) := by decide +kernel
theorem dX1_hoursToOpen_63 : decode cX1_hoursToOpen 63 = .ok (.iinc 3 1, 3) := by decide +kernel
theorem dX1_hoursToOpen_66 : decode cX1_hoursToOpen 66 = .ok (.goto (-53), 3) := by decide +kernel
theorem dX1_hoursToOpen_69 : decode cX1_hoursToOpen 69 = .ok (.iload_n 2, 1) := by decide +kernel
theorem dX1_hoursToOpen_70 : decode cX1_hoursToOpen 70 = .ok (.iconst (-1), 1) := by decide +kernel
theorem dX1_hoursToOpen_71 : decode cX1_hoursToOpen 71 = .ok (.if_icmp .ne 7, 3) := by decide +kernel
theorem dX1_hoursToOpen_74 : decode cX1_hoursToOpen 74 = .ok (.iconst (-1), 1) := by decide +kernel
theorem dX1_hoursToOpen_75 : decode cX1_hoursToOpen 75 = .ok (.goto 11, 3) := by decide +kernel
theorem dX1_hoursToOpen_78 : decode cX1_hoursToOpen 78 = .ok (.iload_n 2, 1) := by decide +kernel
theorem dX1_hoursToOpen_79 : decode cX1_hoursToOpen 79 = .ok (.aload_n 0, 1) := by decide +kernel
theorem dX1_hoursToOpen_80 : decode cX1_hoursToOpen 80 = .ok (.invokevirtual 231, 3) := by decide +kernel
theorem dX1_hoursToOpen_83 : decode cX1_hoursToOpen 83 = .ok (.invokestatic 179, 3) := by decide +kernel
theorem dX1_hoursToOpen_86 : decode cX1_hoursToOpen 86 = .ok (.ireturn, 1) := by decide +kernel
theorem dX1_latenessAfter_0 : decode cX1_latenessAfter 0 = .ok (.aload_n 0, 1) := by decide +kernel
theorem dX1_latenessAfter_1 : decode cX1_latenessAfter 1 = .ok (.getfield 9, 3) := by decide +kernel
theorem dX1_latenessAfter_4 : decode cX1_latenessAfter 4 = .ok (.iconst 2, 1) := by decide +kernel
theorem dX1_latenessAfter_5 : decode cX1_latenessAfter 5 = .ok (.iaload, 1) := by decide +kernel
theorem dX1_latenessAfter_6 : decode cX1_latenessAfter 6 = .ok (.iconst (-1), 1) := by decide +kernel
theorem dX1_latenessAfter_7 : decode cX1_latenessAfter 7 = .ok (.if_icmp .ne 7, 3) := by decide +kernel
theorem dX1_latenessAfter_10 : decode cX1_latenessAfter 10 = .ok (.iconst 0, 1) := by decide +kernel
theorem dX1_latenessAfter_11 : decode cX1_latenessAfter 11 = .ok (.goto 18, 3) := by decide +kernel
theorem dX1_latenessAfter_14 : decode cX1_latenessAfter 14 = .ok (.aload_n 0, 1) := by decide +kernel
theorem dX1_latenessAfter_15 : decode cX1_latenessAfter 15 = .ok (.getfield 9, 3) := by decide +kernel
theorem dX1_latenessAfter_18 : decode cX1_latenessAfter 18 = .ok (.iconst 0, 1) := by decide +kernel
theorem dX1_latenessAfter_19 : decode cX1_latenessAfter 19 = .ok (.iaload, 1) := by decide +kernel
theorem dX1_latenessAfter_20 : decode cX1_latenessAfter 20 = .ok (.iload_n 1, 1) := by decide +kernel
theorem dX1_latenessAfter_21 : decode cX1_latenessAfter 21 = .ok (.iadd, 1) := by decide +kernel
theorem dX1_latenessAfter_22 : decode cX1_latenessAfter 22 = .ok (.aload_n 0, 1) := by decide +kernel
theorem dX1_latenessAfter_23 : decode cX1_latenessAfter 23 = .ok (.getfield 9, 3) := by decide +kernel
theorem dX1_latenessAfter_26 : decode cX1_latenessAfter 26 = .ok (.iconst 2, 1) := by decide +kernel
theorem dX1_latenessAfter_27 : decode cX1_latenessAfter 27 = .ok (.iaload, 1) := by decide +kernel
theorem dX1_latenessAfter_28 : decode cX1_latenessAfter 28 = .ok (.isub, 1) := by decide +kernel
theorem dX1_latenessAfter_29 : decode cX1_latenessAfter 29 = .ok (.ireturn, 1) := by decide +kernel
theorem dX1_countEarlyTry_0 : decode cX1_countEarlyTry 0 = .ok (.aload_n 0, 1) := by decide +kernel
theorem dX1_countEarlyTry_1 : decode cX1_countEarlyTry 1 = .ok (.getfield 9, 3) := by decide +kernel
theorem dX1_countEarlyTry_4 : decode cX1_countEarlyTry 4 = .ok (.iconst 5, 1) := by decide +kernel
theorem dX1_countEarlyTry_5 : decode cX1_countEarlyTry 5 = .ok (.dup2, 1) := by decide +kernel
theorem dX1_countEarlyTry_6 : decode cX1_countEarlyTry 6 = .ok (.iaload, 1) := by decide +kernel
theorem dX1_countEarlyTry_7 : decode cX1_countEarlyTry 7 = .ok (.iconst 1, 1) := by decide +kernel
theorem dX1_countEarlyTry_8 : decode cX1_countEarlyTry 8 = .ok (.iadd, 1) := by decide +kernel
theorem dX1_countEarlyTry_9 : decode cX1_countEarlyTry 9 = .ok (.iastore, 1) := by decide +kernel
theorem dX1_countEarlyTry_10 : decode cX1_countEarlyTry 10 = .ok (.aload_n 0, 1) := by decide +kernel
theorem dX1_countEarlyTry_11 : decode cX1_countEarlyTry 11 = .ok (.getfield 9, 3) := by decide +kernel
theorem dX1_countEarlyTry_14 : decode cX1_countEarlyTry 14 = .ok (.iconst 3, 1) := by decide +kernel
theorem dX1_countEarlyTry_15 : decode cX1_countEarlyTry 15 = .ok (.dup2, 1) := by decide +kernel
theorem dX1_countEarlyTry_16 : decode cX1_countEarlyTry 16 = .ok (.iaload, 1) := by decide +kernel
theorem dX1_countEarlyTry_17 : decode cX1_countEarlyTry 17 = .ok (.iconst 1, 1) := by decide +kernel
theorem dX1_countEarlyTry_18 : decode cX1_countEarlyTry 18 = .ok (.iadd, 1) := by decide +kernel
theorem dX1_countEarlyTry_19 : decode cX1_countEarlyTry 19 = .ok (.iastore, 1) := by decide +kernel
theorem dX1_countEarlyTry_20 : decode cX1_countEarlyTry 20 = .ok (.aload_n 0, 1) := by decide +kernel
theorem dX1_countEarlyTry_21 : decode cX1_countEarlyTry 21 = .ok (.getfield 9, 3) := by decide +kernel
theorem dX1_countEarlyTry_24 : decode cX1_countEarlyTry 24 = .ok (.iconst 3, 1) := by decide +kernel
theorem dX1_countEarlyTry_25 : decode cX1_countEarlyTry 25 = .ok (.iaload, 1) := by decide +kernel
theorem dX1_countEarlyTry_26 : decode cX1_countEarlyTry 26 = .ok (.aload_n 0, 1) := by decide +kernel
theorem dX1_countEarlyTry_27 : decode cX1_countEarlyTry 27 = .ok (.getfield 9, 3) := by decide +kernel
theorem dX1_countEarlyTry_30 : decode cX1_countEarlyTry 30 = .ok (.bipush 11, 2) := by decide +kernel
theorem dX1_countEarlyTry_32 : decode cX1_countEarlyTry 32 = .ok (.iaload, 1) := by decide +kernel
theorem dX1_countEarlyTry_33 : decode cX1_countEarlyTry 33 = .ok (.if_icmp .lt 30, 3) := by decide +kernel
theorem dX1_countEarlyTry_36 : decode cX1_countEarlyTry 36 = .ok (.aload_n 0, 1) := by decide +kernel
theorem dX1_countEarlyTry_37 : decode cX1_countEarlyTry 37 = .ok (.getfield 9, 3) := by decide +kernel
theorem dX1_countEarlyTry_40 : decode cX1_countEarlyTry 40 = .ok (.iconst 4, 1) := by decide +kernel
theorem dX1_countEarlyTry_41 : decode cX1_countEarlyTry 41 = .ok (.aload_n 0, 1) := by decide +kernel
theorem dX1_countEarlyTry_42 : decode cX1_countEarlyTry 42 = .ok (.getfield 9, 3) := by decide +kernel
theorem dX1_countEarlyTry_45 : decode cX1_countEarlyTry 45 = .ok (.iconst 0, 1) := by decide +kernel
theorem dX1_countEarlyTry_46 : decode cX1_countEarlyTry 46 = .ok (.iaload, 1) := by decide +kernel
theorem dX1_countEarlyTry_47 : decode cX1_countEarlyTry 47 = .ok (.aload_n 0, 1) := by decide +kernel
theorem dX1_countEarlyTry_48 : decode cX1_countEarlyTry 48 = .ok (.getfield 9, 3) := by decide +kernel
theorem dX1_countEarlyTry_51 : decode cX1_countEarlyTry 51 = .ok (.bipush 12, 2) := by decide +kernel
theorem dX1_countEarlyTry_53 : decode cX1_countEarlyTry 53 = .ok (.iaload, 1) := by decide +kernel
theorem dX1_countEarlyTry_54 : decode cX1_countEarlyTry 54 = .ok (.iadd, 1) := by decide +kernel
theorem dX1_countEarlyTry_55 : decode cX1_countEarlyTry 55 = .ok (.iastore, 1) := by decide +kernel
theorem dX1_countEarlyTry_56 : decode cX1_countEarlyTry 56 = .ok (.aload_n 0, 1) := by decide +kernel
theorem dX1_countEarlyTry_57 : decode cX1_countEarlyTry 57 = .ok (.getfield 9, 3) := by decide +kernel
theorem dX1_countEarlyTry_60 : decode cX1_countEarlyTry 60 = .ok (.iconst 3, 1) := by decide +kernel
theorem dX1_countEarlyTry_61 : decode cX1_countEarlyTry 61 = .ok (.iconst 0, 1) := by decide +kernel
theorem dX1_countEarlyTry_62 : decode cX1_countEarlyTry 62 = .ok (.iastore, 1) := by decide +kernel
theorem dX1_countEarlyTry_63 : decode cX1_countEarlyTry 63 = .ok (.return_, 1) := by decide +kernel
theorem dX1_countOpening_0 : decode cX1_countOpening 0 = .ok (.aload_n 0, 1) := by decide +kernel
theorem dX1_countOpening_1 : decode cX1_countOpening 1 = .ok (.getfield 9, 3) := by decide +kernel
theorem dX1_countOpening_4 : decode cX1_countOpening 4 = .ok (.bipush 6, 2) := by decide +kernel
theorem dX1_countOpening_6 : decode cX1_countOpening 6 = .ok (.dup2, 1) := by decide +kernel
theorem dX1_countOpening_7 : decode cX1_countOpening 7 = .ok (.iaload, 1) := by decide +kernel
theorem dX1_countOpening_8 : decode cX1_countOpening 8 = .ok (.iconst 1, 1) := by decide +kernel
theorem dX1_countOpening_9 : decode cX1_countOpening 9 = .ok (.iadd, 1) := by decide +kernel
theorem dX1_countOpening_10 : decode cX1_countOpening 10 = .ok (.iastore, 1) := by decide +kernel
theorem dX1_countOpening_11 : decode cX1_countOpening 11 = .ok (.iload_n 1, 1) := by decide +kernel
theorem dX1_countOpening_12 : decode cX1_countOpening 12 = .ok (.ifCond .le 17, 3) := by decide +kernel
theorem dX1_countOpening_15 : decode cX1_countOpening 15 = .ok (.aload_n 0, 1) := by decide +kernel
theorem dX1_countOpening_16 : decode cX1_countOpening 16 = .ok (.getfield 9, 3) := by decide +kernel
theorem dX1_countOpening_19 : decode cX1_countOpening 19 = .ok (.bipush 8, 2) := by decide +kernel
theorem dX1_countOpening_21 : decode cX1_countOpening 21 = .ok (.dup2, 1) := by decide +kernel
theorem dX1_countOpening_22 : decode cX1_countOpening 22 = .ok (.iaload, 1) := by decide +kernel
theorem dX1_countOpening_23 : decode cX1_countOpening 23 = .ok (.iconst 1, 1) := by decide +kernel
theorem dX1_countOpening_24 : decode cX1_countOpening 24 = .ok (.iadd, 1) := by decide +kernel
theorem dX1_countOpening_25 : decode cX1_countOpening 25 = .ok (.iastore, 1) := by decide +kernel
theorem dX1_countOpening_26 : decode cX1_countOpening 26 = .ok (.goto 32, 3) := by decide +kernel
theorem dX1_countOpening_29 : decode cX1_countOpening 29 = .ok (.iload_n 1, 1) := by decide +kernel
theorem dX1_countOpening_30 : decode cX1_countOpening 30 = .ok (.ifCond .ge 17, 3) := by decide +kernel
theorem dX1_countOpening_33 : decode cX1_countOpening 33 = .ok (.aload_n 0, 1) := by decide +kernel
theorem dX1_countOpening_34 : decode cX1_countOpening 34 = .ok (.getfield 9, 3) := by decide +kernel
theorem dX1_countOpening_37 : decode cX1_countOpening 37 = .ok (.bipush 9, 2) := by decide +kernel
theorem dX1_countOpening_39 : decode cX1_countOpening 39 = .ok (.dup2, 1) := by decide +kernel
theorem dX1_countOpening_40 : decode cX1_countOpening 40 = .ok (.iaload, 1) := by decide +kernel
theorem dX1_countOpening_41 : decode cX1_countOpening 41 = .ok (.iconst 1, 1) := by decide +kernel
theorem dX1_countOpening_42 : decode cX1_countOpening 42 = .ok (.iadd, 1) := by decide +kernel
theorem dX1_countOpening_43 : decode cX1_countOpening 43 = .ok (.iastore, 1) := by decide +kernel
theorem dX1_countOpening_44 : decode cX1_countOpening 44 = .ok (.goto 14, 3) := by decide +kernel
theorem dX1_countOpening_47 : decode cX1_countOpening 47 = .ok (.aload_n 0, 1) := by decide +kernel
theorem dX1_countOpening_48 : decode cX1_countOpening 48 = .ok (.getfield 9, 3) := by decide +kernel
theorem dX1_countOpening_51 : decode cX1_countOpening 51 = .ok (.bipush 7, 2) := by decide +kernel
theorem dX1_countOpening_53 : decode cX1_countOpening 53 = .ok (.dup2, 1) := by decide +kernel
theorem dX1_countOpening_54 : decode cX1_countOpening 54 = .ok (.iaload, 1) := by decide +kernel
theorem dX1_countOpening_55 : decode cX1_countOpening 55 = .ok (.iconst 1, 1) := by decide +kernel
theorem dX1_countOpening_56 : decode cX1_countOpening 56 = .ok (.iadd, 1) := by decide +kernel
theorem dX1_countOpening_57 : decode cX1_countOpening 57 = .ok (.iastore, 1) := by decide +kernel
theorem dX1_countOpening_58 : decode cX1_countOpening 58 = .ok (.return_, 1) := by decide +kernel
theorem dX1_leaveOpen_0 : decode cX1_leaveOpen 0 = .ok (.aload_n 0, 1) := by decide +kernel
theorem dX1_leaveOpen_1 : decode cX1_leaveOpen 1 = .ok (.getfield 9, 3) := by decide +kernel
theorem dX1_leaveOpen_4 : decode cX1_leaveOpen 4 = .ok (.iconst 1, 1) := by decide +kernel
theorem dX1_leaveOpen_5 : decode cX1_leaveOpen 5 = .ok (.iconst 0, 1) := by decide +kernel
theorem dX1_leaveOpen_6 : decode cX1_leaveOpen 6 = .ok (.iastore, 1) := by decide +kernel
theorem dX1_leaveOpen_7 : decode cX1_leaveOpen 7 = .ok (.aload_n 0, 1) := by decide +kernel
theorem dX1_leaveOpen_8 : decode cX1_leaveOpen 8 = .ok (.getfield 9, 3) := by decide +kernel
theorem dX1_leaveOpen_11 : decode cX1_leaveOpen 11 = .ok (.iconst 2, 1) := by decide +kernel
theorem dX1_leaveOpen_12 : decode cX1_leaveOpen 12 = .ok (.iconst (-1), 1) := by decide +kernel
theorem dX1_leaveOpen_13 : decode cX1_leaveOpen 13 = .ok (.iastore, 1) := by decide +kernel
theorem dX1_leaveOpen_14 : decode cX1_leaveOpen 14 = .ok (.aload_n 0, 1) := by decide +kernel
theorem dX1_leaveOpen_15 : decode cX1_leaveOpen 15 = .ok (.getfield 9, 3) := by decide +kernel
theorem dX1_leaveOpen_18 : decode cX1_leaveOpen 18 = .ok (.iconst 3, 1) := by decide +kernel
theorem dX1_leaveOpen_19 : decode cX1_leaveOpen 19 = .ok (.iconst 0, 1) := by decide +kernel
theorem dX1_leaveOpen_20 : decode cX1_leaveOpen 20 = .ok (.iastore, 1) := by decide +kernel
theorem dX1_leaveOpen_21 : decode cX1_leaveOpen 21 = .ok (.aload_n 0, 1) := by decide +kernel
theorem dX1_leaveOpen_22 : decode cX1_leaveOpen 22 = .ok (.getfield 9, 3) := by decide +kernel
theorem dX1_leaveOpen_25 : decode cX1_leaveOpen 25 = .ok (.iconst 4, 1) := by decide +kernel
theorem dX1_leaveOpen_26 : decode cX1_leaveOpen 26 = .ok (.iconst 0, 1) := by decide +kernel
theorem dX1_leaveOpen_27 : decode cX1_leaveOpen 27 = .ok (.iastore, 1) := by decide +kernel
theorem dX1_leaveOpen_28 : decode cX1_leaveOpen 28 = .ok (.return_, 1) := by decide +kernel
set_option maxRecDepth 20000 in
theorem ggX1_number_X1_today : GoodIn wsX1_number wsX1_today := goodIn_r _ [7, 1, 24, 25, 26, 27, 28, 29] (by decide +kernel) (by decide +kernel)
set_option maxRecDepth 20000 in
theorem gX1_number_X1_today : GoodIn wsX1_number (wsV RX1 214 RX1 yX1_today wsX1_today) := goodIn_app (goodIn_of _ (by decide +kernel)) ggX1_number_X1_today
set_option maxRecDepth 20000 in
theorem ggX1_number_X1_timeOfDay : GoodIn wsX1_number wsX1_timeOfDay := goodIn_r _ [11, 1, 24, 25, 26, 27, 28, 29] (by decide +kernel) (by decide +kernel)
set_option maxRecDepth 20000 in
theorem gX1_number_X1_timeOfDay : GoodIn wsX1_number (wsV RX1 217 RX1 yX1_timeOfDay wsX1_timeOfDay) := goodIn_app (goodIn_of _ (by decide +kernel)) ggX1_number_X1_timeOfDay
set_option maxRecDepth 20000 in
theorem ggX1_number_X1_hoursToOpening : GoodIn wsX1_number wsX1_hoursToOpening := goodIn_r _ [15, 1, 3, 4, 5, 6, 7, 8, 9, 10, 11, 24, 25, 26, 27, 28, 29] (by decide +kernel) (by decide +kernel)
set_option maxRecDepth 20000 in
theorem gX1_number_X1_hoursToOpening : GoodIn wsX1_number (wsV RX1 106 RX1 yX1_hoursToOpening wsX1_hoursToOpening) := goodIn_app (goodIn_of _ (by decide +kernel)) ggX1_number_X1_hoursToOpening
set_option maxRecDepth 20000 in
theorem ggX1_number_X1_hoursToWait : GoodIn wsX1_number wsX1_hoursToWait := goodIn_r _ [19, 1, 20, 21, 22, 23, 24, 25, 26, 27, 28, 29] (by decide +kernel) (by decide +kernel)
set_option maxRecDepth 20000 in
theorem gX1_number_X1_hoursToWait : GoodIn wsX1_number (wsV RX1 231 RX1 yX1_hoursToWait wsX1_hoursToWait) := goodIn_app (goodIn_of _ (by decide +kernel)) ggX1_number_X1_hoursToWait
theorem dX1_number_0 : decode cX1_number 0 = .ok (.iload_n 1, 1) := by decide +kernel
theorem dX1_number_1 : decode cX1_number 1 = .ok (.tableswitch 166 0 13 #[71, 78, 83, 88, 95, 100, 107, 114, 119, 126, 134, 142, 150, 158], 71) := by decide +kernel
theorem dX1_number_72 : decode cX1_number 72 = .ok (.aload_n 0, 1) := by decide +kernel
theorem dX1_number_73 : decode cX1_number 73 = .ok (.getfield 9, 3) := by decide +kernel
theorem dX1_number_76 : decode cX1_number 76 = .ok (.iconst 0, 1) := by decide +kernel
theorem dX1_number_77 : decode cX1_number 77 = .ok (.iaload, 1) := by decide +kernel
theorem dX1_number_78 : decode cX1_number 78 = .ok (.ireturn, 1) := by decide +kernel
theorem dX1_number_79 : decode cX1_number 79 = .ok (.aload_n 0, 1) := by decide +kernel
theorem dX1_number_80 : decode cX1_number 80 = .ok (.invokevirtual 214, 3) := by decide +kernel
theorem dX1_number_83 : decode cX1_number 83 = .ok (.ireturn, 1) := by decide +kernel
theorem dX1_number_84 : decode cX1_number 84 = .ok (.aload_n 0, 1) := by decide +kernel
theorem dX1_number_85 : decode cX1_number 85 = .ok (.invokevirtual 217, 3) := by decide +kernel
theorem dX1_number_88 : decode cX1_number 88 = .ok (.ireturn, 1) := by decide +kernel
theorem dX1_number_89 : decode cX1_number 89 = .ok (.aload_n 0, 1) := by decide +kernel
theorem dX1_number_90 : decode cX1_number 90 = .ok (.getfield 9, 3) := by decide +kernel
theorem dX1_number_93 : decode cX1_number 93 = .ok (.iconst 1, 1) := by decide +kernel
theorem dX1_number_94 : decode cX1_number 94 = .ok (.iaload, 1) := by decide +kernel
theorem dX1_number_95 : decode cX1_number 95 = .ok (.ireturn, 1) := by decide +kernel
theorem dX1_number_96 : decode cX1_number 96 = .ok (.aload_n 0, 1) := by decide +kernel
theorem dX1_number_97 : decode cX1_number 97 = .ok (.invokevirtual 106, 3) := by decide +kernel
theorem dX1_number_100 : decode cX1_number 100 = .ok (.ireturn, 1) := by decide +kernel
theorem dX1_number_101 : decode cX1_number 101 = .ok (.aload_n 0, 1) := by decide +kernel
theorem dX1_number_102 : decode cX1_number 102 = .ok (.getfield 9, 3) := by decide +kernel
theorem dX1_number_105 : decode cX1_number 105 = .ok (.iconst 2, 1) := by decide +kernel
theorem dX1_number_106 : decode cX1_number 106 = .ok (.iaload, 1) := by decide +kernel
theorem dX1_number_107 : decode cX1_number 107 = .ok (.ireturn, 1) := by decide +kernel
theorem dX1_number_108 : decode cX1_number 108 = .ok (.aload_n 0, 1) := by decide +kernel
theorem dX1_number_109 : decode cX1_number 109 = .ok (.getfield 9, 3) := by decide +kernel
theorem dX1_number_112 : decode cX1_number 112 = .ok (.iconst 3, 1) := by decide +kernel
theorem dX1_number_113 : decode cX1_number 113 = .ok (.iaload, 1) := by decide +kernel
theorem dX1_number_114 : decode cX1_number 114 = .ok (.ireturn, 1) := by decide +kernel
theorem dX1_number_115 : decode cX1_number 115 = .ok (.aload_n 0, 1) := by decide +kernel
theorem dX1_number_116 : decode cX1_number 116 = .ok (.invokevirtual 231, 3) := by decide +kernel
theorem dX1_number_119 : decode cX1_number 119 = .ok (.ireturn, 1) := by decide +kernel
theorem dX1_number_120 : decode cX1_number 120 = .ok (.aload_n 0, 1) := by decide +kernel
theorem dX1_number_121 : decode cX1_number 121 = .ok (.getfield 9, 3) := by decide +kernel
theorem dX1_number_124 : decode cX1_number 124 = .ok (.iconst 5, 1) := by decide +kernel
theorem dX1_number_125 : decode cX1_number 125 = .ok (.iaload, 1) := by decide +kernel
theorem dX1_number_126 : decode cX1_number 126 = .ok (.ireturn, 1) := by decide +kernel
theorem dX1_number_127 : decode cX1_number 127 = .ok (.aload_n 0, 1) := by decide +kernel
theorem dX1_number_128 : decode cX1_number 128 = .ok (.getfield 9, 3) := by decide +kernel
theorem dX1_number_131 : decode cX1_number 131 = .ok (.bipush 6, 2) := by decide +kernel
theorem dX1_number_133 : decode cX1_number 133 = .ok (.iaload, 1) := by decide +kernel
theorem dX1_number_134 : decode cX1_number 134 = .ok (.ireturn, 1) := by decide +kernel
theorem dX1_number_135 : decode cX1_number 135 = .ok (.aload_n 0, 1) := by decide +kernel
theorem dX1_number_136 : decode cX1_number 136 = .ok (.getfield 9, 3) := by decide +kernel
theorem dX1_number_139 : decode cX1_number 139 = .ok (.bipush 7, 2) := by decide +kernel
theorem dX1_number_141 : decode cX1_number 141 = .ok (.iaload, 1) := by decide +kernel
theorem dX1_number_142 : decode cX1_number 142 = .ok (.ireturn, 1) := by decide +kernel
theorem dX1_number_143 : decode cX1_number 143 = .ok (.aload_n 0, 1) := by decide +kernel
theorem dX1_number_144 : decode cX1_number 144 = .ok (.getfield 9, 3) := by decide +kernel
theorem dX1_number_147 : decode cX1_number 147 = .ok (.bipush 8, 2) := by decide +kernel
theorem dX1_number_149 : decode cX1_number 149 = .ok (.iaload, 1) := by decide +kernel
theorem dX1_number_150 : decode cX1_number 150 = .ok (.ireturn, 1) := by decide +kernel
theorem dX1_number_151 : decode cX1_number 151 = .ok (.aload_n 0, 1) := by decide +kernel
theorem dX1_number_152 : decode cX1_number 152 = .ok (.getfield 9, 3) := by decide +kernel
theorem dX1_number_155 : decode cX1_number 155 = .ok (.bipush 9, 2) := by decide +kernel
theorem dX1_number_157 : decode cX1_number 157 = .ok (.iaload, 1) := by decide +kernel
theorem dX1_number_158 : decode cX1_number 158 = .ok (.ireturn, 1) := by decide +kernel
theorem dX1_number_159 : decode cX1_number 159 = .ok (.aload_n 0, 1) := by decide +kernel
theorem dX1_number_160 : decode cX1_number 160 = .ok (.getfield 9, 3) := by decide +kernel
theorem dX1_number_163 : decode cX1_number 163 = .ok (.bipush 10, 2) := by decide +kernel
theorem dX1_number_165 : decode cX1_number 165 = .ok (.iaload, 1) := by decide +kernel
theorem dX1_number_166 : decode cX1_number 166 = .ok (.ireturn, 1) := by decide +kernel
theorem dX1_number_167 : decode cX1_number 167 = .ok (.aload_n 0, 1) := by decide +kernel
theorem dX1_number_168 : decode cX1_number 168 = .ok (.getfield 16, 3) := by decide +kernel
theorem dX1_number_171 : decode cX1_number 171 = .ok (.ireturn, 1) := by decide +kernel
theorem dJ9_max_7cf53_0 : decode cJ9_max_7cf53 0 = .ok (.iload_n 0, 1) := by decide +kernel
theorem dJ9_max_7cf53_1 : decode cJ9_max_7cf53 1 = .ok (.iload_n 1, 1) := by decide +kernel
theorem dJ9_max_7cf53_2 : decode cJ9_max_7cf53 2 = .ok (.if_icmp .lt 7, 3) := by decide +kernel
theorem dJ9_max_7cf53_5 : decode cJ9_max_7cf53 5 = .ok (.iload_n 0, 1) := by decide +kernel
theorem dJ9_max_7cf53_6 : decode cJ9_max_7cf53 6 = .ok (.goto 4, 3) := by decide +kernel
theorem dJ9_max_7cf53_9 : decode cJ9_max_7cf53 9 = .ok (.iload_n 1, 1) := by decide +kernel
theorem dJ9_max_7cf53_10 : decode cJ9_max_7cf53 10 = .ok (.ireturn, 1) := by decide +kernel
theorem dL_low_0 : decode cL_low 0 = .ok (.iload_n 0, 1) := by decide +kernel
theorem dL_low_1 : decode cL_low 1 = .ok (.ldc 7, 2) := by decide +kernel
theorem dL_low_3 : decode cL_low 3 = .ok (.iand, 1) := by decide +kernel
theorem dL_low_4 : decode cL_low 4 = .ok (.iload_n 1, 1) := by decide +kernel
theorem dL_low_5 : decode cL_low 5 = .ok (.irem, 1) := by decide +kernel
theorem dL_low_6 : decode cL_low 6 = .ok (.ireturn, 1) := by decide +kernel
theorem dL_cell_0 : decode cL_cell 0 = .ok (.iload_n 1, 1) := by decide +kernel
theorem dL_cell_1 : decode cL_cell 1 = .ok (.aload_n 0, 1) := by decide +kernel
theorem dL_cell_2 : decode cL_cell 2 = .ok (.arraylength, 1) := by decide +kernel
theorem dL_cell_3 : decode cL_cell 3 = .ok (.if_icmp .ge 9, 3) := by decide +kernel
theorem dL_cell_6 : decode cL_cell 6 = .ok (.aload_n 0, 1) := by decide +kernel
theorem dL_cell_7 : decode cL_cell 7 = .ok (.iload_n 1, 1) := by decide +kernel
theorem dL_cell_8 : decode cL_cell 8 = .ok (.iaload, 1) := by decide +kernel
theorem dL_cell_9 : decode cL_cell 9 = .ok (.goto 11, 3) := by decide +kernel
theorem dL_cell_12 : decode cL_cell 12 = .ok (.ldc 8, 2) := by decide +kernel
theorem dL_cell_14 : decode cL_cell 14 = .ok (.iload_n 1, 1) := by decide +kernel
theorem dL_cell_15 : decode cL_cell 15 = .ok (.imul, 1) := by decide +kernel
theorem dL_cell_16 : decode cL_cell 16 = .ok (.sipush 977, 3) := by decide +kernel
theorem dL_cell_19 : decode cL_cell 19 = .ok (.iadd, 1) := by decide +kernel
theorem dL_cell_20 : decode cL_cell 20 = .ok (.ireturn, 1) := by decide +kernel
set_option maxRecDepth 20000 in
theorem ggL_lock_X1_lock : GoodIn wsL_lock wsX1_lock := goodIn_ca (goodIn_r _ [6, 7, 8, 9, 10, 11, 12, 5, 13, 14, 15, 16, 17, 18, 19, 20, 21, 22, 23, 24, 25, 26, 27, 28, 29, 30, 31, 32, 33, 34, 35, 36, 37, 38, 39, 40, 41, 42, 43, 44, 45, 46, 47, 48, 49, 50, 51, 52] (by decide +kernel) (by decide +kernel)) (goodIn_sub (fun _ h => List.mem_cons_of_mem _ (List.mem_append_right _ h)) (by decide +kernel))
set_option maxRecDepth 20000 in
theorem gL_lock_X1_lock : GoodIn wsL_lock (wsV RL 9 RX1 yX1_lock wsX1_lock) := goodIn_app (goodIn_of _ (by decide +kernel)) ggL_lock_X1_lock
theorem dL_lock_0 : decode cL_lock 0 = .ok (.aload_n 0, 1) := by decide +kernel
theorem dL_lock_1 : decode cL_lock 1 = .ok (.invokevirtual 9, 3) := by decide +kernel
theorem dL_lock_4 : decode cL_lock 4 = .ok (.ireturn, 1) := by decide +kernel
theorem dL_lock_5 : decode cL_lock 5 = .ok (.astore_n 1, 1) := by decide +kernel
theorem dL_lock_6 : decode cL_lock 6 = .ok (.bipush (-3), 2) := by decide +kernel
theorem dL_lock_8 : decode cL_lock 8 = .ok (.ireturn, 1) := by decide +kernel
set_option maxRecDepth 20000 in
theorem ggL_open_X1_open : GoodIn wsL_open wsX1_open := goodIn_ca (goodIn_r _ [6, 7, 8, 9, 10, 11, 5, 12, 13, 14, 15, 16, 17, 18, 19, 20, 21, 22, 23, 24, 25, 26, 27, 28, 29, 30, 31, 32, 33, 34, 35, 36, 37, 38, 39, 40, 41, 42, 43, 44, 45, 46, 47, 48, 49, 50, 51, 52, 53, 54, 55, 56, 57, 58, 59, 60, 61, 62, 63, 64, 65, 66, 67, 68] (by decide +kernel) (by decide +kernel)) (goodIn_sub (fun _ h => List.mem_cons_of_mem _ (List.mem_append_right _ h)) (by decide +kernel))
set_option maxRecDepth 20000 in
theorem gL_open_X1_open : GoodIn wsL_open (wsV RL 17 RX1 yX1_open wsX1_open) := goodIn_app (goodIn_of _ (by decide +kernel)) ggL_open_X1_open
theorem dL_open_0 : decode cL_open 0 = .ok (.aload_n 0, 1) := by decide +kernel
theorem dL_open_1 : decode cL_open 1 = .ok (.invokevirtual 17, 3) := by decide +kernel
theorem dL_open_4 : decode cL_open 4 = .ok (.ireturn, 1) := by decide +kernel
theorem dL_open_5 : decode cL_open 5 = .ok (.astore_n 1, 1) := by decide +kernel
theorem dL_open_6 : decode cL_open 6 = .ok (.bipush (-3), 2) := by decide +kernel
theorem dL_open_8 : decode cL_open 8 = .ok (.ireturn, 1) := by decide +kernel
set_option maxRecDepth 20000 in
theorem ggL_wind_X1_wind : GoodIn wsL_wind wsX1_wind := goodIn_ca (goodIn_ca (goodIn_ca (goodIn_r _ [6, 7, 8, 9, 10, 11, 12, 13, 14, 5, 15, 16, 17, 18, 19, 20, 21, 22, 23, 24, 25, 26, 27, 28, 29, 30, 31, 32, 33, 34, 35, 36, 37, 38, 39, 40, 41, 42, 43, 44, 45, 46, 47, 48, 49, 50] (by decide +kernel) (by decide +kernel)) (goodIn_sub (fun _ h => List.mem_cons_of_mem _ (List.mem_append_left _ (List.mem_append_left _ (List.mem_append_right _ h)))) (by decide +kernel))) (goodIn_sub (fun _ h => List.mem_cons_of_mem _ (List.mem_append_left _ (List.mem_append_right _ h))) (by decide +kernel))) (goodIn_sub (fun _ h => List.mem_cons_of_mem _ (List.mem_append_right _ h)) (by decide +kernel))
set_option maxRecDepth 20000 in
theorem gL_wind_X1_wind : GoodIn wsL_wind (wsV RL 20 RX1 yX1_wind wsX1_wind) := goodIn_app (goodIn_of _ (by decide +kernel)) ggL_wind_X1_wind
theorem dL_wind_0 : decode cL_wind 0 = .ok (.aload_n 0, 1) := by decide +kernel
theorem dL_wind_1 : decode cL_wind 1 = .ok (.iload_n 1, 1) := by decide +kernel
theorem dL_wind_2 : decode cL_wind 2 = .ok (.iload_n 2, 1) := by decide +kernel
theorem dL_wind_3 : decode cL_wind 3 = .ok (.invokevirtual 20, 3) := by decide +kernel
theorem dL_wind_6 : decode cL_wind 6 = .ok (.ireturn, 1) := by decide +kernel
theorem dL_wind_7 : decode cL_wind 7 = .ok (.astore_n 3, 1) := by decide +kernel
theorem dL_wind_8 : decode cL_wind 8 = .ok (.bipush (-3), 2) := by decide +kernel
theorem dL_wind_10 : decode cL_wind 10 = .ok (.ireturn, 1) := by decide +kernel
set_option maxRecDepth 20000 in
theorem ggL_service_X1_service : GoodIn wsL_service wsX1_service := goodIn_ca (goodIn_ca (goodIn_r _ [6, 7, 8, 9, 10, 11, 12, 13, 5, 14, 15, 16, 17, 18, 19, 20, 21, 22, 23, 24, 25, 26, 27, 28, 29, 30, 31, 32, 33, 34, 35, 36, 37, 38, 39, 40, 41] (by decide +kernel) (by decide +kernel)) (goodIn_sub (fun _ h => List.mem_cons_of_mem _ (List.mem_append_left _ (List.mem_append_right _ h))) (by decide +kernel))) (goodIn_sub (fun _ h => List.mem_cons_of_mem _ (List.mem_append_right _ h)) (by decide +kernel))
set_option maxRecDepth 20000 in
theorem gL_service_X1_service : GoodIn wsL_service (wsV RL 24 RX1 yX1_service wsX1_service) := goodIn_app (goodIn_of _ (by decide +kernel)) ggL_service_X1_service
theorem dL_service_0 : decode cL_service 0 = .ok (.aload_n 0, 1) := by decide +kernel
theorem dL_service_1 : decode cL_service 1 = .ok (.iload_n 1, 1) := by decide +kernel
theorem dL_service_2 : decode cL_service 2 = .ok (.invokevirtual 24, 3) := by decide +kernel
theorem dL_service_5 : decode cL_service 5 = .ok (.ireturn, 1) := by decide +kernel
theorem dL_service_6 : decode cL_service 6 = .ok (.astore_n 2, 1) := by decide +kernel
theorem dL_service_7 : decode cL_service 7 = .ok (.bipush (-3), 2) := by decide +kernel
theorem dL_service_9 : decode cL_service 9 = .ok (.ireturn, 1) := by decide +kernel
set_option maxRecDepth 20000 in
theorem ggL_undo_X1_undo : GoodIn wsL_undo wsX1_undo := goodIn_ca (goodIn_r _ [6, 7, 8, 9, 10, 11, 12, 13, 14, 15, 16, 17, 18, 19, 20, 21] (by decide +kernel) (by decide +kernel)) (goodIn_sub (fun _ h => List.mem_cons_of_mem _ (List.mem_append_right _ h)) (by decide +kernel))
set_option maxRecDepth 20000 in
theorem gL_undo_X1_undo : GoodIn wsL_undo (wsV RL 28 RX1 yX1_undo wsX1_undo) := goodIn_app (goodIn_of _ (by decide +kernel)) ggL_undo_X1_undo
theorem dL_undo_0 : decode cL_undo 0 = .ok (.aload_n 0, 1) := by decide +kernel
theorem dL_undo_1 : decode cL_undo 1 = .ok (.invokevirtual 28, 3) := by decide +kernel
theorem dL_undo_4 : decode cL_undo 4 = .ok (.ireturn, 1) := by decide +kernel
theorem dL_undo_5 : decode cL_undo 5 = .ok (.astore_n 1, 1) := by decide +kernel
theorem dL_undo_6 : decode cL_undo 6 = .ok (.bipush (-3), 2) := by decide +kernel
theorem dL_undo_8 : decode cL_undo 8 = .ok (.ireturn, 1) := by decide +kernel
set_option maxRecDepth 20000 in
theorem ggL_drill_X1_drill : GoodIn wsL_drill wsX1_drill := goodIn_ca (goodIn_r _ [6, 7, 8, 9, 10, 11, 12, 5, 13, 14, 15, 16, 17, 18, 19, 20, 21, 22, 23, 24, 25, 26, 27, 28, 29, 30, 31, 32, 33, 34, 35, 36] (by decide +kernel) (by decide +kernel)) (goodIn_sub (fun _ h => List.mem_cons_of_mem _ (List.mem_append_right _ h)) (by decide +kernel))
set_option maxRecDepth 20000 in
theorem gL_drill_X1_drill : GoodIn wsL_drill (wsV RL 31 RX1 yX1_drill wsX1_drill) := goodIn_app (goodIn_of _ (by decide +kernel)) ggL_drill_X1_drill
theorem dL_drill_0 : decode cL_drill 0 = .ok (.aload_n 0, 1) := by decide +kernel
theorem dL_drill_1 : decode cL_drill 1 = .ok (.invokevirtual 31, 3) := by decide +kernel
theorem dL_drill_4 : decode cL_drill 4 = .ok (.ireturn, 1) := by decide +kernel
theorem dL_drill_5 : decode cL_drill 5 = .ok (.astore_n 1, 1) := by decide +kernel
theorem dL_drill_6 : decode cL_drill 6 = .ok (.bipush (-3), 2) := by decide +kernel
theorem dL_drill_8 : decode cL_drill 8 = .ok (.ireturn, 1) := by decide +kernel
set_option maxRecDepth 20000 in
theorem ggL_clock_X1_count : GoodIn wsL_clock wsX1_count := goodIn_ca (goodIn_r _ [5, 6, 7, 8, 9, 10, 4, 11, 12, 13, 14, 15, 16, 17, 18, 19, 20, 21, 22, 23, 24, 25, 26, 27, 28, 29, 30, 31, 32, 33, 114, 115, 116, 117, 118, 119] (by decide +kernel) (by decide +kernel)) (goodIn_sub (fun _ h => List.mem_cons_of_mem _ (List.mem_append_left _ (List.mem_append_right _ h))) (by decide +kernel))
set_option maxRecDepth 20000 in
theorem gL_clock_X1_count : GoodIn wsL_clock (wsV RL 34 RX1 yX1_count wsX1_count) := goodIn_app (goodIn_of _ (by decide +kernel)) ggL_clock_X1_count
set_option maxRecDepth 20000 in
theorem ggL_clock_X1_day : GoodIn wsL_clock wsX1_day := goodIn_ca (goodIn_r _ [37, 38, 39, 12, 40, 41, 4, 42, 114, 115, 116, 117, 118, 119] (by decide +kernel) (by decide +kernel)) (goodIn_sub (fun _ h => List.mem_cons_of_mem _ (List.mem_append_right _ h)) (by decide +kernel))
set_option maxRecDepth 20000 in
theorem gL_clock_X1_day : GoodIn wsL_clock (wsV RL 37 RX1 yX1_day wsX1_day) := goodIn_app (goodIn_of _ (by decide +kernel)) ggL_clock_X1_day
set_option maxRecDepth 20000 in
theorem ggL_clock_X1_movement : GoodIn wsL_clock wsX1_movement := goodIn_ca (goodIn_ca (goodIn_r _ [46, 38, 39, 6, 7, 47, 48, 4, 49, 50, 51, 52, 53, 12, 54, 55, 56, 57, 58, 59, 60, 61, 62, 63, 64, 114, 115, 116, 117, 118, 119] (by decide +kernel) (by decide +kernel)) (goodIn_sub (fun _ h => List.mem_cons_of_mem _ (List.mem_append_right _ h)) (by decide +kernel))) (goodIn_sub (fun _ h => List.mem_cons_of_mem _ (List.mem_append_left _ (List.mem_append_right _ h))) (by decide +kernel))
set_option maxRecDepth 20000 in
theorem gL_clock_X1_movement : GoodIn wsL_clock (wsV RL 40 RX1 yX1_movement wsX1_movement) := goodIn_app (goodIn_of _ (by decide +kernel)) ggL_clock_X1_movement
set_option maxRecDepth 20000 in
theorem ggL_clock_X1_setting : GoodIn wsL_clock wsX1_setting := goodIn_ca (goodIn_r _ [68, 38, 39, 12, 69, 70, 4, 71, 114, 115, 116, 117, 118, 119] (by decide +kernel) (by decide +kernel)) (goodIn_sub (fun _ h => List.mem_cons_of_mem _ (List.mem_append_right _ h)) (by decide +kernel))
set_option maxRecDepth 20000 in
theorem gL_clock_X1_setting : GoodIn wsL_clock (wsV RL 43 RX1 yX1_setting wsX1_setting) := goodIn_app (goodIn_of _ (by decide +kernel)) ggL_clock_X1_setting
set_option maxRecDepth 20000 in
theorem ggL_clock_X1_rightWinding : GoodIn wsL_clock wsX1_rightWinding := goodIn_ca (goodIn_r _ [75, 38, 39, 47, 48, 4, 49, 76, 77, 78, 79, 12, 22, 23, 24, 25, 14, 15, 16, 17, 18, 19, 20, 21, 54, 55, 56, 57, 58, 59, 60, 80, 81, 82, 83, 84, 85, 114, 115, 116, 117, 118, 119] (by decide +kernel) (by decide +kernel)) (goodIn_sub (fun _ h => List.mem_cons_of_mem _ (List.mem_append_right _ h)) (by decide +kernel))
set_option maxRecDepth 20000 in
theorem gL_clock_X1_rightWinding : GoodIn wsL_clock (wsV RL 46 RX1 yX1_rightWinding wsX1_rightWinding) := goodIn_app (goodIn_of _ (by decide +kernel)) ggL_clock_X1_rightWinding
set_option maxRecDepth 20000 in
theorem ggL_clock_X1_opensIn : GoodIn wsL_clock wsX1_opensIn := goodIn_r _ [89, 90, 91, 92, 4, 93, 30, 31, 32, 33, 94, 95, 96, 97, 12, 57, 58, 59, 60, 54, 55, 56, 61, 62, 63, 64, 26, 27, 28, 29, 114, 115, 116, 117, 118, 119] (by decide +kernel) (by decide +kernel)
set_option maxRecDepth 20000 in
theorem gL_clock_X1_opensIn : GoodIn wsL_clock (wsV RL 49 RX1 yX1_opensIn wsX1_opensIn) := goodIn_app (goodIn_of _ (by decide +kernel)) ggL_clock_X1_opensIn
set_option maxRecDepth 20000 in
theorem ggL_clock_X1_lateness : GoodIn wsL_clock wsX1_lateness := goodIn_r _ [101, 30, 31, 32, 33, 94, 95, 96, 4, 97, 12, 90, 91, 92, 93, 57, 58, 59, 60, 54, 55, 56, 61, 62, 63, 64, 26, 27, 28, 29, 102, 103, 104, 105, 114, 115, 116, 117, 118, 119] (by decide +kernel) (by decide +kernel)
set_option maxRecDepth 20000 in
theorem gL_clock_X1_lateness : GoodIn wsL_clock (wsV RL 52 RX1 yX1_lateness wsX1_lateness) := goodIn_app (goodIn_of _ (by decide +kernel)) ggL_clock_X1_lateness
set_option maxRecDepth 20000 in
theorem ggL_clock_X1_keyMovement : GoodIn wsL_clock wsX1_keyMovement := goodIn_r _ [109, 90, 91, 92, 4, 93, 30, 31, 32, 33, 94, 95, 96, 97, 12, 57, 58, 59, 60, 54, 55, 56, 61, 62, 63, 64, 26, 27, 28, 29, 114, 115, 116, 117, 118, 119] (by decide +kernel) (by decide +kernel)
set_option maxRecDepth 20000 in
theorem gL_clock_X1_keyMovement : GoodIn wsL_clock (wsV RL 55 RX1 yX1_keyMovement wsX1_keyMovement) := goodIn_app (goodIn_of _ (by decide +kernel)) ggL_clock_X1_keyMovement
set_option maxRecDepth 20000 in
theorem ggL_clock_X1_punctuality : GoodIn wsL_clock wsX1_punctuality := goodIn_r _ [113, 12, 114, 115, 116, 117, 118, 119] (by decide +kernel) (by decide +kernel)
set_option maxRecDepth 20000 in
theorem gL_clock_X1_punctuality : GoodIn wsL_clock (wsV RL 58 RX1 yX1_punctuality wsX1_punctuality) := goodIn_app (goodIn_of _ (by decide +kernel)) ggL_clock_X1_punctuality
theorem dL_clock_0 : decode cL_clock 0 = .ok (.aload_n 0, 1) := by decide +kernel
theorem dL_clock_1 : decode cL_clock 1 = .ok (.iconst 3, 1) := by decide +kernel
theorem dL_clock_2 : decode cL_clock 2 = .ok (.invokevirtual 34, 3) := by decide +kernel
theorem dL_clock_5 : decode cL_clock 5 = .ok (.iconst 1, 1) := by decide +kernel
theorem dL_clock_6 : decode cL_clock 6 = .ok (.if_icmp .ne 7, 3) := by decide +kernel
theorem dL_clock_9 : decode cL_clock 9 = .ok (.iconst 1, 1) := by decide +kernel
theorem dL_clock_10 : decode cL_clock 10 = .ok (.goto 4, 3) := by decide +kernel
theorem dL_clock_13 : decode cL_clock 13 = .ok (.iconst 0, 1) := by decide +kernel
theorem dL_clock_14 : decode cL_clock 14 = .ok (.istore_n 1, 1) := by decide +kernel
theorem dL_clock_15 : decode cL_clock 15 = .ok (.iconst 1, 1) := by decide +kernel
theorem dL_clock_16 : decode cL_clock 16 = .ok (.istore_n 2, 1) := by decide +kernel
theorem dL_clock_17 : decode cL_clock 17 = .ok (.iconst 0, 1) := by decide +kernel
theorem dL_clock_18 : decode cL_clock 18 = .ok (.istore_n 3, 1) := by decide +kernel
theorem dL_clock_19 : decode cL_clock 19 = .ok (.aload_n 0, 1) := by decide +kernel
theorem dL_clock_20 : decode cL_clock 20 = .ok (.iconst 1, 1) := by decide +kernel
theorem dL_clock_21 : decode cL_clock 21 = .ok (.invokevirtual 34, 3) := by decide +kernel
theorem dL_clock_24 : decode cL_clock 24 = .ok (.aload_n 0, 1) := by decide +kernel
theorem dL_clock_25 : decode cL_clock 25 = .ok (.iconst 0, 1) := by decide +kernel
theorem dL_clock_26 : decode cL_clock 26 = .ok (.invokevirtual 34, 3) := by decide +kernel
theorem dL_clock_29 : decode cL_clock 29 = .ok (.bipush 24, 2) := by decide +kernel
theorem dL_clock_31 : decode cL_clock 31 = .ok (.idiv, 1) := by decide +kernel
theorem dL_clock_32 : decode cL_clock 32 = .ok (.bipush 7, 2) := by decide +kernel
theorem dL_clock_34 : decode cL_clock 34 = .ok (.irem, 1) := by decide +kernel
theorem dL_clock_35 : decode cL_clock 35 = .ok (.if_icmp .ne 23, 3) := by decide +kernel
theorem dL_clock_38 : decode cL_clock 38 = .ok (.aload_n 0, 1) := by decide +kernel
theorem dL_clock_39 : decode cL_clock 39 = .ok (.iconst 2, 1) := by decide +kernel
theorem dL_clock_40 : decode cL_clock 40 = .ok (.invokevirtual 34, 3) := by decide +kernel
theorem dL_clock_43 : decode cL_clock 43 = .ok (.aload_n 0, 1) := by decide +kernel
theorem dL_clock_44 : decode cL_clock 44 = .ok (.iconst 0, 1) := by decide +kernel
theorem dL_clock_45 : decode cL_clock 45 = .ok (.invokevirtual 34, 3) := by decide +kernel
theorem dL_clock_48 : decode cL_clock 48 = .ok (.bipush 24, 2) := by decide +kernel
theorem dL_clock_50 : decode cL_clock 50 = .ok (.irem, 1) := by decide +kernel
theorem dL_clock_51 : decode cL_clock 51 = .ok (.if_icmp .ne 7, 3) := by decide +kernel
theorem dL_clock_54 : decode cL_clock 54 = .ok (.iconst 1, 1) := by decide +kernel
theorem dL_clock_55 : decode cL_clock 55 = .ok (.goto 4, 3) := by decide +kernel
theorem dL_clock_58 : decode cL_clock 58 = .ok (.iconst 0, 1) := by decide +kernel
theorem dL_clock_59 : decode cL_clock 59 = .ok (.istore 4, 2) := by decide +kernel
theorem dL_clock_61 : decode cL_clock 61 = .ok (.iconst 0, 1) := by decide +kernel
theorem dL_clock_62 : decode cL_clock 62 = .ok (.istore 5, 2) := by decide +kernel
theorem dL_clock_64 : decode cL_clock 64 = .ok (.iload 5, 2) := by decide +kernel
theorem dL_clock_66 : decode cL_clock 66 = .ok (.bipush 7, 2) := by decide +kernel
theorem dL_clock_68 : decode cL_clock 68 = .ok (.if_icmp .ge 29, 3) := by decide +kernel
theorem dL_clock_71 : decode cL_clock 71 = .ok (.iload_n 2, 1) := by decide +kernel
theorem dL_clock_72 : decode cL_clock 72 = .ok (.ifCond .eq 17, 3) := by decide +kernel
theorem dL_clock_75 : decode cL_clock 75 = .ok (.aload_n 0, 1) := by decide +kernel
theorem dL_clock_76 : decode cL_clock 76 = .ok (.iload 5, 2) := by decide +kernel
theorem dL_clock_78 : decode cL_clock 78 = .ok (.invokevirtual 37, 3) := by decide +kernel
theorem dL_clock_81 : decode cL_clock 81 = .ok (.iconst (-1), 1) := by decide +kernel
theorem dL_clock_82 : decode cL_clock 82 = .ok (.if_icmp .ne 7, 3) := by decide +kernel
theorem dL_clock_85 : decode cL_clock 85 = .ok (.iconst 1, 1) := by decide +kernel
theorem dL_clock_86 : decode cL_clock 86 = .ok (.goto 4, 3) := by decide +kernel
theorem dL_clock_89 : decode cL_clock 89 = .ok (.iconst 0, 1) := by decide +kernel
theorem dL_clock_90 : decode cL_clock 90 = .ok (.istore_n 2, 1) := by decide +kernel
theorem dL_clock_91 : decode cL_clock 91 = .ok (.iinc 5 1, 3) := by decide +kernel
theorem dL_clock_94 : decode cL_clock 94 = .ok (.goto (-30), 3) := by decide +kernel
theorem dL_clock_97 : decode cL_clock 97 = .ok (.iconst 0, 1) := by decide +kernel
theorem dL_clock_98 : decode cL_clock 98 = .ok (.istore 5, 2) := by decide +kernel
theorem dL_clock_100 : decode cL_clock 100 = .ok (.iload 5, 2) := by decide +kernel
theorem dL_clock_102 : decode cL_clock 102 = .ok (.iconst 3, 1) := by decide +kernel
theorem dL_clock_103 : decode cL_clock 103 = .ok (.if_icmp .ge 198, 3) := by decide +kernel
theorem dL_clock_106 : decode cL_clock 106 = .ok (.iload 4, 2) := by decide +kernel
theorem dL_clock_108 : decode cL_clock 108 = .ok (.ifCond .eq 193, 3) := by decide +kernel
theorem dL_clock_111 : decode cL_clock 111 = .ok (.aload_n 0, 1) := by decide +kernel
theorem dL_clock_112 : decode cL_clock 112 = .ok (.iload 5, 2) := by decide +kernel
theorem dL_clock_114 : decode cL_clock 114 = .ok (.iconst 5, 1) := by decide +kernel
theorem dL_clock_115 : decode cL_clock 115 = .ok (.invokevirtual 40, 3) := by decide +kernel
theorem dL_clock_118 : decode cL_clock 118 = .ok (.istore 6, 2) := by decide +kernel
theorem dL_clock_120 : decode cL_clock 120 = .ok (.iload_n 3, 1) := by decide +kernel
theorem dL_clock_121 : decode cL_clock 121 = .ok (.ifCond .ne 13, 3) := by decide +kernel
theorem dL_clock_124 : decode cL_clock 124 = .ok (.aload_n 0, 1) := by decide +kernel
theorem dL_clock_125 : decode cL_clock 125 = .ok (.iload 5, 2) := by decide +kernel
theorem dL_clock_127 : decode cL_clock 127 = .ok (.iconst 0, 1) := by decide +kernel
theorem dL_clock_128 : decode cL_clock 128 = .ok (.invokevirtual 40, 3) := by decide +kernel
theorem dL_clock_131 : decode cL_clock 131 = .ok (.ifCond .ne 7, 3) := by decide +kernel
theorem dL_clock_134 : decode cL_clock 134 = .ok (.iconst 1, 1) := by decide +kernel
theorem dL_clock_135 : decode cL_clock 135 = .ok (.goto 4, 3) := by decide +kernel
theorem dL_clock_138 : decode cL_clock 138 = .ok (.iconst 0, 1) := by decide +kernel
theorem dL_clock_139 : decode cL_clock 139 = .ok (.istore_n 3, 1) := by decide +kernel
theorem dL_clock_140 : decode cL_clock 140 = .ok (.aload_n 0, 1) := by decide +kernel
theorem dL_clock_141 : decode cL_clock 141 = .ok (.iload 5, 2) := by decide +kernel
theorem dL_clock_143 : decode cL_clock 143 = .ok (.iconst 0, 1) := by decide +kernel
theorem dL_clock_144 : decode cL_clock 144 = .ok (.invokevirtual 40, 3) := by decide +kernel
theorem dL_clock_147 : decode cL_clock 147 = .ok (.ifCond .lt 96, 3) := by decide +kernel
theorem dL_clock_150 : decode cL_clock 150 = .ok (.aload_n 0, 1) := by decide +kernel
theorem dL_clock_151 : decode cL_clock 151 = .ok (.iload 5, 2) := by decide +kernel
theorem dL_clock_153 : decode cL_clock 153 = .ok (.iconst 0, 1) := by decide +kernel
theorem dL_clock_154 : decode cL_clock 154 = .ok (.invokevirtual 40, 3) := by decide +kernel
theorem dL_clock_157 : decode cL_clock 157 = .ok (.sipush 200, 3) := by decide +kernel
theorem dL_clock_160 : decode cL_clock 160 = .ok (.if_icmp .gt 83, 3) := by decide +kernel
theorem dL_clock_163 : decode cL_clock 163 = .ok (.iload 6, 2) := by decide +kernel
theorem dL_clock_165 : decode cL_clock 165 = .ok (.iconst (-1), 1) := by decide +kernel
theorem dL_clock_166 : decode cL_clock 166 = .ok (.if_icmp .eq 15, 3) := by decide +kernel
theorem dL_clock_169 : decode cL_clock 169 = .ok (.iload 6, 2) := by decide +kernel
theorem dL_clock_171 : decode cL_clock 171 = .ok (.aload_n 0, 1) := by decide +kernel
theorem dL_clock_172 : decode cL_clock 172 = .ok (.iload 5, 2) := by decide +kernel
theorem dL_clock_174 : decode cL_clock 174 = .ok (.iconst 0, 1) := by decide +kernel
theorem dL_clock_175 : decode cL_clock 175 = .ok (.invokevirtual 40, 3) := by decide +kernel
theorem dL_clock_178 : decode cL_clock 178 = .ok (.if_icmp .lt 65, 3) := by decide +kernel
theorem dL_clock_181 : decode cL_clock 181 = .ok (.iload 6, 2) := by decide +kernel
theorem dL_clock_183 : decode cL_clock 183 = .ok (.ifCond .ne 7, 3) := by decide +kernel
theorem dL_clock_186 : decode cL_clock 186 = .ok (.iconst 1, 1) := by decide +kernel
theorem dL_clock_187 : decode cL_clock 187 = .ok (.goto 4, 3) := by decide +kernel
theorem dL_clock_190 : decode cL_clock 190 = .ok (.iconst 0, 1) := by decide +kernel
theorem dL_clock_191 : decode cL_clock 191 = .ok (.aload_n 0, 1) := by decide +kernel
theorem dL_clock_192 : decode cL_clock 192 = .ok (.iload 5, 2) := by decide +kernel
theorem dL_clock_194 : decode cL_clock 194 = .ok (.iconst 0, 1) := by decide +kernel
theorem dL_clock_195 : decode cL_clock 195 = .ok (.invokevirtual 40, 3) := by decide +kernel
theorem dL_clock_198 : decode cL_clock 198 = .ok (.ifCond .ne 7, 3) := by decide +kernel
theorem dL_clock_201 : decode cL_clock 201 = .ok (.iconst 1, 1) := by decide +kernel
theorem dL_clock_202 : decode cL_clock 202 = .ok (.goto 4, 3) := by decide +kernel
theorem dL_clock_205 : decode cL_clock 205 = .ok (.iconst 0, 1) := by decide +kernel
theorem dL_clock_206 : decode cL_clock 206 = .ok (.if_icmp .ne 37, 3) := by decide +kernel
theorem dL_clock_209 : decode cL_clock 209 = .ok (.aload_n 0, 1) := by decide +kernel
theorem dL_clock_210 : decode cL_clock 210 = .ok (.iload 5, 2) := by decide +kernel
theorem dL_clock_212 : decode cL_clock 212 = .ok (.iconst 4, 1) := by decide +kernel
theorem dL_clock_213 : decode cL_clock 213 = .ok (.invokevirtual 40, 3) := by decide +kernel
theorem dL_clock_216 : decode cL_clock 216 = .ok (.aload_n 0, 1) := by decide +kernel
theorem dL_clock_217 : decode cL_clock 217 = .ok (.iload 5, 2) := by decide +kernel
theorem dL_clock_219 : decode cL_clock 219 = .ok (.iconst 3, 1) := by decide +kernel
theorem dL_clock_220 : decode cL_clock 220 = .ok (.invokevirtual 40, 3) := by decide +kernel
theorem dL_clock_223 : decode cL_clock 223 = .ok (.aload_n 0, 1) := by decide +kernel
theorem dL_clock_224 : decode cL_clock 224 = .ok (.iconst 2, 1) := by decide +kernel
theorem dL_clock_225 : decode cL_clock 225 = .ok (.invokevirtual 43, 3) := by decide +kernel
theorem dL_clock_228 : decode cL_clock 228 = .ok (.if_icmp .lt 7, 3) := by decide +kernel
theorem dL_clock_231 : decode cL_clock 231 = .ok (.iconst 1, 1) := by decide +kernel
theorem dL_clock_232 : decode cL_clock 232 = .ok (.goto 4, 3) := by decide +kernel
theorem dL_clock_235 : decode cL_clock 235 = .ok (.iconst 0, 1) := by decide +kernel
theorem dL_clock_236 : decode cL_clock 236 = .ok (.if_icmp .ne 7, 3) := by decide +kernel
theorem dL_clock_239 : decode cL_clock 239 = .ok (.iconst 1, 1) := by decide +kernel
theorem dL_clock_240 : decode cL_clock 240 = .ok (.goto 4, 3) := by decide +kernel
theorem dL_clock_243 : decode cL_clock 243 = .ok (.iconst 0, 1) := by decide +kernel
theorem dL_clock_244 : decode cL_clock 244 = .ok (.istore 4, 2) := by decide +kernel
theorem dL_clock_246 : decode cL_clock 246 = .ok (.iload 4, 2) := by decide +kernel
theorem dL_clock_248 : decode cL_clock 248 = .ok (.ifCond .eq 44, 3) := by decide +kernel
theorem dL_clock_251 : decode cL_clock 251 = .ok (.aload_n 0, 1) := by decide +kernel
theorem dL_clock_252 : decode cL_clock 252 = .ok (.iload 5, 2) := by decide +kernel
theorem dL_clock_254 : decode cL_clock 254 = .ok (.iconst 1, 1) := by decide +kernel
theorem dL_clock_255 : decode cL_clock 255 = .ok (.invokevirtual 40, 3) := by decide +kernel
theorem dL_clock_258 : decode cL_clock 258 = .ok (.iconst 1, 1) := by decide +kernel
theorem dL_clock_259 : decode cL_clock 259 = .ok (.if_icmp .eq 8, 3) := by decide +kernel
theorem dL_clock_262 : decode cL_clock 262 = .ok (.iload 6, 2) := by decide +kernel
theorem dL_clock_264 : decode cL_clock 264 = .ok (.ifCond .gt 28, 3) := by decide +kernel
theorem dL_clock_267 : decode cL_clock 267 = .ok (.aload_n 0, 1) := by decide +kernel
theorem dL_clock_268 : decode cL_clock 268 = .ok (.iload 5, 2) := by decide +kernel
theorem dL_clock_270 : decode cL_clock 270 = .ok (.iconst 1, 1) := by decide +kernel
theorem dL_clock_271 : decode cL_clock 271 = .ok (.invokevirtual 40, 3) := by decide +kernel
theorem dL_clock_274 : decode cL_clock 274 = .ok (.iconst 1, 1) := by decide +kernel
theorem dL_clock_275 : decode cL_clock 275 = .ok (.if_icmp .eq 13, 3) := by decide +kernel
theorem dL_clock_278 : decode cL_clock 278 = .ok (.aload_n 0, 1) := by decide +kernel
theorem dL_clock_279 : decode cL_clock 279 = .ok (.iload 5, 2) := by decide +kernel
theorem dL_clock_281 : decode cL_clock 281 = .ok (.invokevirtual 46, 3) := by decide +kernel
theorem dL_clock_284 : decode cL_clock 284 = .ok (.iconst (-1), 1) := by decide +kernel
theorem dL_clock_285 : decode cL_clock 285 = .ok (.if_icmp .ne 7, 3) := by decide +kernel
theorem dL_clock_288 : decode cL_clock 288 = .ok (.iconst 1, 1) := by decide +kernel
theorem dL_clock_289 : decode cL_clock 289 = .ok (.goto 4, 3) := by decide +kernel
theorem dL_clock_292 : decode cL_clock 292 = .ok (.iconst 0, 1) := by decide +kernel
theorem dL_clock_293 : decode cL_clock 293 = .ok (.istore 4, 2) := by decide +kernel
theorem dL_clock_295 : decode cL_clock 295 = .ok (.iinc 5 1, 3) := by decide +kernel
theorem dL_clock_298 : decode cL_clock 298 = .ok (.goto (-198), 3) := by decide +kernel
theorem dL_clock_301 : decode cL_clock 301 = .ok (.iload 4, 2) := by decide +kernel
theorem dL_clock_303 : decode cL_clock 303 = .ok (.ifCond .eq 98, 3) := by decide +kernel
theorem dL_clock_306 : decode cL_clock 306 = .ok (.iload_n 2, 1) := by decide +kernel
theorem dL_clock_307 : decode cL_clock 307 = .ok (.ifCond .eq 15, 3) := by decide +kernel
theorem dL_clock_310 : decode cL_clock 310 = .ok (.aload_n 0, 1) := by decide +kernel
theorem dL_clock_311 : decode cL_clock 311 = .ok (.iconst 4, 1) := by decide +kernel
theorem dL_clock_312 : decode cL_clock 312 = .ok (.invokevirtual 34, 3) := by decide +kernel
theorem dL_clock_315 : decode cL_clock 315 = .ok (.iconst (-1), 1) := by decide +kernel
theorem dL_clock_316 : decode cL_clock 316 = .ok (.if_icmp .ne 85, 3) := by decide +kernel
theorem dL_clock_319 : decode cL_clock 319 = .ok (.goto 23, 3) := by decide +kernel
theorem dL_clock_322 : decode cL_clock 322 = .ok (.aload_n 0, 1) := by decide +kernel
theorem dL_clock_323 : decode cL_clock 323 = .ok (.iconst 4, 1) := by decide +kernel
theorem dL_clock_324 : decode cL_clock 324 = .ok (.invokevirtual 34, 3) := by decide +kernel
theorem dL_clock_327 : decode cL_clock 327 = .ok (.iconst 1, 1) := by decide +kernel
theorem dL_clock_328 : decode cL_clock 328 = .ok (.if_icmp .lt 73, 3) := by decide +kernel
theorem dL_clock_331 : decode cL_clock 331 = .ok (.aload_n 0, 1) := by decide +kernel
theorem dL_clock_332 : decode cL_clock 332 = .ok (.iconst 4, 1) := by decide +kernel
theorem dL_clock_333 : decode cL_clock 333 = .ok (.invokevirtual 34, 3) := by decide +kernel
theorem dL_clock_336 : decode cL_clock 336 = .ok (.sipush 168, 3) := by decide +kernel
theorem dL_clock_339 : decode cL_clock 339 = .ok (.if_icmp .gt 62, 3) := by decide +kernel
theorem dL_clock_342 : decode cL_clock 342 = .ok (.aload_n 0, 1) := by decide +kernel
theorem dL_clock_343 : decode cL_clock 343 = .ok (.bipush 9, 2) := by decide +kernel
theorem dL_clock_345 : decode cL_clock 345 = .ok (.invokevirtual 34, 3) := by decide +kernel
theorem dL_clock_348 : decode cL_clock 348 = .ok (.aload_n 0, 1) := by decide +kernel
theorem dL_clock_349 : decode cL_clock 349 = .ok (.bipush 10, 2) := by decide +kernel
theorem dL_clock_351 : decode cL_clock 351 = .ok (.invokevirtual 34, 3) := by decide +kernel
theorem dL_clock_354 : decode cL_clock 354 = .ok (.aload_n 0, 1) := by decide +kernel
theorem dL_clock_355 : decode cL_clock 355 = .ok (.bipush 11, 2) := by decide +kernel
theorem dL_clock_357 : decode cL_clock 357 = .ok (.invokevirtual 34, 3) := by decide +kernel
theorem dL_clock_360 : decode cL_clock 360 = .ok (.iadd, 1) := by decide +kernel
theorem dL_clock_361 : decode cL_clock 361 = .ok (.aload_n 0, 1) := by decide +kernel
theorem dL_clock_362 : decode cL_clock 362 = .ok (.bipush 12, 2) := by decide +kernel
theorem dL_clock_364 : decode cL_clock 364 = .ok (.invokevirtual 34, 3) := by decide +kernel
theorem dL_clock_367 : decode cL_clock 367 = .ok (.iadd, 1) := by decide +kernel
theorem dL_clock_368 : decode cL_clock 368 = .ok (.if_icmp .ne 33, 3) := by decide +kernel
theorem dL_clock_371 : decode cL_clock 371 = .ok (.aload_n 0, 1) := by decide +kernel
theorem dL_clock_372 : decode cL_clock 372 = .ok (.bipush 8, 2) := by decide +kernel
theorem dL_clock_374 : decode cL_clock 374 = .ok (.invokevirtual 34, 3) := by decide +kernel
theorem dL_clock_377 : decode cL_clock 377 = .ok (.aload_n 0, 1) := by decide +kernel
theorem dL_clock_378 : decode cL_clock 378 = .ok (.bipush 6, 2) := by decide +kernel
theorem dL_clock_380 : decode cL_clock 380 = .ok (.invokevirtual 34, 3) := by decide +kernel
theorem dL_clock_383 : decode cL_clock 383 = .ok (.if_icmp .lt 18, 3) := by decide +kernel
theorem dL_clock_386 : decode cL_clock 386 = .ok (.aload_n 0, 1) := by decide +kernel
theorem dL_clock_387 : decode cL_clock 387 = .ok (.bipush 7, 2) := by decide +kernel
theorem dL_clock_389 : decode cL_clock 389 = .ok (.invokevirtual 34, 3) := by decide +kernel
theorem dL_clock_392 : decode cL_clock 392 = .ok (.bipush 24, 2) := by decide +kernel
theorem dL_clock_394 : decode cL_clock 394 = .ok (.if_icmp .gt 7, 3) := by decide +kernel
theorem dL_clock_397 : decode cL_clock 397 = .ok (.iconst 1, 1) := by decide +kernel
theorem dL_clock_398 : decode cL_clock 398 = .ok (.goto 4, 3) := by decide +kernel
theorem dL_clock_401 : decode cL_clock 401 = .ok (.iconst 0, 1) := by decide +kernel
theorem dL_clock_402 : decode cL_clock 402 = .ok (.istore 4, 2) := by decide +kernel
theorem dL_clock_404 : decode cL_clock 404 = .ok (.iload 4, 2) := by decide +kernel
theorem dL_clock_406 : decode cL_clock 406 = .ok (.ifCond .eq 61, 3) := by decide +kernel
theorem dL_clock_409 : decode cL_clock 409 = .ok (.iload_n 1, 1) := by decide +kernel
theorem dL_clock_410 : decode cL_clock 410 = .ok (.ifCond .ne 53, 3) := by decide +kernel
theorem dL_clock_413 : decode cL_clock 413 = .ok (.aload_n 0, 1) := by decide +kernel
theorem dL_clock_414 : decode cL_clock 414 = .ok (.iconst 5, 1) := by decide +kernel
theorem dL_clock_415 : decode cL_clock 415 = .ok (.invokevirtual 34, 3) := by decide +kernel
theorem dL_clock_418 : decode cL_clock 418 = .ok (.iconst (-1), 1) := by decide +kernel
theorem dL_clock_419 : decode cL_clock 419 = .ok (.if_icmp .ne 48, 3) := by decide +kernel
theorem dL_clock_422 : decode cL_clock 422 = .ok (.aload_n 0, 1) := by decide +kernel
theorem dL_clock_423 : decode cL_clock 423 = .ok (.bipush 6, 2) := by decide +kernel
theorem dL_clock_425 : decode cL_clock 425 = .ok (.invokevirtual 34, 3) := by decide +kernel
theorem dL_clock_428 : decode cL_clock 428 = .ok (.ifCond .ne 39, 3) := by decide +kernel
theorem dL_clock_431 : decode cL_clock 431 = .ok (.aload_n 0, 1) := by decide +kernel
theorem dL_clock_432 : decode cL_clock 432 = .ok (.bipush 7, 2) := by decide +kernel
theorem dL_clock_434 : decode cL_clock 434 = .ok (.invokevirtual 34, 3) := by decide +kernel
theorem dL_clock_437 : decode cL_clock 437 = .ok (.ifCond .ne 30, 3) := by decide +kernel
theorem dL_clock_440 : decode cL_clock 440 = .ok (.aload_n 0, 1) := by decide +kernel
theorem dL_clock_441 : decode cL_clock 441 = .ok (.invokevirtual 49, 3) := by decide +kernel
theorem dL_clock_444 : decode cL_clock 444 = .ok (.iconst (-1), 1) := by decide +kernel
theorem dL_clock_445 : decode cL_clock 445 = .ok (.if_icmp .ne 22, 3) := by decide +kernel
theorem dL_clock_448 : decode cL_clock 448 = .ok (.aload_n 0, 1) := by decide +kernel
theorem dL_clock_449 : decode cL_clock 449 = .ok (.invokevirtual 52, 3) := by decide +kernel
theorem dL_clock_452 : decode cL_clock 452 = .ok (.ifCond .ne 15, 3) := by decide +kernel
theorem dL_clock_455 : decode cL_clock 455 = .ok (.aload_n 0, 1) := by decide +kernel
theorem dL_clock_456 : decode cL_clock 456 = .ok (.invokevirtual 55, 3) := by decide +kernel
theorem dL_clock_459 : decode cL_clock 459 = .ok (.iconst (-1), 1) := by decide +kernel
theorem dL_clock_460 : decode cL_clock 460 = .ok (.if_icmp .ne 7, 3) := by decide +kernel
theorem dL_clock_463 : decode cL_clock 463 = .ok (.iconst 1, 1) := by decide +kernel
theorem dL_clock_464 : decode cL_clock 464 = .ok (.goto 4, 3) := by decide +kernel
theorem dL_clock_467 : decode cL_clock 467 = .ok (.iconst 0, 1) := by decide +kernel
theorem dL_clock_468 : decode cL_clock 468 = .ok (.istore 4, 2) := by decide +kernel
theorem dL_clock_470 : decode cL_clock 470 = .ok (.iload 4, 2) := by decide +kernel
theorem dL_clock_472 : decode cL_clock 472 = .ok (.ifCond .eq 82, 3) := by decide +kernel
theorem dL_clock_475 : decode cL_clock 475 = .ok (.iload_n 1, 1) := by decide +kernel
theorem dL_clock_476 : decode cL_clock 476 = .ok (.ifCond .eq 74, 3) := by decide +kernel
theorem dL_clock_479 : decode cL_clock 479 = .ok (.aload_n 0, 1) := by decide +kernel
theorem dL_clock_480 : decode cL_clock 480 = .ok (.invokevirtual 49, 3) := by decide +kernel
theorem dL_clock_483 : decode cL_clock 483 = .ok (.ifCond .ne 7, 3) := by decide +kernel
theorem dL_clock_486 : decode cL_clock 486 = .ok (.iconst 1, 1) := by decide +kernel
theorem dL_clock_487 : decode cL_clock 487 = .ok (.goto 4, 3) := by decide +kernel
theorem dL_clock_490 : decode cL_clock 490 = .ok (.iconst 0, 1) := by decide +kernel
theorem dL_clock_491 : decode cL_clock 491 = .ok (.iload_n 3, 1) := by decide +kernel
theorem dL_clock_492 : decode cL_clock 492 = .ok (.ifCond .eq 16, 3) := by decide +kernel
theorem dL_clock_495 : decode cL_clock 495 = .ok (.aload_n 0, 1) := by decide +kernel
theorem dL_clock_496 : decode cL_clock 496 = .ok (.bipush 7, 2) := by decide +kernel
theorem dL_clock_498 : decode cL_clock 498 = .ok (.invokevirtual 34, 3) := by decide +kernel
theorem dL_clock_501 : decode cL_clock 501 = .ok (.ifCond .ne 7, 3) := by decide +kernel
theorem dL_clock_504 : decode cL_clock 504 = .ok (.iconst 1, 1) := by decide +kernel
theorem dL_clock_505 : decode cL_clock 505 = .ok (.goto 4, 3) := by decide +kernel
theorem dL_clock_508 : decode cL_clock 508 = .ok (.iconst 0, 1) := by decide +kernel
theorem dL_clock_509 : decode cL_clock 509 = .ok (.if_icmp .ne 45, 3) := by decide +kernel
theorem dL_clock_512 : decode cL_clock 512 = .ok (.aload_n 0, 1) := by decide +kernel
theorem dL_clock_513 : decode cL_clock 513 = .ok (.invokevirtual 49, 3) := by decide +kernel
theorem dL_clock_516 : decode cL_clock 516 = .ok (.ifCond .ge 13, 3) := by decide +kernel
theorem dL_clock_519 : decode cL_clock 519 = .ok (.aload_n 0, 1) := by decide +kernel
theorem dL_clock_520 : decode cL_clock 520 = .ok (.invokevirtual 52, 3) := by decide +kernel
theorem dL_clock_523 : decode cL_clock 523 = .ok (.sipush 1000, 3) := by decide +kernel
theorem dL_clock_526 : decode cL_clock 526 = .ok (.if_icmp .ne 28, 3) := by decide +kernel
theorem dL_clock_529 : decode cL_clock 529 = .ok (.aload_n 0, 1) := by decide +kernel
theorem dL_clock_530 : decode cL_clock 530 = .ok (.invokevirtual 49, 3) := by decide +kernel
theorem dL_clock_533 : decode cL_clock 533 = .ok (.iconst (-1), 1) := by decide +kernel
theorem dL_clock_534 : decode cL_clock 534 = .ok (.if_icmp .eq 16, 3) := by decide +kernel
theorem dL_clock_537 : decode cL_clock 537 = .ok (.aload_n 0, 1) := by decide +kernel
end
section
theorem dL_clock_538 : decode cL_clock 538 = .ok (.invokevirtual 49, 3) := by decide +kernel
theorem dL_clock_541 : decode cL_clock 541 = .ok (.aload_n 0, 1) := by decide +kernel
theorem dL_clock_542 : decode cL_clock 542 = .ok (.bipush 7, 2) := by decide +kernel
theorem dL_clock_544 : decode cL_clock 544 = .ok (.invokevirtual 34, 3) := by decide +kernel
theorem dL_clock_547 : decode cL_clock 547 = .ok (.if_icmp .lt 7, 3) := by decide +kernel
theorem dL_clock_550 : decode cL_clock 550 = .ok (.iconst 1, 1) := by decide +kernel
theorem dL_clock_551 : decode cL_clock 551 = .ok (.goto 4, 3) := by decide +kernel
theorem dL_clock_554 : decode cL_clock 554 = .ok (.iconst 0, 1) := by decide +kernel
theorem dL_clock_555 : decode cL_clock 555 = .ok (.istore 4, 2) := by decide +kernel
theorem dL_clock_557 : decode cL_clock 557 = .ok (.aload_n 0, 1) := by decide +kernel
theorem dL_clock_558 : decode cL_clock 558 = .ok (.bipush 9, 2) := by decide +kernel
theorem dL_clock_560 : decode cL_clock 560 = .ok (.invokevirtual 34, 3) := by decide +kernel
theorem dL_clock_563 : decode cL_clock 563 = .ok (.aload_n 0, 1) := by decide +kernel
theorem dL_clock_564 : decode cL_clock 564 = .ok (.bipush 13, 2) := by decide +kernel
theorem dL_clock_566 : decode cL_clock 566 = .ok (.invokevirtual 34, 3) := by decide +kernel
theorem dL_clock_569 : decode cL_clock 569 = .ok (.iadd, 1) := by decide +kernel
theorem dL_clock_570 : decode cL_clock 570 = .ok (.istore 5, 2) := by decide +kernel
theorem dL_clock_572 : decode cL_clock 572 = .ok (.iload 4, 2) := by decide +kernel
theorem dL_clock_574 : decode cL_clock 574 = .ok (.ifCond .eq 60, 3) := by decide +kernel
theorem dL_clock_577 : decode cL_clock 577 = .ok (.iload 5, 2) := by decide +kernel
theorem dL_clock_579 : decode cL_clock 579 = .ok (.ifCond .gt 12, 3) := by decide +kernel
theorem dL_clock_582 : decode cL_clock 582 = .ok (.aload_n 0, 1) := by decide +kernel
theorem dL_clock_583 : decode cL_clock 583 = .ok (.invokevirtual 58, 3) := by decide +kernel
theorem dL_clock_586 : decode cL_clock 586 = .ok (.dconst 1, 1) := by decide +kernel
theorem dL_clock_587 : decode cL_clock 587 = .ok (.dcmp .l, 1) := by decide +kernel
theorem dL_clock_588 : decode cL_clock 588 = .ok (.ifCond .ne 46, 3) := by decide +kernel
theorem dL_clock_591 : decode cL_clock 591 = .ok (.aload_n 0, 1) := by decide +kernel
theorem dL_clock_592 : decode cL_clock 592 = .ok (.invokevirtual 58, 3) := by decide +kernel
theorem dL_clock_595 : decode cL_clock 595 = .ok (.dconst 0, 1) := by decide +kernel
theorem dL_clock_596 : decode cL_clock 596 = .ok (.dcmp .l, 1) := by decide +kernel
theorem dL_clock_597 : decode cL_clock 597 = .ok (.ifCond .lt 37, 3) := by decide +kernel
theorem dL_clock_600 : decode cL_clock 600 = .ok (.aload_n 0, 1) := by decide +kernel
theorem dL_clock_601 : decode cL_clock 601 = .ok (.invokevirtual 58, 3) := by decide +kernel
theorem dL_clock_604 : decode cL_clock 604 = .ok (.dconst 1, 1) := by decide +kernel
theorem dL_clock_605 : decode cL_clock 605 = .ok (.dcmp .g, 1) := by decide +kernel
theorem dL_clock_606 : decode cL_clock 606 = .ok (.ifCond .gt 28, 3) := by decide +kernel
theorem dL_clock_609 : decode cL_clock 609 = .ok (.aload_n 0, 1) := by decide +kernel
theorem dL_clock_610 : decode cL_clock 610 = .ok (.invokevirtual 55, 3) := by decide +kernel
theorem dL_clock_613 : decode cL_clock 613 = .ok (.iconst (-1), 1) := by decide +kernel
theorem dL_clock_614 : decode cL_clock 614 = .ok (.if_icmp .eq 16, 3) := by decide +kernel
theorem dL_clock_617 : decode cL_clock 617 = .ok (.aload_n 0, 1) := by decide +kernel
theorem dL_clock_618 : decode cL_clock 618 = .ok (.aload_n 0, 1) := by decide +kernel
theorem dL_clock_619 : decode cL_clock 619 = .ok (.invokevirtual 55, 3) := by decide +kernel
theorem dL_clock_622 : decode cL_clock 622 = .ok (.iconst 1, 1) := by decide +kernel
theorem dL_clock_623 : decode cL_clock 623 = .ok (.invokevirtual 40, 3) := by decide +kernel
theorem dL_clock_626 : decode cL_clock 626 = .ok (.iconst 1, 1) := by decide +kernel
theorem dL_clock_627 : decode cL_clock 627 = .ok (.if_icmp .ne 7, 3) := by decide +kernel
theorem dL_clock_630 : decode cL_clock 630 = .ok (.iconst 1, 1) := by decide +kernel
theorem dL_clock_631 : decode cL_clock 631 = .ok (.goto 4, 3) := by decide +kernel
theorem dL_clock_634 : decode cL_clock 634 = .ok (.iconst 0, 1) := by decide +kernel
theorem dL_clock_635 : decode cL_clock 635 = .ok (.ireturn, 1) := by decide +kernel
set_option maxRecDepth 20000 in
theorem ggL_act_L_cell : GoodIn wsL_act wsL_cell := goodIn_r _ [4, 5] (by decide +kernel) (by decide +kernel)
set_option maxRecDepth 20000 in
theorem gL_act_L_cell : GoodIn wsL_act (va_wsS RL 62 yL_cell wsL_cell) := goodIn_app (goodIn_of _ (by decide +kernel)) ggL_act_L_cell
set_option maxRecDepth 20000 in
theorem ggL_act_L_low : GoodIn wsL_act wsL_low := goodIn_r _ [8, 9] (by decide +kernel) (by decide +kernel)
set_option maxRecDepth 20000 in
theorem gL_act_L_low : GoodIn wsL_act (va_wsS RL 68 yL_low wsL_low) := goodIn_app (goodIn_of _ (by decide +kernel)) ggL_act_L_low
set_option maxRecDepth 20000 in
theorem ggL_act_L_wind : GoodIn wsL_act wsL_wind := goodIn_ca (goodIn_ca (goodIn_ca (goodIn_r _ [12, 13, 14, 15, 16, 17, 18, 19, 20, 21, 22, 23, 24, 25, 26, 27, 28, 29, 30, 31, 32, 33, 34, 35, 36, 37, 38, 39, 40, 41, 42, 43, 44, 45, 46, 47, 48, 49, 50, 51, 52, 53, 54, 55, 56, 149, 150, 151, 152, 153, 154] (by decide +kernel) (by decide +kernel)) (goodIn_sub (fun _ h => List.mem_cons_of_mem _ (List.mem_append_left _ (List.mem_append_left _ (List.mem_append_right _ h)))) (by decide +kernel))) (goodIn_sub (fun _ h => List.mem_cons_of_mem _ (List.mem_append_left _ (List.mem_append_right _ h))) (by decide +kernel))) (goodIn_sub (fun _ h => List.mem_cons_of_mem _ (List.mem_append_right _ h)) (by decide +kernel))
set_option maxRecDepth 20000 in
theorem gL_act_L_wind : GoodIn wsL_act (va_wsS RL 71 yL_wind wsL_wind) := goodIn_app (goodIn_of _ (by decide +kernel)) ggL_act_L_wind
set_option maxRecDepth 20000 in
theorem ggL_act_L_lock : GoodIn wsL_act wsL_lock := goodIn_ca (goodIn_r _ [59, 13, 60, 61, 62, 17, 63, 23, 24, 35, 31, 32, 33, 34, 64, 65, 66, 67, 36, 37, 38, 39, 40, 41, 42, 47, 48, 49, 50, 51, 52, 53, 54, 55, 56, 68, 69, 70, 71, 72, 73, 74, 75, 76, 77, 78, 79, 149, 150, 151, 152, 153, 154] (by decide +kernel) (by decide +kernel)) (goodIn_sub (fun _ h => List.mem_cons_of_mem _ (List.mem_append_right _ h)) (by decide +kernel))
set_option maxRecDepth 20000 in
theorem gL_act_L_lock : GoodIn wsL_act (va_wsS RL 74 yL_lock wsL_lock) := goodIn_app (goodIn_of _ (by decide +kernel)) ggL_act_L_lock
set_option maxRecDepth 20000 in
theorem ggL_act_X1_fault : GoodIn wsL_act wsX1_fault := goodIn_ca (goodIn_r _ [83, 19, 20, 25, 26, 17, 27, 40, 41, 42, 43, 44, 45, 46, 35, 47, 48, 49, 50, 51, 52, 53, 54, 55, 56, 149, 150, 151, 152, 153, 154] (by decide +kernel) (by decide +kernel)) (goodIn_sub (fun _ h => List.mem_cons_of_mem _ (List.mem_append_left _ (List.mem_append_left _ (List.mem_append_right _ h)))) (by decide +kernel))
set_option maxRecDepth 20000 in
theorem gL_act_X1_fault : GoodIn wsL_act (wsV RL 77 RX1 yX1_fault wsX1_fault) := goodIn_app (goodIn_of _ (by decide +kernel)) ggL_act_X1_fault
set_option maxRecDepth 20000 in
theorem ggL_act_X1_loss : GoodIn wsL_act wsX1_loss := goodIn_ca (goodIn_ca (goodIn_r _ [87, 19, 20, 21, 22, 25, 26, 17, 27, 40, 41, 42, 43, 44, 45, 46, 35, 47, 48, 49, 50, 51, 52, 53, 54, 55, 56, 149, 150, 151, 152, 153, 154] (by decide +kernel) (by decide +kernel)) (goodIn_sub (fun _ h => List.mem_cons_of_mem _ (List.mem_append_left _ (List.mem_append_left _ (List.mem_append_right _ h)))) (by decide +kernel))) (goodIn_sub (fun _ h => List.mem_cons_of_mem _ (List.mem_append_left _ (List.mem_append_right _ h))) (by decide +kernel))
set_option maxRecDepth 20000 in
theorem gL_act_X1_loss : GoodIn wsL_act (wsV RL 81 RX1 yX1_loss wsX1_loss) := goodIn_app (goodIn_of _ (by decide +kernel)) ggL_act_X1_loss
set_option maxRecDepth 20000 in
theorem ggL_act_L_service : GoodIn wsL_act wsL_service := goodIn_ca (goodIn_ca (goodIn_r _ [90, 13, 91, 92, 93, 17, 94, 19, 20, 23, 24, 35, 25, 26, 27, 31, 32, 33, 34, 40, 41, 42, 43, 44, 45, 46, 47, 48, 49, 50, 51, 52, 53, 54, 55, 56, 149, 150, 151, 152, 153, 154] (by decide +kernel) (by decide +kernel)) (goodIn_sub (fun _ h => List.mem_cons_of_mem _ (List.mem_append_left _ (List.mem_append_left _ (List.mem_append_right _ h)))) (by decide +kernel))) (goodIn_sub (fun _ h => List.mem_cons_of_mem _ (List.mem_append_right _ h)) (by decide +kernel))
set_option maxRecDepth 20000 in
theorem gL_act_L_service : GoodIn wsL_act (va_wsS RL 84 yL_service wsL_service) := goodIn_app (goodIn_of _ (by decide +kernel)) ggL_act_L_service
set_option maxRecDepth 20000 in
theorem ggL_act_X1_opening : GoodIn wsL_act wsX1_opening := goodIn_ca (goodIn_ca (goodIn_r _ [98, 19, 20, 21, 22, 99, 100, 17, 101, 43, 44, 45, 46, 35, 47, 48, 49, 50, 51, 52, 53, 54, 55, 56, 149, 150, 151, 152, 153, 154] (by decide +kernel) (by decide +kernel)) (goodIn_sub (fun _ h => List.mem_cons_of_mem _ (List.mem_append_left _ (List.mem_append_left _ (List.mem_append_right _ h)))) (by decide +kernel))) (goodIn_sub (fun _ h => List.mem_cons_of_mem _ (List.mem_append_left _ (List.mem_append_right _ h))) (by decide +kernel))
set_option maxRecDepth 20000 in
theorem gL_act_X1_opening : GoodIn wsL_act (wsV RL 87 RX1 yX1_opening wsX1_opening) := goodIn_app (goodIn_of _ (by decide +kernel)) ggL_act_X1_opening
set_option maxRecDepth 20000 in
theorem ggL_act_X1_set : GoodIn wsL_act wsX1_set := goodIn_ca (goodIn_ca (goodIn_r _ [105, 19, 20, 21, 22, 106, 107, 108, 109, 17, 110, 43, 44, 45, 46, 35, 47, 48, 49, 50, 51, 52, 53, 54, 55, 56, 149, 150, 151, 152, 153, 154] (by decide +kernel) (by decide +kernel)) (goodIn_sub (fun _ h => List.mem_cons_of_mem _ (List.mem_append_left _ (List.mem_append_left _ (List.mem_append_right _ h)))) (by decide +kernel))) (goodIn_sub (fun _ h => List.mem_cons_of_mem _ (List.mem_append_left _ (List.mem_append_right _ h))) (by decide +kernel))
set_option maxRecDepth 20000 in
theorem gL_act_X1_set : GoodIn wsL_act (wsV RL 90 RX1 yX1_set wsX1_set) := goodIn_app (goodIn_of _ (by decide +kernel)) ggL_act_X1_set
set_option maxRecDepth 20000 in
theorem ggL_act_L_drill : GoodIn wsL_act wsL_drill := goodIn_ca (goodIn_r _ [113, 13, 114, 115, 116, 17, 117, 23, 24, 35, 31, 32, 33, 34, 47, 48, 49, 50, 51, 52, 53, 54, 55, 56, 40, 41, 42, 118, 119, 120, 121, 149, 150, 151, 152, 153, 154] (by decide +kernel) (by decide +kernel)) (goodIn_sub (fun _ h => List.mem_cons_of_mem _ (List.mem_append_right _ h)) (by decide +kernel))
set_option maxRecDepth 20000 in
theorem gL_act_L_drill : GoodIn wsL_act (va_wsS RL 93 yL_drill wsL_drill) := goodIn_app (goodIn_of _ (by decide +kernel)) ggL_act_L_drill
set_option maxRecDepth 20000 in
theorem ggL_act_L_undo : GoodIn wsL_act wsL_undo := goodIn_ca (goodIn_r _ [124, 13, 125, 126, 127, 17, 128, 23, 24, 51, 52, 35, 53, 54, 55, 56, 149, 150, 151, 152, 153, 154] (by decide +kernel) (by decide +kernel)) (goodIn_sub (fun _ h => List.mem_cons_of_mem _ (List.mem_append_right _ h)) (by decide +kernel))
set_option maxRecDepth 20000 in
theorem gL_act_L_undo : GoodIn wsL_act (va_wsS RL 95 yL_undo wsL_undo) := goodIn_app (goodIn_of _ (by decide +kernel)) ggL_act_L_undo
set_option maxRecDepth 20000 in
theorem ggL_act_X1_pass : GoodIn wsL_act wsX1_pass := goodIn_ca (goodIn_ca (goodIn_r _ [132, 21, 22, 23, 24, 35, 133, 47, 48, 49, 17, 50, 51, 52, 53, 54, 55, 56, 134, 135, 136, 137, 31, 32, 33, 34, 138, 139, 140, 141, 36, 37, 38, 39, 40, 41, 42, 142, 143, 144, 145, 146, 147, 148, 149, 150, 151, 152, 153, 154] (by decide +kernel) (by decide +kernel)) (goodIn_sub (fun _ h => List.mem_cons_of_mem _ (List.mem_append_left _ (List.mem_append_right _ h))) (by decide +kernel))) (goodIn_sub (fun _ h => List.mem_cons_of_mem _ (List.mem_append_right _ h)) (by decide +kernel))
set_option maxRecDepth 20000 in
theorem gL_act_X1_pass : GoodIn wsL_act (wsV RL 97 RX1 yX1_pass wsX1_pass) := goodIn_app (goodIn_of _ (by decide +kernel)) ggL_act_X1_pass
theorem dL_act_0 : decode cL_act 0 = .ok (.aload_n 1, 1) := by decide +kernel
theorem dL_act_1 : decode cL_act 1 = .ok (.iload_n 2, 1) := by decide +kernel
theorem dL_act_2 : decode cL_act 2 = .ok (.iconst 1, 1) := by decide +kernel
theorem dL_act_3 : decode cL_act 3 = .ok (.iadd, 1) := by decide +kernel
theorem dL_act_4 : decode cL_act 4 = .ok (.invokestatic 62, 3) := by decide +kernel
theorem dL_act_7 : decode cL_act 7 = .ok (.istore_n 3, 1) := by decide +kernel
theorem dL_act_8 : decode cL_act 8 = .ok (.aload_n 1, 1) := by decide +kernel
theorem dL_act_9 : decode cL_act 9 = .ok (.iload_n 2, 1) := by decide +kernel
theorem dL_act_10 : decode cL_act 10 = .ok (.iconst 2, 1) := by decide +kernel
theorem dL_act_11 : decode cL_act 11 = .ok (.iadd, 1) := by decide +kernel
theorem dL_act_12 : decode cL_act 12 = .ok (.invokestatic 62, 3) := by decide +kernel
theorem dL_act_15 : decode cL_act 15 = .ok (.istore 4, 2) := by decide +kernel
theorem dL_act_17 : decode cL_act 17 = .ok (.iload_n 3, 1) := by decide +kernel
theorem dL_act_18 : decode cL_act 18 = .ok (.iconst 3, 1) := by decide +kernel
theorem dL_act_19 : decode cL_act 19 = .ok (.invokestatic 68, 3) := by decide +kernel
theorem dL_act_22 : decode cL_act 22 = .ok (.istore 5, 2) := by decide +kernel
theorem dL_act_24 : decode cL_act 24 = .ok (.aload_n 1, 1) := by decide +kernel
theorem dL_act_25 : decode cL_act 25 = .ok (.iload_n 2, 1) := by decide +kernel
theorem dL_act_26 : decode cL_act 26 = .ok (.invokestatic 62, 3) := by decide +kernel
theorem dL_act_29 : decode cL_act 29 = .ok (.bipush 16, 2) := by decide +kernel
theorem dL_act_31 : decode cL_act 31 = .ok (.invokestatic 68, 3) := by decide +kernel
theorem dL_act_34 : decode cL_act 34 = .ok (.tableswitch 214 0 11 #[62, 62, 62, 78, 78, 94, 115, 129, 136, 158, 177, 209], 62) := by decide +kernel
theorem dL_act_96 : decode cL_act 96 = .ok (.aload_n 0, 1) := by decide +kernel
theorem dL_act_97 : decode cL_act 97 = .ok (.iload 5, 2) := by decide +kernel
theorem dL_act_99 : decode cL_act 99 = .ok (.iconst 1, 1) := by decide +kernel
theorem dL_act_100 : decode cL_act 100 = .ok (.iload 4, 2) := by decide +kernel
theorem dL_act_102 : decode cL_act 102 = .ok (.bipush 60, 2) := by decide +kernel
theorem dL_act_104 : decode cL_act 104 = .ok (.invokestatic 68, 3) := by decide +kernel
theorem dL_act_107 : decode cL_act 107 = .ok (.iadd, 1) := by decide +kernel
theorem dL_act_108 : decode cL_act 108 = .ok (.invokestatic 71, 3) := by decide +kernel
theorem dL_act_111 : decode cL_act 111 = .ok (.ireturn, 1) := by decide +kernel
theorem dL_act_112 : decode cL_act 112 = .ok (.aload_n 0, 1) := by decide +kernel
theorem dL_act_113 : decode cL_act 113 = .ok (.invokestatic 74, 3) := by decide +kernel
theorem dL_act_116 : decode cL_act 116 = .ok (.bipush (-3), 2) := by decide +kernel
theorem dL_act_118 : decode cL_act 118 = .ok (.if_icmp .ne 8, 3) := by decide +kernel
theorem dL_act_121 : decode cL_act 121 = .ok (.bipush (-3), 2) := by decide +kernel
theorem dL_act_123 : decode cL_act 123 = .ok (.goto 4, 3) := by decide +kernel
theorem dL_act_126 : decode cL_act 126 = .ok (.iconst 0, 1) := by decide +kernel
theorem dL_act_127 : decode cL_act 127 = .ok (.ireturn, 1) := by decide +kernel
theorem dL_act_128 : decode cL_act 128 = .ok (.aload_n 0, 1) := by decide +kernel
theorem dL_act_129 : decode cL_act 129 = .ok (.iload 5, 2) := by decide +kernel
theorem dL_act_131 : decode cL_act 131 = .ok (.iload 4, 2) := by decide +kernel
theorem dL_act_133 : decode cL_act 133 = .ok (.iconst 3, 1) := by decide +kernel
theorem dL_act_134 : decode cL_act 134 = .ok (.invokestatic 68, 3) := by decide +kernel
theorem dL_act_137 : decode cL_act 137 = .ok (.ifCond .le 7, 3) := by decide +kernel
theorem dL_act_140 : decode cL_act 140 = .ok (.iconst 1, 1) := by decide +kernel
theorem dL_act_141 : decode cL_act 141 = .ok (.goto 4, 3) := by decide +kernel
theorem dL_act_144 : decode cL_act 144 = .ok (.iconst 0, 1) := by decide +kernel
theorem dL_act_145 : decode cL_act 145 = .ok (.invokevirtual 77, 3) := by decide +kernel
theorem dL_act_148 : decode cL_act 148 = .ok (.ireturn, 1) := by decide +kernel
theorem dL_act_149 : decode cL_act 149 = .ok (.aload_n 0, 1) := by decide +kernel
theorem dL_act_150 : decode cL_act 150 = .ok (.iload 5, 2) := by decide +kernel
theorem dL_act_152 : decode cL_act 152 = .ok (.iload 4, 2) := by decide +kernel
theorem dL_act_154 : decode cL_act 154 = .ok (.bipush 21, 2) := by decide +kernel
theorem dL_act_156 : decode cL_act 156 = .ok (.invokestatic 68, 3) := by decide +kernel
theorem dL_act_159 : decode cL_act 159 = .ok (.invokevirtual 81, 3) := by decide +kernel
theorem dL_act_162 : decode cL_act 162 = .ok (.ireturn, 1) := by decide +kernel
theorem dL_act_163 : decode cL_act 163 = .ok (.aload_n 0, 1) := by decide +kernel
theorem dL_act_164 : decode cL_act 164 = .ok (.iload 5, 2) := by decide +kernel
theorem dL_act_166 : decode cL_act 166 = .ok (.invokestatic 84, 3) := by decide +kernel
theorem dL_act_169 : decode cL_act 169 = .ok (.ireturn, 1) := by decide +kernel
theorem dL_act_170 : decode cL_act 170 = .ok (.aload_n 0, 1) := by decide +kernel
theorem dL_act_171 : decode cL_act 171 = .ok (.iload_n 3, 1) := by decide +kernel
theorem dL_act_172 : decode cL_act 172 = .ok (.bipush 7, 2) := by decide +kernel
theorem dL_act_174 : decode cL_act 174 = .ok (.invokestatic 68, 3) := by decide +kernel
theorem dL_act_177 : decode cL_act 177 = .ok (.iload 4, 2) := by decide +kernel
theorem dL_act_179 : decode cL_act 179 = .ok (.bipush 25, 2) := by decide +kernel
theorem dL_act_181 : decode cL_act 181 = .ok (.invokestatic 68, 3) := by decide +kernel
theorem dL_act_184 : decode cL_act 184 = .ok (.iconst 1, 1) := by decide +kernel
theorem dL_act_185 : decode cL_act 185 = .ok (.isub, 1) := by decide +kernel
theorem dL_act_186 : decode cL_act 186 = .ok (.invokevirtual 87, 3) := by decide +kernel
theorem dL_act_189 : decode cL_act 189 = .ok (.iconst 1, 1) := by decide +kernel
theorem dL_act_190 : decode cL_act 190 = .ok (.iadd, 1) := by decide +kernel
theorem dL_act_191 : decode cL_act 191 = .ok (.ireturn, 1) := by decide +kernel
theorem dL_act_192 : decode cL_act 192 = .ok (.aload_n 0, 1) := by decide +kernel
theorem dL_act_193 : decode cL_act 193 = .ok (.iload_n 3, 1) := by decide +kernel
theorem dL_act_194 : decode cL_act 194 = .ok (.iconst 2, 1) := by decide +kernel
theorem dL_act_195 : decode cL_act 195 = .ok (.invokestatic 68, 3) := by decide +kernel
theorem dL_act_198 : decode cL_act 198 = .ok (.iconst 1, 1) := by decide +kernel
theorem dL_act_199 : decode cL_act 199 = .ok (.iload 4, 2) := by decide +kernel
theorem dL_act_201 : decode cL_act 201 = .ok (.bipush 9, 2) := by decide +kernel
theorem dL_act_203 : decode cL_act 203 = .ok (.invokestatic 68, 3) := by decide +kernel
theorem dL_act_206 : decode cL_act 206 = .ok (.iadd, 1) := by decide +kernel
theorem dL_act_207 : decode cL_act 207 = .ok (.invokevirtual 90, 3) := by decide +kernel
theorem dL_act_210 : decode cL_act 210 = .ok (.ireturn, 1) := by decide +kernel
theorem dL_act_211 : decode cL_act 211 = .ok (.iload 4, 2) := by decide +kernel
theorem dL_act_213 : decode cL_act 213 = .ok (.iconst 4, 1) := by decide +kernel
theorem dL_act_214 : decode cL_act 214 = .ok (.invokestatic 68, 3) := by decide +kernel
theorem dL_act_217 : decode cL_act 217 = .ok (.ifCond .ne 10, 3) := by decide +kernel
theorem dL_act_220 : decode cL_act 220 = .ok (.aload_n 0, 1) := by decide +kernel
theorem dL_act_221 : decode cL_act 221 = .ok (.invokestatic 93, 3) := by decide +kernel
theorem dL_act_224 : decode cL_act 224 = .ok (.goto 18, 3) := by decide +kernel
theorem dL_act_227 : decode cL_act 227 = .ok (.aload_n 0, 1) := by decide +kernel
theorem dL_act_228 : decode cL_act 228 = .ok (.iconst 2, 1) := by decide +kernel
theorem dL_act_229 : decode cL_act 229 = .ok (.bipush 10, 2) := by decide +kernel
theorem dL_act_231 : decode cL_act 231 = .ok (.iload 4, 2) := by decide +kernel
theorem dL_act_233 : decode cL_act 233 = .ok (.bipush 90, 2) := by decide +kernel
theorem dL_act_235 : decode cL_act 235 = .ok (.invokestatic 68, 3) := by decide +kernel
theorem dL_act_238 : decode cL_act 238 = .ok (.iadd, 1) := by decide +kernel
theorem dL_act_239 : decode cL_act 239 = .ok (.invokevirtual 90, 3) := by decide +kernel
theorem dL_act_242 : decode cL_act 242 = .ok (.ireturn, 1) := by decide +kernel
theorem dL_act_243 : decode cL_act 243 = .ok (.aload_n 0, 1) := by decide +kernel
theorem dL_act_244 : decode cL_act 244 = .ok (.invokestatic 95, 3) := by decide +kernel
theorem dL_act_247 : decode cL_act 247 = .ok (.ireturn, 1) := by decide +kernel
theorem dL_act_248 : decode cL_act 248 = .ok (.aload_n 0, 1) := by decide +kernel
theorem dL_act_249 : decode cL_act 249 = .ok (.iconst 1, 1) := by decide +kernel
theorem dL_act_250 : decode cL_act 250 = .ok (.iload 4, 2) := by decide +kernel
theorem dL_act_252 : decode cL_act 252 = .ok (.bipush 30, 2) := by decide +kernel
theorem dL_act_254 : decode cL_act 254 = .ok (.invokestatic 68, 3) := by decide +kernel
theorem dL_act_257 : decode cL_act 257 = .ok (.iadd, 1) := by decide +kernel
theorem dL_act_258 : decode cL_act 258 = .ok (.invokevirtual 97, 3) := by decide +kernel
theorem dL_act_261 : decode cL_act 261 = .ok (.ireturn, 1) := by decide +kernel
set_option maxRecDepth 20000 in
theorem ggL_law_X1_init : GoodIn wsL_law wsX1_init := goodIn_r _ [5, 6, 7, 8, 9, 10, 11, 12, 13, 14, 15, 16, 17, 18, 19, 20, 21, 22, 23, 24, 25, 26, 260, 261, 262, 263, 264, 265, 266, 267, 268, 269] (by decide +kernel) (by decide +kernel)
set_option maxRecDepth 20000 in
theorem gL_law_X1_init : GoodIn wsL_law (wsX1_init) := ggL_law_X1_init
set_option maxRecDepth 20000 in
theorem ggL_law_X1_count : GoodIn wsL_law wsX1_count := goodIn_ca (goodIn_r _ [30, 31, 32, 33, 34, 35, 2, 36, 10, 12, 37, 38, 39, 40, 41, 42, 43, 44, 45, 46, 47, 48, 49, 50, 51, 52, 53, 54, 55, 56, 260, 261, 262, 263, 264, 265] (by decide +kernel) (by decide +kernel)) (goodIn_sub (fun _ h => List.mem_append_left _ (List.mem_append_left _ (List.mem_append_right _ h))) (by decide +kernel))
set_option maxRecDepth 20000 in
theorem gL_law_X1_count : GoodIn wsL_law (wsV RL 34 RX1 yX1_count wsX1_count) := goodIn_app (goodIn_of _ (by decide +kernel)) ggL_law_X1_count
set_option maxRecDepth 20000 in
theorem ggL_law_L_cell : GoodIn wsL_law wsL_cell := goodIn_r _ [60, 61] (by decide +kernel) (by decide +kernel)
set_option maxRecDepth 20000 in
theorem gL_law_L_cell : GoodIn wsL_law (va_wsS RL 62 yL_cell wsL_cell) := goodIn_app (goodIn_of _ (by decide +kernel)) ggL_law_L_cell
set_option maxRecDepth 20000 in
theorem ggL_law_L_low : GoodIn wsL_law wsL_low := goodIn_r _ [64, 65] (by decide +kernel) (by decide +kernel)
set_option maxRecDepth 20000 in
theorem gL_law_L_low : GoodIn wsL_law (va_wsS RL 68 yL_low wsL_low) := goodIn_app (goodIn_of _ (by decide +kernel)) ggL_law_L_low
set_option maxRecDepth 20000 in
theorem ggL_law_X1_opensIn : GoodIn wsL_law wsX1_opensIn := goodIn_r _ [69, 70, 71, 72, 2, 73, 53, 54, 55, 56, 74, 75, 76, 77, 10, 78, 79, 80, 81, 82, 83, 84, 85, 86, 87, 88, 49, 50, 51, 52, 260, 261, 262, 263, 264, 265] (by decide +kernel) (by decide +kernel)
set_option maxRecDepth 20000 in
theorem gL_law_X1_opensIn : GoodIn wsL_law (wsV RL 49 RX1 yX1_opensIn wsX1_opensIn) := goodIn_app (goodIn_of _ (by decide +kernel)) ggL_law_X1_opensIn
set_option maxRecDepth 20000 in
theorem ggL_law_L_open : GoodIn wsL_law wsL_open := goodIn_ca (goodIn_r _ [91, 92, 93, 94, 95, 2, 96, 97, 98, 74, 75, 76, 77, 10, 99, 100, 101, 102, 12, 11, 103, 104, 105, 106, 70, 71, 72, 73, 53, 54, 55, 56, 78, 79, 80, 81, 82, 83, 84, 85, 86, 87, 88, 49, 50, 51, 52, 107, 108, 109, 110, 111, 112, 113, 114, 115, 116, 117, 118, 119, 120, 121, 122, 260, 261, 262, 263, 264, 265] (by decide +kernel) (by decide +kernel)) (goodIn_sub (fun _ h => List.mem_append_left _ (List.mem_append_right _ h)) (by decide +kernel))
set_option maxRecDepth 20000 in
theorem gL_law_L_open : GoodIn wsL_law (va_wsS RL 101 yL_open wsL_open) := goodIn_app (goodIn_of _ (by decide +kernel)) ggL_law_L_open
set_option maxRecDepth 20000 in
theorem ggL_law_X1_setting : GoodIn wsL_law wsX1_setting := goodIn_ca (goodIn_r _ [126, 127, 128, 10, 129, 130, 2, 131, 260, 261, 262, 263, 264, 265] (by decide +kernel) (by decide +kernel)) (goodIn_sub (fun _ h => List.mem_append_right _ h) (by decide +kernel))
set_option maxRecDepth 20000 in
theorem gL_law_X1_setting : GoodIn wsL_law (wsV RL 43 RX1 yX1_setting wsX1_setting) := goodIn_app (goodIn_of _ (by decide +kernel)) ggL_law_X1_setting
end
section
set_option maxRecDepth 20000 in
theorem ggL_law_L_act : GoodIn wsL_law wsL_act := goodIn_ca (goodIn_ca (goodIn_ca (goodIn_r _ [134, 57, 58, 59, 60, 61, 62, 63, 64, 65, 135, 136, 137, 92, 138, 139, 140, 2, 141, 127, 128, 31, 32, 97, 98, 142, 143, 144, 145, 146, 147, 74, 75, 76, 77, 10, 78, 79, 80, 81, 82, 83, 84, 148, 149, 150, 151, 99, 100, 101, 102, 12, 11, 103, 104, 105, 106, 152, 153, 154, 155, 156, 157, 158, 159, 160, 161, 162, 45, 46, 47, 48, 37, 38, 39, 40, 41, 42, 43, 44, 163, 164, 165, 166, 167, 168, 169, 170, 171, 172, 173, 174, 175, 176, 177, 178, 179, 180, 181, 182, 183, 184, 185, 186, 187, 188, 189, 190, 129, 130, 131, 191, 192, 193, 194, 195, 196, 197, 119, 120, 121, 122, 198, 199, 200, 201, 202, 203, 204, 205, 206, 207, 208, 209, 210, 211, 212, 213, 214, 215, 216, 217, 218, 219, 220, 221, 222, 223, 224, 260, 261, 262, 263, 264, 265] (by decide +kernel) (by decide +kernel)) (goodIn_sub (fun _ h => List.mem_append_right _ h) (by decide +kernel))) (goodIn_sub (fun _ h => List.mem_append_left _ (List.mem_append_left _ (List.mem_append_right _ h))) (by decide +kernel))) (goodIn_sub (fun _ h => List.mem_append_left _ (List.mem_append_right _ h)) (by decide +kernel))
set_option maxRecDepth 20000 in
theorem gL_law_L_act : GoodIn wsL_law (va_wsS RL 103 yL_act wsL_act) := goodIn_app (goodIn_of _ (by decide +kernel)) ggL_law_L_act
end
section
set_option maxRecDepth 20000 in
theorem mC_10 : Cond.code yL_clock cL_clock 7 (some .boolean) ∈ wsL_law0_r10 := List.mem_of_getElem? (i := 11) rfl
set_option maxRecDepth 20000 in
theorem mC_0 : Cond.code yL_clock cL_clock 7 (some .boolean) ∈ wsL_law := by
  unfold wsL_law wsL_law0
  exact List.mem_append_left _ (List.mem_append_left _ (List.mem_append_left _ (List.mem_append_left _ (List.mem_append_left _ (List.mem_append_left _ (List.mem_append_right _ (List.mem_append_right _ (List.mem_append_right _ (List.mem_append_right _ (List.mem_append_right _ (List.mem_append_right _ (List.mem_append_right _ (List.mem_append_right _ (List.mem_append_right _ (List.mem_append_left _ mC_10)))))))))))))))
set_option maxRecDepth 20000 in
theorem ggK_0 : GoodIn wsL_law [.code yL_clock cL_clock 7 (some .boolean)] := fun w hw => by
  rw [List.mem_singleton.mp hw]
  exact ⟨mC_0, good_of_word rfl⟩
set_option maxRecDepth 20000 in
theorem ggK_1 : GoodIn wsL_law wsL_clock_r1 := goodIn_r _ [27, 28, 29, 2, 30, 31, 32, 33, 34, 35, 36, 10, 12, 37, 38, 39, 40, 41, 42, 43, 44, 45, 46, 47] (by decide +kernel) (by decide +kernel)
set_option maxRecDepth 20000 in
theorem ggK_2 : GoodIn wsL_law wsL_clock_r2 := goodIn_r _ [48, 49, 50, 51, 52, 53, 54, 55, 56, 228, 229, 230, 231, 127, 128, 182, 183, 184, 232, 233, 234, 235, 142, 143] (by decide +kernel) (by decide +kernel)
set_option maxRecDepth 20000 in
theorem ggK_3 : GoodIn wsL_law wsL_clock_r3 := goodIn_r _ [144, 236, 237, 238, 239, 82, 83, 84, 78, 79, 80, 81, 85, 86, 87, 88, 123, 124, 125, 126, 129, 130, 131, 240] (by decide +kernel) (by decide +kernel)
set_option maxRecDepth 20000 in
theorem ggK_4 : GoodIn wsL_law wsL_clock_r4 := goodIn_r _ [241, 242, 243, 244, 245, 246, 247, 218, 219, 220, 145, 146, 147, 66, 67, 68, 69, 70, 71, 72, 73, 74, 75, 76] (by decide +kernel) (by decide +kernel)
set_option maxRecDepth 20000 in
theorem ggK_5 : GoodIn wsL_law wsL_clock_r5 := goodIn_r _ [77, 248, 249, 250, 251, 111, 112, 113, 114, 252, 253, 254, 255, 256, 257, 258, 259] (by decide +kernel) (by decide +kernel)
set_option maxRecDepth 20000 in
theorem ggK_X : GoodIn wsL_law wsX10 := goodIn_r _ [260, 261, 262, 263, 264, 265] (by decide +kernel) (by decide +kernel)
set_option maxRecDepth 20000 in
theorem ggL_law_L_clock : GoodIn wsL_law wsL_clock := goodIn_ca (goodIn_ca (fun w hw => (List.mem_cons.mp hw).elim (fun e => ggK_0 w (List.mem_cons.mpr (Or.inl e))) (fun h => (goodIn_app (goodIn_app ggK_1 (goodIn_app ggK_2 (goodIn_app ggK_3 (goodIn_app ggK_4 ggK_5)))) ggK_X) w h)) (goodIn_sub (fun _ h => List.mem_append_left _ (List.mem_append_left _ (List.mem_append_right _ h))) (by decide +kernel))) (goodIn_sub (fun _ h => List.mem_append_right _ h) (by decide +kernel))
set_option maxRecDepth 20000 in
theorem gL_law_L_clock : GoodIn wsL_law (va_wsS RL 107 yL_clock wsL_clock) := goodIn_app (goodIn_of _ (by decide +kernel)) ggL_law_L_clock
theorem dL_law_0 : decode cL_law 0 = .ok (.new 10, 3) := by decide +kernel
theorem dL_law_3 : decode cL_law 3 = .ok (.dup, 1) := by decide +kernel
theorem dL_law_4 : decode cL_law 4 = .ok (.invokespecial 100, 3) := by decide +kernel
theorem dL_law_7 : decode cL_law 7 = .ok (.astore_n 1, 1) := by decide +kernel
theorem dL_law_8 : decode cL_law 8 = .ok (.iconst 1, 1) := by decide +kernel
theorem dL_law_9 : decode cL_law 9 = .ok (.istore_n 2, 1) := by decide +kernel
theorem dL_law_10 : decode cL_law 10 = .ok (.aload_n 0, 1) := by decide +kernel
theorem dL_law_11 : decode cL_law 11 = .ok (.arraylength, 1) := by decide +kernel
theorem dL_law_12 : decode cL_law 12 = .ok (.iconst 3, 1) := by decide +kernel
theorem dL_law_13 : decode cL_law 13 = .ok (.idiv, 1) := by decide +kernel
theorem dL_law_14 : decode cL_law 14 = .ok (.bipush 40, 2) := by decide +kernel
theorem dL_law_16 : decode cL_law 16 = .ok (.if_icmp .le 8, 3) := by decide +kernel
theorem dL_law_19 : decode cL_law 19 = .ok (.bipush 40, 2) := by decide +kernel
theorem dL_law_21 : decode cL_law 21 = .ok (.goto 7, 3) := by decide +kernel
theorem dL_law_24 : decode cL_law 24 = .ok (.aload_n 0, 1) := by decide +kernel
theorem dL_law_25 : decode cL_law 25 = .ok (.arraylength, 1) := by decide +kernel
theorem dL_law_26 : decode cL_law 26 = .ok (.iconst 3, 1) := by decide +kernel
theorem dL_law_27 : decode cL_law 27 = .ok (.idiv, 1) := by decide +kernel
theorem dL_law_28 : decode cL_law 28 = .ok (.istore_n 3, 1) := by decide +kernel
theorem dL_law_29 : decode cL_law 29 = .ok (.iconst 0, 1) := by decide +kernel
theorem dL_law_30 : decode cL_law 30 = .ok (.istore 4, 2) := by decide +kernel
theorem dL_law_32 : decode cL_law 32 = .ok (.iload 4, 2) := by decide +kernel
theorem dL_law_34 : decode cL_law 34 = .ok (.iload_n 3, 1) := by decide +kernel
theorem dL_law_35 : decode cL_law 35 = .ok (.if_icmp .ge 272, 3) := by decide +kernel
theorem dL_law_38 : decode cL_law 38 = .ok (.iload_n 2, 1) := by decide +kernel
theorem dL_law_39 : decode cL_law 39 = .ok (.ifCond .eq 268, 3) := by decide +kernel
theorem dL_law_42 : decode cL_law 42 = .ok (.aload_n 1, 1) := by decide +kernel
theorem dL_law_43 : decode cL_law 43 = .ok (.bipush 14, 2) := by decide +kernel
theorem dL_law_45 : decode cL_law 45 = .ok (.invokevirtual 34, 3) := by decide +kernel
theorem dL_law_48 : decode cL_law 48 = .ok (.istore 5, 2) := by decide +kernel
theorem dL_law_50 : decode cL_law 50 = .ok (.aload_n 1, 1) := by decide +kernel
theorem dL_law_51 : decode cL_law 51 = .ok (.iconst 0, 1) := by decide +kernel
theorem dL_law_52 : decode cL_law 52 = .ok (.invokevirtual 34, 3) := by decide +kernel
theorem dL_law_55 : decode cL_law 55 = .ok (.istore 6, 2) := by decide +kernel
theorem dL_law_57 : decode cL_law 57 = .ok (.aload_n 0, 1) := by decide +kernel
theorem dL_law_58 : decode cL_law 58 = .ok (.iconst 3, 1) := by decide +kernel
theorem dL_law_59 : decode cL_law 59 = .ok (.iload 4, 2) := by decide +kernel
theorem dL_law_61 : decode cL_law 61 = .ok (.imul, 1) := by decide +kernel
theorem dL_law_62 : decode cL_law 62 = .ok (.invokestatic 62, 3) := by decide +kernel
theorem dL_law_65 : decode cL_law 65 = .ok (.iconst 4, 1) := by decide +kernel
theorem dL_law_66 : decode cL_law 66 = .ok (.invokestatic 68, 3) := by decide +kernel
theorem dL_law_69 : decode cL_law 69 = .ok (.iconst 1, 1) := by decide +kernel
theorem dL_law_70 : decode cL_law 70 = .ok (.if_icmp .ne 171, 3) := by decide +kernel
theorem dL_law_73 : decode cL_law 73 = .ok (.aload_n 1, 1) := by decide +kernel
theorem dL_law_74 : decode cL_law 74 = .ok (.iconst 3, 1) := by decide +kernel
theorem dL_law_75 : decode cL_law 75 = .ok (.invokevirtual 34, 3) := by decide +kernel
theorem dL_law_78 : decode cL_law 78 = .ok (.iconst 1, 1) := by decide +kernel
theorem dL_law_79 : decode cL_law 79 = .ok (.if_icmp .ne 162, 3) := by decide +kernel
theorem dL_law_82 : decode cL_law 82 = .ok (.aload_n 1, 1) := by decide +kernel
theorem dL_law_83 : decode cL_law 83 = .ok (.invokevirtual 49, 3) := by decide +kernel
theorem dL_law_86 : decode cL_law 86 = .ok (.istore 7, 2) := by decide +kernel
theorem dL_law_88 : decode cL_law 88 = .ok (.aload_n 1, 1) := by decide +kernel
theorem dL_law_89 : decode cL_law 89 = .ok (.bipush 8, 2) := by decide +kernel
theorem dL_law_91 : decode cL_law 91 = .ok (.invokevirtual 34, 3) := by decide +kernel
theorem dL_law_94 : decode cL_law 94 = .ok (.istore 8, 2) := by decide +kernel
theorem dL_law_96 : decode cL_law 96 = .ok (.aload_n 1, 1) := by decide +kernel
theorem dL_law_97 : decode cL_law 97 = .ok (.bipush 6, 2) := by decide +kernel
theorem dL_law_99 : decode cL_law 99 = .ok (.invokevirtual 34, 3) := by decide +kernel
theorem dL_law_102 : decode cL_law 102 = .ok (.istore 9, 2) := by decide +kernel
theorem dL_law_104 : decode cL_law 104 = .ok (.aload_n 1, 1) := by decide +kernel
theorem dL_law_105 : decode cL_law 105 = .ok (.invokestatic 101, 3) := by decide +kernel
theorem dL_law_108 : decode cL_law 108 = .ok (.istore 10, 2) := by decide +kernel
theorem dL_law_110 : decode cL_law 110 = .ok (.iload 10, 2) := by decide +kernel
theorem dL_law_112 : decode cL_law 112 = .ok (.iload 7, 2) := by decide +kernel
theorem dL_law_114 : decode cL_law 114 = .ok (.ifCond .ne 7, 3) := by decide +kernel
theorem dL_law_117 : decode cL_law 117 = .ok (.iconst 1, 1) := by decide +kernel
theorem dL_law_118 : decode cL_law 118 = .ok (.goto 4, 3) := by decide +kernel
theorem dL_law_121 : decode cL_law 121 = .ok (.iconst 0, 1) := by decide +kernel
theorem dL_law_122 : decode cL_law 122 = .ok (.if_icmp .ne 35, 3) := by decide +kernel
theorem dL_law_125 : decode cL_law 125 = .ok (.aload_n 1, 1) := by decide +kernel
theorem dL_law_126 : decode cL_law 126 = .ok (.bipush 8, 2) := by decide +kernel
theorem dL_law_128 : decode cL_law 128 = .ok (.invokevirtual 34, 3) := by decide +kernel
theorem dL_law_131 : decode cL_law 131 = .ok (.iload 8, 2) := by decide +kernel
theorem dL_law_133 : decode cL_law 133 = .ok (.iconst 1, 1) := by decide +kernel
theorem dL_law_134 : decode cL_law 134 = .ok (.iadd, 1) := by decide +kernel
theorem dL_law_135 : decode cL_law 135 = .ok (.iload 10, 2) := by decide +kernel
theorem dL_law_137 : decode cL_law 137 = .ok (.isub, 1) := by decide +kernel
theorem dL_law_138 : decode cL_law 138 = .ok (.if_icmp .ne 19, 3) := by decide +kernel
theorem dL_law_141 : decode cL_law 141 = .ok (.aload_n 1, 1) := by decide +kernel
theorem dL_law_142 : decode cL_law 142 = .ok (.iconst 3, 1) := by decide +kernel
theorem dL_law_143 : decode cL_law 143 = .ok (.invokevirtual 34, 3) := by decide +kernel
theorem dL_law_146 : decode cL_law 146 = .ok (.iconst 1, 1) := by decide +kernel
theorem dL_law_147 : decode cL_law 147 = .ok (.iload 10, 2) := by decide +kernel
theorem dL_law_149 : decode cL_law 149 = .ok (.isub, 1) := by decide +kernel
theorem dL_law_150 : decode cL_law 150 = .ok (.if_icmp .ne 7, 3) := by decide +kernel
theorem dL_law_153 : decode cL_law 153 = .ok (.iconst 1, 1) := by decide +kernel
theorem dL_law_154 : decode cL_law 154 = .ok (.goto 4, 3) := by decide +kernel
theorem dL_law_157 : decode cL_law 157 = .ok (.iconst 0, 1) := by decide +kernel
theorem dL_law_158 : decode cL_law 158 = .ok (.istore_n 2, 1) := by decide +kernel
theorem dL_law_159 : decode cL_law 159 = .ok (.iload_n 2, 1) := by decide +kernel
theorem dL_law_160 : decode cL_law 160 = .ok (.ifCond .eq 76, 3) := by decide +kernel
theorem dL_law_163 : decode cL_law 163 = .ok (.iload 10, 2) := by decide +kernel
theorem dL_law_165 : decode cL_law 165 = .ok (.iconst 1, 1) := by decide +kernel
theorem dL_law_166 : decode cL_law 166 = .ok (.if_icmp .eq 66, 3) := by decide +kernel
theorem dL_law_169 : decode cL_law 169 = .ok (.aload_n 1, 1) := by decide +kernel
theorem dL_law_170 : decode cL_law 170 = .ok (.bipush 6, 2) := by decide +kernel
theorem dL_law_172 : decode cL_law 172 = .ok (.invokevirtual 34, 3) := by decide +kernel
theorem dL_law_175 : decode cL_law 175 = .ok (.ifCond .ne 32, 3) := by decide +kernel
theorem dL_law_178 : decode cL_law 178 = .ok (.iload 9, 2) := by decide +kernel
theorem dL_law_180 : decode cL_law 180 = .ok (.iconst 1, 1) := by decide +kernel
theorem dL_law_181 : decode cL_law 181 = .ok (.iadd, 1) := by decide +kernel
theorem dL_law_182 : decode cL_law 182 = .ok (.aload_n 1, 1) := by decide +kernel
theorem dL_law_183 : decode cL_law 183 = .ok (.iconst 0, 1) := by decide +kernel
theorem dL_law_184 : decode cL_law 184 = .ok (.invokevirtual 43, 3) := by decide +kernel
theorem dL_law_187 : decode cL_law 187 = .ok (.if_icmp .lt 49, 3) := by decide +kernel
theorem dL_law_190 : decode cL_law 190 = .ok (.aload_n 1, 1) := by decide +kernel
theorem dL_law_191 : decode cL_law 191 = .ok (.bipush 7, 2) := by decide +kernel
theorem dL_law_193 : decode cL_law 193 = .ok (.invokevirtual 34, 3) := by decide +kernel
theorem dL_law_196 : decode cL_law 196 = .ok (.aload_n 1, 1) := by decide +kernel
theorem dL_law_197 : decode cL_law 197 = .ok (.iconst 1, 1) := by decide +kernel
theorem dL_law_198 : decode cL_law 198 = .ok (.invokevirtual 43, 3) := by decide +kernel
theorem dL_law_201 : decode cL_law 201 = .ok (.if_icmp .ne 35, 3) := by decide +kernel
theorem dL_law_204 : decode cL_law 204 = .ok (.goto 28, 3) := by decide +kernel
theorem dL_law_207 : decode cL_law 207 = .ok (.aload_n 1, 1) := by decide +kernel
theorem dL_law_208 : decode cL_law 208 = .ok (.bipush 6, 2) := by decide +kernel
theorem dL_law_210 : decode cL_law 210 = .ok (.invokevirtual 34, 3) := by decide +kernel
theorem dL_law_213 : decode cL_law 213 = .ok (.iload 9, 2) := by decide +kernel
theorem dL_law_215 : decode cL_law 215 = .ok (.iconst 1, 1) := by decide +kernel
theorem dL_law_216 : decode cL_law 216 = .ok (.iadd, 1) := by decide +kernel
theorem dL_law_217 : decode cL_law 217 = .ok (.if_icmp .ne 19, 3) := by decide +kernel
theorem dL_law_220 : decode cL_law 220 = .ok (.iload 9, 2) := by decide +kernel
theorem dL_law_222 : decode cL_law 222 = .ok (.iconst 1, 1) := by decide +kernel
theorem dL_law_223 : decode cL_law 223 = .ok (.iadd, 1) := by decide +kernel
theorem dL_law_224 : decode cL_law 224 = .ok (.aload_n 1, 1) := by decide +kernel
theorem dL_law_225 : decode cL_law 225 = .ok (.iconst 0, 1) := by decide +kernel
theorem dL_law_226 : decode cL_law 226 = .ok (.invokevirtual 43, 3) := by decide +kernel
theorem dL_law_229 : decode cL_law 229 = .ok (.if_icmp .ge 7, 3) := by decide +kernel
theorem dL_law_232 : decode cL_law 232 = .ok (.iconst 1, 1) := by decide +kernel
theorem dL_law_233 : decode cL_law 233 = .ok (.goto 4, 3) := by decide +kernel
theorem dL_law_236 : decode cL_law 236 = .ok (.iconst 0, 1) := by decide +kernel
theorem dL_law_237 : decode cL_law 237 = .ok (.istore_n 2, 1) := by decide +kernel
theorem dL_law_238 : decode cL_law 238 = .ok (.goto 46, 3) := by decide +kernel
theorem dL_law_241 : decode cL_law 241 = .ok (.aload_n 1, 1) := by decide +kernel
theorem dL_law_242 : decode cL_law 242 = .ok (.aload_n 0, 1) := by decide +kernel
theorem dL_law_243 : decode cL_law 243 = .ok (.iconst 3, 1) := by decide +kernel
theorem dL_law_244 : decode cL_law 244 = .ok (.iload 4, 2) := by decide +kernel
theorem dL_law_246 : decode cL_law 246 = .ok (.imul, 1) := by decide +kernel
theorem dL_law_247 : decode cL_law 247 = .ok (.invokestatic 103, 3) := by decide +kernel
theorem dL_law_250 : decode cL_law 250 = .ok (.istore 7, 2) := by decide +kernel
theorem dL_law_252 : decode cL_law 252 = .ok (.iload 7, 2) := by decide +kernel
theorem dL_law_254 : decode cL_law 254 = .ok (.ifCond .ge 24, 3) := by decide +kernel
theorem dL_law_257 : decode cL_law 257 = .ok (.aload_n 1, 1) := by decide +kernel
theorem dL_law_258 : decode cL_law 258 = .ok (.bipush 14, 2) := by decide +kernel
theorem dL_law_260 : decode cL_law 260 = .ok (.invokevirtual 34, 3) := by decide +kernel
theorem dL_law_263 : decode cL_law 263 = .ok (.iload 5, 2) := by decide +kernel
theorem dL_law_265 : decode cL_law 265 = .ok (.if_icmp .ne 17, 3) := by decide +kernel
theorem dL_law_268 : decode cL_law 268 = .ok (.aload_n 1, 1) := by decide +kernel
theorem dL_law_269 : decode cL_law 269 = .ok (.iconst 0, 1) := by decide +kernel
theorem dL_law_270 : decode cL_law 270 = .ok (.invokevirtual 34, 3) := by decide +kernel
theorem dL_law_273 : decode cL_law 273 = .ok (.iload 6, 2) := by decide +kernel
theorem dL_law_275 : decode cL_law 275 = .ok (.if_icmp .ne 7, 3) := by decide +kernel
theorem dL_law_278 : decode cL_law 278 = .ok (.iconst 1, 1) := by decide +kernel
theorem dL_law_279 : decode cL_law 279 = .ok (.goto 4, 3) := by decide +kernel
theorem dL_law_282 : decode cL_law 282 = .ok (.iconst 0, 1) := by decide +kernel
theorem dL_law_283 : decode cL_law 283 = .ok (.istore_n 2, 1) := by decide +kernel
theorem dL_law_284 : decode cL_law 284 = .ok (.iload_n 2, 1) := by decide +kernel
theorem dL_law_285 : decode cL_law 285 = .ok (.ifCond .eq 14, 3) := by decide +kernel
theorem dL_law_288 : decode cL_law 288 = .ok (.aload_n 1, 1) := by decide +kernel
theorem dL_law_289 : decode cL_law 289 = .ok (.invokestatic 107, 3) := by decide +kernel
theorem dL_law_292 : decode cL_law 292 = .ok (.ifCond .eq 7, 3) := by decide +kernel
theorem dL_law_295 : decode cL_law 295 = .ok (.iconst 1, 1) := by decide +kernel
theorem dL_law_296 : decode cL_law 296 = .ok (.goto 4, 3) := by decide +kernel
theorem dL_law_299 : decode cL_law 299 = .ok (.iconst 0, 1) := by decide +kernel
theorem dL_law_300 : decode cL_law 300 = .ok (.istore_n 2, 1) := by decide +kernel
theorem dL_law_301 : decode cL_law 301 = .ok (.iinc 4 1, 3) := by decide +kernel
theorem dL_law_304 : decode cL_law 304 = .ok (.goto (-272), 3) := by decide +kernel
theorem dL_law_307 : decode cL_law 307 = .ok (.iload_n 2, 1) := by decide +kernel
theorem dL_law_308 : decode cL_law 308 = .ok (.ireturn, 1) := by decide +kernel
end
section
/-! ints as integers -/
def jI (x : Int) : Int32 := Int32.ofInt x
theorem jI_add (x y : Int) : jI x + jI y = jI (x + y) := (Int32.ofInt_add x y).symm
theorem jI_sub (x y : Int) : jI x - jI y = jI (x - y) := (Int32.ofInt_sub x y).symm
theorem jI_mul (x y : Int) : jI x * jI y = jI (x * y) := (Int32.ofInt_mul x y).symm
theorem jI_toInt {x : Int} (h : -2147483648 ≤ x ∧ x < 2147483648) : (jI x).toInt = x := Int32.toInt_ofInt_of_le (by omega) (by omega)
theorem jI_of (x : Int32) : jI x.toInt = x := Int32.ofInt_toInt x
theorem jI_lt {x y : Int} (hx : -2147483648 ≤ x ∧ x < 2147483648) (hy : -2147483648 ≤ y ∧ y < 2147483648) : jI x < jI y ↔ x < y := by
  rw [Int32.lt_iff_toInt_lt, jI_toInt hx, jI_toInt hy]
theorem jI_le {x y : Int} (hx : -2147483648 ≤ x ∧ x < 2147483648) (hy : -2147483648 ≤ y ∧ y < 2147483648) : jI x ≤ jI y ↔ x ≤ y := by
  rw [Int32.le_iff_toInt_le, jI_toInt hx, jI_toInt hy]
theorem jI_eq {x y : Int} (hx : -2147483648 ≤ x ∧ x < 2147483648) (hy : -2147483648 ≤ y ∧ y < 2147483648) : jI x = jI y ↔ x = y := by
  rw [← Int32.toInt_inj, jI_toInt hx, jI_toInt hy]
theorem jI_div {x y : Int} (h0 : 0 ≤ x) (h1 : x < 2147483648) (h2 : 0 < y) (h3 : y < 2147483648) : jI x / jI y = jI (x / y) := by
  apply Int32.toInt_inj.mp
  have q0 : 0 ≤ x / y := Int.ediv_nonneg h0 (by omega)
  have q1 : x / y ≤ x := Int.ediv_le_self y h0
  rw [lg_idiv_nonneg (by rw [jI_toInt (by omega)]; omega) (by rw [jI_toInt (by omega)]; omega), jI_toInt (by omega), jI_toInt (by omega), jI_toInt (by omega)]
  try first | rfl | exact (Int.tdiv_eq_ediv_of_nonneg h0)
theorem jI_rem {x y : Int} (h0 : 0 ≤ x) (h1 : x < 2147483648) (h2 : 0 < y) (h3 : y < 2147483648) : jI x - jI x / jI y * jI y = jI (x % y) := by
  rw [jI_div h0 h1 h2 h3, jI_mul, jI_sub]
  refine congrArg jI ?_
  have := Int.mul_ediv_add_emod x y
  rw [Int.mul_comm] at this
  omega
theorem jI_nat (n : Nat) : jI (n : Int) = nI n := by
  show Int32.ofInt (n : Int) = Int32.ofNat n
  exact Int32.ofInt_eq_ofNat
theorem jI_inc (i n : Nat) : jI (i : Int) + Int32.ofInt (n : Int) = jI ((i + n : Nat) : Int) := jI_add i n
theorem b01 {x : Int} (h : x = 0 ∨ x = 1) : -2147483648 ≤ x ∧ x < 2147483648 := by omega
def rng (F : Nat → Int) : Prop := ∀ k, -2147483648 ≤ F k ∧ F k < 2147483648
theorem jI_ne0 {y : Int} (h2 : 0 < y) (h3 : y < 2147483648) : ¬ jI y = 0 := fun h => by
  have h' : jI y = jI 0 := h
  rw [jI_eq (by omega) (by omega)] at h'
  omega
def upz (F : Nat → Int) (k : Nat) (v : Int) : Nat → Int := fun j => if j = k then v else F j
theorem upz_s {F : Nat → Int} {k : Nat} {v : Int} : upz F k v k = v := if_pos rfl
theorem upz_n {F : Nat → Int} {k j : Nat} {v : Int} (h : j ≠ k) : upz F k v j = F j := if_neg h
abbrev jA (F : Nat → Int) : Nat → Int32 := fun k => jI (F k)
theorem jA_up (F : Nat → Int) (k : Nat) (v : Int) : upd (jA F) k (jI v) = jA (upz F k v) := by
  funext j
  by_cases h : j = k <;> simp [upd, jA, upz, h]
theorem jA_cpy (F G : Nat → Int) (sp dp n : Nat) : va_cpy (jA F) (jA G) sp dp n = jA (va_cpy F G sp dp n) := by
  funext j
  by_cases h : dp ≤ j ∧ j < dp + n <;> simp [va_cpy, jA, h]
/-! rows of our own: contracts by their answers, in four shapes -/
abbrev xq_R (D : va_G) (cI : ClassId) (av : List Value) (w : va_W) : Array Value → State → Prop := va_Pc av (fun U => va_P D vwCl w U.heap ∧ va_K D vwCl [(cI, .int)] U)
abbrev xq_W (D : va_G) (cI : ClassId) (av : List Value) (w : va_W) (sz : Nat) : Array Value → State → Prop := va_Pc av (fun U => U.heap.size = sz ∧ va_P D vwCl w U.heap ∧ va_K D vwCl [(cI, .int)] U ∧ va_D (fun _ => True) w)
abbrev xq_B (D : va_G) (cI : ClassId) (A : Nat → Prop) (w : va_W) : Unit → State → Prop := fun _ t => va_P D vwCl w t.heap ∧ va_K D vwCl [(cI, .int)] t ∧ va_D A w
theorem xq_Rbl {D : va_G} {cI : ClassId} {av : List Value} {w : va_W} : FrameBlind (xq_R D cI av w) := fun a U g mk q => ⟨q.1, q.2.1, va_K.moved (u := U) (U := U.calling g mk a) (Vm.Alike.refl U.vm) q.2.2⟩
theorem xq_Wbl {D : va_G} {cI : ClassId} {av : List Value} {w : va_W} {sz : Nat} : FrameBlind (xq_W D cI av w sz) := fun a U g mk q => ⟨q.1, q.2.1, q.2.2.1, va_K.moved (u := U) (U := U.calling g mk a) (Vm.Alike.refl U.vm) q.2.2.2.1, q.2.2.2.2⟩
/-- no heap at all -/
def MetP (l : Launch) (y : MethodName) (ws : List Cond) (rm : Room) (av : List Value) (r : Int) : Prop := Met l y ws rm (va_Pc av (fun _ => True)) (vp_Si (fun x => x = jI r)) 0 0 (fun _ => False)
/-- reads the world alone -/
def MetR (l : Launch) (y : MethodName) (ws : List Cond) (rm : Room) (D : va_G) (cI : ClassId) (av : List Value) (w : va_W) (r : Int) : Prop := Met l y ws rm (xq_R D cI av w) (vp_Si (fun x => x = jI r)) 0 0 (fun _ => False)
def MetRl (l : Launch) (y : MethodName) (ws : List Cond) (rm : Room) (D : va_G) (cI : ClassId) (av : List Value) (w : va_W) (r : Int64) : Prop := Met l y ws rm (xq_R D cI av w) (vp_Sl (fun x => x = r)) 0 0 (fun _ => False)
def MetRd (l : Launch) (y : MethodName) (ws : List Cond) (rm : Room) (D : va_G) (cI : ClassId) (av : List Value) (w : va_W) (r : UInt64) : Prop := Met l y ws rm (xq_R D cI av w) (vp_Sd (fun x => x = r)) 0 0 (fun _ => False)
/-- writes the world, answers an int -/
def MetI (l : Launch) (y : MethodName) (ws : List Cond) (rm : Room) (D : va_G) (cI : ClassId) (av : List Value) (w w1 : va_W) (r : Int) : Prop := ∀ sz : Nat, Met l y ws rm (xq_W D cI av w sz) (va_Qi (fun x (_ : Unit) => x = jI r) (xq_B D cI (va_A w sz) w1) (va_A w sz)) 0 0 (va_A w sz)
/-- writes the world, answers nothing -/
def MetV (l : Launch) (y : MethodName) (ws : List Cond) (rm : Room) (D : va_G) (cI : ClassId) (av : List Value) (w w1 : va_W) : Prop := ∀ sz : Nat, Met l y ws rm (xq_W D cI av w sz) (va_Qv (fun (_ : Unit) => True) (xq_B D cI (va_A w sz) w1) (va_A w sz)) 0 0 (va_A w sz)
section XE
variable {l : Launch} {y : MethodName} {ws ws' : List Cond} {rm : Room} {D : va_G} {cI : ClassId} {av : List Value} {w w1 : va_W} {r : Int} {cc : ByteArray} {maxL : Nat} {ret : Option FieldType}
theorem xe_P (hy : plainName y.cls = true) (hw : ws = Cond.code y cc maxL ret :: ws') (hlen : (lg_sl av).length ≤ maxL)
    (body : ∀ (p : Program) (e : Env) (s : State) (m : MethodId) (below : List Frame) (meth : Method) (c : Code), p.tables.exec = Jvm.exec → c.code = cc → meth.sig.returnType = ret → c.maxLocals = maxL → (∀ z ∈ ws, z.before av.toArray s = true) → s.vm.findClass y.cls = some m.cls → meth.locks = false →
      ∀ ls : Array Slot, lv_has ls maxL (lv_args 0 av) → W p l e rm s m av.toArray below meth c s.heap [] 0 0 (MQ below (vp_Si (fun x => x = jI r)) av.toArray s 0 0 (fun _ => False)) (F0 m 0 ls [])) : MetP l y ws rm av r := by
  refine Met.ofW hy hw ?_
  intro p e s m args below meth c s₁ B hml hv
  obtain ⟨rfl, -⟩ := hv
  have hl := lv_entry av (n := maxL) hlen
  rw [lg_entry_eq]
  exact body p e s m below meth c B.exec B.bytes B.returns hml (atoms_spec (ws := ws) B.pre) (findClass_of_methodNamed B.named) B.notSynchronized _ hl
theorem xe_R (hy : plainName y.cls = true) (hw : ws = Cond.code y cc maxL ret :: ws') (hlen : (lg_sl av).length ≤ maxL)
    (body : ∀ (p : Program) (e : Env) (s : State) (m : MethodId) (below : List Frame) (meth : Method) (c : Code), p.tables.exec = Jvm.exec → c.code = cc → meth.sig.returnType = ret → c.maxLocals = maxL → (∀ z ∈ ws, z.before av.toArray s = true) → s.vm.findClass y.cls = some m.cls → meth.locks = false →
      va_P D vwCl w s.heap → va_K D vwCl [(cI, .int)] s → ∀ ls : Array Slot, lv_has ls maxL (lv_args 0 av) → W p l e rm s m av.toArray below meth c s.heap [] 0 0 (MQ below (vp_Si (fun x => x = jI r)) av.toArray s 0 0 (fun _ => False)) (F0 m 0 ls [])) : MetR l y ws rm D cI av w r := by
  refine Met.ofW hy hw ?_
  intro p e s m args below meth c s₁ B hml hv
  obtain ⟨rfl, hP, hK⟩ := hv
  have hl := lv_entry av (n := maxL) hlen
  rw [lg_entry_eq]
  exact body p e s m below meth c B.exec B.bytes B.returns hml (atoms_spec (ws := ws) B.pre) (findClass_of_methodNamed B.named) B.notSynchronized hP hK _ hl
theorem xe_Rl {r : Int64} (hy : plainName y.cls = true) (hw : ws = Cond.code y cc maxL ret :: ws') (hlen : (lg_sl av).length ≤ maxL)
    (body : ∀ (p : Program) (e : Env) (s : State) (m : MethodId) (below : List Frame) (meth : Method) (c : Code), p.tables.exec = Jvm.exec → c.code = cc → meth.sig.returnType = ret → c.maxLocals = maxL → (∀ z ∈ ws, z.before av.toArray s = true) → s.vm.findClass y.cls = some m.cls → meth.locks = false →
      va_P D vwCl w s.heap → va_K D vwCl [(cI, .int)] s → ∀ ls : Array Slot, lv_has ls maxL (lv_args 0 av) → W p l e rm s m av.toArray below meth c s.heap [] 0 0 (MQ below (vp_Sl (fun x => x = r)) av.toArray s 0 0 (fun _ => False)) (F0 m 0 ls [])) : MetRl l y ws rm D cI av w r := by
  refine Met.ofW hy hw ?_
  intro p e s m args below meth c s₁ B hml hv
  obtain ⟨rfl, hP, hK⟩ := hv
  have hl := lv_entry av (n := maxL) hlen
  rw [lg_entry_eq]
  exact body p e s m below meth c B.exec B.bytes B.returns hml (atoms_spec (ws := ws) B.pre) (findClass_of_methodNamed B.named) B.notSynchronized hP hK _ hl
theorem xe_Rd {r : UInt64} (hy : plainName y.cls = true) (hw : ws = Cond.code y cc maxL ret :: ws') (hlen : (lg_sl av).length ≤ maxL)
    (body : ∀ (p : Program) (e : Env) (s : State) (m : MethodId) (below : List Frame) (meth : Method) (c : Code), p.tables.exec = Jvm.exec → c.code = cc → meth.sig.returnType = ret → c.maxLocals = maxL → (∀ z ∈ ws, z.before av.toArray s = true) → s.vm.findClass y.cls = some m.cls → meth.locks = false →
      va_P D vwCl w s.heap → va_K D vwCl [(cI, .int)] s → ∀ ls : Array Slot, lv_has ls maxL (lv_args 0 av) → W p l e rm s m av.toArray below meth c s.heap [] 0 0 (MQ below (vp_Sd (fun x => x = r)) av.toArray s 0 0 (fun _ => False)) (F0 m 0 ls [])) : MetRd l y ws rm D cI av w r := by
  refine Met.ofW hy hw ?_
  intro p e s m args below meth c s₁ B hml hv
  obtain ⟨rfl, hP, hK⟩ := hv
  have hl := lv_entry av (n := maxL) hlen
  rw [lg_entry_eq]
  exact body p e s m below meth c B.exec B.bytes B.returns hml (atoms_spec (ws := ws) B.pre) (findClass_of_methodNamed B.named) B.notSynchronized hP hK _ hl
theorem xe_I (hy : plainName y.cls = true) (hw : ws = Cond.code y cc maxL ret :: ws') (hlen : (lg_sl av).length ≤ maxL)
    (body : ∀ (p : Program) (e : Env) (s : State) (m : MethodId) (below : List Frame) (meth : Method) (c : Code), p.tables.exec = Jvm.exec → c.code = cc → meth.sig.returnType = ret → c.maxLocals = maxL → (∀ z ∈ ws, z.before av.toArray s = true) → s.vm.findClass y.cls = some m.cls → meth.locks = false →
      va_P D vwCl w s.heap → va_K D vwCl [(cI, .int)] s → ∀ A : Nat → Prop, (∀ q, s.heap.size ≤ q → A q) → va_D A w → va_S A s.heap s.heap [] → ∀ ls : Array Slot, lv_has ls maxL (lv_args 0 av) →
      W p l e rm s m av.toArray below meth c s.heap [] 0 0 (MQ below (va_Qi (fun x (_ : Unit) => x = jI r) (xq_B D cI A w1) A) av.toArray s 0 0 A) (F0 m 0 ls [])) : MetI l y ws rm D cI av w w1 r := by
  intro sz
  refine Met.ofW hy hw ?_
  intro p e s m args below meth c s₁ B hml hv
  obtain ⟨rfl, hsz, hP, hK, hD0⟩ := hv
  subst hsz
  have hl := lv_entry av (n := maxL) hlen
  rw [lg_entry_eq]
  exact body p e s m below meth c B.exec B.bytes B.returns hml (atoms_spec (ws := ws) B.pre) (findClass_of_methodNamed B.named) B.notSynchronized hP hK (va_A w s.heap.size) (fun q h => Or.inr h) hD0.self va_S.rf _ hl
theorem xe_V (hy : plainName y.cls = true) (hw : ws = Cond.code y cc maxL ret :: ws') (hlen : (lg_sl av).length ≤ maxL)
    (body : ∀ (p : Program) (e : Env) (s : State) (m : MethodId) (below : List Frame) (meth : Method) (c : Code), p.tables.exec = Jvm.exec → c.code = cc → meth.sig.returnType = ret → c.maxLocals = maxL → (∀ z ∈ ws, z.before av.toArray s = true) → s.vm.findClass y.cls = some m.cls → meth.locks = false →
      va_P D vwCl w s.heap → va_K D vwCl [(cI, .int)] s → ∀ A : Nat → Prop, (∀ q, s.heap.size ≤ q → A q) → va_D A w → va_S A s.heap s.heap [] → ∀ ls : Array Slot, lv_has ls maxL (lv_args 0 av) →
      W p l e rm s m av.toArray below meth c s.heap [] 0 0 (MQ below (va_Qv (fun (_ : Unit) => True) (xq_B D cI A w1) A) av.toArray s 0 0 A) (F0 m 0 ls [])) : MetV l y ws rm D cI av w w1 := by
  intro sz
  refine Met.ofW hy hw ?_
  intro p e s m args below meth c s₁ B hml hv
  obtain ⟨rfl, hsz, hP, hK, hD0⟩ := hv
  subst hsz
  have hl := lv_entry av (n := maxL) hlen
  rw [lg_entry_eq]
  exact body p e s m below meth c B.exec B.bytes B.returns hml (atoms_spec (ws := ws) B.pre) (findClass_of_methodNamed B.named) B.notSynchronized hP hK (va_A w s.heap.size) (fun q h => Or.inr h) hD0.self va_S.rf _ hl
end XE
section XW
variable {p : Program} {l : Launch} {e : Env} {R : Room} {s : State} {m : MethodId} {args : Array Value} {below : List Frame} {meth : Method} {c : Code} {H : Heap} {locs : List Loc} {cells slots : Nat} {Q : State → Prop}
variable {cc : ByteArray} {pc : Nat} {ls : Array Slot} {rest st0 : List Value} {D : va_G} {cI : ClassId} {A : Nat → Prop} {w w1 w2 : va_W} {tys : List (ClassId × FieldType)}
variable {y : MethodName} {bytes : ByteArray} {maxL nL n index : Nat} {ret : Option FieldType} {ws : List Cond} {rm : Room} {Ts : List Cond} {own C : String} {b : Addr} {As : List Value}
/-- an array's place by its number -/
theorem x_iald (hexec : p.tables.exec = Jvm.exec) (hb : c.code = cc) (hK : va_K D vwCl tys s) (hP : va_P D vwCl w H) (q0 t0 : Nat) {a : Nat} {cA : ClassId} {N : Nat} {F : Nat → Int} (ha : w[q0]? = some (a, .inl (cA, N, .inl (jA F)))) (ht : tys[t0]? = some (cA, .int)) {i : Int} (j : Nat) (hi : i = (j : Int)) (hj : j < N) (hN : N < 2147483648) (hdg : decode cc pc = .ok (.iaload, 1))
    (kk : W p l e R s m args below meth c H locs cells slots Q (F0 m (pc + 1) ls (.int (jI (F j)) :: rest))) : W p l e R s m args below meth c H locs cells slots Q (F0 m pc ls (.int (jI i) :: .ref a :: rest)) := by
  subst hi
  rw [jI_nat]
  refine va_iald hexec hb hK hP q0 t0 ha ht (vp_in_nI hj (by omega)) hdg ?_
  rw [nI_clamp (by omega)]
  exact kk
theorem x_iast (hexec : p.tables.exec = Jvm.exec) (hb : c.code = cc) (hK : va_K D vwCl tys s) (hP : va_P D vwCl w H) (hD : va_D A w) {H0 : Heap} (hS : va_S A H0 H locs) (q0 t0 : Nat) {a : Nat} {cA : ClassId} {N : Nat} {F : Nat → Int} (ha : w[q0]? = some (a, .inl (cA, N, .inl (jA F)))) (ht : tys[t0]? = some (cA, .int)) {i x : Int} (j : Nat) (hi : i = (j : Int)) (hj : j < N) (hN : N < 2147483648) (hdg : decode cc pc = .ok (.iastore, 1))
    (hw : w.set q0 (a, .inl (cA, N, .inl (jA (upz F j x)))) = w1)
    (kk : ∀ (H1 : Heap) (locs1 : List Loc), va_P D vwCl w1 H1 → va_D A w1 → va_S A H0 H1 locs1 → W p l e R s m args below meth c H1 locs1 cells slots Q (F0 m (pc + 1) ls rest)) : W p l e R s m args below meth c H locs cells slots Q (F0 m pc ls (.int (jI x) :: .int (jI i) :: .ref a :: rest)) := by
  subst hi
  subst hw
  rw [jI_nat]
  refine va_iast hexec hb hK hP hD hS q0 t0 ha ht (vp_in_nI hj (by omega)) hdg ?_
  rw [nI_clamp (by omega), jA_up]
  exact kk
theorem x_copy (hexec : p.tables.exec = Jvm.exec) (hb : c.code = cc) (hml : c.maxLocals = ls.size) {own : String} {index : Nat} (hown : s.vm.findClass own = some m.cls) (hlink : (Cond.methodLink own index arraycopyName).before args s = true) (hnat : (Cond.native arraycopyName).before args s = true) (hstat : (Cond.static arraycopyName).before args s = true) (hini : (Cond.initialized "java/lang/System").before args s = true)
    (hK : va_K D vwCl tys s) (hP : va_P D vwCl w H) (hD : va_D A w) {H0 : Heap} (hS : va_S A H0 H locs) (q0 q1 t0 : Nat) {a0 a1 : Nat} {cA : ClassId} {n0 n1 : Nat} {F G : Nat → Int} (ha0 : w[q0]? = some (a0, .inl (cA, n0, .inl (jA F)))) (ha1 : w[q1]? = some (a1, .inl (cA, n1, .inl (jA G)))) (ht0 : tys[t0]? = some (cA, .int))
    (sp dp n : Nat) {spi dpi ni : Int} (e1 : spi = (sp : Int)) (e2 : dpi = (dp : Int)) (e3 : ni = (n : Int)) (hb1 : sp + n ≤ n0) (hb2 : dp + n ≤ n1 ∧ n0 < 2147483648 ∧ n1 < 2147483648)
    (hframes : 1 ≤ R.frames) (hlocals : (rest.map fun v => v.category).sum + (nativeFrameWords "java/lang/System" "arraycopy" 5 + 11) ≤ R.locals) (hdg : decode cc pc = .ok (.invokestatic index, 3))
    (hw : w.set q1 (a1, .inl (cA, n1, .inl (jA (va_cpy F G sp dp n)))) = w1)
    (kk : ∀ (H1 : Heap) (locs1 : List Loc), va_P D vwCl w1 H1 → va_D A w1 → va_S A H0 H1 locs1 → W p l e R s m args below meth c H1 locs1 cells slots Q (F0 m (pc + 3) ls rest)) : W p l e R s m args below meth c H locs cells slots Q (F0 m pc ls (.int (jI ni) :: .int (jI dpi) :: .ref a1 :: .int (jI spi) :: .ref a0 :: rest)) := by
  subst e1
  subst e2
  subst e3
  subst hw
  rw [jI_nat, jI_nat, jI_nat]
  refine va_copyi hexec hb hml hown hlink hnat hstat hini hK hP hD hS q0 q1 t0 t0 ha0 ha1 ht0 ht0 rfl (nI_pos (by omega)) (nI_pos (by omega)) (nI_pos (by omega)) (by rw [nI_clamp (by omega), nI_clamp (by omega)]; omega) (by rw [nI_clamp (by omega), nI_clamp (by omega)]; omega) (fun i _ => rfl) hframes hlocals hdg ?_
  rw [nI_clamp (by omega), nI_clamp (by omega), nI_clamp (by omega), jA_cpy]
  exact kk
/-- arithmetic -/
theorem x_iadd (hexec : p.tables.exec = Jvm.exec) (hb : c.code = cc) {x y : Int} (hdg : decode cc pc = .ok (.iadd, 1)) (k : W p l e R s m args below meth c H locs cells slots Q (F0 m (pc + 1) ls (.int (jI (x + y)) :: rest))) : W p l e R s m args below meth c H locs cells slots Q (F0 m pc ls (.int (jI y) :: .int (jI x) :: rest)) :=
  lv_iadd hexec hb hdg (by rw [jI_add]; exact k)
theorem x_isub (hexec : p.tables.exec = Jvm.exec) (hb : c.code = cc) {x y : Int} (hdg : decode cc pc = .ok (.isub, 1)) (k : W p l e R s m args below meth c H locs cells slots Q (F0 m (pc + 1) ls (.int (jI (x - y)) :: rest))) : W p l e R s m args below meth c H locs cells slots Q (F0 m pc ls (.int (jI y) :: .int (jI x) :: rest)) :=
  lv_isub hexec hb hdg (by rw [jI_sub]; exact k)
theorem x_imul (hexec : p.tables.exec = Jvm.exec) (hb : c.code = cc) {x y : Int} (hdg : decode cc pc = .ok (.imul, 1)) (k : W p l e R s m args below meth c H locs cells slots Q (F0 m (pc + 1) ls (.int (jI (x * y)) :: rest))) : W p l e R s m args below meth c H locs cells slots Q (F0 m pc ls (.int (jI y) :: .int (jI x) :: rest)) :=
  lv_imul hexec hb hdg (by rw [jI_mul]; exact k)
theorem x_idiv (hexec : p.tables.exec = Jvm.exec) (hb : c.code = cc) {x y : Int} (hdg : decode cc pc = .ok (.idiv, 1)) (h : (0 ≤ x ∧ x < 2147483648) ∧ 0 < y ∧ y < 2147483648) (k : W p l e R s m args below meth c H locs cells slots Q (F0 m (pc + 1) ls (.int (jI (x / y)) :: rest))) : W p l e R s m args below meth c H locs cells slots Q (F0 m pc ls (.int (jI y) :: .int (jI x) :: rest)) :=
  lv_idiv hexec hb hdg (jI_ne0 h.2.1 h.2.2) (by rw [jI_div h.1.1 h.1.2 h.2.1 h.2.2]; exact k)
theorem x_irem (hexec : p.tables.exec = Jvm.exec) (hb : c.code = cc) {x y : Int} (hdg : decode cc pc = .ok (.irem, 1)) (h : (0 ≤ x ∧ x < 2147483648) ∧ 0 < y ∧ y < 2147483648) (k : W p l e R s m args below meth c H locs cells slots Q (F0 m (pc + 1) ls (.int (jI (x % y)) :: rest))) : W p l e R s m args below meth c H locs cells slots Q (F0 m pc ls (.int (jI y) :: .int (jI x) :: rest)) :=
  lv_irem hexec hb hdg (jI_ne0 h.2.1 h.2.2) (by rw [jI_rem h.1.1 h.1.2 h.2.1 h.2.2]; exact k)
/-- branches -/
theorem x_if_eq (hexec : p.tables.exec = Jvm.exec) (hb : c.code = cc) {x : Int} {off : Int} {tgt : Nat} (hdg : decode cc pc = .ok (.ifCond .eq off, 3)) (ht : (pc : Int) + off = (tgt : Int)) (hr : -2147483648 ≤ x ∧ x < 2147483648)
    (kt : x = 0 → W p l e R s m args below meth c H locs cells slots Q (F0 m tgt ls rest)) (kf : ¬ x = 0 → W p l e R s m args below meth c H locs cells slots Q (F0 m (pc + 3) ls rest)) : W p l e R s m args below meth c H locs cells slots Q (F0 m pc ls (.int (jI x) :: rest)) :=
  lv_if_eq hexec hb hdg ht (fun h => kt ((jI_eq hr (by decide) : jI x = jI 0 ↔ x = 0).mp h)) (fun h => kf (fun q => h ((jI_eq hr (by decide) : jI x = jI 0 ↔ x = 0).mpr q)))
theorem x_if_ne (hexec : p.tables.exec = Jvm.exec) (hb : c.code = cc) {x : Int} {off : Int} {tgt : Nat} (hdg : decode cc pc = .ok (.ifCond .ne off, 3)) (ht : (pc : Int) + off = (tgt : Int)) (hr : -2147483648 ≤ x ∧ x < 2147483648)
    (kt : ¬ x = 0 → W p l e R s m args below meth c H locs cells slots Q (F0 m tgt ls rest)) (kf : x = 0 → W p l e R s m args below meth c H locs cells slots Q (F0 m (pc + 3) ls rest)) : W p l e R s m args below meth c H locs cells slots Q (F0 m pc ls (.int (jI x) :: rest)) :=
  lv_if_ne hexec hb hdg ht (fun h => kt (fun q => h ((jI_eq hr (by decide) : jI x = jI 0 ↔ x = 0).mpr q))) (fun h => kf ((jI_eq hr (by decide) : jI x = jI 0 ↔ x = 0).mp h))
theorem x_if_lt (hexec : p.tables.exec = Jvm.exec) (hb : c.code = cc) {x : Int} {off : Int} {tgt : Nat} (hdg : decode cc pc = .ok (.ifCond .lt off, 3)) (ht : (pc : Int) + off = (tgt : Int)) (hr : -2147483648 ≤ x ∧ x < 2147483648)
    (kt : x < 0 → W p l e R s m args below meth c H locs cells slots Q (F0 m tgt ls rest)) (kf : ¬ x < 0 → W p l e R s m args below meth c H locs cells slots Q (F0 m (pc + 3) ls rest)) : W p l e R s m args below meth c H locs cells slots Q (F0 m pc ls (.int (jI x) :: rest)) :=
  lv_if_lt hexec hb hdg ht (fun h => kt ((jI_lt hr (by decide) : jI x < jI 0 ↔ x < 0).mp h)) (fun h => kf (fun q => h ((jI_lt hr (by decide) : jI x < jI 0 ↔ x < 0).mpr q)))
theorem x_if_le (hexec : p.tables.exec = Jvm.exec) (hb : c.code = cc) {x : Int} {off : Int} {tgt : Nat} (hdg : decode cc pc = .ok (.ifCond .le off, 3)) (ht : (pc : Int) + off = (tgt : Int)) (hr : -2147483648 ≤ x ∧ x < 2147483648)
    (kt : x ≤ 0 → W p l e R s m args below meth c H locs cells slots Q (F0 m tgt ls rest)) (kf : ¬ x ≤ 0 → W p l e R s m args below meth c H locs cells slots Q (F0 m (pc + 3) ls rest)) : W p l e R s m args below meth c H locs cells slots Q (F0 m pc ls (.int (jI x) :: rest)) :=
  lv_if_le hexec hb hdg ht (fun h => kt ((jI_le hr (by decide) : jI x ≤ jI 0 ↔ x ≤ 0).mp h)) (fun h => kf (fun q => h ((jI_le hr (by decide) : jI x ≤ jI 0 ↔ x ≤ 0).mpr q)))
theorem x_if_gt (hexec : p.tables.exec = Jvm.exec) (hb : c.code = cc) {x : Int} {off : Int} {tgt : Nat} (hdg : decode cc pc = .ok (.ifCond .gt off, 3)) (ht : (pc : Int) + off = (tgt : Int)) (hr : -2147483648 ≤ x ∧ x < 2147483648)
    (kt : 0 < x → W p l e R s m args below meth c H locs cells slots Q (F0 m tgt ls rest)) (kf : ¬ 0 < x → W p l e R s m args below meth c H locs cells slots Q (F0 m (pc + 3) ls rest)) : W p l e R s m args below meth c H locs cells slots Q (F0 m pc ls (.int (jI x) :: rest)) :=
  lv_if_gt hexec hb hdg ht (fun h => kt ((jI_lt (by decide) hr : jI 0 < jI x ↔ 0 < x).mp h)) (fun h => kf (fun q => h ((jI_lt (by decide) hr : jI 0 < jI x ↔ 0 < x).mpr q)))
theorem x_if_ge (hexec : p.tables.exec = Jvm.exec) (hb : c.code = cc) {x : Int} {off : Int} {tgt : Nat} (hdg : decode cc pc = .ok (.ifCond .ge off, 3)) (ht : (pc : Int) + off = (tgt : Int)) (hr : -2147483648 ≤ x ∧ x < 2147483648)
    (kt : 0 ≤ x → W p l e R s m args below meth c H locs cells slots Q (F0 m tgt ls rest)) (kf : ¬ 0 ≤ x → W p l e R s m args below meth c H locs cells slots Q (F0 m (pc + 3) ls rest)) : W p l e R s m args below meth c H locs cells slots Q (F0 m pc ls (.int (jI x) :: rest)) :=
  lv_if_ge hexec hb hdg ht (fun h => kt ((jI_le (by decide) hr : jI 0 ≤ jI x ↔ 0 ≤ x).mp h)) (fun h => kf (fun q => h ((jI_le (by decide) hr : jI 0 ≤ jI x ↔ 0 ≤ x).mpr q)))
theorem x_icmp_eq (hexec : p.tables.exec = Jvm.exec) (hb : c.code = cc) {x y : Int} {off : Int} {tgt : Nat} (hdg : decode cc pc = .ok (.if_icmp .eq off, 3)) (ht : (pc : Int) + off = (tgt : Int)) (hr : (-2147483648 ≤ x ∧ x < 2147483648) ∧ -2147483648 ≤ y ∧ y < 2147483648)
    (kt : x = y → W p l e R s m args below meth c H locs cells slots Q (F0 m tgt ls rest)) (kf : ¬ x = y → W p l e R s m args below meth c H locs cells slots Q (F0 m (pc + 3) ls rest)) : W p l e R s m args below meth c H locs cells slots Q (F0 m pc ls (.int (jI y) :: .int (jI x) :: rest)) :=
  lv_icmp_eq hexec hb hdg ht (fun h => kt ((jI_eq hr.1 hr.2 : jI x = jI y ↔ x = y).mp h)) (fun h => kf (fun q => h ((jI_eq hr.1 hr.2 : jI x = jI y ↔ x = y).mpr q)))
theorem x_icmp_ne (hexec : p.tables.exec = Jvm.exec) (hb : c.code = cc) {x y : Int} {off : Int} {tgt : Nat} (hdg : decode cc pc = .ok (.if_icmp .ne off, 3)) (ht : (pc : Int) + off = (tgt : Int)) (hr : (-2147483648 ≤ x ∧ x < 2147483648) ∧ -2147483648 ≤ y ∧ y < 2147483648)
    (kt : ¬ x = y → W p l e R s m args below meth c H locs cells slots Q (F0 m tgt ls rest)) (kf : x = y → W p l e R s m args below meth c H locs cells slots Q (F0 m (pc + 3) ls rest)) : W p l e R s m args below meth c H locs cells slots Q (F0 m pc ls (.int (jI y) :: .int (jI x) :: rest)) :=
  lv_icmp_ne hexec hb hdg ht (fun h => kt (fun q => h ((jI_eq hr.1 hr.2 : jI x = jI y ↔ x = y).mpr q))) (fun h => kf ((jI_eq hr.1 hr.2 : jI x = jI y ↔ x = y).mp h))
theorem x_icmp_lt (hexec : p.tables.exec = Jvm.exec) (hb : c.code = cc) {x y : Int} {off : Int} {tgt : Nat} (hdg : decode cc pc = .ok (.if_icmp .lt off, 3)) (ht : (pc : Int) + off = (tgt : Int)) (hr : (-2147483648 ≤ x ∧ x < 2147483648) ∧ -2147483648 ≤ y ∧ y < 2147483648)
    (kt : x < y → W p l e R s m args below meth c H locs cells slots Q (F0 m tgt ls rest)) (kf : ¬ x < y → W p l e R s m args below meth c H locs cells slots Q (F0 m (pc + 3) ls rest)) : W p l e R s m args below meth c H locs cells slots Q (F0 m pc ls (.int (jI y) :: .int (jI x) :: rest)) :=
  lv_icmp_lt hexec hb hdg ht (fun h => kt ((jI_lt hr.1 hr.2 : jI x < jI y ↔ x < y).mp h)) (fun h => kf (fun q => h ((jI_lt hr.1 hr.2 : jI x < jI y ↔ x < y).mpr q)))
theorem x_icmp_le (hexec : p.tables.exec = Jvm.exec) (hb : c.code = cc) {x y : Int} {off : Int} {tgt : Nat} (hdg : decode cc pc = .ok (.if_icmp .le off, 3)) (ht : (pc : Int) + off = (tgt : Int)) (hr : (-2147483648 ≤ x ∧ x < 2147483648) ∧ -2147483648 ≤ y ∧ y < 2147483648)
    (kt : x ≤ y → W p l e R s m args below meth c H locs cells slots Q (F0 m tgt ls rest)) (kf : ¬ x ≤ y → W p l e R s m args below meth c H locs cells slots Q (F0 m (pc + 3) ls rest)) : W p l e R s m args below meth c H locs cells slots Q (F0 m pc ls (.int (jI y) :: .int (jI x) :: rest)) :=
  lv_icmp_le hexec hb hdg ht (fun h => kt ((jI_le hr.1 hr.2 : jI x ≤ jI y ↔ x ≤ y).mp h)) (fun h => kf (fun q => h ((jI_le hr.1 hr.2 : jI x ≤ jI y ↔ x ≤ y).mpr q)))
theorem x_icmp_gt (hexec : p.tables.exec = Jvm.exec) (hb : c.code = cc) {x y : Int} {off : Int} {tgt : Nat} (hdg : decode cc pc = .ok (.if_icmp .gt off, 3)) (ht : (pc : Int) + off = (tgt : Int)) (hr : (-2147483648 ≤ x ∧ x < 2147483648) ∧ -2147483648 ≤ y ∧ y < 2147483648)
    (kt : y < x → W p l e R s m args below meth c H locs cells slots Q (F0 m tgt ls rest)) (kf : ¬ y < x → W p l e R s m args below meth c H locs cells slots Q (F0 m (pc + 3) ls rest)) : W p l e R s m args below meth c H locs cells slots Q (F0 m pc ls (.int (jI y) :: .int (jI x) :: rest)) :=
  lv_icmp_gt hexec hb hdg ht (fun h => kt ((jI_lt hr.2 hr.1 : jI y < jI x ↔ y < x).mp h)) (fun h => kf (fun q => h ((jI_lt hr.2 hr.1 : jI y < jI x ↔ y < x).mpr q)))
theorem x_icmp_ge (hexec : p.tables.exec = Jvm.exec) (hb : c.code = cc) {x y : Int} {off : Int} {tgt : Nat} (hdg : decode cc pc = .ok (.if_icmp .ge off, 3)) (ht : (pc : Int) + off = (tgt : Int)) (hr : (-2147483648 ≤ x ∧ x < 2147483648) ∧ -2147483648 ≤ y ∧ y < 2147483648)
    (kt : y ≤ x → W p l e R s m args below meth c H locs cells slots Q (F0 m tgt ls rest)) (kf : ¬ y ≤ x → W p l e R s m args below meth c H locs cells slots Q (F0 m (pc + 3) ls rest)) : W p l e R s m args below meth c H locs cells slots Q (F0 m pc ls (.int (jI y) :: .int (jI x) :: rest)) :=
  lv_icmp_ge hexec hb hdg ht (fun h => kt ((jI_le hr.2 hr.1 : jI y ≤ jI x ↔ y ≤ x).mp h)) (fun h => kf (fun q => h ((jI_le hr.2 hr.1 : jI y ≤ jI x ↔ y ≤ x).mpr q)))
theorem x_mmax (hexec : p.tables.exec = Jvm.exec) (hb : c.code = cc) (hml : c.maxLocals = ls.size) {own : String} {index : Nat} (hown : s.vm.findClass own = some m.cls) (hlink : (Cond.methodLink own index Lib.Math.max.name).before args s = true) (hstat : (Cond.static Lib.Math.max.name).before args s = true) (hini : (Cond.initialized "java/lang/Math").before args s = true) (hcode : (Cond.code Lib.Math.max.name Lib.Math.max.code 2 (some .int)).before args s = true)
    (hframes : 1 ≤ R.frames) (hlocals : (rest.map fun v => v.category).sum + 13 ≤ R.locals) (hc : cells ≤ R.cells) (hs : slots ≤ R.slots) {x y : Int} (hdg : decode cc pc = .ok (.invokestatic index, 3)) (hr : (-2147483648 ≤ x ∧ x < 2147483648) ∧ -2147483648 ≤ y ∧ y < 2147483648)
    (kk : W p l e R s m args below meth c H locs cells slots Q (F0 m (pc + 3) ls (.int (jI (if x < y then y else x)) :: rest))) : W p l e R s m args below meth c H locs cells slots Q (F0 m pc ls (.int (jI y) :: .int (jI x) :: rest)) := by
  refine va_mmax hexec hb hml hown hlink hstat hini hcode hframes hlocals hc hs hdg ?_
  by_cases h : x < y
  · rw [if_pos h] at kk
    rw [if_pos ((jI_lt hr.1 hr.2).mpr h)]
    exact kk
  · rw [if_neg h] at kk
    rw [if_neg (fun q => h ((jI_lt hr.1 hr.2).mp q))]
    exact kk
/-- the ends -/
theorem xr_i {v r : Int} (hx : p.tables.exec = Jvm.exec) (hb : c.code = cc) (hr : meth.sig.returnType = some .int) (hlocks : meth.locks = false) (h : v = r) (hdg : decode cc pc = .ok (.ireturn, 1)) : W p l e R s m args below meth c s.heap [] cells slots (MQ below (vp_Si (fun x => x = jI r)) args s cells slots (fun _ => False)) (F0 m pc ls [.int (jI v)]) :=
  W.iret hx hb hr (fun t ht hW => ⟨_, rfl, congrArg jI h, ht⟩) (fun q h => absurd h List.not_mem_nil) hdg hlocks
theorem xr_z {v r : Int} (hx : p.tables.exec = Jvm.exec) (hb : c.code = cc) (hr : meth.sig.returnType = some .boolean) (hlocks : meth.locks = false) (hn : v = 0 ∨ v = 1) (h : v = r) (hdg : decode cc pc = .ok (.ireturn, 1)) : W p l e R s m args below meth c s.heap [] cells slots (MQ below (vp_Si (fun x => x = jI r)) args s cells slots (fun _ => False)) (F0 m pc ls [.int (jI v)]) :=
  W.zret hx hb hr (by rcases hn with rfl | rfl <;> rfl) (fun t ht hW => ⟨_, rfl, congrArg jI h, ht⟩) (fun q h => absurd h List.not_mem_nil) hdg hlocks
theorem xr_l {v r : Int64} (hx : p.tables.exec = Jvm.exec) (hb : c.code = cc) (hr : meth.sig.returnType = some .long) (hlocks : meth.locks = false) (h : v = r) (hdg : decode cc pc = .ok (.lreturn, 1)) : W p l e R s m args below meth c s.heap [] cells slots (MQ below (vp_Sl (fun x => x = r)) args s cells slots (fun _ => False)) (F0 m pc ls [.long v]) :=
  W.lret hx hb hr (fun t ht hW => ⟨v, rfl, h, ht⟩) (fun q h => absurd h List.not_mem_nil) hdg hlocks
theorem xr_d {v r : UInt64} (hx : p.tables.exec = Jvm.exec) (hb : c.code = cc) (hr : meth.sig.returnType = some .double) (hlocks : meth.locks = false) (h : v = r) (hdg : decode cc pc = .ok (.dreturn, 1)) : W p l e R s m args below meth c s.heap [] cells slots (MQ below (vp_Sd (fun x => x = r)) args s cells slots (fun _ => False)) (F0 m pc ls [.double v]) :=
  W.dret hx hb hr (fun t ht hW => ⟨v, rfl, h, ht⟩) (fun q h => absurd h List.not_mem_nil) hdg hlocks
theorem xi_i {v r : Int} (hx : p.tables.exec = Jvm.exec) (hb : c.code = cc) (hr : meth.sig.returnType = some .int) (hlocks : meth.locks = false) (hK : va_K D vwCl [(cI, .int)] s) (hP : va_P D vwCl w H) (hD : va_D A w) (hS : va_S A s.heap H locs) (h : v = r) (hw : w = w1) (hdg : decode cc pc = .ok (.ireturn, 1)) : W p l e R s m args below meth c H locs cells slots (MQ below (va_Qi (fun x (_ : Unit) => x = jI r) (xq_B D cI A w1) A) args s cells slots A) (F0 m pc ls [.int (jI v)]) := by
  subst hw
  exact W.iret hx hb hr (fun t ht hW => ⟨⟨_, (), rfl, congrArg jI h, by rw [ht]; exact hP, va_K.moved hW.alike hK, hD⟩, hS.F ht⟩) hS.2.2 hdg hlocks
theorem xi_z {v r : Int} (hx : p.tables.exec = Jvm.exec) (hb : c.code = cc) (hr : meth.sig.returnType = some .boolean) (hlocks : meth.locks = false) (hn : v = 0 ∨ v = 1) (hK : va_K D vwCl [(cI, .int)] s) (hP : va_P D vwCl w H) (hD : va_D A w) (hS : va_S A s.heap H locs) (h : v = r) (hw : w = w1) (hdg : decode cc pc = .ok (.ireturn, 1)) : W p l e R s m args below meth c H locs cells slots (MQ below (va_Qi (fun x (_ : Unit) => x = jI r) (xq_B D cI A w1) A) args s cells slots A) (F0 m pc ls [.int (jI v)]) := by
  subst hw
  exact W.zret hx hb hr (by rcases hn with rfl | rfl <;> rfl) (fun t ht hW => ⟨⟨_, (), rfl, congrArg jI h, by rw [ht]; exact hP, va_K.moved hW.alike hK, hD⟩, hS.F ht⟩) hS.2.2 hdg hlocks
theorem xi_v (hx : p.tables.exec = Jvm.exec) (hb : c.code = cc) (hr : meth.sig.returnType = none) (hlocks : meth.locks = false) (hK : va_K D vwCl [(cI, .int)] s) (hP : va_P D vwCl w H) (hD : va_D A w) (hS : va_S A s.heap H locs) (hw : w = w1) (hdg : decode cc pc = .ok (.return_, 1)) : W p l e R s m args below meth c H locs cells slots (MQ below (va_Qv (fun (_ : Unit) => True) (xq_B D cI A w1) A) args s cells slots A) (F0 m pc ls []) := by
  subst hw
  exact W.vret hx hb hr (fun t ht hW => ⟨⟨(), rfl, trivial, by rw [ht]; exact hP, va_K.moved hW.alike hK, hD⟩, hS.F ht⟩) hS.2.2 hdg hlocks
/-- the calls -/
theorem xc_P {r : Int} (S : CallFix p m c cc nL s args Ts own) (hM : MetP l y ws rm As r) (cw : CallB R s args own index y bytes maxL ret ws rm 0 0 n ∧ (Cond.static y).before args s = true) (hn : As.length = n) (hl : ls.size = nL) (hst : st0 = As.reverse ++ rest) (hsum : (rest.map fun v => v.category).sum ≤ 8) (hdg : decode cc pc = .ok (.invokestatic index, 3)) (hf : cells ≤ R.cells ∧ slots ≤ R.slots)
    (kk : W p l e R s m args below meth c H locs cells slots Q (F0 m (pc + 3) ls (.int (jI r) :: rest))) : W p l e R s m args below meth c H locs cells slots Q (F0 m pc ls st0) :=
  vp_callSi (va_runS (As := As) (rest := rest) S hM cw ⟨fun a U g mk q => q, fun U hU hW => ⟨rfl, trivial⟩⟩ rfl hn hl hst (lv_room hsum) hdg hf).run (fun x hx => by rw [hx]; exact kk)
theorem xc_R {r : Int} (S : CallFix p m c cc nL s args Ts own) (hM : MetR l y ws rm D cI (.ref b :: As) w r) (cw : CallW R s args own C index y bytes maxL ret ws rm 0 0 n) (hP : va_P D vwCl w H) (hK : va_K D vwCl [(cI, .int)] s) (q0 : Nat) {ci : Nat} {fs : List Value} {q : vw_C} (he : w[q0]? = some (b, .inr (ci, fs))) (hc : vwCl[ci]? = some q) (hC : q.1 = C) (hn : As.length = n) (hl : ls.size = nL) (hst : st0 = As.reverse ++ .ref b :: rest) (hsum : (rest.map fun v => v.category).sum ≤ 8) (hdg : decode cc pc = .ok (.invokevirtual index, 3)) (hf : cells ≤ R.cells ∧ slots ≤ R.slots)
    (kk : W p l e R s m args below meth c H locs cells slots Q (F0 m (pc + 3) ls (.int (jI r) :: rest))) : W p l e R s m args below meth c H locs cells slots Q (F0 m pc ls st0) := by
  subst hC
  exact vp_callSi (va_runV (As := As) (rest := rest) S hM cw ⟨xq_Rbl, va_recv hK hP hc he, fun U hU hW => ⟨rfl, by rw [hU]; exact hP, va_K.moved hW.alike hK⟩⟩ rfl hn hl hst (lv_room hsum) hdg hf).run (fun x hx => by rw [hx]; exact kk)
theorem xc_Rl {r : Int64} (S : CallFix p m c cc nL s args Ts own) (hM : MetRl l y ws rm D cI (.ref b :: As) w r) (cw : CallW R s args own C index y bytes maxL ret ws rm 0 0 n) (hP : va_P D vwCl w H) (hK : va_K D vwCl [(cI, .int)] s) (q0 : Nat) {ci : Nat} {fs : List Value} {q : vw_C} (he : w[q0]? = some (b, .inr (ci, fs))) (hc : vwCl[ci]? = some q) (hC : q.1 = C) (hn : As.length = n) (hl : ls.size = nL) (hst : st0 = As.reverse ++ .ref b :: rest) (hsum : (rest.map fun v => v.category).sum ≤ 8) (hdg : decode cc pc = .ok (.invokevirtual index, 3)) (hf : cells ≤ R.cells ∧ slots ≤ R.slots)
    (kk : W p l e R s m args below meth c H locs cells slots Q (F0 m (pc + 3) ls (.long r :: rest))) : W p l e R s m args below meth c H locs cells slots Q (F0 m pc ls st0) := by
  subst hC
  exact vp_callSl (va_runV (As := As) (rest := rest) S hM cw ⟨xq_Rbl, va_recv hK hP hc he, fun U hU hW => ⟨rfl, by rw [hU]; exact hP, va_K.moved hW.alike hK⟩⟩ rfl hn hl hst (lv_room hsum) hdg hf).run (fun x hx => by rw [hx]; exact kk)
theorem xc_Rd {r : UInt64} (S : CallFix p m c cc nL s args Ts own) (hM : MetRd l y ws rm D cI (.ref b :: As) w r) (cw : CallW R s args own C index y bytes maxL ret ws rm 0 0 n) (hP : va_P D vwCl w H) (hK : va_K D vwCl [(cI, .int)] s) (q0 : Nat) {ci : Nat} {fs : List Value} {q : vw_C} (he : w[q0]? = some (b, .inr (ci, fs))) (hc : vwCl[ci]? = some q) (hC : q.1 = C) (hn : As.length = n) (hl : ls.size = nL) (hst : st0 = As.reverse ++ .ref b :: rest) (hsum : (rest.map fun v => v.category).sum ≤ 8) (hdg : decode cc pc = .ok (.invokevirtual index, 3)) (hf : cells ≤ R.cells ∧ slots ≤ R.slots)
    (kk : W p l e R s m args below meth c H locs cells slots Q (F0 m (pc + 3) ls (.double r :: rest))) : W p l e R s m args below meth c H locs cells slots Q (F0 m pc ls st0) := by
  subst hC
  exact vp_callSd (va_runV (As := As) (rest := rest) S hM cw ⟨xq_Rbl, va_recv hK hP hc he, fun U hU hW => ⟨rfl, by rw [hU]; exact hP, va_K.moved hW.alike hK⟩⟩ rfl hn hl hst (lv_room hsum) hdg hf).run (fun x hx => by rw [hx]; exact kk)
/-- a callee that has the caller's world as its own -/
theorem xc_I {r : Int} (S : CallFix p m c cc nL s args Ts own) (hM : MetI l y ws rm D cI (.ref b :: As) w w1 r) (cw : CallW R s args own C index y bytes maxL ret ws rm 0 0 n) (hP : va_P D vwCl w H) (hD : va_D A w) {H0 : Heap} (hS : va_S A H0 H locs) (hA : ∀ q, H0.size ≤ q → A q) (hK : va_K D vwCl [(cI, .int)] s) (q0 : Nat) {ci : Nat} {fs : List Value} {q : vw_C} (he : w[q0]? = some (b, .inr (ci, fs))) (hc : vwCl[ci]? = some q) (hC : q.1 = C) (hn : As.length = n) (hl : ls.size = nL) (hst : st0 = As.reverse ++ .ref b :: rest) (hsum : (rest.map fun v => v.category).sum ≤ 8) (hdg : decode cc pc = .ok (.invokevirtual index, 3)) (hf : cells ≤ R.cells ∧ slots ≤ R.slots)
    (kk : ∀ (H1 : Heap) (locs1 : List Loc), va_P D vwCl w1 H1 → va_D A w1 → va_S A H0 H1 locs1 → W p l e R s m args below meth c H1 locs1 cells slots Q (F0 m (pc + 3) ls (.int (jI r) :: rest))) : W p l e R s m args below meth c H locs cells slots Q (F0 m pc ls st0) := by
  subst hC
  have hF : ∀ q, va_A w H.size q → A q := fun q h => by
    rcases h with ⟨k, e, h⟩ | h
    · exact hD.2 k (q, e) h
    · exact hA q (Nat.le_trans hS.1 h)
  refine va_calli (va_runV (As := As) (rest := rest) S (hM H.size) cw ⟨xq_Wbl, va_recv hK hP hc he, fun U hU hW => ⟨rfl, by rw [hU], by rw [hU]; exact hP, va_K.moved hW.alike hK, hD.weaken (fun _ _ _ _ => trivial)⟩⟩ rfl hn hl hst (lv_room hsum) hdg hf) hS (fun q _ h => hF q h) hF (fun x u t H1 locs1 ht hvm hw hB hz1 hk1 hS1 => ?_)
  obtain ⟨hP1, -, hD1⟩ := hB
  rw [ht] at hP1
  rw [hw]
  exact kk H1 locs1 hP1 (hD1.weaken (fun _ q _ h => hF q.1 h)) hS1
theorem xc_V (S : CallFix p m c cc nL s args Ts own) (hM : MetV l y ws rm D cI (.ref b :: As) w w1) (cw : CallW R s args own C index y bytes maxL ret ws rm 0 0 n) (hP : va_P D vwCl w H) (hD : va_D A w) {H0 : Heap} (hS : va_S A H0 H locs) (hA : ∀ q, H0.size ≤ q → A q) (hK : va_K D vwCl [(cI, .int)] s) (q0 : Nat) {ci : Nat} {fs : List Value} {q : vw_C} (he : w[q0]? = some (b, .inr (ci, fs))) (hc : vwCl[ci]? = some q) (hC : q.1 = C) (hn : As.length = n) (hl : ls.size = nL) (hst : st0 = As.reverse ++ .ref b :: rest) (hsum : (rest.map fun v => v.category).sum ≤ 8) (hdg : decode cc pc = .ok (.invokevirtual index, 3)) (hf : cells ≤ R.cells ∧ slots ≤ R.slots)
    (kk : ∀ (H1 : Heap) (locs1 : List Loc), va_P D vwCl w1 H1 → va_D A w1 → va_S A H0 H1 locs1 → W p l e R s m args below meth c H1 locs1 cells slots Q (F0 m (pc + 3) ls rest)) : W p l e R s m args below meth c H locs cells slots Q (F0 m pc ls st0) := by
  subst hC
  have hF : ∀ q, va_A w H.size q → A q := fun q h => by
    rcases h with ⟨k, e, h⟩ | h
    · exact hD.2 k (q, e) h
    · exact hA q (Nat.le_trans hS.1 h)
  refine va_callv (va_runV (As := As) (rest := rest) S (hM H.size) cw ⟨xq_Wbl, va_recv hK hP hc he, fun U hU hW => ⟨rfl, by rw [hU], by rw [hU]; exact hP, va_K.moved hW.alike hK, hD.weaken (fun _ _ _ _ => trivial)⟩⟩ rfl hn hl hst (lv_room hsum) hdg hf) hS (fun q _ h => hF q h) hF (fun u t H1 locs1 ht hvm hw hB hz1 hk1 hS1 => ?_)
  obtain ⟨hP1, -, hD1⟩ := hB
  rw [ht] at hP1
  exact kk H1 locs1 hP1 (hD1.weaken (fun _ q _ h => hF q.1 h)) hS1
end XW
/-- the cells of the system: object, now, saved, buffer, windings, their three rows -/
abbrev w1 (cI : ClassId) (a : Nat → Nat) (f g : Nat → Int) (n : Nat) (b : Nat → Int) (len : Nat) (kd sg nb : Nat → Int) (pt : Nat) : va_W :=
  [(a 0, .inr (1, [.ref (a 1), .ref (a 2), .int (jI (n : Int)), .ref (a 3), .int (jI (len : Int)), .ref (a 4)])), (a 1, .inl (cI, 33, .inl (jA f))), (a 2, .inl (cI, 198, .inl (jA g))), (a 3, .inl (cI, 60, .inl (jA b))),
   (a 4, .inr (0, [.ref (a 5), .ref (a 6), .ref (a 7), .int (jI (pt : Int))])), (a 5, .inl (cI, 3, .inl (jA kd))), (a 6, .inl (cI, 3, .inl (jA sg))), (a 7, .inl (cI, 3, .inl (jA nb)))]
/-- the cells of the reference: object, now, past, text, sorts, many -/
abbrev w2 (cI : ClassId) (a : Nat → Nat) (f g : Nat → Int) (n : Nat) (b : Nat → Int) (len : Nat) (th : Int) (at_ : Nat) (fl va : Int) (so ma : Nat → Int) : va_W :=
  [(a 0, .inr (2, [.ref (a 1), .ref (a 2), .int (jI (n : Int)), .ref (a 3), .int (jI (len : Int)), .int (jI th), .int (jI (at_ : Int)), .int (jI fl), .int (jI va), .ref (a 4), .ref (a 5)])), (a 1, .inl (cI, 33, .inl (jA f))), (a 2, .inl (cI, 198, .inl (jA g))), (a 3, .inl (cI, 60, .inl (jA b))), (a 4, .inl (cI, 3, .inl (jA so))), (a 5, .inl (cI, 3, .inl (jA ma)))]
end
section
/-- what a movement's places hold -/
def mvB (f : Nat → Int) (B : Int) : Prop := ∀ j : Nat, j < 3 → (0 ≤ f (21 + j * 4 + 0) ∧ f (21 + j * 4 + 0) ≤ 200) ∧ (f (21 + j * 4 + 1) = 0 ∨ f (21 + j * 4 + 1) = 1) ∧ (0 ≤ f (21 + j * 4 + 2) ∧ f (21 + j * 4 + 2) ≤ 20) ∧ 0 ≤ f (21 + j * 4 + 3) ∧ f (21 + j * 4 + 3) ≤ B
def mvs (f : Nat → Int) : Prop := mvB f 1000000
theorem mvB_mono {f : Nat → Int} {B C : Int} (h : mvB f B) (hB : B ≤ C) : mvB f C := fun j hj => by
  have := h j hj
  omega
theorem mvB_upz {f : Nat → Int} {B : Int} {k : Nat} {v : Int} (h : mvB f B) (hk : k < 21) : mvB (upz f k v) B := fun j hj => by
  have := h j hj
  rw [upz_n (by omega), upz_n (by omega), upz_n (by omega), upz_n (by omega)]
  exact this
theorem rem_rng {x y : Int} (hy : 0 < y) (hy2 : y < 2147483648) : -2147483648 ≤ x % y ∧ x % y < 2147483648 := by
  have q0 := Int.emod_nonneg x (show y ≠ 0 by omega)
  have q1 := Int.emod_lt_of_pos x hy
  omega
def s_X1_isDay (x0 : Int) : Int := if x0 < 0 then 0 else (if 7 ≤ x0 then 0 else 1)
theorem b_X1_isDay (x0 : Int) : (s_X1_isDay x0) = 0 ∨ (s_X1_isDay x0) = 1 := by unfold s_X1_isDay; (repeat' split) <;> first | exact Or.inl rfl | exact Or.inr rfl
abbrev rm_X1_isDay : Room := { frames := 0, cells := 0, slots := 0, locals := 0 }
set_option maxHeartbeats 4000000 in
set_option maxRecDepth 100000 in
theorem m_X1_isDay (l : Launch) (x0 : Int) (hx0 : -2147483648 ≤ x0 ∧ x0 < 2147483648) : MetP l yX1_isDay wsX1_isDay rm_X1_isDay [.int (jI x0)] (s_X1_isDay x0) := by
  refine xe_P (cc := cX1_isDay) (maxL := 1) (ret := (some .boolean)) (by decide) rfl (Nat.le_of_ble_eq_true rfl) ?_
  intro p e s m below meth c hx hb hr hml hts hown hlocks ls hl
  have hl : lv_has ls 1 [(0, .int (jI x0))] := hl
  have hown : s.vm.findClass RX1 = some m.cls := hown
  have hSx : CallFix p m c cX1_isDay 1 s ([.int (jI x0)] : List Value).toArray wsX1_isDay RX1 := ⟨hx, hb, hml, hown, hts⟩
  obtain ⟨z, hz⟩ : ∃ z, z = (s_X1_isDay x0) := ⟨_, rfl⟩
  rw [← hz]
  unfold s_X1_isDay at hz
  refine lv_iload_n hx hb dX1_isDay_0 rfl (lv_at hl 0 rfl) ?_
  refine x_if_lt (tgt := 14) hx hb dX1_isDay_1 (by decide) (by omega) (fun c1 => ?_) (fun c1 => ?_)
  · rw [if_pos c1] at hz
    refine lv_iconst (v := jI 0) hx hb dX1_isDay_14 rfl ?_
    subst hz
    exact xr_z hx hb hr hlocks (Or.inl rfl) rfl dX1_isDay_15
  · rw [if_neg c1] at hz
    refine lv_iload_n hx hb dX1_isDay_4 rfl (lv_at hl 0 rfl) ?_
    refine lv_bipush (v := jI 7) hx hb dX1_isDay_5 (by decide) ?_
    refine x_icmp_ge (tgt := 14) hx hb dX1_isDay_7 (by decide) ⟨(by omega), (by decide)⟩ (fun c7 => ?_) (fun c7 => ?_)
    · rw [if_pos c7] at hz
      refine lv_iconst (v := jI 0) hx hb dX1_isDay_14 rfl ?_
      subst hz
      exact xr_z hx hb hr hlocks (Or.inl rfl) rfl dX1_isDay_15
    · rw [if_neg c7] at hz
      refine lv_iconst (v := jI 1) hx hb dX1_isDay_10 rfl ?_
      refine lv_goto (tgt := 15) hx hb dX1_isDay_11 (by decide) ?_
      subst hz
      exact xr_z hx hb hr hlocks (Or.inr rfl) rfl dX1_isDay_15
def s_X1_isSetting (x0 : Int) : Int := if x0 < 0 then 0 else (if 3 ≤ x0 then 0 else 1)
theorem b_X1_isSetting (x0 : Int) : (s_X1_isSetting x0) = 0 ∨ (s_X1_isSetting x0) = 1 := by unfold s_X1_isSetting; (repeat' split) <;> first | exact Or.inl rfl | exact Or.inr rfl
abbrev rm_X1_isSetting : Room := { frames := 0, cells := 0, slots := 0, locals := 0 }
set_option maxHeartbeats 4000000 in
set_option maxRecDepth 100000 in
theorem m_X1_isSetting (l : Launch) (x0 : Int) (hx0 : -2147483648 ≤ x0 ∧ x0 < 2147483648) : MetP l yX1_isSetting wsX1_isSetting rm_X1_isSetting [.int (jI x0)] (s_X1_isSetting x0) := by
  refine xe_P (cc := cX1_isSetting) (maxL := 1) (ret := (some .boolean)) (by decide) rfl (Nat.le_of_ble_eq_true rfl) ?_
  intro p e s m below meth c hx hb hr hml hts hown hlocks ls hl
  have hl : lv_has ls 1 [(0, .int (jI x0))] := hl
  have hown : s.vm.findClass RX1 = some m.cls := hown
  have hSx : CallFix p m c cX1_isSetting 1 s ([.int (jI x0)] : List Value).toArray wsX1_isSetting RX1 := ⟨hx, hb, hml, hown, hts⟩
  obtain ⟨z, hz⟩ : ∃ z, z = (s_X1_isSetting x0) := ⟨_, rfl⟩
  rw [← hz]
  unfold s_X1_isSetting at hz
  refine lv_iload_n hx hb dX1_isSetting_0 rfl (lv_at hl 0 rfl) ?_
  refine x_if_lt (tgt := 13) hx hb dX1_isSetting_1 (by decide) (by omega) (fun c1 => ?_) (fun c1 => ?_)
  · rw [if_pos c1] at hz
    refine lv_iconst (v := jI 0) hx hb dX1_isSetting_13 rfl ?_
    subst hz
    exact xr_z hx hb hr hlocks (Or.inl rfl) rfl dX1_isSetting_14
  · rw [if_neg c1] at hz
    refine lv_iload_n hx hb dX1_isSetting_4 rfl (lv_at hl 0 rfl) ?_
    refine lv_iconst (v := jI 3) hx hb dX1_isSetting_5 rfl ?_
    refine x_icmp_ge (tgt := 13) hx hb dX1_isSetting_6 (by decide) ⟨(by omega), (by decide)⟩ (fun c6 => ?_) (fun c6 => ?_)
    · rw [if_pos c6] at hz
      refine lv_iconst (v := jI 0) hx hb dX1_isSetting_13 rfl ?_
      subst hz
      exact xr_z hx hb hr hlocks (Or.inl rfl) rfl dX1_isSetting_14
    · rw [if_neg c6] at hz
      refine lv_iconst (v := jI 1) hx hb dX1_isSetting_9 rfl ?_
      refine lv_goto (tgt := 14) hx hb dX1_isSetting_10 (by decide) ?_
      subst hz
      exact xr_z hx hb hr hlocks (Or.inr rfl) rfl dX1_isSetting_14
def s_X1_isMovement (x0 : Int) : Int := if x0 < 0 then 0 else (if 3 ≤ x0 then 0 else 1)
theorem b_X1_isMovement (x0 : Int) : (s_X1_isMovement x0) = 0 ∨ (s_X1_isMovement x0) = 1 := by unfold s_X1_isMovement; (repeat' split) <;> first | exact Or.inl rfl | exact Or.inr rfl
abbrev rm_X1_isMovement : Room := { frames := 0, cells := 0, slots := 0, locals := 0 }
set_option maxHeartbeats 4000000 in
set_option maxRecDepth 100000 in
theorem m_X1_isMovement (l : Launch) (x0 : Int) (hx0 : -2147483648 ≤ x0 ∧ x0 < 2147483648) : MetP l yX1_isMovement wsX1_isMovement rm_X1_isMovement [.int (jI x0)] (s_X1_isMovement x0) := by
  refine xe_P (cc := cX1_isMovement) (maxL := 1) (ret := (some .boolean)) (by decide) rfl (Nat.le_of_ble_eq_true rfl) ?_
  intro p e s m below meth c hx hb hr hml hts hown hlocks ls hl
  have hl : lv_has ls 1 [(0, .int (jI x0))] := hl
  have hown : s.vm.findClass RX1 = some m.cls := hown
  have hSx : CallFix p m c cX1_isMovement 1 s ([.int (jI x0)] : List Value).toArray wsX1_isMovement RX1 := ⟨hx, hb, hml, hown, hts⟩
  obtain ⟨z, hz⟩ : ∃ z, z = (s_X1_isMovement x0) := ⟨_, rfl⟩
  rw [← hz]
  unfold s_X1_isMovement at hz
  refine lv_iload_n hx hb dX1_isMovement_0 rfl (lv_at hl 0 rfl) ?_
  refine x_if_lt (tgt := 13) hx hb dX1_isMovement_1 (by decide) (by omega) (fun c1 => ?_) (fun c1 => ?_)
  · rw [if_pos c1] at hz
    refine lv_iconst (v := jI 0) hx hb dX1_isMovement_13 rfl ?_
    subst hz
    exact xr_z hx hb hr hlocks (Or.inl rfl) rfl dX1_isMovement_14
  · rw [if_neg c1] at hz
    refine lv_iload_n hx hb dX1_isMovement_4 rfl (lv_at hl 0 rfl) ?_
    refine lv_iconst (v := jI 3) hx hb dX1_isMovement_5 rfl ?_
    refine x_icmp_ge (tgt := 13) hx hb dX1_isMovement_6 (by decide) ⟨(by omega), (by decide)⟩ (fun c6 => ?_) (fun c6 => ?_)
    · rw [if_pos c6] at hz
      refine lv_iconst (v := jI 0) hx hb dX1_isMovement_13 rfl ?_
      subst hz
      exact xr_z hx hb hr hlocks (Or.inl rfl) rfl dX1_isMovement_14
    · rw [if_neg c6] at hz
      refine lv_iconst (v := jI 1) hx hb dX1_isMovement_9 rfl ?_
      refine lv_goto (tgt := 14) hx hb dX1_isMovement_10 (by decide) ?_
      subst hz
      exact xr_z hx hb hr hlocks (Or.inr rfl) rfl dX1_isMovement_14
def s_X1_areWindingHours (x0 : Int) : Int := if x0 < 1 then 0 else (if 200 < x0 then 0 else 1)
theorem b_X1_areWindingHours (x0 : Int) : (s_X1_areWindingHours x0) = 0 ∨ (s_X1_areWindingHours x0) = 1 := by unfold s_X1_areWindingHours; (repeat' split) <;> first | exact Or.inl rfl | exact Or.inr rfl
abbrev rm_X1_areWindingHours : Room := { frames := 0, cells := 0, slots := 0, locals := 0 }
set_option maxHeartbeats 4000000 in
set_option maxRecDepth 100000 in
theorem m_X1_areWindingHours (l : Launch) (x0 : Int) (hx0 : -2147483648 ≤ x0 ∧ x0 < 2147483648) : MetP l yX1_areWindingHours wsX1_areWindingHours rm_X1_areWindingHours [.int (jI x0)] (s_X1_areWindingHours x0) := by
  refine xe_P (cc := cX1_areWindingHours) (maxL := 1) (ret := (some .boolean)) (by decide) rfl (Nat.le_of_ble_eq_true rfl) ?_
  intro p e s m below meth c hx hb hr hml hts hown hlocks ls hl
  have hl : lv_has ls 1 [(0, .int (jI x0))] := hl
  have hown : s.vm.findClass RX1 = some m.cls := hown
  have hSx : CallFix p m c cX1_areWindingHours 1 s ([.int (jI x0)] : List Value).toArray wsX1_areWindingHours RX1 := ⟨hx, hb, hml, hown, hts⟩
  obtain ⟨z, hz⟩ : ∃ z, z = (s_X1_areWindingHours x0) := ⟨_, rfl⟩
  rw [← hz]
  unfold s_X1_areWindingHours at hz
  refine lv_iload_n hx hb dX1_areWindingHours_0 rfl (lv_at hl 0 rfl) ?_
  refine lv_iconst (v := jI 1) hx hb dX1_areWindingHours_1 rfl ?_
  refine x_icmp_lt (tgt := 16) hx hb dX1_areWindingHours_2 (by decide) ⟨(by omega), (by decide)⟩ (fun c2 => ?_) (fun c2 => ?_)
  · rw [if_pos c2] at hz
    refine lv_iconst (v := jI 0) hx hb dX1_areWindingHours_16 rfl ?_
    subst hz
    exact xr_z hx hb hr hlocks (Or.inl rfl) rfl dX1_areWindingHours_17
  · rw [if_neg c2] at hz
    refine lv_iload_n hx hb dX1_areWindingHours_5 rfl (lv_at hl 0 rfl) ?_
    refine lv_sipush (v := jI 200) hx hb dX1_areWindingHours_6 (by decide) ?_
    refine x_icmp_gt (tgt := 16) hx hb dX1_areWindingHours_9 (by decide) ⟨(by omega), (by decide)⟩ (fun c9 => ?_) (fun c9 => ?_)
    · rw [if_pos c9] at hz
      refine lv_iconst (v := jI 0) hx hb dX1_areWindingHours_16 rfl ?_
      subst hz
      exact xr_z hx hb hr hlocks (Or.inl rfl) rfl dX1_areWindingHours_17
    · rw [if_neg c9] at hz
      refine lv_iconst (v := jI 1) hx hb dX1_areWindingHours_12 rfl ?_
      refine lv_goto (tgt := 17) hx hb dX1_areWindingHours_13 (by decide) ?_
      subst hz
      exact xr_z hx hb hr hlocks (Or.inr rfl) rfl dX1_areWindingHours_17
def s_X1_isLostHour (x0 : Int) (x1 : Int) : Int := if x1 ≤ 0 then 0 else (if (x0 % x1) = 0 then 1 else 0)
theorem b_X1_isLostHour (x0 : Int) (x1 : Int) : (s_X1_isLostHour x0 x1) = 0 ∨ (s_X1_isLostHour x0 x1) = 1 := by unfold s_X1_isLostHour; (repeat' split) <;> first | exact Or.inl rfl | exact Or.inr rfl
abbrev rm_X1_isLostHour : Room := { frames := 0, cells := 0, slots := 0, locals := 0 }
set_option maxHeartbeats 4000000 in
set_option maxRecDepth 100000 in
theorem m_X1_isLostHour (l : Launch) (x0 : Int) (x1 : Int) (hx0 : 0 ≤ x0 ∧ x0 < 2147483648) (hx1 : -2147483648 ≤ x1 ∧ x1 < 2147483648) : MetP l yX1_isLostHour wsX1_isLostHour rm_X1_isLostHour [.int (jI x0), .int (jI x1)] (s_X1_isLostHour x0 x1) := by
  refine xe_P (cc := cX1_isLostHour) (maxL := 2) (ret := (some .boolean)) (by decide) rfl (Nat.le_of_ble_eq_true rfl) ?_
  intro p e s m below meth c hx hb hr hml hts hown hlocks ls hl
  have hl : lv_has ls 2 [(0, .int (jI x0)), (1, .int (jI x1))] := hl
  have hown : s.vm.findClass RX1 = some m.cls := hown
  have hSx : CallFix p m c cX1_isLostHour 2 s ([.int (jI x0), .int (jI x1)] : List Value).toArray wsX1_isLostHour RX1 := ⟨hx, hb, hml, hown, hts⟩
  obtain ⟨z, hz⟩ : ∃ z, z = (s_X1_isLostHour x0 x1) := ⟨_, rfl⟩
  rw [← hz]
  unfold s_X1_isLostHour at hz
  refine lv_iload_n hx hb dX1_isLostHour_0 rfl (lv_at hl 1 rfl) ?_
  refine x_if_le (tgt := 14) hx hb dX1_isLostHour_1 (by decide) (by omega) (fun c1 => ?_) (fun c1 => ?_)
  · rw [if_pos c1] at hz
    refine lv_iconst (v := jI 0) hx hb dX1_isLostHour_14 rfl ?_
    subst hz
    exact xr_z hx hb hr hlocks (Or.inl rfl) rfl dX1_isLostHour_15
  · rw [if_neg c1] at hz
    refine lv_iload_n hx hb dX1_isLostHour_4 rfl (lv_at hl 0 rfl) ?_
    refine lv_iload_n hx hb dX1_isLostHour_5 rfl (lv_at hl 1 rfl) ?_
    refine x_irem hx hb dX1_isLostHour_6 (by omega) ?_
    refine x_if_ne (tgt := 14) hx hb dX1_isLostHour_7 (by decide) (rem_rng (by omega) (by omega)) (fun c7 => ?_) (fun c7 => ?_)
    · rw [if_neg c7] at hz
      refine lv_iconst (v := jI 0) hx hb dX1_isLostHour_14 rfl ?_
      subst hz
      exact xr_z hx hb hr hlocks (Or.inl rfl) rfl dX1_isLostHour_15
    · rw [if_pos c7] at hz
      refine lv_iconst (v := jI 1) hx hb dX1_isLostHour_10 rfl ?_
      refine lv_goto (tgt := 15) hx hb dX1_isLostHour_11 (by decide) ?_
      subst hz
      exact xr_z hx hb hr hlocks (Or.inr rfl) rfl dX1_isLostHour_15
abbrev rm_X1_place : Room := { frames := 0, cells := 0, slots := 0, locals := 0 }
set_option maxHeartbeats 4000000 in
set_option maxRecDepth 100000 in
theorem m_X1_place (l : Launch) (m9 : Int) (k9 : Int) : MetP l yX1_place wsX1_place rm_X1_place [.int (jI m9), .int (jI k9)] ((21 + (m9 * 4)) + k9) := by
  refine xe_P (cc := cX1_place) (maxL := 2) (ret := (some .int)) (by decide) rfl (Nat.le_of_ble_eq_true rfl) ?_
  intro p e s m below meth c hx hb hr hml hts hown hlocks ls hl
  have hl : lv_has ls 2 [(0, .int (jI m9)), (1, .int (jI k9))] := hl
  have hown : s.vm.findClass RX1 = some m.cls := hown
  have hSx : CallFix p m c cX1_place 2 s ([.int (jI m9), .int (jI k9)] : List Value).toArray wsX1_place RX1 := ⟨hx, hb, hml, hown, hts⟩
  obtain ⟨z, hz⟩ : ∃ z, z = ((21 + (m9 * 4)) + k9) := ⟨_, rfl⟩
  rw [← hz]
  refine lv_bipush (v := jI 21) hx hb dX1_place_0 (by decide) ?_
  refine lv_iload_n hx hb dX1_place_2 rfl (lv_at hl 0 rfl) ?_
  refine lv_iconst (v := jI 4) hx hb dX1_place_3 rfl ?_
  refine x_imul hx hb dX1_place_4 ?_
  refine x_iadd hx hb dX1_place_5 ?_
  refine lv_iload_n hx hb dX1_place_6 rfl (lv_at hl 1 rfl) ?_
  refine x_iadd hx hb dX1_place_7 ?_
  subst hz
  exact xr_i hx hb hr hlocks rfl dX1_place_8
def s_X1_isLocked (f : Nat → Int) : Int := if (f 1) = 0 then 0 else 1
theorem b_X1_isLocked (f : Nat → Int) : (s_X1_isLocked f) = 0 ∨ (s_X1_isLocked f) = 1 := by unfold s_X1_isLocked; (repeat' split) <;> first | exact Or.inl rfl | exact Or.inr rfl
abbrev rm_X1_isLocked : Room := { frames := 0, cells := 0, slots := 0, locals := 0 }
set_option maxHeartbeats 4000000 in
set_option maxRecDepth 100000 in
theorem m_X1_isLocked (l : Launch) (D : va_G) (cI : ClassId) (a : Nat → Nat) (f : Nat → Int) (g : Nat → Int) (n : Nat) (b : Nat → Int) (len : Nat) (kd : Nat → Int) (sg : Nat → Int) (nb : Nat → Int) (pt : Nat) (hrf : rng f) : MetR l yX1_isLocked wsX1_isLocked rm_X1_isLocked D cI [.ref (a 0)] (w1 cI a f g n b len kd sg nb pt) (s_X1_isLocked f) := by
  refine xe_R (cc := cX1_isLocked) (maxL := 1) (ret := (some .boolean)) (by decide) rfl (Nat.le_of_ble_eq_true rfl) ?_
  intro p e s m below meth c hx hb hr hml hts hown hlocks hP hK ls hl
  have hl : lv_has ls 1 [(0, .ref (a 0))] := hl
  have hown : s.vm.findClass RX1 = some m.cls := hown
  have hSx : CallFix p m c cX1_isLocked 1 s ([.ref (a 0)] : List Value).toArray wsX1_isLocked RX1 := ⟨hx, hb, hml, hown, hts⟩
  have inRX1 : ∀ w ∈ u_ws RX1 TX1 6, w ∈ wsX1_isLocked := by decide +kernel
  have qf9 := hts (.fieldLink RX1 9 "VaultMovements" "now" "[I") (by decide +kernel)
  obtain ⟨z, hz⟩ : ∃ z, z = (s_X1_isLocked f) := ⟨_, rfl⟩
  rw [← hz]
  unfold s_X1_isLocked at hz
  refine lv_aload_n hx hb dX1_isLocked_0 rfl (lv_at hl 0 rfl) ?_
  refine va_get (D := D) (ci := 1) (v := .ref (a 1)) (C := RX1) (T := TX1) (N := 6) hx hb hts inRX1 hown hK hP 0 rfl rfl 0 (by decide) qf9 (fun _ h9 => h9) rfl dX1_isLocked_1 ?_
  refine lv_iconst (v := jI 1) hx hb dX1_isLocked_4 rfl ?_
  refine x_iald hx hb hK hP 1 0 rfl rfl 1 rfl (by decide) (by decide) dX1_isLocked_5 ?_
  refine x_if_eq (tgt := 13) hx hb dX1_isLocked_6 (by decide) (hrf _) (fun c6 => ?_) (fun c6 => ?_)
  · rw [if_pos c6] at hz
    refine lv_iconst (v := jI 0) hx hb dX1_isLocked_13 rfl ?_
    subst hz
    exact xr_z hx hb hr hlocks (Or.inl rfl) rfl dX1_isLocked_14
  · rw [if_neg c6] at hz
    refine lv_iconst (v := jI 1) hx hb dX1_isLocked_9 rfl ?_
    refine lv_goto (tgt := 14) hx hb dX1_isLocked_10 (by decide) ?_
    subst hz
    exact xr_z hx hb hr hlocks (Or.inr rfl) rfl dX1_isLocked_14
abbrev rm_X1_today : Room := { frames := 0, cells := 0, slots := 0, locals := 0 }
set_option maxHeartbeats 4000000 in
set_option maxRecDepth 100000 in
theorem m_X1_today (l : Launch) (D : va_G) (cI : ClassId) (a : Nat → Nat) (f : Nat → Int) (g : Nat → Int) (n : Nat) (b : Nat → Int) (len : Nat) (kd : Nat → Int) (sg : Nat → Int) (nb : Nat → Int) (pt : Nat) (hh : 0 ≤ f 0 ∧ f 0 ≤ 99999) : MetR l yX1_today wsX1_today rm_X1_today D cI [.ref (a 0)] (w1 cI a f g n b len kd sg nb pt) (((f 0) / 24) % 7) := by
  refine xe_R (cc := cX1_today) (maxL := 1) (ret := (some .int)) (by decide) rfl (Nat.le_of_ble_eq_true rfl) ?_
  intro p e s m below meth c hx hb hr hml hts hown hlocks hP hK ls hl
  have hl : lv_has ls 1 [(0, .ref (a 0))] := hl
  have hown : s.vm.findClass RX1 = some m.cls := hown
  have hSx : CallFix p m c cX1_today 1 s ([.ref (a 0)] : List Value).toArray wsX1_today RX1 := ⟨hx, hb, hml, hown, hts⟩
  have inRX1 : ∀ w ∈ u_ws RX1 TX1 6, w ∈ wsX1_today := by decide +kernel
  have qf9 := hts (.fieldLink RX1 9 "VaultMovements" "now" "[I") (by decide +kernel)
  obtain ⟨z, hz⟩ : ∃ z, z = (((f 0) / 24) % 7) := ⟨_, rfl⟩
  rw [← hz]
  refine lv_aload_n hx hb dX1_today_0 rfl (lv_at hl 0 rfl) ?_
  refine va_get (D := D) (ci := 1) (v := .ref (a 1)) (C := RX1) (T := TX1) (N := 6) hx hb hts inRX1 hown hK hP 0 rfl rfl 0 (by decide) qf9 (fun _ h9 => h9) rfl dX1_today_1 ?_
  refine lv_iconst (v := jI 0) hx hb dX1_today_4 rfl ?_
  refine x_iald hx hb hK hP 1 0 rfl rfl 0 rfl (by decide) (by decide) dX1_today_5 ?_
  refine lv_bipush (v := jI 24) hx hb dX1_today_6 (by decide) ?_
  refine x_idiv hx hb dX1_today_8 (by omega) ?_
  refine lv_bipush (v := jI 7) hx hb dX1_today_9 (by decide) ?_
  refine x_irem hx hb dX1_today_11 (by omega) ?_
  subst hz
  exact xr_i hx hb hr hlocks rfl dX1_today_12
abbrev rm_X1_timeOfDay : Room := { frames := 0, cells := 0, slots := 0, locals := 0 }
set_option maxHeartbeats 4000000 in
set_option maxRecDepth 100000 in
theorem m_X1_timeOfDay (l : Launch) (D : va_G) (cI : ClassId) (a : Nat → Nat) (f : Nat → Int) (g : Nat → Int) (n : Nat) (b : Nat → Int) (len : Nat) (kd : Nat → Int) (sg : Nat → Int) (nb : Nat → Int) (pt : Nat) (hh : 0 ≤ f 0 ∧ f 0 ≤ 99999) : MetR l yX1_timeOfDay wsX1_timeOfDay rm_X1_timeOfDay D cI [.ref (a 0)] (w1 cI a f g n b len kd sg nb pt) ((f 0) % 24) := by
  refine xe_R (cc := cX1_timeOfDay) (maxL := 1) (ret := (some .int)) (by decide) rfl (Nat.le_of_ble_eq_true rfl) ?_
  intro p e s m below meth c hx hb hr hml hts hown hlocks hP hK ls hl
  have hl : lv_has ls 1 [(0, .ref (a 0))] := hl
  have hown : s.vm.findClass RX1 = some m.cls := hown
  have hSx : CallFix p m c cX1_timeOfDay 1 s ([.ref (a 0)] : List Value).toArray wsX1_timeOfDay RX1 := ⟨hx, hb, hml, hown, hts⟩
  have inRX1 : ∀ w ∈ u_ws RX1 TX1 6, w ∈ wsX1_timeOfDay := by decide +kernel
  have qf9 := hts (.fieldLink RX1 9 "VaultMovements" "now" "[I") (by decide +kernel)
  obtain ⟨z, hz⟩ : ∃ z, z = ((f 0) % 24) := ⟨_, rfl⟩
  rw [← hz]
  refine lv_aload_n hx hb dX1_timeOfDay_0 rfl (lv_at hl 0 rfl) ?_
  refine va_get (D := D) (ci := 1) (v := .ref (a 1)) (C := RX1) (T := TX1) (N := 6) hx hb hts inRX1 hown hK hP 0 rfl rfl 0 (by decide) qf9 (fun _ h9 => h9) rfl dX1_timeOfDay_1 ?_
  refine lv_iconst (v := jI 0) hx hb dX1_timeOfDay_4 rfl ?_
  refine x_iald hx hb hK hP 1 0 rfl rfl 0 rfl (by decide) (by decide) dX1_timeOfDay_5 ?_
  refine lv_bipush (v := jI 24) hx hb dX1_timeOfDay_6 (by decide) ?_
  refine x_irem hx hb dX1_timeOfDay_8 (by omega) ?_
  subst hz
  exact xr_i hx hb hr hlocks rfl dX1_timeOfDay_9
def s_X1_goes (f : Nat → Int) (j : Nat) : Int := if (f ((21 + (j * 4)) + 1)) = 0 then 0 else 1
theorem b_X1_goes (f : Nat → Int) (j : Nat) : (s_X1_goes f j) = 0 ∨ (s_X1_goes f j) = 1 := by unfold s_X1_goes; (repeat' split) <;> first | exact Or.inl rfl | exact Or.inr rfl
abbrev rm_X1_goes : Room := { frames := 1, cells := 0, slots := 0, locals := 21 }
set_option maxHeartbeats 4000000 in
set_option maxRecDepth 100000 in
theorem m_X1_goes (l : Launch) (D : va_G) (cI : ClassId) (a : Nat → Nat) (f : Nat → Int) (g : Nat → Int) (n : Nat) (b : Nat → Int) (len : Nat) (kd : Nat → Int) (sg : Nat → Int) (nb : Nat → Int) (pt : Nat) (j : Nat) (hj : j < 3) (hrf : rng f) : MetR l yX1_goes wsX1_goes rm_X1_goes D cI [.ref (a 0), .int (jI (j : Int))] (w1 cI a f g n b len kd sg nb pt) (s_X1_goes f j) := by
  refine xe_R (cc := cX1_goes) (maxL := 2) (ret := (some .boolean)) (by decide) rfl (Nat.le_of_ble_eq_true rfl) ?_
  intro p e s m below meth c hx hb hr hml hts hown hlocks hP hK ls hl
  have hl : lv_has ls 2 [(0, .ref (a 0)), (1, .int (jI (j : Int)))] := hl
  have hown : s.vm.findClass RX1 = some m.cls := hown
  have hSx : CallFix p m c cX1_goes 2 s ([.ref (a 0), .int (jI (j : Int))] : List Value).toArray wsX1_goes RX1 := ⟨hx, hb, hml, hown, hts⟩
  have inRX1 : ∀ w ∈ u_ws RX1 TX1 6, w ∈ wsX1_goes := by decide +kernel
  have qf9 := hts (.fieldLink RX1 9 "VaultMovements" "now" "[I") (by decide +kernel)
  obtain ⟨z, hz⟩ : ∃ z, z = (s_X1_goes f j) := ⟨_, rfl⟩
  rw [← hz]
  unfold s_X1_goes at hz
  refine lv_aload_n hx hb dX1_goes_0 rfl (lv_at hl 0 rfl) ?_
  refine va_get (D := D) (ci := 1) (v := .ref (a 1)) (C := RX1) (T := TX1) (N := 6) hx hb hts inRX1 hown hK hP 0 rfl rfl 0 (by decide) qf9 (fun _ h9 => h9) rfl dX1_goes_1 ?_
  refine lv_iload_n hx hb dX1_goes_4 rfl (lv_at hl 1 rfl) ?_
  refine lv_iconst (v := jI 1) hx hb dX1_goes_5 rfl ?_
  refine xc_P (As := [.int (jI (j : Int)), .int (jI 1)]) (rest := [.ref (a 1)]) hSx (m_X1_place l (j : Int) 1 ) (va_cwS 2 hts gX1_goes_X1_place rfl rfl rfl (by decide +kernel) ⟨Nat.le_of_ble_eq_true rfl, Nat.le_of_ble_eq_true rfl⟩) rfl hl.1 rfl (Nat.le_of_ble_eq_true rfl) dX1_goes_6 ⟨Nat.zero_le _, Nat.zero_le _⟩ ?_
  refine x_iald hx hb hK hP 1 0 rfl rfl ((21 + (j * 4)) + 1) (by omega) (by omega) (by decide) dX1_goes_9 ?_
  refine x_if_eq (tgt := 17) hx hb dX1_goes_10 (by decide) (hrf _) (fun c10 => ?_) (fun c10 => ?_)
  · rw [if_pos c10] at hz
    refine lv_iconst (v := jI 0) hx hb dX1_goes_17 rfl ?_
    subst hz
    exact xr_z hx hb hr hlocks (Or.inl rfl) rfl dX1_goes_18
  · rw [if_neg c10] at hz
    refine lv_iconst (v := jI 1) hx hb dX1_goes_13 rfl ?_
    refine lv_goto (tgt := 18) hx hb dX1_goes_14 (by decide) ?_
    subst hz
    exact xr_z hx hb hr hlocks (Or.inr rfl) rfl dX1_goes_18
def s_X1_hoursToOpening_lp2 (f : Nat → Int) : Nat → Nat → Int
  | 0, _ => default
  | k + 1, i => if 7 < (i : Int) then (-1) else (if (f (((14 + (((((f 0) / 24) % 7) + (i : Int)) % 7))).toNat)) = (-1) then (s_X1_hoursToOpening_lp2 f k (i + 1)) else (if ((((i : Int) * 24) + (f (((14 + (((((f 0) / 24) % 7) + (i : Int)) % 7))).toNat))) - ((f 0) % 24)) ≤ 0 then (s_X1_hoursToOpening_lp2 f k (i + 1)) else ((((i : Int) * 24) + (f (((14 + (((((f 0) / 24) % 7) + (i : Int)) % 7))).toNat))) - ((f 0) % 24))))
def s_X1_hoursToOpening (f : Nat → Int) : Int := s_X1_hoursToOpening_lp2 f (8 + 1 - 0) 0
abbrev rm_X1_hoursToOpening : Room := { frames := 1, cells := 0, slots := 0, locals := 20 }
set_option maxHeartbeats 4000000 in
set_option maxRecDepth 100000 in
theorem m_X1_hoursToOpening (l : Launch) (D : va_G) (cI : ClassId) (a : Nat → Nat) (f : Nat → Int) (g : Nat → Int) (n : Nat) (b : Nat → Int) (len : Nat) (kd : Nat → Int) (sg : Nat → Int) (nb : Nat → Int) (pt : Nat) (hrf : rng f) (hh : 0 ≤ f 0 ∧ f 0 ≤ 99999) (hd : ∀ k : Nat, 14 ≤ k → k < 21 → -1 ≤ f k ∧ f k ≤ 23) : MetR l yX1_hoursToOpening wsX1_hoursToOpening rm_X1_hoursToOpening D cI [.ref (a 0)] (w1 cI a f g n b len kd sg nb pt) (s_X1_hoursToOpening f) := by
  refine xe_R (cc := cX1_hoursToOpening) (maxL := 4) (ret := (some .int)) (by decide) rfl (Nat.le_of_ble_eq_true rfl) ?_
  intro p e s m below meth c hx hb hr hml hts hown hlocks hP hK ls hl
  have hl : lv_has ls 4 [(0, .ref (a 0))] := hl
  have hown : s.vm.findClass RX1 = some m.cls := hown
  have hSx : CallFix p m c cX1_hoursToOpening 4 s ([.ref (a 0)] : List Value).toArray wsX1_hoursToOpening RX1 := ⟨hx, hb, hml, hown, hts⟩
  have inRX1 : ∀ w ∈ u_ws RX1 TX1 6, w ∈ wsX1_hoursToOpening := by decide +kernel
  have qf9 := hts (.fieldLink RX1 9 "VaultMovements" "now" "[I") (by decide +kernel)
  obtain ⟨z, hz⟩ : ∃ z, z = (s_X1_hoursToOpening f) := ⟨_, rfl⟩
  rw [← hz]
  unfold s_X1_hoursToOpening at hz
  refine lv_iconst (v := jI 0) hx hb dX1_hoursToOpening_0 rfl ?_
  refine lv_istore_n (lv' := [(1, .int (jI 0)), (0, .ref (a 0))]) hx hb dX1_hoursToOpening_1 rfl hl (by decide) rfl (fun ls hl => ?_)
  have LP2 : ∀ (k i : Nat) (ls : Array Slot), i ≤ 8 → i + k = 8 + 1 → z = (s_X1_hoursToOpening_lp2 f) k i → lv_has ls 4 [(0, .ref (a 0)), (1, .int (jI (i : Int)))] → W p l e rm_X1_hoursToOpening s m ([.ref (a 0)] : List Value).toArray below meth c s.heap [] 0 0 (MQ below (vp_Si (fun x => x = jI z)) ([.ref (a 0)] : List Value).toArray s 0 0 (fun _ => False)) (F0 m 2 ls []) := by
    intro k
    induction k with
    | zero => intro i  ls h1 h2; exact absurd h2 (by omega)
    | succ k ih =>
      intro i   ls h1 h2 hz hl
      rw [s_X1_hoursToOpening_lp2] at hz
      refine lv_iload_n hx hb dX1_hoursToOpening_2 rfl (lv_at hl 1 rfl) ?_
      refine lv_bipush (v := jI 7) hx hb dX1_hoursToOpening_3 (by decide) ?_
      refine x_icmp_gt (tgt := 55) hx hb dX1_hoursToOpening_5 (by decide) ⟨(by omega), (by decide)⟩ (fun c5 => ?_) (fun c5 => ?_)
      · rw [if_pos c5] at hz
        refine lv_iconst (v := jI (-1)) hx hb dX1_hoursToOpening_55 rfl ?_
        subst hz
        exact xr_i hx hb hr hlocks rfl dX1_hoursToOpening_56
      · rw [if_neg c5] at hz
        refine lv_aload_n hx hb dX1_hoursToOpening_8 rfl (lv_at hl 0 rfl) ?_
        refine va_get (D := D) (ci := 1) (v := .ref (a 1)) (C := RX1) (T := TX1) (N := 6) hx hb hts inRX1 hown hK hP 0 rfl rfl 0 (by decide) qf9 (fun _ h9 => h9) rfl dX1_hoursToOpening_9 ?_
        refine lv_bipush (v := jI 14) hx hb dX1_hoursToOpening_12 (by decide) ?_
        refine lv_aload_n hx hb dX1_hoursToOpening_14 rfl (lv_at hl 0 rfl) ?_
        refine xc_R (As := []) (rest := [.int (jI 14), .ref (a 1)]) hSx (m_X1_today l D cI a f g n b len kd sg nb pt  (by omega)) (cwV 0 hts gX1_hoursToOpening_X1_today rfl rfl rfl (by decide +kernel) ⟨Nat.le_of_ble_eq_true rfl, Nat.le_of_ble_eq_true rfl⟩) hP hK 0 rfl rfl rfl rfl hl.1 rfl (Nat.le_of_ble_eq_true rfl) dX1_hoursToOpening_15 ⟨Nat.zero_le _, Nat.zero_le _⟩ ?_
        refine lv_iload_n hx hb dX1_hoursToOpening_18 rfl (lv_at hl 1 rfl) ?_
        refine x_iadd hx hb dX1_hoursToOpening_19 ?_
        refine lv_bipush (v := jI 7) hx hb dX1_hoursToOpening_20 (by decide) ?_
        refine x_irem hx hb dX1_hoursToOpening_22 (by omega) ?_
        refine x_iadd hx hb dX1_hoursToOpening_23 ?_
        refine x_iald hx hb hK hP 1 0 rfl rfl (((14 + (((((f 0) / 24) % 7) + (i : Int)) % 7))).toNat) (by omega) (by omega) (by decide) dX1_hoursToOpening_24 ?_
        have hd1 := hd (((14 + (((((f 0) / 24) % 7) + (i : Int)) % 7))).toNat) (by omega) (by omega)
        refine lv_istore_n (lv' := [(2, .int (jI (f (((14 + (((((f 0) / 24) % 7) + (i : Int)) % 7))).toNat)))), (0, .ref (a 0)), (1, .int (jI (i : Int)))]) hx hb dX1_hoursToOpening_25 rfl hl (by decide) rfl (fun ls hl => ?_)
        refine lv_iload_n hx hb dX1_hoursToOpening_26 rfl (lv_at hl 2 rfl) ?_
        refine lv_bipush (v := jI 24) hx hb dX1_hoursToOpening_27 (by decide) ?_
        refine x_imul hx hb dX1_hoursToOpening_29 ?_
        refine lv_iload_n hx hb dX1_hoursToOpening_30 rfl (lv_at hl 0 rfl) ?_
        refine x_iadd hx hb dX1_hoursToOpening_31 ?_
        refine lv_aload_n hx hb dX1_hoursToOpening_32 rfl (lv_at hl 1 rfl) ?_
        refine xc_R (As := []) (rest := [.int (jI (((i : Int) * 24) + (f (((14 + (((((f 0) / 24) % 7) + (i : Int)) % 7))).toNat))))]) hSx (m_X1_timeOfDay l D cI a f g n b len kd sg nb pt  (by omega)) (cwV 0 hts gX1_hoursToOpening_X1_timeOfDay rfl rfl rfl (by decide +kernel) ⟨Nat.le_of_ble_eq_true rfl, Nat.le_of_ble_eq_true rfl⟩) hP hK 0 rfl rfl rfl rfl hl.1 rfl (Nat.le_of_ble_eq_true rfl) dX1_hoursToOpening_33 ⟨Nat.zero_le _, Nat.zero_le _⟩ ?_
        refine x_isub hx hb dX1_hoursToOpening_36 ?_
        refine lv_istore_n (lv' := [(3, .int (jI ((((i : Int) * 24) + (f (((14 + (((((f 0) / 24) % 7) + (i : Int)) % 7))).toNat))) - ((f 0) % 24)))), (2, .int (jI (f (((14 + (((((f 0) / 24) % 7) + (i : Int)) % 7))).toNat)))), (0, .ref (a 0)), (1, .int (jI (i : Int)))]) hx hb dX1_hoursToOpening_37 rfl hl (by decide) rfl (fun ls hl => ?_)
        refine lv_iload_n hx hb dX1_hoursToOpening_38 rfl (lv_at hl 1 rfl) ?_
        refine lv_iconst (v := jI (-1)) hx hb dX1_hoursToOpening_39 rfl ?_
        refine x_icmp_eq (tgt := 49) hx hb dX1_hoursToOpening_40 (by decide) ⟨(hrf _), (by decide)⟩ (fun c40 => ?_) (fun c40 => ?_)
        · rw [if_pos c40] at hz
          refine lv_iinc (v := jI ((i + 1 : Nat) : Int)) (lv' := [(1, .int (jI ((i + 1 : Nat) : Int))), (3, .int (jI ((((i : Int) * 24) + (f (((14 + (((((f 0) / 24) % 7) + (i : Int)) % 7))).toNat))) - ((f 0) % 24)))), (2, .int (jI (f (((14 + (((((f 0) / 24) % 7) + (i : Int)) % 7))).toNat)))), (0, .ref (a 0))]) hx hb dX1_hoursToOpening_49 hl (k := 3) rfl (jI_inc _ 1) (by decide) rfl (fun ls hl => ?_)
          refine lv_goto (tgt := 2) hx hb dX1_hoursToOpening_52 (by decide) ?_
          exact ih (i + 1)  ls (by omega) (by omega) hz (lv_sub hl [3, 0] rfl)
        · rw [if_neg c40] at hz
          refine lv_iload_n hx hb dX1_hoursToOpening_43 rfl (lv_at hl 0 rfl) ?_
          refine x_if_le (tgt := 49) hx hb dX1_hoursToOpening_44 (by decide) (by omega) (fun c44 => ?_) (fun c44 => ?_)
          · rw [if_pos c44] at hz
            refine lv_iinc (v := jI ((i + 1 : Nat) : Int)) (lv' := [(1, .int (jI ((i + 1 : Nat) : Int))), (3, .int (jI ((((i : Int) * 24) + (f (((14 + (((((f 0) / 24) % 7) + (i : Int)) % 7))).toNat))) - ((f 0) % 24)))), (2, .int (jI (f (((14 + (((((f 0) / 24) % 7) + (i : Int)) % 7))).toNat)))), (0, .ref (a 0))]) hx hb dX1_hoursToOpening_49 hl (k := 3) rfl (jI_inc _ 1) (by decide) rfl (fun ls hl => ?_)
            refine lv_goto (tgt := 2) hx hb dX1_hoursToOpening_52 (by decide) ?_
            exact ih (i + 1)  ls (by omega) (by omega) hz (lv_sub hl [3, 0] rfl)
          · rw [if_neg c44] at hz
            refine lv_iload_n hx hb dX1_hoursToOpening_47 rfl (lv_at hl 0 rfl) ?_
            subst hz
            exact xr_i hx hb hr hlocks rfl dX1_hoursToOpening_48
  exact LP2 (8 + 1 - 0) 0  ls (by omega) (by omega) hz (lv_sub hl [1, 0] rfl)
def s_X1_someMovementRuns_lp2 (f : Nat → Int) : Nat → Nat → Int
  | 0, _ => default
  | k + 1, i => if 3 ≤ (i : Int) then 0 else (if (s_X1_goes f i) = 0 then (s_X1_someMovementRuns_lp2 f k (i + 1)) else (if (f ((21 + (i * 4)) + 0)) ≤ 0 then (s_X1_someMovementRuns_lp2 f k (i + 1)) else 1))
theorem b_X1_someMovementRuns_lp2 (f : Nat → Int) : ∀ (k i : Nat), (s_X1_someMovementRuns_lp2 f k i) = 0 ∨ (s_X1_someMovementRuns_lp2 f k i) = 1 := by
  intro k
  induction k with
  | zero => intro i; exact Or.inl rfl
  | succ k ih =>
    intro i
    rw [s_X1_someMovementRuns_lp2]
    (repeat' split) <;> first | exact Or.inl rfl | exact Or.inr rfl | exact ih _ | exact b_X1_goes _ _
def s_X1_someMovementRuns (f : Nat → Int) : Int := s_X1_someMovementRuns_lp2 f (3 + 1 - 0) 0
theorem b_X1_someMovementRuns (f : Nat → Int) : (s_X1_someMovementRuns f) = 0 ∨ (s_X1_someMovementRuns f) = 1 := by unfold s_X1_someMovementRuns; (repeat' split) <;> first | exact Or.inl rfl | exact Or.inr rfl | exact b_X1_goes _ _ | exact b_X1_someMovementRuns_lp2 _ _ _
abbrev rm_X1_someMovementRuns : Room := { frames := 2, cells := 0, slots := 0, locals := 42 }
set_option maxHeartbeats 4000000 in
set_option maxRecDepth 100000 in
theorem m_X1_someMovementRuns (l : Launch) (D : va_G) (cI : ClassId) (a : Nat → Nat) (f : Nat → Int) (g : Nat → Int) (n : Nat) (b : Nat → Int) (len : Nat) (kd : Nat → Int) (sg : Nat → Int) (nb : Nat → Int) (pt : Nat) (hrf : rng f) (hm : mvs f) : MetR l yX1_someMovementRuns wsX1_someMovementRuns rm_X1_someMovementRuns D cI [.ref (a 0)] (w1 cI a f g n b len kd sg nb pt) (s_X1_someMovementRuns f) := by
  refine xe_R (cc := cX1_someMovementRuns) (maxL := 2) (ret := (some .boolean)) (by decide) rfl (Nat.le_of_ble_eq_true rfl) ?_
  intro p e s m below meth c hx hb hr hml hts hown hlocks hP hK ls hl
  have hl : lv_has ls 2 [(0, .ref (a 0))] := hl
  have hown : s.vm.findClass RX1 = some m.cls := hown
  have hSx : CallFix p m c cX1_someMovementRuns 2 s ([.ref (a 0)] : List Value).toArray wsX1_someMovementRuns RX1 := ⟨hx, hb, hml, hown, hts⟩
  have inRX1 : ∀ w ∈ u_ws RX1 TX1 6, w ∈ wsX1_someMovementRuns := by decide +kernel
  have qf9 := hts (.fieldLink RX1 9 "VaultMovements" "now" "[I") (by decide +kernel)
  obtain ⟨z, hz⟩ : ∃ z, z = (s_X1_someMovementRuns f) := ⟨_, rfl⟩
  rw [← hz]
  unfold s_X1_someMovementRuns at hz
  refine lv_iconst (v := jI 0) hx hb dX1_someMovementRuns_0 rfl ?_
  refine lv_istore_n (lv' := [(1, .int (jI 0)), (0, .ref (a 0))]) hx hb dX1_someMovementRuns_1 rfl hl (by decide) rfl (fun ls hl => ?_)
  have LP2 : ∀ (k i : Nat) (ls : Array Slot), i ≤ 3 → i + k = 3 + 1 → z = (s_X1_someMovementRuns_lp2 f) k i → lv_has ls 2 [(0, .ref (a 0)), (1, .int (jI (i : Int)))] → W p l e rm_X1_someMovementRuns s m ([.ref (a 0)] : List Value).toArray below meth c s.heap [] 0 0 (MQ below (vp_Si (fun x => x = jI z)) ([.ref (a 0)] : List Value).toArray s 0 0 (fun _ => False)) (F0 m 2 ls []) := by
    intro k
    induction k with
    | zero => intro i  ls h1 h2; exact absurd h2 (by omega)
    | succ k ih =>
      intro i   ls h1 h2 hz hl
      rw [s_X1_someMovementRuns_lp2] at hz
      refine lv_iload_n hx hb dX1_someMovementRuns_2 rfl (lv_at hl 1 rfl) ?_
      refine lv_iconst (v := jI 3) hx hb dX1_someMovementRuns_3 rfl ?_
      refine x_icmp_ge (tgt := 36) hx hb dX1_someMovementRuns_4 (by decide) ⟨(by omega), (by decide)⟩ (fun c4 => ?_) (fun c4 => ?_)
      · rw [if_pos c4] at hz
        refine lv_iconst (v := jI 0) hx hb dX1_someMovementRuns_36 rfl ?_
        subst hz
        exact xr_z hx hb hr hlocks (Or.inl rfl) rfl dX1_someMovementRuns_37
      · rw [if_neg c4] at hz
        refine lv_aload_n hx hb dX1_someMovementRuns_7 rfl (lv_at hl 0 rfl) ?_
        refine lv_iload_n hx hb dX1_someMovementRuns_8 rfl (lv_at hl 1 rfl) ?_
        refine xc_R (As := [.int (jI (i : Int))]) (rest := []) hSx (m_X1_goes l D cI a f g n b len kd sg nb pt i (by omega) (by omega)) (cwV 1 hts gX1_someMovementRuns_X1_goes rfl rfl rfl (by decide +kernel) ⟨Nat.le_of_ble_eq_true rfl, Nat.le_of_ble_eq_true rfl⟩) hP hK 0 rfl rfl rfl rfl hl.1 rfl (Nat.le_of_ble_eq_true rfl) dX1_someMovementRuns_9 ⟨Nat.zero_le _, Nat.zero_le _⟩ ?_
        refine x_if_eq (tgt := 30) hx hb dX1_someMovementRuns_12 (by decide) (b01 (b_X1_goes f i)) (fun c12 => ?_) (fun c12 => ?_)
        · rw [if_pos c12] at hz
          refine lv_iinc (v := jI ((i + 1 : Nat) : Int)) (lv' := [(1, .int (jI ((i + 1 : Nat) : Int))), (0, .ref (a 0))]) hx hb dX1_someMovementRuns_30 hl (k := 1) rfl (jI_inc _ 1) (by decide) rfl (fun ls hl => ?_)
          refine lv_goto (tgt := 2) hx hb dX1_someMovementRuns_33 (by decide) ?_
          exact ih (i + 1)  ls (by omega) (by omega) hz (lv_sub hl [1, 0] rfl)
        · rw [if_neg c12] at hz
          refine lv_aload_n hx hb dX1_someMovementRuns_15 rfl (lv_at hl 0 rfl) ?_
          refine va_get (D := D) (ci := 1) (v := .ref (a 1)) (C := RX1) (T := TX1) (N := 6) hx hb hts inRX1 hown hK hP 0 rfl rfl 0 (by decide) qf9 (fun _ h9 => h9) rfl dX1_someMovementRuns_16 ?_
          refine lv_iload_n hx hb dX1_someMovementRuns_19 rfl (lv_at hl 1 rfl) ?_
          refine lv_iconst (v := jI 0) hx hb dX1_someMovementRuns_20 rfl ?_
          refine xc_P (As := [.int (jI (i : Int)), .int (jI 0)]) (rest := [.ref (a 1)]) hSx (m_X1_place l (i : Int) 0 ) (va_cwS 2 hts gX1_someMovementRuns_X1_place rfl rfl rfl (by decide +kernel) ⟨Nat.le_of_ble_eq_true rfl, Nat.le_of_ble_eq_true rfl⟩) rfl hl.1 rfl (Nat.le_of_ble_eq_true rfl) dX1_someMovementRuns_21 ⟨Nat.zero_le _, Nat.zero_le _⟩ ?_
          refine x_iald hx hb hK hP 1 0 rfl rfl ((21 + (i * 4)) + 0) (by omega) (by omega) (by decide) dX1_someMovementRuns_24 ?_
          refine x_if_le (tgt := 30) hx hb dX1_someMovementRuns_25 (by decide) (hrf _) (fun c25 => ?_) (fun c25 => ?_)
          · rw [if_pos c25] at hz
            refine lv_iinc (v := jI ((i + 1 : Nat) : Int)) (lv' := [(1, .int (jI ((i + 1 : Nat) : Int))), (0, .ref (a 0))]) hx hb dX1_someMovementRuns_30 hl (k := 1) rfl (jI_inc _ 1) (by decide) rfl (fun ls hl => ?_)
            refine lv_goto (tgt := 2) hx hb dX1_someMovementRuns_33 (by decide) ?_
            exact ih (i + 1)  ls (by omega) (by omega) hz (lv_sub hl [1, 0] rfl)
          · rw [if_neg c25] at hz
            refine lv_iconst (v := jI 1) hx hb dX1_someMovementRuns_28 rfl ?_
            subst hz
            exact xr_z hx hb hr hlocks (Or.inr rfl) rfl dX1_someMovementRuns_29
  exact LP2 (3 + 1 - 0) 0  ls (by omega) (by omega) hz (lv_sub hl [1, 0] rfl)
def s_X1_movementsRunDown_lp4 (f : Nat → Int) : Nat → Nat → Int → Int
  | 0, _, _ => default
  | k + 1, i, v => if 3 ≤ (i : Int) then v else (if (f ((21 + (i * 4)) + 0)) = 0 then (s_X1_movementsRunDown_lp4 f k (i + 1) (v + 1)) else (s_X1_movementsRunDown_lp4 f k (i + 1) v))
def s_X1_movementsRunDown (f : Nat → Int) : Int := s_X1_movementsRunDown_lp4 f (3 + 1 - 0) 0 0
abbrev rm_X1_movementsRunDown : Room := { frames := 1, cells := 0, slots := 0, locals := 21 }
set_option maxHeartbeats 4000000 in
set_option maxRecDepth 100000 in
theorem m_X1_movementsRunDown (l : Launch) (D : va_G) (cI : ClassId) (a : Nat → Nat) (f : Nat → Int) (g : Nat → Int) (n : Nat) (b : Nat → Int) (len : Nat) (kd : Nat → Int) (sg : Nat → Int) (nb : Nat → Int) (pt : Nat) (hrf : rng f) : MetR l yX1_movementsRunDown wsX1_movementsRunDown rm_X1_movementsRunDown D cI [.ref (a 0)] (w1 cI a f g n b len kd sg nb pt) (s_X1_movementsRunDown f) := by
  refine xe_R (cc := cX1_movementsRunDown) (maxL := 3) (ret := (some .int)) (by decide) rfl (Nat.le_of_ble_eq_true rfl) ?_
  intro p e s m below meth c hx hb hr hml hts hown hlocks hP hK ls hl
  have hl : lv_has ls 3 [(0, .ref (a 0))] := hl
  have hown : s.vm.findClass RX1 = some m.cls := hown
  have hSx : CallFix p m c cX1_movementsRunDown 3 s ([.ref (a 0)] : List Value).toArray wsX1_movementsRunDown RX1 := ⟨hx, hb, hml, hown, hts⟩
  have inRX1 : ∀ w ∈ u_ws RX1 TX1 6, w ∈ wsX1_movementsRunDown := by decide +kernel
  have qf9 := hts (.fieldLink RX1 9 "VaultMovements" "now" "[I") (by decide +kernel)
  obtain ⟨z, hz⟩ : ∃ z, z = (s_X1_movementsRunDown f) := ⟨_, rfl⟩
  rw [← hz]
  unfold s_X1_movementsRunDown at hz
  refine lv_iconst (v := jI 0) hx hb dX1_movementsRunDown_0 rfl ?_
  refine lv_istore_n (lv' := [(1, .int (jI 0)), (0, .ref (a 0))]) hx hb dX1_movementsRunDown_1 rfl hl (by decide) rfl (fun ls hl => ?_)
  refine lv_iconst (v := jI 0) hx hb dX1_movementsRunDown_2 rfl ?_
  refine lv_istore_n (lv' := [(2, .int (jI 0)), (1, .int (jI 0)), (0, .ref (a 0))]) hx hb dX1_movementsRunDown_3 rfl hl (by decide) rfl (fun ls hl => ?_)
  have LP4 : ∀ (k i : Nat) (v : Int) (ls : Array Slot), i ≤ 3 → i + k = 3 + 1 → z = (s_X1_movementsRunDown_lp4 f) k i v → lv_has ls 3 [(0, .ref (a 0)), (1, .int (jI v)), (2, .int (jI (i : Int)))] → W p l e rm_X1_movementsRunDown s m ([.ref (a 0)] : List Value).toArray below meth c s.heap [] 0 0 (MQ below (vp_Si (fun x => x = jI z)) ([.ref (a 0)] : List Value).toArray s 0 0 (fun _ => False)) (F0 m 4 ls []) := by
    intro k
    induction k with
    | zero => intro i v ls h1 h2; exact absurd h2 (by omega)
    | succ k ih =>
      intro i v  ls h1 h2 hz hl
      rw [s_X1_movementsRunDown_lp4] at hz
      refine lv_iload_n hx hb dX1_movementsRunDown_4 rfl (lv_at hl 2 rfl) ?_
      refine lv_iconst (v := jI 3) hx hb dX1_movementsRunDown_5 rfl ?_
      refine x_icmp_ge (tgt := 31) hx hb dX1_movementsRunDown_6 (by decide) ⟨(by omega), (by decide)⟩ (fun c6 => ?_) (fun c6 => ?_)
      · rw [if_pos c6] at hz
        refine lv_iload_n hx hb dX1_movementsRunDown_31 rfl (lv_at hl 1 rfl) ?_
        subst hz
        exact xr_i hx hb hr hlocks rfl dX1_movementsRunDown_32
      · rw [if_neg c6] at hz
        refine lv_aload_n hx hb dX1_movementsRunDown_9 rfl (lv_at hl 0 rfl) ?_
        refine va_get (D := D) (ci := 1) (v := .ref (a 1)) (C := RX1) (T := TX1) (N := 6) hx hb hts inRX1 hown hK hP 0 rfl rfl 0 (by decide) qf9 (fun _ h9 => h9) rfl dX1_movementsRunDown_10 ?_
        refine lv_iload_n hx hb dX1_movementsRunDown_13 rfl (lv_at hl 2 rfl) ?_
        refine lv_iconst (v := jI 0) hx hb dX1_movementsRunDown_14 rfl ?_
        refine xc_P (As := [.int (jI (i : Int)), .int (jI 0)]) (rest := [.ref (a 1)]) hSx (m_X1_place l (i : Int) 0 ) (va_cwS 2 hts gX1_movementsRunDown_X1_place rfl rfl rfl (by decide +kernel) ⟨Nat.le_of_ble_eq_true rfl, Nat.le_of_ble_eq_true rfl⟩) rfl hl.1 rfl (Nat.le_of_ble_eq_true rfl) dX1_movementsRunDown_15 ⟨Nat.zero_le _, Nat.zero_le _⟩ ?_
        refine x_iald hx hb hK hP 1 0 rfl rfl ((21 + (i * 4)) + 0) (by omega) (by omega) (by decide) dX1_movementsRunDown_18 ?_
        refine x_if_ne (tgt := 25) hx hb dX1_movementsRunDown_19 (by decide) (hrf _) (fun c19 => ?_) (fun c19 => ?_)
        · rw [if_neg c19] at hz
          refine lv_iinc (v := jI ((i + 1 : Nat) : Int)) (lv' := [(2, .int (jI ((i + 1 : Nat) : Int))), (0, .ref (a 0)), (1, .int (jI v))]) hx hb dX1_movementsRunDown_25 hl (k := 2) rfl (jI_inc _ 1) (by decide) rfl (fun ls hl => ?_)
          refine lv_goto (tgt := 4) hx hb dX1_movementsRunDown_28 (by decide) ?_
          exact ih (i + 1) v ls (by omega) (by omega) hz (lv_sub hl [1, 2, 0] rfl)
        · rw [if_pos c19] at hz
          refine lv_iinc (v := jI (v + 1)) (lv' := [(1, .int (jI (v + 1))), (0, .ref (a 0)), (2, .int (jI (i : Int)))]) hx hb dX1_movementsRunDown_22 hl (k := 1) rfl (jI_add _ 1) (by decide) rfl (fun ls hl => ?_)
          refine lv_iinc (v := jI ((i + 1 : Nat) : Int)) (lv' := [(2, .int (jI ((i + 1 : Nat) : Int))), (1, .int (jI (v + 1))), (0, .ref (a 0))]) hx hb dX1_movementsRunDown_25 hl (k := 2) rfl (jI_inc _ 1) (by decide) rfl (fun ls hl => ?_)
          refine lv_goto (tgt := 4) hx hb dX1_movementsRunDown_28 (by decide) ?_
          exact ih (i + 1) (v + 1) ls (by omega) (by omega) hz (lv_sub hl [2, 1, 0] rfl)
  exact LP4 (3 + 1 - 0) 0 0 ls (by omega) (by omega) hz (lv_sub hl [2, 1, 0] rfl)
abbrev rm_X1_hoursToWait : Room := { frames := 1, cells := 0, slots := 0, locals := 40 }
set_option maxHeartbeats 4000000 in
set_option maxRecDepth 100000 in
theorem m_X1_hoursToWait (l : Launch) (D : va_G) (cI : ClassId) (a : Nat → Nat) (f : Nat → Int) (g : Nat → Int) (n : Nat) (b : Nat → Int) (len : Nat) (kd : Nat → Int) (sg : Nat → Int) (nb : Nat → Int) (pt : Nat) (hh : 0 ≤ f 0 ∧ f 0 ≤ 99999) (hw : 0 ≤ f 4 ∧ f 4 ≤ 100100) : MetR l yX1_hoursToWait wsX1_hoursToWait rm_X1_hoursToWait D cI [.ref (a 0)] (w1 cI a f g n b len kd sg nb pt) (if ((f 4) - (f 0)) < 0 then 0 else ((f 4) - (f 0))) := by
  refine xe_R (cc := cX1_hoursToWait) (maxL := 1) (ret := (some .int)) (by decide) rfl (Nat.le_of_ble_eq_true rfl) ?_
  intro p e s m below meth c hx hb hr hml hts hown hlocks hP hK ls hl
  have hl : lv_has ls 1 [(0, .ref (a 0))] := hl
  have hown : s.vm.findClass RX1 = some m.cls := hown
  have hSx : CallFix p m c cX1_hoursToWait 1 s ([.ref (a 0)] : List Value).toArray wsX1_hoursToWait RX1 := ⟨hx, hb, hml, hown, hts⟩
  have inRX1 : ∀ w ∈ u_ws RX1 TX1 6, w ∈ wsX1_hoursToWait := by decide +kernel
  have qf9 := hts (.fieldLink RX1 9 "VaultMovements" "now" "[I") (by decide +kernel)
  have qm179 := hts (.methodLink RX1 179 Lib.Math.max.name) (by decide +kernel)
  have qmC := hts (.code Lib.Math.max.name Lib.Math.max.code 2 (some .int)) (by decide +kernel)
  have qmI := hts (.initialized "java/lang/Math") (by decide +kernel)
  have qmS := hts (.static Lib.Math.max.name) (by decide +kernel)
  obtain ⟨z, hz⟩ : ∃ z, z = (if ((f 4) - (f 0)) < 0 then 0 else ((f 4) - (f 0))) := ⟨_, rfl⟩
  rw [← hz]
  refine lv_aload_n hx hb dX1_hoursToWait_0 rfl (lv_at hl 0 rfl) ?_
  refine va_get (D := D) (ci := 1) (v := .ref (a 1)) (C := RX1) (T := TX1) (N := 6) hx hb hts inRX1 hown hK hP 0 rfl rfl 0 (by decide) qf9 (fun _ h9 => h9) rfl dX1_hoursToWait_1 ?_
  refine lv_iconst (v := jI 4) hx hb dX1_hoursToWait_4 rfl ?_
  refine x_iald hx hb hK hP 1 0 rfl rfl 4 rfl (by decide) (by decide) dX1_hoursToWait_5 ?_
  refine lv_aload_n hx hb dX1_hoursToWait_6 rfl (lv_at hl 0 rfl) ?_
  refine va_get (D := D) (ci := 1) (v := .ref (a 1)) (C := RX1) (T := TX1) (N := 6) hx hb hts inRX1 hown hK hP 0 rfl rfl 0 (by decide) qf9 (fun _ h9 => h9) rfl dX1_hoursToWait_7 ?_
  refine lv_iconst (v := jI 0) hx hb dX1_hoursToWait_10 rfl ?_
  refine x_iald hx hb hK hP 1 0 rfl rfl 0 rfl (by decide) (by decide) dX1_hoursToWait_11 ?_
  refine x_isub hx hb dX1_hoursToWait_12 ?_
  refine lv_iconst (v := jI 0) hx hb dX1_hoursToWait_13 rfl ?_
  refine x_mmax hx hb (hml.trans hl.1.symm) hown qm179 qmS qmI qmC (Nat.le_of_ble_eq_true rfl) (Nat.le_of_ble_eq_true rfl) (Nat.zero_le _) (Nat.zero_le _) dX1_hoursToWait_14 ⟨(by omega), (by decide)⟩ ?_
  subst hz
  exact xr_i hx hb hr hlocks rfl dX1_hoursToWait_17
def s_X1_latenessAfter (f : Nat → Int) (x0 : Int) : Int := if (f 2) = (-1) then 0 else (((f 0) + x0) - (f 2))
abbrev rm_X1_latenessAfter : Room := { frames := 0, cells := 0, slots := 0, locals := 0 }
set_option maxHeartbeats 4000000 in
set_option maxRecDepth 100000 in
theorem m_X1_latenessAfter (l : Launch) (D : va_G) (cI : ClassId) (a : Nat → Nat) (f : Nat → Int) (g : Nat → Int) (n : Nat) (b : Nat → Int) (len : Nat) (kd : Nat → Int) (sg : Nat → Int) (nb : Nat → Int) (pt : Nat) (x0 : Int) (hrf : rng f) : MetR l yX1_latenessAfter wsX1_latenessAfter rm_X1_latenessAfter D cI [.ref (a 0), .int (jI x0)] (w1 cI a f g n b len kd sg nb pt) (s_X1_latenessAfter f x0) := by
  refine xe_R (cc := cX1_latenessAfter) (maxL := 2) (ret := (some .int)) (by decide) rfl (Nat.le_of_ble_eq_true rfl) ?_
  intro p e s m below meth c hx hb hr hml hts hown hlocks hP hK ls hl
  have hl : lv_has ls 2 [(0, .ref (a 0)), (1, .int (jI x0))] := hl
  have hown : s.vm.findClass RX1 = some m.cls := hown
  have hSx : CallFix p m c cX1_latenessAfter 2 s ([.ref (a 0), .int (jI x0)] : List Value).toArray wsX1_latenessAfter RX1 := ⟨hx, hb, hml, hown, hts⟩
  have inRX1 : ∀ w ∈ u_ws RX1 TX1 6, w ∈ wsX1_latenessAfter := by decide +kernel
  have qf9 := hts (.fieldLink RX1 9 "VaultMovements" "now" "[I") (by decide +kernel)
  obtain ⟨z, hz⟩ : ∃ z, z = (s_X1_latenessAfter f x0) := ⟨_, rfl⟩
  rw [← hz]
  unfold s_X1_latenessAfter at hz
  refine lv_aload_n hx hb dX1_latenessAfter_0 rfl (lv_at hl 0 rfl) ?_
  refine va_get (D := D) (ci := 1) (v := .ref (a 1)) (C := RX1) (T := TX1) (N := 6) hx hb hts inRX1 hown hK hP 0 rfl rfl 0 (by decide) qf9 (fun _ h9 => h9) rfl dX1_latenessAfter_1 ?_
  refine lv_iconst (v := jI 2) hx hb dX1_latenessAfter_4 rfl ?_
  refine x_iald hx hb hK hP 1 0 rfl rfl 2 rfl (by decide) (by decide) dX1_latenessAfter_5 ?_
  refine lv_iconst (v := jI (-1)) hx hb dX1_latenessAfter_6 rfl ?_
  refine x_icmp_ne (tgt := 14) hx hb dX1_latenessAfter_7 (by decide) ⟨(hrf _), (by decide)⟩ (fun c7 => ?_) (fun c7 => ?_)
  · rw [if_neg c7] at hz
    refine lv_aload_n hx hb dX1_latenessAfter_14 rfl (lv_at hl 0 rfl) ?_
    refine va_get (D := D) (ci := 1) (v := .ref (a 1)) (C := RX1) (T := TX1) (N := 6) hx hb hts inRX1 hown hK hP 0 rfl rfl 0 (by decide) qf9 (fun _ h9 => h9) rfl dX1_latenessAfter_15 ?_
    refine lv_iconst (v := jI 0) hx hb dX1_latenessAfter_18 rfl ?_
    refine x_iald hx hb hK hP 1 0 rfl rfl 0 rfl (by decide) (by decide) dX1_latenessAfter_19 ?_
    refine lv_iload_n hx hb dX1_latenessAfter_20 rfl (lv_at hl 1 rfl) ?_
    refine x_iadd hx hb dX1_latenessAfter_21 ?_
    refine lv_aload_n hx hb dX1_latenessAfter_22 rfl (lv_at hl 0 rfl) ?_
    refine va_get (D := D) (ci := 1) (v := .ref (a 1)) (C := RX1) (T := TX1) (N := 6) hx hb hts inRX1 hown hK hP 0 rfl rfl 0 (by decide) qf9 (fun _ h9 => h9) rfl dX1_latenessAfter_23 ?_
    refine lv_iconst (v := jI 2) hx hb dX1_latenessAfter_26 rfl ?_
    refine x_iald hx hb hK hP 1 0 rfl rfl 2 rfl (by decide) (by decide) dX1_latenessAfter_27 ?_
    refine x_isub hx hb dX1_latenessAfter_28 ?_
    subst hz
    exact xr_i hx hb hr hlocks rfl dX1_latenessAfter_29
  · rw [if_pos c7] at hz
    refine lv_iconst (v := jI 0) hx hb dX1_latenessAfter_10 rfl ?_
    refine lv_goto (tgt := 29) hx hb dX1_latenessAfter_11 (by decide) ?_
    subst hz
    exact xr_i hx hb hr hlocks rfl dX1_latenessAfter_29
def s_X1_hoursToRunDown (f : Nat → Int) (j : Nat) (gg : Int) : Int := if (f ((21 + (j * 4)) + 0)) = 0 then 0 else (if gg = 0 then (-1) else (if (f ((21 + (j * 4)) + 2)) = 1 then (-1) else (if 0 < (f ((21 + (j * 4)) + 2)) then ((f ((21 + (j * 4)) + 0)) + (((((f ((21 + (j * 4)) + 3)) % (f ((21 + (j * 4)) + 2))) + (f ((21 + (j * 4)) + 0))) - 1) / ((f ((21 + (j * 4)) + 2)) - 1))) else (f ((21 + (j * 4)) + 0)))))
abbrev rm_X1_hoursToRunDown : Room := { frames := 1, cells := 0, slots := 0, locals := 21 }
set_option maxHeartbeats 4000000 in
set_option maxRecDepth 100000 in
theorem m_X1_hoursToRunDown (l : Launch) (D : va_G) (cI : ClassId) (a : Nat → Nat) (f : Nat → Int) (g : Nat → Int) (n : Nat) (b : Nat → Int) (len : Nat) (kd : Nat → Int) (sg : Nat → Int) (nb : Nat → Int) (pt : Nat) (j : Nat) (gg : Int) (hj : j < 3) (hrf : rng f) (hm : mvs f) (hg : -2147483648 ≤ gg ∧ gg < 2147483648) : MetR l yX1_hoursToRunDown wsX1_hoursToRunDown rm_X1_hoursToRunDown D cI [.ref (a 0), .int (jI (j : Int)), .int (jI gg)] (w1 cI a f g n b len kd sg nb pt) (s_X1_hoursToRunDown f j gg) := by
  refine xe_R (cc := cX1_hoursToRunDown) (maxL := 6) (ret := (some .int)) (by decide) rfl (Nat.le_of_ble_eq_true rfl) ?_
  intro p e s m below meth c hx hb hr hml hts hown hlocks hP hK ls hl
  have hl : lv_has ls 6 [(0, .ref (a 0)), (1, .int (jI (j : Int))), (2, .int (jI gg))] := hl
  have hown : s.vm.findClass RX1 = some m.cls := hown
  have hSx : CallFix p m c cX1_hoursToRunDown 6 s ([.ref (a 0), .int (jI (j : Int)), .int (jI gg)] : List Value).toArray wsX1_hoursToRunDown RX1 := ⟨hx, hb, hml, hown, hts⟩
  have inRX1 : ∀ w ∈ u_ws RX1 TX1 6, w ∈ wsX1_hoursToRunDown := by decide +kernel
  have qf9 := hts (.fieldLink RX1 9 "VaultMovements" "now" "[I") (by decide +kernel)
  have hm1 := hm j hj
  obtain ⟨z, hz⟩ : ∃ z, z = (s_X1_hoursToRunDown f j gg) := ⟨_, rfl⟩
  rw [← hz]
  unfold s_X1_hoursToRunDown at hz
  refine lv_aload_n hx hb dX1_hoursToRunDown_0 rfl (lv_at hl 0 rfl) ?_
  refine va_get (D := D) (ci := 1) (v := .ref (a 1)) (C := RX1) (T := TX1) (N := 6) hx hb hts inRX1 hown hK hP 0 rfl rfl 0 (by decide) qf9 (fun _ h9 => h9) rfl dX1_hoursToRunDown_1 ?_
  refine lv_iload_n hx hb dX1_hoursToRunDown_4 rfl (lv_at hl 1 rfl) ?_
  refine lv_iconst (v := jI 0) hx hb dX1_hoursToRunDown_5 rfl ?_
  refine xc_P (As := [.int (jI (j : Int)), .int (jI 0)]) (rest := [.ref (a 1)]) hSx (m_X1_place l (j : Int) 0 ) (va_cwS 2 hts gX1_hoursToRunDown_X1_place rfl rfl rfl (by decide +kernel) ⟨Nat.le_of_ble_eq_true rfl, Nat.le_of_ble_eq_true rfl⟩) rfl hl.1 rfl (Nat.le_of_ble_eq_true rfl) dX1_hoursToRunDown_6 ⟨Nat.zero_le _, Nat.zero_le _⟩ ?_
  refine x_iald hx hb hK hP 1 0 rfl rfl ((21 + (j * 4)) + 0) (by omega) (by omega) (by decide) dX1_hoursToRunDown_9 ?_
  refine lv_istore_n (lv' := [(3, .int (jI (f ((21 + (j * 4)) + 0)))), (0, .ref (a 0)), (1, .int (jI (j : Int))), (2, .int (jI gg))]) hx hb dX1_hoursToRunDown_10 rfl hl (by decide) rfl (fun ls hl => ?_)
  refine lv_aload_n hx hb dX1_hoursToRunDown_11 rfl (lv_at hl 1 rfl) ?_
  refine va_get (D := D) (ci := 1) (v := .ref (a 1)) (C := RX1) (T := TX1) (N := 6) hx hb hts inRX1 hown hK hP 0 rfl rfl 0 (by decide) qf9 (fun _ h9 => h9) rfl dX1_hoursToRunDown_12 ?_
  refine lv_iload_n hx hb dX1_hoursToRunDown_15 rfl (lv_at hl 2 rfl) ?_
  refine lv_iconst (v := jI 2) hx hb dX1_hoursToRunDown_16 rfl ?_
  refine xc_P (As := [.int (jI (j : Int)), .int (jI 2)]) (rest := [.ref (a 1)]) hSx (m_X1_place l (j : Int) 2 ) (va_cwS 2 hts gX1_hoursToRunDown_X1_place rfl rfl rfl (by decide +kernel) ⟨Nat.le_of_ble_eq_true rfl, Nat.le_of_ble_eq_true rfl⟩) rfl hl.1 rfl (Nat.le_of_ble_eq_true rfl) dX1_hoursToRunDown_17 ⟨Nat.zero_le _, Nat.zero_le _⟩ ?_
  refine x_iald hx hb hK hP 1 0 rfl rfl ((21 + (j * 4)) + 2) (by omega) (by omega) (by decide) dX1_hoursToRunDown_20 ?_
  refine lv_istore (lv' := [(4, .int (jI (f ((21 + (j * 4)) + 2)))), (3, .int (jI (f ((21 + (j * 4)) + 0)))), (0, .ref (a 0)), (1, .int (jI (j : Int))), (2, .int (jI gg))]) hx hb dX1_hoursToRunDown_21 hl (by decide) rfl (fun ls hl => ?_)
  refine lv_iload_n hx hb dX1_hoursToRunDown_23 rfl (lv_at hl 1 rfl) ?_
  refine x_if_ne (tgt := 29) hx hb dX1_hoursToRunDown_24 (by decide) (hrf _) (fun c24 => ?_) (fun c24 => ?_)
  · rw [if_neg c24] at hz
    refine lv_iload_n hx hb dX1_hoursToRunDown_29 rfl (lv_at hl 4 rfl) ?_
    refine x_if_eq (tgt := 39) hx hb dX1_hoursToRunDown_30 (by decide) (by omega) (fun c30 => ?_) (fun c30 => ?_)
    · rw [if_pos c30] at hz
      refine lv_iconst (v := jI (-1)) hx hb dX1_hoursToRunDown_39 rfl ?_
      subst hz
      exact xr_i hx hb hr hlocks rfl dX1_hoursToRunDown_40
    · rw [if_neg c30] at hz
      refine lv_iload hx hb dX1_hoursToRunDown_33 (lv_at hl 0 rfl) ?_
      refine lv_iconst (v := jI 1) hx hb dX1_hoursToRunDown_35 rfl ?_
      refine x_icmp_ne (tgt := 41) hx hb dX1_hoursToRunDown_36 (by decide) ⟨(hrf _), (by decide)⟩ (fun c36 => ?_) (fun c36 => ?_)
      · rw [if_neg c36] at hz
        refine lv_iload hx hb dX1_hoursToRunDown_41 (lv_at hl 0 rfl) ?_
        refine x_if_gt (tgt := 48) hx hb dX1_hoursToRunDown_43 (by decide) (hrf _) (fun c43 => ?_) (fun c43 => ?_)
        · rw [if_pos c43] at hz
          refine lv_aload_n hx hb dX1_hoursToRunDown_48 rfl (lv_at hl 2 rfl) ?_
          refine va_get (D := D) (ci := 1) (v := .ref (a 1)) (C := RX1) (T := TX1) (N := 6) hx hb hts inRX1 hown hK hP 0 rfl rfl 0 (by decide) qf9 (fun _ h9 => h9) rfl dX1_hoursToRunDown_49 ?_
          refine lv_iload_n hx hb dX1_hoursToRunDown_52 rfl (lv_at hl 3 rfl) ?_
          refine lv_iconst (v := jI 3) hx hb dX1_hoursToRunDown_53 rfl ?_
          refine xc_P (As := [.int (jI (j : Int)), .int (jI 3)]) (rest := [.ref (a 1)]) hSx (m_X1_place l (j : Int) 3 ) (va_cwS 2 hts gX1_hoursToRunDown_X1_place rfl rfl rfl (by decide +kernel) ⟨Nat.le_of_ble_eq_true rfl, Nat.le_of_ble_eq_true rfl⟩) rfl hl.1 rfl (Nat.le_of_ble_eq_true rfl) dX1_hoursToRunDown_54 ⟨Nat.zero_le _, Nat.zero_le _⟩ ?_
          refine x_iald hx hb hK hP 1 0 rfl rfl ((21 + (j * 4)) + 3) (by omega) (by omega) (by decide) dX1_hoursToRunDown_57 ?_
          refine lv_iload hx hb dX1_hoursToRunDown_58 (lv_at hl 0 rfl) ?_
          refine x_irem hx hb dX1_hoursToRunDown_60 (by omega) ?_
          have he1 := Int.emod_nonneg ((f ((21 + (j * 4)) + 3))) (show (f ((21 + (j * 4)) + 2)) ≠ 0 by omega)
          have he2 := Int.emod_lt_of_pos ((f ((21 + (j * 4)) + 3))) (show 0 < (f ((21 + (j * 4)) + 2)) by omega)
          refine lv_istore (lv' := [(5, .int (jI ((f ((21 + (j * 4)) + 3)) % (f ((21 + (j * 4)) + 2))))), (4, .int (jI (f ((21 + (j * 4)) + 2)))), (3, .int (jI (f ((21 + (j * 4)) + 0)))), (0, .ref (a 0)), (1, .int (jI (j : Int))), (2, .int (jI gg))]) hx hb dX1_hoursToRunDown_61 hl (by decide) rfl (fun ls hl => ?_)
          refine lv_iload_n hx hb dX1_hoursToRunDown_63 rfl (lv_at hl 2 rfl) ?_
          refine lv_iload hx hb dX1_hoursToRunDown_64 (lv_at hl 0 rfl) ?_
          refine lv_iload_n hx hb dX1_hoursToRunDown_66 rfl (lv_at hl 2 rfl) ?_
          refine x_iadd hx hb dX1_hoursToRunDown_67 ?_
          refine lv_iconst (v := jI 1) hx hb dX1_hoursToRunDown_68 rfl ?_
          refine x_isub hx hb dX1_hoursToRunDown_69 ?_
          refine lv_iload hx hb dX1_hoursToRunDown_70 (lv_at hl 1 rfl) ?_
          refine lv_iconst (v := jI 1) hx hb dX1_hoursToRunDown_72 rfl ?_
          refine x_isub hx hb dX1_hoursToRunDown_73 ?_
          refine x_idiv hx hb dX1_hoursToRunDown_74 (by omega) ?_
          refine x_iadd hx hb dX1_hoursToRunDown_75 ?_
          subst hz
          exact xr_i hx hb hr hlocks rfl dX1_hoursToRunDown_76
        · rw [if_neg c43] at hz
          refine lv_iload_n hx hb dX1_hoursToRunDown_46 rfl (lv_at hl 1 rfl) ?_
          subst hz
          exact xr_i hx hb hr hlocks rfl dX1_hoursToRunDown_47
      · rw [if_pos c36] at hz
        refine lv_iconst (v := jI (-1)) hx hb dX1_hoursToRunDown_39 rfl ?_
        subst hz
        exact xr_i hx hb hr hlocks rfl dX1_hoursToRunDown_40
  · rw [if_pos c24] at hz
    refine lv_iconst (v := jI 0) hx hb dX1_hoursToRunDown_27 rfl ?_
    subst hz
    exact xr_i hx hb hr hlocks rfl dX1_hoursToRunDown_28
theorem r_X1_hoursToRunDown (f : Nat → Int) (j : Nat) (gg : Int) (hj : j < 3) (hm : mvs f) : -1 ≤ s_X1_hoursToRunDown f j gg ∧ s_X1_hoursToRunDown f j gg ≤ 500 := by
  have hm1 := hm j hj
  unfold s_X1_hoursToRunDown
  split
  · omega
  split
  · omega
  split
  · omega
  split
  · have he1 := Int.emod_nonneg (f (21 + j * 4 + 3)) (show f (21 + j * 4 + 2) ≠ 0 by omega)
    have he2 := Int.emod_lt_of_pos (f (21 + j * 4 + 3)) (show 0 < f (21 + j * 4 + 2) by omega)
    have hq := Int.ediv_le_self (f (21 + j * 4 + 2) - 1) (show 0 ≤ f (21 + j * 4 + 3) % f (21 + j * 4 + 2) + f (21 + j * 4 + 0) - 1 by omega)
    have hq2 := Int.ediv_nonneg (show 0 ≤ f (21 + j * 4 + 3) % f (21 + j * 4 + 2) + f (21 + j * 4 + 0) - 1 by omega) (show 0 ≤ f (21 + j * 4 + 2) - 1 by omega)
    omega
  · omega
end
section
theorem upz_0 {F : Nat → Int} {k : Nat} {j : Nat} : upz F k 0 j = 0 ∨ upz F k 0 j = F j := by
  unfold upz
  split
  · exact Or.inl rfl
  · exact Or.inr rfl
theorem r_hTO_lp (f : Nat → Int) (hh : 0 ≤ f 0 ∧ f 0 ≤ 99999) (hd : ∀ k : Nat, 14 ≤ k → k < 21 → -1 ≤ f k ∧ f k ≤ 23) : ∀ k i : Nat, i + k = 9 → -1 ≤ s_X1_hoursToOpening_lp2 f k i ∧ s_X1_hoursToOpening_lp2 f k i ≤ 300 := by
  intro k
  induction k with
  | zero => intro i h; unfold s_X1_hoursToOpening_lp2; decide
  | succ k ih =>
    intro i h
    have hd1 := hd (14 + (f 0 / 24 % 7 + (i : Int)) % 7).toNat (by omega) (by omega)
    have h9 := ih (i + 1) (by omega)
    rw [s_X1_hoursToOpening_lp2]
    split
    · omega
    split
    · exact h9
    split
    · exact h9
    · omega
theorem r_X1_hoursToOpening (f : Nat → Int) (hh : 0 ≤ f 0 ∧ f 0 ≤ 99999) (hd : ∀ k : Nat, 14 ≤ k → k < 21 → -1 ≤ f k ∧ f k ≤ 23) : -1 ≤ s_X1_hoursToOpening f ∧ s_X1_hoursToOpening f ≤ 300 := r_hTO_lp f hh hd _ _ (by decide)
def s_X1_hoursToWind (f : Nat → Int) (j : Nat) : Int := if (s_X1_hoursToOpening f) = (-1) then (-1) else (if (s_X1_goes f j) = 0 then (-1) else (if (s_X1_isLostHour ((f ((21 + (j * 4)) + 3)) + (s_X1_hoursToOpening f)) (f ((21 + (j * 4)) + 2))) = 0 then (if 0 < (f ((21 + (j * 4)) + 2)) then (if (s_X1_areWindingHours ((s_X1_hoursToOpening f) - ((((f ((21 + (j * 4)) + 3)) + (s_X1_hoursToOpening f)) / (f ((21 + (j * 4)) + 2))) - ((f ((21 + (j * 4)) + 3)) / (f ((21 + (j * 4)) + 2)))))) = 0 then (-1) else ((s_X1_hoursToOpening f) - ((((f ((21 + (j * 4)) + 3)) + (s_X1_hoursToOpening f)) / (f ((21 + (j * 4)) + 2))) - ((f ((21 + (j * 4)) + 3)) / (f ((21 + (j * 4)) + 2)))))) else (if (s_X1_areWindingHours ((s_X1_hoursToOpening f) - 0)) = 0 then (-1) else ((s_X1_hoursToOpening f) - 0))) else (-1)))
abbrev rm_X1_hoursToWind : Room := { frames := 2, cells := 0, slots := 0, locals := 43 }
set_option maxHeartbeats 4000000 in
set_option maxRecDepth 100000 in
theorem m_X1_hoursToWind (l : Launch) (D : va_G) (cI : ClassId) (a : Nat → Nat) (f : Nat → Int) (g : Nat → Int) (n : Nat) (b : Nat → Int) (len : Nat) (kd : Nat → Int) (sg : Nat → Int) (nb : Nat → Int) (pt : Nat) (j : Nat) (hj : j < 3) (hrf : rng f) (hh : 0 ≤ f 0 ∧ f 0 ≤ 99999) (hd : ∀ k : Nat, 14 ≤ k → k < 21 → -1 ≤ f k ∧ f k ≤ 23) (hm : mvs f) : MetR l yX1_hoursToWind wsX1_hoursToWind rm_X1_hoursToWind D cI [.ref (a 0), .int (jI (j : Int))] (w1 cI a f g n b len kd sg nb pt) (s_X1_hoursToWind f j) := by
  refine xe_R (cc := cX1_hoursToWind) (maxL := 6) (ret := (some .int)) (by decide) rfl (Nat.le_of_ble_eq_true rfl) ?_
  intro p e s m below meth c hx hb hr hml hts hown hlocks hP hK ls hl
  have hl : lv_has ls 6 [(0, .ref (a 0)), (1, .int (jI (j : Int)))] := hl
  have hown : s.vm.findClass RX1 = some m.cls := hown
  have hSx : CallFix p m c cX1_hoursToWind 6 s ([.ref (a 0), .int (jI (j : Int))] : List Value).toArray wsX1_hoursToWind RX1 := ⟨hx, hb, hml, hown, hts⟩
  have inRX1 : ∀ w ∈ u_ws RX1 TX1 6, w ∈ wsX1_hoursToWind := by decide +kernel
  have qf9 := hts (.fieldLink RX1 9 "VaultMovements" "now" "[I") (by decide +kernel)
  have hm1 := hm j hj
  obtain ⟨z, hz⟩ : ∃ z, z = (s_X1_hoursToWind f j) := ⟨_, rfl⟩
  rw [← hz]
  unfold s_X1_hoursToWind at hz
  refine lv_aload_n hx hb dX1_hoursToWind_0 rfl (lv_at hl 0 rfl) ?_
  refine xc_R (As := []) (rest := []) hSx (m_X1_hoursToOpening l D cI a f g n b len kd sg nb pt  (by omega) (by omega) (by omega)) (cwV 0 hts gX1_hoursToWind_X1_hoursToOpening rfl rfl rfl (by decide +kernel) ⟨Nat.le_of_ble_eq_true rfl, Nat.le_of_ble_eq_true rfl⟩) hP hK 0 rfl rfl rfl rfl hl.1 rfl (Nat.le_of_ble_eq_true rfl) dX1_hoursToWind_1 ⟨Nat.zero_le _, Nat.zero_le _⟩ ?_
  have hrd := r_X1_hoursToOpening f hh hd
  refine lv_istore_n (lv' := [(2, .int (jI (s_X1_hoursToOpening f))), (0, .ref (a 0)), (1, .int (jI (j : Int)))]) hx hb dX1_hoursToWind_4 rfl hl (by decide) rfl (fun ls hl => ?_)
  refine lv_aload_n hx hb dX1_hoursToWind_5 rfl (lv_at hl 1 rfl) ?_
  refine va_get (D := D) (ci := 1) (v := .ref (a 1)) (C := RX1) (T := TX1) (N := 6) hx hb hts inRX1 hown hK hP 0 rfl rfl 0 (by decide) qf9 (fun _ h9 => h9) rfl dX1_hoursToWind_6 ?_
  refine lv_iload_n hx hb dX1_hoursToWind_9 rfl (lv_at hl 2 rfl) ?_
  refine lv_iconst (v := jI 2) hx hb dX1_hoursToWind_10 rfl ?_
  refine xc_P (As := [.int (jI (j : Int)), .int (jI 2)]) (rest := [.ref (a 1)]) hSx (m_X1_place l (j : Int) 2 ) (va_cwS 2 hts gX1_hoursToWind_X1_place rfl rfl rfl (by decide +kernel) ⟨Nat.le_of_ble_eq_true rfl, Nat.le_of_ble_eq_true rfl⟩) rfl hl.1 rfl (Nat.le_of_ble_eq_true rfl) dX1_hoursToWind_11 ⟨Nat.zero_le _, Nat.zero_le _⟩ ?_
  refine x_iald hx hb hK hP 1 0 rfl rfl ((21 + (j * 4)) + 2) (by omega) (by omega) (by decide) dX1_hoursToWind_14 ?_
  refine lv_istore_n (lv' := [(3, .int (jI (f ((21 + (j * 4)) + 2)))), (2, .int (jI (s_X1_hoursToOpening f))), (0, .ref (a 0)), (1, .int (jI (j : Int)))]) hx hb dX1_hoursToWind_15 rfl hl (by decide) rfl (fun ls hl => ?_)
  refine lv_aload_n hx hb dX1_hoursToWind_16 rfl (lv_at hl 2 rfl) ?_
  refine va_get (D := D) (ci := 1) (v := .ref (a 1)) (C := RX1) (T := TX1) (N := 6) hx hb hts inRX1 hown hK hP 0 rfl rfl 0 (by decide) qf9 (fun _ h9 => h9) rfl dX1_hoursToWind_17 ?_
  refine lv_iload_n hx hb dX1_hoursToWind_20 rfl (lv_at hl 3 rfl) ?_
  refine lv_iconst (v := jI 3) hx hb dX1_hoursToWind_21 rfl ?_
  refine xc_P (As := [.int (jI (j : Int)), .int (jI 3)]) (rest := [.ref (a 1)]) hSx (m_X1_place l (j : Int) 3 ) (va_cwS 2 hts gX1_hoursToWind_X1_place rfl rfl rfl (by decide +kernel) ⟨Nat.le_of_ble_eq_true rfl, Nat.le_of_ble_eq_true rfl⟩) rfl hl.1 rfl (Nat.le_of_ble_eq_true rfl) dX1_hoursToWind_22 ⟨Nat.zero_le _, Nat.zero_le _⟩ ?_
  refine x_iald hx hb hK hP 1 0 rfl rfl ((21 + (j * 4)) + 3) (by omega) (by omega) (by decide) dX1_hoursToWind_25 ?_
  refine lv_istore (lv' := [(4, .int (jI (f ((21 + (j * 4)) + 3)))), (3, .int (jI (f ((21 + (j * 4)) + 2)))), (2, .int (jI (s_X1_hoursToOpening f))), (0, .ref (a 0)), (1, .int (jI (j : Int)))]) hx hb dX1_hoursToWind_26 hl (by decide) rfl (fun ls hl => ?_)
  refine lv_iload_n hx hb dX1_hoursToWind_28 rfl (lv_at hl 2 rfl) ?_
  refine lv_iconst (v := jI (-1)) hx hb dX1_hoursToWind_29 rfl ?_
  refine x_icmp_eq (tgt := 52) hx hb dX1_hoursToWind_30 (by decide) ⟨(by omega), (by decide)⟩ (fun c30 => ?_) (fun c30 => ?_)
  · rw [if_pos c30] at hz
    refine lv_iconst (v := jI (-1)) hx hb dX1_hoursToWind_52 rfl ?_
    subst hz
    exact xr_i hx hb hr hlocks rfl dX1_hoursToWind_53
  · rw [if_neg c30] at hz
    refine lv_aload_n hx hb dX1_hoursToWind_33 rfl (lv_at hl 3 rfl) ?_
    refine lv_iload_n hx hb dX1_hoursToWind_34 rfl (lv_at hl 4 rfl) ?_
    refine xc_R (As := [.int (jI (j : Int))]) (rest := []) hSx (m_X1_goes l D cI a f g n b len kd sg nb pt j (by omega) (by omega)) (cwV 1 hts gX1_hoursToWind_X1_goes rfl rfl rfl (by decide +kernel) ⟨Nat.le_of_ble_eq_true rfl, Nat.le_of_ble_eq_true rfl⟩) hP hK 0 rfl rfl rfl rfl hl.1 rfl (Nat.le_of_ble_eq_true rfl) dX1_hoursToWind_35 ⟨Nat.zero_le _, Nat.zero_le _⟩ ?_
    refine x_if_eq (tgt := 52) hx hb dX1_hoursToWind_38 (by decide) (b01 (b_X1_goes f j)) (fun c38 => ?_) (fun c38 => ?_)
    · rw [if_pos c38] at hz
      refine lv_iconst (v := jI (-1)) hx hb dX1_hoursToWind_52 rfl ?_
      subst hz
      exact xr_i hx hb hr hlocks rfl dX1_hoursToWind_53
    · rw [if_neg c38] at hz
      refine lv_iload hx hb dX1_hoursToWind_41 (lv_at hl 0 rfl) ?_
      refine lv_iload_n hx hb dX1_hoursToWind_43 rfl (lv_at hl 2 rfl) ?_
      refine x_iadd hx hb dX1_hoursToWind_44 ?_
      refine lv_iload_n hx hb dX1_hoursToWind_45 rfl (lv_at hl 1 rfl) ?_
      refine xc_P (As := [.int (jI ((f ((21 + (j * 4)) + 3)) + (s_X1_hoursToOpening f))), .int (jI (f ((21 + (j * 4)) + 2)))]) (rest := []) hSx (m_X1_isLostHour l ((f ((21 + (j * 4)) + 3)) + (s_X1_hoursToOpening f)) (f ((21 + (j * 4)) + 2)) (by omega) (hrf _)) (va_cwS 2 hts gX1_hoursToWind_X1_isLostHour rfl rfl rfl (by decide +kernel) ⟨Nat.le_of_ble_eq_true rfl, Nat.le_of_ble_eq_true rfl⟩) rfl hl.1 rfl (Nat.le_of_ble_eq_true rfl) dX1_hoursToWind_46 ⟨Nat.zero_le _, Nat.zero_le _⟩ ?_
      refine x_if_eq (tgt := 54) hx hb dX1_hoursToWind_49 (by decide) (b01 (b_X1_isLostHour ((f ((21 + (j * 4)) + 3)) + (s_X1_hoursToOpening f)) (f ((21 + (j * 4)) + 2)))) (fun c49 => ?_) (fun c49 => ?_)
      · rw [if_pos c49] at hz
        refine lv_iload_n hx hb dX1_hoursToWind_54 rfl (lv_at hl 1 rfl) ?_
        refine x_if_gt (tgt := 62) hx hb dX1_hoursToWind_55 (by decide) (hrf _) (fun c55 => ?_) (fun c55 => ?_)
        · rw [if_pos c55] at hz
          refine lv_iload hx hb dX1_hoursToWind_62 (lv_at hl 0 rfl) ?_
          refine lv_iload_n hx hb dX1_hoursToWind_64 rfl (lv_at hl 2 rfl) ?_
          refine x_iadd hx hb dX1_hoursToWind_65 ?_
          refine lv_iload_n hx hb dX1_hoursToWind_66 rfl (lv_at hl 1 rfl) ?_
          refine x_idiv hx hb dX1_hoursToWind_67 (by omega) ?_
          refine lv_iload hx hb dX1_hoursToWind_68 (lv_at hl 0 rfl) ?_
          refine lv_iload_n hx hb dX1_hoursToWind_70 rfl (lv_at hl 1 rfl) ?_
          refine x_idiv hx hb dX1_hoursToWind_71 (by omega) ?_
          refine x_isub hx hb dX1_hoursToWind_72 ?_
          try have hq1 := Int.ediv_le_self (f (21 + j * 4 + 2)) (show 0 ≤ f (21 + j * 4 + 3) + s_X1_hoursToOpening f by omega)
          try have hq2 := Int.ediv_nonneg (show 0 ≤ f (21 + j * 4 + 3) + s_X1_hoursToOpening f by omega) (show 0 ≤ f (21 + j * 4 + 2) by omega)
          try have hq3 := Int.ediv_le_self (f (21 + j * 4 + 2)) (show 0 ≤ f (21 + j * 4 + 3) by omega)
          try have hq4 := Int.ediv_nonneg (show 0 ≤ f (21 + j * 4 + 3) by omega) (show 0 ≤ f (21 + j * 4 + 2) by omega)
          refine lv_istore (lv' := [(5, .int (jI ((((f ((21 + (j * 4)) + 3)) + (s_X1_hoursToOpening f)) / (f ((21 + (j * 4)) + 2))) - ((f ((21 + (j * 4)) + 3)) / (f ((21 + (j * 4)) + 2)))))), (4, .int (jI (f ((21 + (j * 4)) + 3)))), (3, .int (jI (f ((21 + (j * 4)) + 2)))), (2, .int (jI (s_X1_hoursToOpening f))), (0, .ref (a 0)), (1, .int (jI (j : Int)))]) hx hb dX1_hoursToWind_73 hl (by decide) rfl (fun ls hl => ?_)
          refine lv_iload_n hx hb dX1_hoursToWind_75 rfl (lv_at hl 3 rfl) ?_
          refine lv_iload hx hb dX1_hoursToWind_76 (lv_at hl 0 rfl) ?_
          refine x_isub hx hb dX1_hoursToWind_78 ?_
          refine xc_P (As := [.int (jI ((s_X1_hoursToOpening f) - ((((f ((21 + (j * 4)) + 3)) + (s_X1_hoursToOpening f)) / (f ((21 + (j * 4)) + 2))) - ((f ((21 + (j * 4)) + 3)) / (f ((21 + (j * 4)) + 2))))))]) (rest := []) hSx (m_X1_areWindingHours l ((s_X1_hoursToOpening f) - ((((f ((21 + (j * 4)) + 3)) + (s_X1_hoursToOpening f)) / (f ((21 + (j * 4)) + 2))) - ((f ((21 + (j * 4)) + 3)) / (f ((21 + (j * 4)) + 2))))) (by omega)) (va_cwS 1 hts gX1_hoursToWind_X1_areWindingHours rfl rfl rfl (by decide +kernel) ⟨Nat.le_of_ble_eq_true rfl, Nat.le_of_ble_eq_true rfl⟩) rfl hl.1 rfl (Nat.le_of_ble_eq_true rfl) dX1_hoursToWind_79 ⟨Nat.zero_le _, Nat.zero_le _⟩ ?_
          refine x_if_eq (tgt := 92) hx hb dX1_hoursToWind_82 (by decide) (b01 (b_X1_areWindingHours ((s_X1_hoursToOpening f) - ((((f ((21 + (j * 4)) + 3)) + (s_X1_hoursToOpening f)) / (f ((21 + (j * 4)) + 2))) - ((f ((21 + (j * 4)) + 3)) / (f ((21 + (j * 4)) + 2))))))) (fun c82 => ?_) (fun c82 => ?_)
          · rw [if_pos c82] at hz
            refine lv_iconst (v := jI (-1)) hx hb dX1_hoursToWind_92 rfl ?_
            subst hz
            exact xr_i hx hb hr hlocks rfl dX1_hoursToWind_93
          · rw [if_neg c82] at hz
            refine lv_iload_n hx hb dX1_hoursToWind_85 rfl (lv_at hl 3 rfl) ?_
            refine lv_iload hx hb dX1_hoursToWind_86 (lv_at hl 0 rfl) ?_
            refine x_isub hx hb dX1_hoursToWind_88 ?_
            refine lv_goto (tgt := 93) hx hb dX1_hoursToWind_89 (by decide) ?_
            subst hz
            exact xr_i hx hb hr hlocks rfl dX1_hoursToWind_93
        · rw [if_neg c55] at hz
          refine lv_iconst (v := jI 0) hx hb dX1_hoursToWind_58 rfl ?_
          refine lv_goto (tgt := 73) hx hb dX1_hoursToWind_59 (by decide) ?_
          try have hq1 := Int.ediv_le_self (f (21 + j * 4 + 2)) (show 0 ≤ f (21 + j * 4 + 3) + s_X1_hoursToOpening f by omega)
          try have hq2 := Int.ediv_nonneg (show 0 ≤ f (21 + j * 4 + 3) + s_X1_hoursToOpening f by omega) (show 0 ≤ f (21 + j * 4 + 2) by omega)
          try have hq3 := Int.ediv_le_self (f (21 + j * 4 + 2)) (show 0 ≤ f (21 + j * 4 + 3) by omega)
          try have hq4 := Int.ediv_nonneg (show 0 ≤ f (21 + j * 4 + 3) by omega) (show 0 ≤ f (21 + j * 4 + 2) by omega)
          refine lv_istore (lv' := [(5, .int (jI 0)), (4, .int (jI (f ((21 + (j * 4)) + 3)))), (3, .int (jI (f ((21 + (j * 4)) + 2)))), (2, .int (jI (s_X1_hoursToOpening f))), (0, .ref (a 0)), (1, .int (jI (j : Int)))]) hx hb dX1_hoursToWind_73 hl (by decide) rfl (fun ls hl => ?_)
          refine lv_iload_n hx hb dX1_hoursToWind_75 rfl (lv_at hl 3 rfl) ?_
          refine lv_iload hx hb dX1_hoursToWind_76 (lv_at hl 0 rfl) ?_
          refine x_isub hx hb dX1_hoursToWind_78 ?_
          refine xc_P (As := [.int (jI ((s_X1_hoursToOpening f) - 0))]) (rest := []) hSx (m_X1_areWindingHours l ((s_X1_hoursToOpening f) - 0) (by omega)) (va_cwS 1 hts gX1_hoursToWind_X1_areWindingHours rfl rfl rfl (by decide +kernel) ⟨Nat.le_of_ble_eq_true rfl, Nat.le_of_ble_eq_true rfl⟩) rfl hl.1 rfl (Nat.le_of_ble_eq_true rfl) dX1_hoursToWind_79 ⟨Nat.zero_le _, Nat.zero_le _⟩ ?_
          refine x_if_eq (tgt := 92) hx hb dX1_hoursToWind_82 (by decide) (b01 (b_X1_areWindingHours ((s_X1_hoursToOpening f) - 0))) (fun c82 => ?_) (fun c82 => ?_)
          · rw [if_pos c82] at hz
            refine lv_iconst (v := jI (-1)) hx hb dX1_hoursToWind_92 rfl ?_
            subst hz
            exact xr_i hx hb hr hlocks rfl dX1_hoursToWind_93
          · rw [if_neg c82] at hz
            refine lv_iload_n hx hb dX1_hoursToWind_85 rfl (lv_at hl 3 rfl) ?_
            refine lv_iload hx hb dX1_hoursToWind_86 (lv_at hl 0 rfl) ?_
            refine x_isub hx hb dX1_hoursToWind_88 ?_
            refine lv_goto (tgt := 93) hx hb dX1_hoursToWind_89 (by decide) ?_
            subst hz
            exact xr_i hx hb hr hlocks rfl dX1_hoursToWind_93
      · rw [if_neg c49] at hz
        refine lv_iconst (v := jI (-1)) hx hb dX1_hoursToWind_52 rfl ?_
        subst hz
        exact xr_i hx hb hr hlocks rfl dX1_hoursToWind_53
def s_X1_hoursToOpen_lp13 (f : Nat → Int) (x1 : Int) : Nat → Nat → Int → Int
  | 0, _, _ => default
  | k + 1, i, v => if 3 ≤ (i : Int) then (if v = (-1) then (-1) else (if v < (if ((f 4) - (f 0)) < 0 then 0 else ((f 4) - (f 0))) then (if ((f 4) - (f 0)) < 0 then 0 else ((f 4) - (f 0))) else v)) else (if (s_X1_goes f i) = 0 then (if (s_X1_hoursToRunDown f i 0) = (-1) then (s_X1_hoursToOpen_lp13 f x1 k (i + 1) v) else (if v = (-1) then (s_X1_hoursToOpen_lp13 f x1 k (i + 1) (s_X1_hoursToRunDown f i 0)) else (if v ≤ (s_X1_hoursToRunDown f i 0) then (s_X1_hoursToOpen_lp13 f x1 k (i + 1) v) else (s_X1_hoursToOpen_lp13 f x1 k (i + 1) (s_X1_hoursToRunDown f i 0))))) else (if (i : Int) = x1 then (if (s_X1_hoursToRunDown f i 0) = (-1) then (s_X1_hoursToOpen_lp13 f x1 k (i + 1) v) else (if v = (-1) then (s_X1_hoursToOpen_lp13 f x1 k (i + 1) (s_X1_hoursToRunDown f i 0)) else (if v ≤ (s_X1_hoursToRunDown f i 0) then (s_X1_hoursToOpen_lp13 f x1 k (i + 1) v) else (s_X1_hoursToOpen_lp13 f x1 k (i + 1) (s_X1_hoursToRunDown f i 0))))) else (if (s_X1_hoursToRunDown f i 1) = (-1) then (s_X1_hoursToOpen_lp13 f x1 k (i + 1) v) else (if v = (-1) then (s_X1_hoursToOpen_lp13 f x1 k (i + 1) (s_X1_hoursToRunDown f i 1)) else (if v ≤ (s_X1_hoursToRunDown f i 1) then (s_X1_hoursToOpen_lp13 f x1 k (i + 1) v) else (s_X1_hoursToOpen_lp13 f x1 k (i + 1) (s_X1_hoursToRunDown f i 1)))))))
def s_X1_hoursToOpen (f : Nat → Int) (x1 : Int) : Int := if (s_X1_isLocked f) = 0 then (-1) else (s_X1_hoursToOpen_lp13 f x1 (3 + 1 - 0) 0 (-1))
abbrev rm_X1_hoursToOpen : Room := { frames := 2, cells := 0, slots := 0, locals := 60 }
set_option maxHeartbeats 4000000 in
set_option maxRecDepth 100000 in
theorem m_X1_hoursToOpen (l : Launch) (D : va_G) (cI : ClassId) (a : Nat → Nat) (f : Nat → Int) (g : Nat → Int) (n : Nat) (b : Nat → Int) (len : Nat) (kd : Nat → Int) (sg : Nat → Int) (nb : Nat → Int) (pt : Nat) (x1 : Int) (hrf : rng f) (hm : mvs f) (hh : 0 ≤ f 0 ∧ f 0 ≤ 99999) (hw : 0 ≤ f 4 ∧ f 4 ≤ 100100) (hx1 : -2147483648 ≤ x1 ∧ x1 < 2147483648) : MetR l yX1_hoursToOpen wsX1_hoursToOpen rm_X1_hoursToOpen D cI [.ref (a 0), .int (jI x1)] (w1 cI a f g n b len kd sg nb pt) (s_X1_hoursToOpen f x1) := by
  refine xe_R (cc := cX1_hoursToOpen) (maxL := 5) (ret := (some .int)) (by decide) rfl (Nat.le_of_ble_eq_true rfl) ?_
  intro p e s m below meth c hx hb hr hml hts hown hlocks hP hK ls hl
  have hl : lv_has ls 5 [(0, .ref (a 0)), (1, .int (jI x1))] := hl
  have hown : s.vm.findClass RX1 = some m.cls := hown
  have hSx : CallFix p m c cX1_hoursToOpen 5 s ([.ref (a 0), .int (jI x1)] : List Value).toArray wsX1_hoursToOpen RX1 := ⟨hx, hb, hml, hown, hts⟩
  have qm179 := hts (.methodLink RX1 179 Lib.Math.max.name) (by decide +kernel)
  have qmC := hts (.code Lib.Math.max.name Lib.Math.max.code 2 (some .int)) (by decide +kernel)
  have qmI := hts (.initialized "java/lang/Math") (by decide +kernel)
  have qmS := hts (.static Lib.Math.max.name) (by decide +kernel)
  obtain ⟨z, hz⟩ : ∃ z, z = (s_X1_hoursToOpen f x1) := ⟨_, rfl⟩
  rw [← hz]
  unfold s_X1_hoursToOpen at hz
  refine lv_aload_n hx hb dX1_hoursToOpen_0 rfl (lv_at hl 0 rfl) ?_
  refine xc_R (As := []) (rest := []) hSx (m_X1_isLocked l D cI a f g n b len kd sg nb pt  (by omega)) (cwV 0 hts gX1_hoursToOpen_X1_isLocked rfl rfl rfl (by decide +kernel) ⟨Nat.le_of_ble_eq_true rfl, Nat.le_of_ble_eq_true rfl⟩) hP hK 0 rfl rfl rfl rfl hl.1 rfl (Nat.le_of_ble_eq_true rfl) dX1_hoursToOpen_1 ⟨Nat.zero_le _, Nat.zero_le _⟩ ?_
  refine x_if_ne (tgt := 9) hx hb dX1_hoursToOpen_4 (by decide) (b01 (b_X1_isLocked f)) (fun c4 => ?_) (fun c4 => ?_)
  · rw [if_neg c4] at hz
    refine lv_iconst (v := jI (-1)) hx hb dX1_hoursToOpen_9 rfl ?_
    refine lv_istore_n (lv' := [(2, .int (jI (-1))), (0, .ref (a 0)), (1, .int (jI x1))]) hx hb dX1_hoursToOpen_10 rfl hl (by decide) rfl (fun ls hl => ?_)
    refine lv_iconst (v := jI 0) hx hb dX1_hoursToOpen_11 rfl ?_
    refine lv_istore_n (lv' := [(3, .int (jI 0)), (2, .int (jI (-1))), (0, .ref (a 0)), (1, .int (jI x1))]) hx hb dX1_hoursToOpen_12 rfl hl (by decide) rfl (fun ls hl => ?_)
    have LP13 : ∀ (k i : Nat) (v : Int) (ls : Array Slot), i ≤ 3 → i + k = 3 + 1 → z = (s_X1_hoursToOpen_lp13 f x1) k i v → (-1 ≤ v ∧ v ≤ 500) → lv_has ls 5 [(0, .ref (a 0)), (1, .int (jI x1)), (2, .int (jI v)), (3, .int (jI (i : Int)))] → W p l e rm_X1_hoursToOpen s m ([.ref (a 0), .int (jI x1)] : List Value).toArray below meth c s.heap [] 0 0 (MQ below (vp_Si (fun x => x = jI z)) ([.ref (a 0), .int (jI x1)] : List Value).toArray s 0 0 (fun _ => False)) (F0 m 13 ls []) := by
      intro k
      induction k with
      | zero => intro i v ls h1 h2; exact absurd h2 (by omega)
      | succ k ih =>
        intro i v  ls h1 h2 hz hv hl
        rw [s_X1_hoursToOpen_lp13] at hz
        refine lv_iload_n hx hb dX1_hoursToOpen_13 rfl (lv_at hl 3 rfl) ?_
        refine lv_iconst (v := jI 3) hx hb dX1_hoursToOpen_14 rfl ?_
        refine x_icmp_ge (tgt := 69) hx hb dX1_hoursToOpen_15 (by decide) ⟨(by omega), (by decide)⟩ (fun c15 => ?_) (fun c15 => ?_)
        · rw [if_pos c15] at hz
          refine lv_iload_n hx hb dX1_hoursToOpen_69 rfl (lv_at hl 2 rfl) ?_
          refine lv_iconst (v := jI (-1)) hx hb dX1_hoursToOpen_70 rfl ?_
          refine x_icmp_ne (tgt := 78) hx hb dX1_hoursToOpen_71 (by decide) ⟨(by omega), (by decide)⟩ (fun c71 => ?_) (fun c71 => ?_)
          · rw [if_neg c71] at hz
            refine lv_iload_n hx hb dX1_hoursToOpen_78 rfl (lv_at hl 2 rfl) ?_
            refine lv_aload_n hx hb dX1_hoursToOpen_79 rfl (lv_at hl 0 rfl) ?_
            refine xc_R (As := []) (rest := [.int (jI v)]) hSx (m_X1_hoursToWait l D cI a f g n b len kd sg nb pt  (by omega) (by omega)) (cwV 0 hts gX1_hoursToOpen_X1_hoursToWait rfl rfl rfl (by decide +kernel) ⟨Nat.le_of_ble_eq_true rfl, Nat.le_of_ble_eq_true rfl⟩) hP hK 0 rfl rfl rfl rfl hl.1 rfl (Nat.le_of_ble_eq_true rfl) dX1_hoursToOpen_80 ⟨Nat.zero_le _, Nat.zero_le _⟩ ?_
            refine x_mmax hx hb (hml.trans hl.1.symm) hown qm179 qmS qmI qmC (Nat.le_of_ble_eq_true rfl) (Nat.le_of_ble_eq_true rfl) (Nat.zero_le _) (Nat.zero_le _) dX1_hoursToOpen_83 ⟨(by omega), (by omega)⟩ ?_
            subst hz
            exact xr_i hx hb hr hlocks rfl dX1_hoursToOpen_86
          · rw [if_pos c71] at hz
            refine lv_iconst (v := jI (-1)) hx hb dX1_hoursToOpen_74 rfl ?_
            refine lv_goto (tgt := 86) hx hb dX1_hoursToOpen_75 (by decide) ?_
            subst hz
            exact xr_i hx hb hr hlocks rfl dX1_hoursToOpen_86
        · rw [if_neg c15] at hz
          refine lv_aload_n hx hb dX1_hoursToOpen_18 rfl (lv_at hl 0 rfl) ?_
          refine lv_iload_n hx hb dX1_hoursToOpen_19 rfl (lv_at hl 3 rfl) ?_
          refine lv_aload_n hx hb dX1_hoursToOpen_20 rfl (lv_at hl 0 rfl) ?_
          refine lv_iload_n hx hb dX1_hoursToOpen_21 rfl (lv_at hl 3 rfl) ?_
          refine xc_R (As := [.int (jI (i : Int))]) (rest := [.int (jI (i : Int)), .ref (a 0)]) hSx (m_X1_goes l D cI a f g n b len kd sg nb pt i (by omega) (by omega)) (cwV 1 hts gX1_hoursToOpen_X1_goes rfl rfl rfl (by decide +kernel) ⟨Nat.le_of_ble_eq_true rfl, Nat.le_of_ble_eq_true rfl⟩) hP hK 0 rfl rfl rfl rfl hl.1 rfl (Nat.le_of_ble_eq_true rfl) dX1_hoursToOpen_22 ⟨Nat.zero_le _, Nat.zero_le _⟩ ?_
          refine x_if_eq (tgt := 37) hx hb dX1_hoursToOpen_25 (by decide) (b01 (b_X1_goes f i)) (fun c25 => ?_) (fun c25 => ?_)
          · rw [if_pos c25] at hz
            refine lv_iconst (v := jI 0) hx hb dX1_hoursToOpen_37 rfl ?_
            refine xc_R (As := [.int (jI (i : Int)), .int (jI 0)]) (rest := []) hSx (m_X1_hoursToRunDown l D cI a f g n b len kd sg nb pt i 0 (by omega) (by omega) (by omega) (by decide)) (cwV 2 hts gX1_hoursToOpen_X1_hoursToRunDown rfl rfl rfl (by decide +kernel) ⟨Nat.le_of_ble_eq_true rfl, Nat.le_of_ble_eq_true rfl⟩) hP hK 0 rfl rfl rfl rfl hl.1 rfl (Nat.le_of_ble_eq_true rfl) dX1_hoursToOpen_38 ⟨Nat.zero_le _, Nat.zero_le _⟩ ?_
            have hrd := r_X1_hoursToRunDown f i 0 (by omega) hm
            refine lv_istore (lv' := [(4, .int (jI (s_X1_hoursToRunDown f i 0))), (0, .ref (a 0)), (1, .int (jI x1)), (2, .int (jI v)), (3, .int (jI (i : Int)))]) hx hb dX1_hoursToOpen_41 hl (by decide) rfl (fun ls hl => ?_)
            refine lv_iload hx hb dX1_hoursToOpen_43 (lv_at hl 0 rfl) ?_
            refine lv_iconst (v := jI (-1)) hx hb dX1_hoursToOpen_45 rfl ?_
            refine x_icmp_eq (tgt := 63) hx hb dX1_hoursToOpen_46 (by decide) ⟨(by omega), (by decide)⟩ (fun c46 => ?_) (fun c46 => ?_)
            · rw [if_pos c46] at hz
              refine lv_iinc (v := jI ((i + 1 : Nat) : Int)) (lv' := [(3, .int (jI ((i + 1 : Nat) : Int))), (4, .int (jI (s_X1_hoursToRunDown f i 0))), (0, .ref (a 0)), (1, .int (jI x1)), (2, .int (jI v))]) hx hb dX1_hoursToOpen_63 hl (k := 4) rfl (jI_inc _ 1) (by decide) rfl (fun ls hl => ?_)
              refine lv_goto (tgt := 13) hx hb dX1_hoursToOpen_66 (by decide) ?_
              exact ih (i + 1) v ls (by omega) (by omega) hz (by omega) (lv_sub hl [2, 3, 4, 0] rfl)
            · rw [if_neg c46] at hz
              refine lv_iload_n hx hb dX1_hoursToOpen_49 rfl (lv_at hl 3 rfl) ?_
              refine lv_iconst (v := jI (-1)) hx hb dX1_hoursToOpen_50 rfl ?_
              refine x_icmp_eq (tgt := 60) hx hb dX1_hoursToOpen_51 (by decide) ⟨(by omega), (by decide)⟩ (fun c51 => ?_) (fun c51 => ?_)
              · rw [if_pos c51] at hz
                refine lv_iload hx hb dX1_hoursToOpen_60 (lv_at hl 0 rfl) ?_
                refine lv_istore_n (lv' := [(2, .int (jI (s_X1_hoursToRunDown f i 0))), (4, .int (jI (s_X1_hoursToRunDown f i 0))), (0, .ref (a 0)), (1, .int (jI x1)), (3, .int (jI (i : Int)))]) hx hb dX1_hoursToOpen_62 rfl hl (by decide) rfl (fun ls hl => ?_)
                refine lv_iinc (v := jI ((i + 1 : Nat) : Int)) (lv' := [(3, .int (jI ((i + 1 : Nat) : Int))), (2, .int (jI (s_X1_hoursToRunDown f i 0))), (4, .int (jI (s_X1_hoursToRunDown f i 0))), (0, .ref (a 0)), (1, .int (jI x1))]) hx hb dX1_hoursToOpen_63 hl (k := 4) rfl (jI_inc _ 1) (by decide) rfl (fun ls hl => ?_)
                refine lv_goto (tgt := 13) hx hb dX1_hoursToOpen_66 (by decide) ?_
                exact ih (i + 1) (s_X1_hoursToRunDown f i 0) ls (by omega) (by omega) hz (by omega) (lv_sub hl [3, 4, 1, 0] rfl)
              · rw [if_neg c51] at hz
                refine lv_iload hx hb dX1_hoursToOpen_54 (lv_at hl 0 rfl) ?_
                refine lv_iload_n hx hb dX1_hoursToOpen_56 rfl (lv_at hl 3 rfl) ?_
                refine x_icmp_ge (tgt := 63) hx hb dX1_hoursToOpen_57 (by decide) ⟨(by omega), (by omega)⟩ (fun c57 => ?_) (fun c57 => ?_)
                · rw [if_pos c57] at hz
                  refine lv_iinc (v := jI ((i + 1 : Nat) : Int)) (lv' := [(3, .int (jI ((i + 1 : Nat) : Int))), (4, .int (jI (s_X1_hoursToRunDown f i 0))), (0, .ref (a 0)), (1, .int (jI x1)), (2, .int (jI v))]) hx hb dX1_hoursToOpen_63 hl (k := 4) rfl (jI_inc _ 1) (by decide) rfl (fun ls hl => ?_)
                  refine lv_goto (tgt := 13) hx hb dX1_hoursToOpen_66 (by decide) ?_
                  exact ih (i + 1) v ls (by omega) (by omega) hz (by omega) (lv_sub hl [2, 3, 4, 0] rfl)
                · rw [if_neg c57] at hz
                  refine lv_iload hx hb dX1_hoursToOpen_60 (lv_at hl 0 rfl) ?_
                  refine lv_istore_n (lv' := [(2, .int (jI (s_X1_hoursToRunDown f i 0))), (4, .int (jI (s_X1_hoursToRunDown f i 0))), (0, .ref (a 0)), (1, .int (jI x1)), (3, .int (jI (i : Int)))]) hx hb dX1_hoursToOpen_62 rfl hl (by decide) rfl (fun ls hl => ?_)
                  refine lv_iinc (v := jI ((i + 1 : Nat) : Int)) (lv' := [(3, .int (jI ((i + 1 : Nat) : Int))), (2, .int (jI (s_X1_hoursToRunDown f i 0))), (4, .int (jI (s_X1_hoursToRunDown f i 0))), (0, .ref (a 0)), (1, .int (jI x1))]) hx hb dX1_hoursToOpen_63 hl (k := 4) rfl (jI_inc _ 1) (by decide) rfl (fun ls hl => ?_)
                  refine lv_goto (tgt := 13) hx hb dX1_hoursToOpen_66 (by decide) ?_
                  exact ih (i + 1) (s_X1_hoursToRunDown f i 0) ls (by omega) (by omega) hz (by omega) (lv_sub hl [3, 4, 1, 0] rfl)
          · rw [if_neg c25] at hz
            refine lv_iload_n hx hb dX1_hoursToOpen_28 rfl (lv_at hl 3 rfl) ?_
            refine lv_iload_n hx hb dX1_hoursToOpen_29 rfl (lv_at hl 1 rfl) ?_
            refine x_icmp_eq (tgt := 37) hx hb dX1_hoursToOpen_30 (by decide) ⟨(by omega), (by omega)⟩ (fun c30 => ?_) (fun c30 => ?_)
            · rw [if_pos c30] at hz
              refine lv_iconst (v := jI 0) hx hb dX1_hoursToOpen_37 rfl ?_
              refine xc_R (As := [.int (jI (i : Int)), .int (jI 0)]) (rest := []) hSx (m_X1_hoursToRunDown l D cI a f g n b len kd sg nb pt i 0 (by omega) (by omega) (by omega) (by decide)) (cwV 2 hts gX1_hoursToOpen_X1_hoursToRunDown rfl rfl rfl (by decide +kernel) ⟨Nat.le_of_ble_eq_true rfl, Nat.le_of_ble_eq_true rfl⟩) hP hK 0 rfl rfl rfl rfl hl.1 rfl (Nat.le_of_ble_eq_true rfl) dX1_hoursToOpen_38 ⟨Nat.zero_le _, Nat.zero_le _⟩ ?_
              have hrd := r_X1_hoursToRunDown f i 0 (by omega) hm
              refine lv_istore (lv' := [(4, .int (jI (s_X1_hoursToRunDown f i 0))), (0, .ref (a 0)), (1, .int (jI x1)), (2, .int (jI v)), (3, .int (jI (i : Int)))]) hx hb dX1_hoursToOpen_41 hl (by decide) rfl (fun ls hl => ?_)
              refine lv_iload hx hb dX1_hoursToOpen_43 (lv_at hl 0 rfl) ?_
              refine lv_iconst (v := jI (-1)) hx hb dX1_hoursToOpen_45 rfl ?_
              refine x_icmp_eq (tgt := 63) hx hb dX1_hoursToOpen_46 (by decide) ⟨(by omega), (by decide)⟩ (fun c46 => ?_) (fun c46 => ?_)
              · rw [if_pos c46] at hz
                refine lv_iinc (v := jI ((i + 1 : Nat) : Int)) (lv' := [(3, .int (jI ((i + 1 : Nat) : Int))), (4, .int (jI (s_X1_hoursToRunDown f i 0))), (0, .ref (a 0)), (1, .int (jI x1)), (2, .int (jI v))]) hx hb dX1_hoursToOpen_63 hl (k := 4) rfl (jI_inc _ 1) (by decide) rfl (fun ls hl => ?_)
                refine lv_goto (tgt := 13) hx hb dX1_hoursToOpen_66 (by decide) ?_
                exact ih (i + 1) v ls (by omega) (by omega) hz (by omega) (lv_sub hl [2, 3, 4, 0] rfl)
              · rw [if_neg c46] at hz
                refine lv_iload_n hx hb dX1_hoursToOpen_49 rfl (lv_at hl 3 rfl) ?_
                refine lv_iconst (v := jI (-1)) hx hb dX1_hoursToOpen_50 rfl ?_
                refine x_icmp_eq (tgt := 60) hx hb dX1_hoursToOpen_51 (by decide) ⟨(by omega), (by decide)⟩ (fun c51 => ?_) (fun c51 => ?_)
                · rw [if_pos c51] at hz
                  refine lv_iload hx hb dX1_hoursToOpen_60 (lv_at hl 0 rfl) ?_
                  refine lv_istore_n (lv' := [(2, .int (jI (s_X1_hoursToRunDown f i 0))), (4, .int (jI (s_X1_hoursToRunDown f i 0))), (0, .ref (a 0)), (1, .int (jI x1)), (3, .int (jI (i : Int)))]) hx hb dX1_hoursToOpen_62 rfl hl (by decide) rfl (fun ls hl => ?_)
                  refine lv_iinc (v := jI ((i + 1 : Nat) : Int)) (lv' := [(3, .int (jI ((i + 1 : Nat) : Int))), (2, .int (jI (s_X1_hoursToRunDown f i 0))), (4, .int (jI (s_X1_hoursToRunDown f i 0))), (0, .ref (a 0)), (1, .int (jI x1))]) hx hb dX1_hoursToOpen_63 hl (k := 4) rfl (jI_inc _ 1) (by decide) rfl (fun ls hl => ?_)
                  refine lv_goto (tgt := 13) hx hb dX1_hoursToOpen_66 (by decide) ?_
                  exact ih (i + 1) (s_X1_hoursToRunDown f i 0) ls (by omega) (by omega) hz (by omega) (lv_sub hl [3, 4, 1, 0] rfl)
                · rw [if_neg c51] at hz
                  refine lv_iload hx hb dX1_hoursToOpen_54 (lv_at hl 0 rfl) ?_
                  refine lv_iload_n hx hb dX1_hoursToOpen_56 rfl (lv_at hl 3 rfl) ?_
                  refine x_icmp_ge (tgt := 63) hx hb dX1_hoursToOpen_57 (by decide) ⟨(by omega), (by omega)⟩ (fun c57 => ?_) (fun c57 => ?_)
                  · rw [if_pos c57] at hz
                    refine lv_iinc (v := jI ((i + 1 : Nat) : Int)) (lv' := [(3, .int (jI ((i + 1 : Nat) : Int))), (4, .int (jI (s_X1_hoursToRunDown f i 0))), (0, .ref (a 0)), (1, .int (jI x1)), (2, .int (jI v))]) hx hb dX1_hoursToOpen_63 hl (k := 4) rfl (jI_inc _ 1) (by decide) rfl (fun ls hl => ?_)
                    refine lv_goto (tgt := 13) hx hb dX1_hoursToOpen_66 (by decide) ?_
                    exact ih (i + 1) v ls (by omega) (by omega) hz (by omega) (lv_sub hl [2, 3, 4, 0] rfl)
                  · rw [if_neg c57] at hz
                    refine lv_iload hx hb dX1_hoursToOpen_60 (lv_at hl 0 rfl) ?_
                    refine lv_istore_n (lv' := [(2, .int (jI (s_X1_hoursToRunDown f i 0))), (4, .int (jI (s_X1_hoursToRunDown f i 0))), (0, .ref (a 0)), (1, .int (jI x1)), (3, .int (jI (i : Int)))]) hx hb dX1_hoursToOpen_62 rfl hl (by decide) rfl (fun ls hl => ?_)
                    refine lv_iinc (v := jI ((i + 1 : Nat) : Int)) (lv' := [(3, .int (jI ((i + 1 : Nat) : Int))), (2, .int (jI (s_X1_hoursToRunDown f i 0))), (4, .int (jI (s_X1_hoursToRunDown f i 0))), (0, .ref (a 0)), (1, .int (jI x1))]) hx hb dX1_hoursToOpen_63 hl (k := 4) rfl (jI_inc _ 1) (by decide) rfl (fun ls hl => ?_)
                    refine lv_goto (tgt := 13) hx hb dX1_hoursToOpen_66 (by decide) ?_
                    exact ih (i + 1) (s_X1_hoursToRunDown f i 0) ls (by omega) (by omega) hz (by omega) (lv_sub hl [3, 4, 1, 0] rfl)
            · rw [if_neg c30] at hz
              refine lv_iconst (v := jI 1) hx hb dX1_hoursToOpen_33 rfl ?_
              refine lv_goto (tgt := 38) hx hb dX1_hoursToOpen_34 (by decide) ?_
              refine xc_R (As := [.int (jI (i : Int)), .int (jI 1)]) (rest := []) hSx (m_X1_hoursToRunDown l D cI a f g n b len kd sg nb pt i 1 (by omega) (by omega) (by omega) (by decide)) (cwV 2 hts gX1_hoursToOpen_X1_hoursToRunDown rfl rfl rfl (by decide +kernel) ⟨Nat.le_of_ble_eq_true rfl, Nat.le_of_ble_eq_true rfl⟩) hP hK 0 rfl rfl rfl rfl hl.1 rfl (Nat.le_of_ble_eq_true rfl) dX1_hoursToOpen_38 ⟨Nat.zero_le _, Nat.zero_le _⟩ ?_
              have hrd := r_X1_hoursToRunDown f i 1 (by omega) hm
              refine lv_istore (lv' := [(4, .int (jI (s_X1_hoursToRunDown f i 1))), (0, .ref (a 0)), (1, .int (jI x1)), (2, .int (jI v)), (3, .int (jI (i : Int)))]) hx hb dX1_hoursToOpen_41 hl (by decide) rfl (fun ls hl => ?_)
              refine lv_iload hx hb dX1_hoursToOpen_43 (lv_at hl 0 rfl) ?_
              refine lv_iconst (v := jI (-1)) hx hb dX1_hoursToOpen_45 rfl ?_
              refine x_icmp_eq (tgt := 63) hx hb dX1_hoursToOpen_46 (by decide) ⟨(by omega), (by decide)⟩ (fun c46 => ?_) (fun c46 => ?_)
              · rw [if_pos c46] at hz
                refine lv_iinc (v := jI ((i + 1 : Nat) : Int)) (lv' := [(3, .int (jI ((i + 1 : Nat) : Int))), (4, .int (jI (s_X1_hoursToRunDown f i 1))), (0, .ref (a 0)), (1, .int (jI x1)), (2, .int (jI v))]) hx hb dX1_hoursToOpen_63 hl (k := 4) rfl (jI_inc _ 1) (by decide) rfl (fun ls hl => ?_)
                refine lv_goto (tgt := 13) hx hb dX1_hoursToOpen_66 (by decide) ?_
                exact ih (i + 1) v ls (by omega) (by omega) hz (by omega) (lv_sub hl [2, 3, 4, 0] rfl)
              · rw [if_neg c46] at hz
                refine lv_iload_n hx hb dX1_hoursToOpen_49 rfl (lv_at hl 3 rfl) ?_
                refine lv_iconst (v := jI (-1)) hx hb dX1_hoursToOpen_50 rfl ?_
                refine x_icmp_eq (tgt := 60) hx hb dX1_hoursToOpen_51 (by decide) ⟨(by omega), (by decide)⟩ (fun c51 => ?_) (fun c51 => ?_)
                · rw [if_pos c51] at hz
                  refine lv_iload hx hb dX1_hoursToOpen_60 (lv_at hl 0 rfl) ?_
                  refine lv_istore_n (lv' := [(2, .int (jI (s_X1_hoursToRunDown f i 1))), (4, .int (jI (s_X1_hoursToRunDown f i 1))), (0, .ref (a 0)), (1, .int (jI x1)), (3, .int (jI (i : Int)))]) hx hb dX1_hoursToOpen_62 rfl hl (by decide) rfl (fun ls hl => ?_)
                  refine lv_iinc (v := jI ((i + 1 : Nat) : Int)) (lv' := [(3, .int (jI ((i + 1 : Nat) : Int))), (2, .int (jI (s_X1_hoursToRunDown f i 1))), (4, .int (jI (s_X1_hoursToRunDown f i 1))), (0, .ref (a 0)), (1, .int (jI x1))]) hx hb dX1_hoursToOpen_63 hl (k := 4) rfl (jI_inc _ 1) (by decide) rfl (fun ls hl => ?_)
                  refine lv_goto (tgt := 13) hx hb dX1_hoursToOpen_66 (by decide) ?_
                  exact ih (i + 1) (s_X1_hoursToRunDown f i 1) ls (by omega) (by omega) hz (by omega) (lv_sub hl [3, 4, 1, 0] rfl)
                · rw [if_neg c51] at hz
                  refine lv_iload hx hb dX1_hoursToOpen_54 (lv_at hl 0 rfl) ?_
                  refine lv_iload_n hx hb dX1_hoursToOpen_56 rfl (lv_at hl 3 rfl) ?_
                  refine x_icmp_ge (tgt := 63) hx hb dX1_hoursToOpen_57 (by decide) ⟨(by omega), (by omega)⟩ (fun c57 => ?_) (fun c57 => ?_)
                  · rw [if_pos c57] at hz
                    refine lv_iinc (v := jI ((i + 1 : Nat) : Int)) (lv' := [(3, .int (jI ((i + 1 : Nat) : Int))), (4, .int (jI (s_X1_hoursToRunDown f i 1))), (0, .ref (a 0)), (1, .int (jI x1)), (2, .int (jI v))]) hx hb dX1_hoursToOpen_63 hl (k := 4) rfl (jI_inc _ 1) (by decide) rfl (fun ls hl => ?_)
                    refine lv_goto (tgt := 13) hx hb dX1_hoursToOpen_66 (by decide) ?_
                    exact ih (i + 1) v ls (by omega) (by omega) hz (by omega) (lv_sub hl [2, 3, 4, 0] rfl)
                  · rw [if_neg c57] at hz
                    refine lv_iload hx hb dX1_hoursToOpen_60 (lv_at hl 0 rfl) ?_
                    refine lv_istore_n (lv' := [(2, .int (jI (s_X1_hoursToRunDown f i 1))), (4, .int (jI (s_X1_hoursToRunDown f i 1))), (0, .ref (a 0)), (1, .int (jI x1)), (3, .int (jI (i : Int)))]) hx hb dX1_hoursToOpen_62 rfl hl (by decide) rfl (fun ls hl => ?_)
                    refine lv_iinc (v := jI ((i + 1 : Nat) : Int)) (lv' := [(3, .int (jI ((i + 1 : Nat) : Int))), (2, .int (jI (s_X1_hoursToRunDown f i 1))), (4, .int (jI (s_X1_hoursToRunDown f i 1))), (0, .ref (a 0)), (1, .int (jI x1))]) hx hb dX1_hoursToOpen_63 hl (k := 4) rfl (jI_inc _ 1) (by decide) rfl (fun ls hl => ?_)
                    refine lv_goto (tgt := 13) hx hb dX1_hoursToOpen_66 (by decide) ?_
                    exact ih (i + 1) (s_X1_hoursToRunDown f i 1) ls (by omega) (by omega) hz (by omega) (lv_sub hl [3, 4, 1, 0] rfl)
    exact LP13 (3 + 1 - 0) 0 (-1) ls (by omega) (by omega) hz (by omega) (lv_sub hl [2, 3, 1, 0] rfl)
  · rw [if_pos c4] at hz
    refine lv_iconst (v := jI (-1)) hx hb dX1_hoursToOpen_7 rfl ?_
    subst hz
    exact xr_i hx hb hr hlocks rfl dX1_hoursToOpen_8
theorem r_hTOp_lp (f : Nat → Int) (hm : mvs f) (hh : 0 ≤ f 0 ∧ f 0 ≤ 99999) (hw : 0 ≤ f 4 ∧ f 4 ≤ 100100) (x1 : Int) : ∀ (k i : Nat) (v : Int), -1 ≤ v ∧ v ≤ 500 → i + k ≤ 4 → -1 ≤ s_X1_hoursToOpen_lp13 f x1 k i v ∧ s_X1_hoursToOpen_lp13 f x1 k i v ≤ 100100 := by
  intro k
  induction k with
  | zero => intro i v hv h; unfold s_X1_hoursToOpen_lp13; decide
  | succ k ih =>
    intro i v hv h
    rw [s_X1_hoursToOpen_lp13]
    split
    · (repeat' split) <;> omega
    · have hi : i < 3 := by omega
      have r0 := r_X1_hoursToRunDown f i 0 hi hm
      have r1 := r_X1_hoursToRunDown f i 1 hi hm
      (repeat' split) <;> exact ih _ _ (by omega) (by omega)
theorem r_X1_hoursToOpen (f : Nat → Int) (x1 : Int) (hm : mvs f) (hh : 0 ≤ f 0 ∧ f 0 ≤ 99999) (hw : 0 ≤ f 4 ∧ f 4 ≤ 100100) : -1 ≤ s_X1_hoursToOpen f x1 ∧ s_X1_hoursToOpen f x1 ≤ 100100 := by
  unfold s_X1_hoursToOpen
  split
  · omega
  · exact r_hTOp_lp f hm hh hw x1 _ _ _ (by omega) (by omega)
abbrev rm_X1_opensIn : Room := { frames := 3, cells := 0, slots := 0, locals := 84 }
set_option maxHeartbeats 4000000 in
set_option maxRecDepth 100000 in
theorem m_X1_opensIn (l : Launch) (D : va_G) (cI : ClassId) (a : Nat → Nat) (f : Nat → Int) (g : Nat → Int) (n : Nat) (b : Nat → Int) (len : Nat) (kd : Nat → Int) (sg : Nat → Int) (nb : Nat → Int) (pt : Nat) (hrf : rng f) (hm : mvs f) (hh : 0 ≤ f 0 ∧ f 0 ≤ 99999) (hw : 0 ≤ f 4 ∧ f 4 ≤ 100100) : MetR l yX1_opensIn wsX1_opensIn rm_X1_opensIn D cI [.ref (a 0)] (w1 cI a f g n b len kd sg nb pt) (s_X1_hoursToOpen f (-1)) := by
  refine xe_R (cc := cX1_opensIn) (maxL := 1) (ret := (some .int)) (by decide) rfl (Nat.le_of_ble_eq_true rfl) ?_
  intro p e s m below meth c hx hb hr hml hts hown hlocks hP hK ls hl
  have hl : lv_has ls 1 [(0, .ref (a 0))] := hl
  have hown : s.vm.findClass RX1 = some m.cls := hown
  have hSx : CallFix p m c cX1_opensIn 1 s ([.ref (a 0)] : List Value).toArray wsX1_opensIn RX1 := ⟨hx, hb, hml, hown, hts⟩
  obtain ⟨z, hz⟩ : ∃ z, z = (s_X1_hoursToOpen f (-1)) := ⟨_, rfl⟩
  rw [← hz]
  refine lv_aload_n hx hb dX1_opensIn_0 rfl (lv_at hl 0 rfl) ?_
  refine lv_iconst (v := jI (-1)) hx hb dX1_opensIn_1 rfl ?_
  refine xc_R (As := [.int (jI (-1))]) (rest := []) hSx (m_X1_hoursToOpen l D cI a f g n b len kd sg nb pt (-1) (by omega) (by omega) (by omega) (by omega) (by decide)) (cwV 1 hts gX1_opensIn_X1_hoursToOpen rfl rfl rfl (by decide +kernel) ⟨Nat.le_of_ble_eq_true rfl, Nat.le_of_ble_eq_true rfl⟩) hP hK 0 rfl rfl rfl rfl hl.1 rfl (Nat.le_of_ble_eq_true rfl) dX1_opensIn_2 ⟨Nat.zero_le _, Nat.zero_le _⟩ ?_
  subst hz
  exact xr_i hx hb hr hlocks rfl dX1_opensIn_5
def s_X1_lateness (f : Nat → Int) : Int := if (s_X1_isLocked f) = 0 then 0 else (if (s_X1_hoursToOpen f (-1)) = (-1) then 1000 else (s_X1_latenessAfter f (if (s_X1_hoursToOpen f (-1)) < 1 then 1 else (s_X1_hoursToOpen f (-1)))))
abbrev rm_X1_lateness : Room := { frames := 3, cells := 0, slots := 0, locals := 84 }
set_option maxHeartbeats 4000000 in
set_option maxRecDepth 100000 in
theorem m_X1_lateness (l : Launch) (D : va_G) (cI : ClassId) (a : Nat → Nat) (f : Nat → Int) (g : Nat → Int) (n : Nat) (b : Nat → Int) (len : Nat) (kd : Nat → Int) (sg : Nat → Int) (nb : Nat → Int) (pt : Nat) (hrf : rng f) (hm : mvs f) (hh : 0 ≤ f 0 ∧ f 0 ≤ 99999) (hw : 0 ≤ f 4 ∧ f 4 ≤ 100100) : MetR l yX1_lateness wsX1_lateness rm_X1_lateness D cI [.ref (a 0)] (w1 cI a f g n b len kd sg nb pt) (s_X1_lateness f) := by
  refine xe_R (cc := cX1_lateness) (maxL := 2) (ret := (some .int)) (by decide) rfl (Nat.le_of_ble_eq_true rfl) ?_
  intro p e s m below meth c hx hb hr hml hts hown hlocks hP hK ls hl
  have hl : lv_has ls 2 [(0, .ref (a 0))] := hl
  have hown : s.vm.findClass RX1 = some m.cls := hown
  have hSx : CallFix p m c cX1_lateness 2 s ([.ref (a 0)] : List Value).toArray wsX1_lateness RX1 := ⟨hx, hb, hml, hown, hts⟩
  have qm179 := hts (.methodLink RX1 179 Lib.Math.max.name) (by decide +kernel)
  have qmC := hts (.code Lib.Math.max.name Lib.Math.max.code 2 (some .int)) (by decide +kernel)
  have qmI := hts (.initialized "java/lang/Math") (by decide +kernel)
  have qmS := hts (.static Lib.Math.max.name) (by decide +kernel)
  obtain ⟨z, hz⟩ : ∃ z, z = (s_X1_lateness f) := ⟨_, rfl⟩
  rw [← hz]
  unfold s_X1_lateness at hz
  refine lv_aload_n hx hb dX1_lateness_0 rfl (lv_at hl 0 rfl) ?_
  refine xc_R (As := []) (rest := []) hSx (m_X1_isLocked l D cI a f g n b len kd sg nb pt  (by omega)) (cwV 0 hts gX1_lateness_X1_isLocked rfl rfl rfl (by decide +kernel) ⟨Nat.le_of_ble_eq_true rfl, Nat.le_of_ble_eq_true rfl⟩) hP hK 0 rfl rfl rfl rfl hl.1 rfl (Nat.le_of_ble_eq_true rfl) dX1_lateness_1 ⟨Nat.zero_le _, Nat.zero_le _⟩ ?_
  refine x_if_ne (tgt := 9) hx hb dX1_lateness_4 (by decide) (b01 (b_X1_isLocked f)) (fun c4 => ?_) (fun c4 => ?_)
  · rw [if_neg c4] at hz
    refine lv_aload_n hx hb dX1_lateness_9 rfl (lv_at hl 0 rfl) ?_
    refine lv_iconst (v := jI (-1)) hx hb dX1_lateness_10 rfl ?_
    refine xc_R (As := [.int (jI (-1))]) (rest := []) hSx (m_X1_hoursToOpen l D cI a f g n b len kd sg nb pt (-1) (by omega) (by omega) (by omega) (by omega) (by decide)) (cwV 1 hts gX1_lateness_X1_hoursToOpen rfl rfl rfl (by decide +kernel) ⟨Nat.le_of_ble_eq_true rfl, Nat.le_of_ble_eq_true rfl⟩) hP hK 0 rfl rfl rfl rfl hl.1 rfl (Nat.le_of_ble_eq_true rfl) dX1_lateness_11 ⟨Nat.zero_le _, Nat.zero_le _⟩ ?_
    have hrd := r_X1_hoursToOpen f (-1) hm hh hw
    refine lv_istore_n (lv' := [(1, .int (jI (s_X1_hoursToOpen f (-1)))), (0, .ref (a 0))]) hx hb dX1_lateness_14 rfl hl (by decide) rfl (fun ls hl => ?_)
    refine lv_iload_n hx hb dX1_lateness_15 rfl (lv_at hl 0 rfl) ?_
    refine lv_iconst (v := jI (-1)) hx hb dX1_lateness_16 rfl ?_
    refine x_icmp_ne (tgt := 26) hx hb dX1_lateness_17 (by decide) ⟨(by omega), (by decide)⟩ (fun c17 => ?_) (fun c17 => ?_)
    · rw [if_neg c17] at hz
      refine lv_aload_n hx hb dX1_lateness_26 rfl (lv_at hl 1 rfl) ?_
      refine lv_iload_n hx hb dX1_lateness_27 rfl (lv_at hl 0 rfl) ?_
      refine lv_iconst (v := jI 1) hx hb dX1_lateness_28 rfl ?_
      refine x_mmax hx hb (hml.trans hl.1.symm) hown qm179 qmS qmI qmC (Nat.le_of_ble_eq_true rfl) (Nat.le_of_ble_eq_true rfl) (Nat.zero_le _) (Nat.zero_le _) dX1_lateness_29 ⟨(by omega), (by decide)⟩ ?_
      refine xc_R (As := [.int (jI (if (s_X1_hoursToOpen f (-1)) < 1 then 1 else (s_X1_hoursToOpen f (-1))))]) (rest := []) hSx (m_X1_latenessAfter l D cI a f g n b len kd sg nb pt (if (s_X1_hoursToOpen f (-1)) < 1 then 1 else (s_X1_hoursToOpen f (-1))) (by omega)) (cwV 1 hts gX1_lateness_X1_latenessAfter rfl rfl rfl (by decide +kernel) ⟨Nat.le_of_ble_eq_true rfl, Nat.le_of_ble_eq_true rfl⟩) hP hK 0 rfl rfl rfl rfl hl.1 rfl (Nat.le_of_ble_eq_true rfl) dX1_lateness_32 ⟨Nat.zero_le _, Nat.zero_le _⟩ ?_
      subst hz
      exact xr_i hx hb hr hlocks rfl dX1_lateness_35
    · rw [if_pos c17] at hz
      refine lv_sipush (v := jI 1000) hx hb dX1_lateness_20 (by decide) ?_
      refine lv_goto (tgt := 35) hx hb dX1_lateness_23 (by decide) ?_
      subst hz
      exact xr_i hx hb hr hlocks rfl dX1_lateness_35
  · rw [if_pos c4] at hz
    refine lv_iconst (v := jI 0) hx hb dX1_lateness_7 rfl ?_
    subst hz
    exact xr_i hx hb hr hlocks rfl dX1_lateness_8
def s_X1_keyMovement_lp8 (f : Nat → Int) : Nat → Nat → Int → Int
  | 0, _, _ => default
  | k + 1, i, v => if 3 ≤ (i : Int) then (-1) else (if (s_X1_hoursToOpen f (i : Int)) = v then (s_X1_keyMovement_lp8 f k (i + 1) v) else (i : Int))
def s_X1_keyMovement (f : Nat → Int) : Int := s_X1_keyMovement_lp8 f (3 + 1 - 0) 0 (s_X1_hoursToOpen f (-1))
abbrev rm_X1_keyMovement : Room := { frames := 3, cells := 0, slots := 0, locals := 84 }
set_option maxHeartbeats 4000000 in
set_option maxRecDepth 100000 in
theorem m_X1_keyMovement (l : Launch) (D : va_G) (cI : ClassId) (a : Nat → Nat) (f : Nat → Int) (g : Nat → Int) (n : Nat) (b : Nat → Int) (len : Nat) (kd : Nat → Int) (sg : Nat → Int) (nb : Nat → Int) (pt : Nat) (hrf : rng f) (hm : mvs f) (hh : 0 ≤ f 0 ∧ f 0 ≤ 99999) (hw : 0 ≤ f 4 ∧ f 4 ≤ 100100) : MetR l yX1_keyMovement wsX1_keyMovement rm_X1_keyMovement D cI [.ref (a 0)] (w1 cI a f g n b len kd sg nb pt) (s_X1_keyMovement f) := by
  refine xe_R (cc := cX1_keyMovement) (maxL := 3) (ret := (some .int)) (by decide) rfl (Nat.le_of_ble_eq_true rfl) ?_
  intro p e s m below meth c hx hb hr hml hts hown hlocks hP hK ls hl
  have hl : lv_has ls 3 [(0, .ref (a 0))] := hl
  have hown : s.vm.findClass RX1 = some m.cls := hown
  have hSx : CallFix p m c cX1_keyMovement 3 s ([.ref (a 0)] : List Value).toArray wsX1_keyMovement RX1 := ⟨hx, hb, hml, hown, hts⟩
  obtain ⟨z, hz⟩ : ∃ z, z = (s_X1_keyMovement f) := ⟨_, rfl⟩
  rw [← hz]
  unfold s_X1_keyMovement at hz
  refine lv_aload_n hx hb dX1_keyMovement_0 rfl (lv_at hl 0 rfl) ?_
  refine lv_iconst (v := jI (-1)) hx hb dX1_keyMovement_1 rfl ?_
  refine xc_R (As := [.int (jI (-1))]) (rest := []) hSx (m_X1_hoursToOpen l D cI a f g n b len kd sg nb pt (-1) (by omega) (by omega) (by omega) (by omega) (by decide)) (cwV 1 hts gX1_keyMovement_X1_hoursToOpen rfl rfl rfl (by decide +kernel) ⟨Nat.le_of_ble_eq_true rfl, Nat.le_of_ble_eq_true rfl⟩) hP hK 0 rfl rfl rfl rfl hl.1 rfl (Nat.le_of_ble_eq_true rfl) dX1_keyMovement_2 ⟨Nat.zero_le _, Nat.zero_le _⟩ ?_
  have hrd := r_X1_hoursToOpen f (-1) hm hh hw
  refine lv_istore_n (lv' := [(1, .int (jI (s_X1_hoursToOpen f (-1)))), (0, .ref (a 0))]) hx hb dX1_keyMovement_5 rfl hl (by decide) rfl (fun ls hl => ?_)
  refine lv_iconst (v := jI 0) hx hb dX1_keyMovement_6 rfl ?_
  refine lv_istore_n (lv' := [(2, .int (jI 0)), (1, .int (jI (s_X1_hoursToOpen f (-1)))), (0, .ref (a 0))]) hx hb dX1_keyMovement_7 rfl hl (by decide) rfl (fun ls hl => ?_)
  have LP8 : ∀ (k i : Nat) (v : Int) (ls : Array Slot), i ≤ 3 → i + k = 3 + 1 → z = (s_X1_keyMovement_lp8 f) k i v → (-1 ≤ v ∧ v ≤ 100100) → lv_has ls 3 [(0, .ref (a 0)), (1, .int (jI v)), (2, .int (jI (i : Int)))] → W p l e rm_X1_keyMovement s m ([.ref (a 0)] : List Value).toArray below meth c s.heap [] 0 0 (MQ below (vp_Si (fun x => x = jI z)) ([.ref (a 0)] : List Value).toArray s 0 0 (fun _ => False)) (F0 m 8 ls []) := by
    intro k
    induction k with
    | zero => intro i v ls h1 h2; exact absurd h2 (by omega)
    | succ k ih =>
      intro i v  ls h1 h2 hz hv hl
      rw [s_X1_keyMovement_lp8] at hz
      refine lv_iload_n hx hb dX1_keyMovement_8 rfl (lv_at hl 2 rfl) ?_
      refine lv_iconst (v := jI 3) hx hb dX1_keyMovement_9 rfl ?_
      refine x_icmp_ge (tgt := 30) hx hb dX1_keyMovement_10 (by decide) ⟨(by omega), (by decide)⟩ (fun c10 => ?_) (fun c10 => ?_)
      · rw [if_pos c10] at hz
        refine lv_iconst (v := jI (-1)) hx hb dX1_keyMovement_30 rfl ?_
        subst hz
        exact xr_i hx hb hr hlocks rfl dX1_keyMovement_31
      · rw [if_neg c10] at hz
        refine lv_aload_n hx hb dX1_keyMovement_13 rfl (lv_at hl 0 rfl) ?_
        refine lv_iload_n hx hb dX1_keyMovement_14 rfl (lv_at hl 2 rfl) ?_
        refine xc_R (As := [.int (jI (i : Int))]) (rest := []) hSx (m_X1_hoursToOpen l D cI a f g n b len kd sg nb pt (i : Int) (by omega) (by omega) (by omega) (by omega) (by omega)) (cwV 1 hts gX1_keyMovement_X1_hoursToOpen rfl rfl rfl (by decide +kernel) ⟨Nat.le_of_ble_eq_true rfl, Nat.le_of_ble_eq_true rfl⟩) hP hK 0 rfl rfl rfl rfl hl.1 rfl (Nat.le_of_ble_eq_true rfl) dX1_keyMovement_15 ⟨Nat.zero_le _, Nat.zero_le _⟩ ?_
        have hrd := r_X1_hoursToOpen f (i : Int) hm hh hw
        refine lv_iload_n hx hb dX1_keyMovement_18 rfl (lv_at hl 1 rfl) ?_
        refine x_icmp_eq (tgt := 24) hx hb dX1_keyMovement_19 (by decide) ⟨(by omega), (by omega)⟩ (fun c19 => ?_) (fun c19 => ?_)
        · rw [if_pos c19] at hz
          refine lv_iinc (v := jI ((i + 1 : Nat) : Int)) (lv' := [(2, .int (jI ((i + 1 : Nat) : Int))), (0, .ref (a 0)), (1, .int (jI v))]) hx hb dX1_keyMovement_24 hl (k := 2) rfl (jI_inc _ 1) (by decide) rfl (fun ls hl => ?_)
          refine lv_goto (tgt := 8) hx hb dX1_keyMovement_27 (by decide) ?_
          exact ih (i + 1) v ls (by omega) (by omega) hz (by omega) (lv_sub hl [1, 2, 0] rfl)
        · rw [if_neg c19] at hz
          refine lv_iload_n hx hb dX1_keyMovement_22 rfl (lv_at hl 2 rfl) ?_
          subst hz
          exact xr_i hx hb hr hlocks rfl dX1_keyMovement_23
  exact LP8 (3 + 1 - 0) 0 (s_X1_hoursToOpen f (-1)) ls (by omega) (by omega) hz (by omega) (lv_sub hl [2, 1, 0] rfl)
def s_X1_property (f : Nat → Int) (j : Nat) (x1 : Nat) : Int := if (x1 : Int) = 4 then (if (f ((21 + (j * 4)) + 3)) < (f 13) then 0 else 1) else (if (x1 : Int) = 5 then (s_X1_hoursToRunDown f j (s_X1_goes f j)) else (f ((21 + (j * 4)) + x1)))
abbrev rm_X1_property : Room := { frames := 2, cells := 0, slots := 0, locals := 46 }
set_option maxHeartbeats 4000000 in
set_option maxRecDepth 100000 in
theorem m_X1_property (l : Launch) (D : va_G) (cI : ClassId) (a : Nat → Nat) (f : Nat → Int) (g : Nat → Int) (n : Nat) (b : Nat → Int) (len : Nat) (kd : Nat → Int) (sg : Nat → Int) (nb : Nat → Int) (pt : Nat) (j : Nat) (x1 : Nat) (hj : j < 3) (hx1 : x1 ≤ 5) (hrf : rng f) (hm : mvs f) : MetR l yX1_property wsX1_property rm_X1_property D cI [.ref (a 0), .int (jI (j : Int)), .int (jI (x1 : Int))] (w1 cI a f g n b len kd sg nb pt) (s_X1_property f j x1) := by
  refine xe_R (cc := cX1_property) (maxL := 3) (ret := (some .int)) (by decide) rfl (Nat.le_of_ble_eq_true rfl) ?_
  intro p e s m below meth c hx hb hr hml hts hown hlocks hP hK ls hl
  have hl : lv_has ls 3 [(0, .ref (a 0)), (1, .int (jI (j : Int))), (2, .int (jI (x1 : Int)))] := hl
  have hown : s.vm.findClass RX1 = some m.cls := hown
  have hSx : CallFix p m c cX1_property 3 s ([.ref (a 0), .int (jI (j : Int)), .int (jI (x1 : Int))] : List Value).toArray wsX1_property RX1 := ⟨hx, hb, hml, hown, hts⟩
  have inRX1 : ∀ w ∈ u_ws RX1 TX1 6, w ∈ wsX1_property := by decide +kernel
  have qf9 := hts (.fieldLink RX1 9 "VaultMovements" "now" "[I") (by decide +kernel)
  obtain ⟨z, hz⟩ : ∃ z, z = (s_X1_property f j x1) := ⟨_, rfl⟩
  rw [← hz]
  unfold s_X1_property at hz
  refine lv_iload_n hx hb dX1_property_0 rfl (lv_at hl 2 rfl) ?_
  refine lv_iconst (v := jI 4) hx hb dX1_property_1 rfl ?_
  refine x_icmp_ne (tgt := 31) hx hb dX1_property_2 (by decide) ⟨(by omega), (by decide)⟩ (fun c2 => ?_) (fun c2 => ?_)
  · rw [if_neg c2] at hz
    refine lv_iload_n hx hb dX1_property_31 rfl (lv_at hl 2 rfl) ?_
    refine lv_iconst (v := jI 5) hx hb dX1_property_32 rfl ?_
    refine x_icmp_ne (tgt := 47) hx hb dX1_property_33 (by decide) ⟨(by omega), (by decide)⟩ (fun c33 => ?_) (fun c33 => ?_)
    · rw [if_neg c33] at hz
      refine lv_aload_n hx hb dX1_property_47 rfl (lv_at hl 0 rfl) ?_
      refine va_get (D := D) (ci := 1) (v := .ref (a 1)) (C := RX1) (T := TX1) (N := 6) hx hb hts inRX1 hown hK hP 0 rfl rfl 0 (by decide) qf9 (fun _ h9 => h9) rfl dX1_property_48 ?_
      refine lv_iload_n hx hb dX1_property_51 rfl (lv_at hl 1 rfl) ?_
      refine lv_iload_n hx hb dX1_property_52 rfl (lv_at hl 2 rfl) ?_
      refine xc_P (As := [.int (jI (j : Int)), .int (jI (x1 : Int))]) (rest := [.ref (a 1)]) hSx (m_X1_place l (j : Int) (x1 : Int) ) (va_cwS 2 hts gX1_property_X1_place rfl rfl rfl (by decide +kernel) ⟨Nat.le_of_ble_eq_true rfl, Nat.le_of_ble_eq_true rfl⟩) rfl hl.1 rfl (Nat.le_of_ble_eq_true rfl) dX1_property_53 ⟨Nat.zero_le _, Nat.zero_le _⟩ ?_
      refine x_iald hx hb hK hP 1 0 rfl rfl ((21 + (j * 4)) + x1) (by omega) (by omega) (by decide) dX1_property_56 ?_
      subst hz
      exact xr_i hx hb hr hlocks rfl dX1_property_57
    · rw [if_pos c33] at hz
      refine lv_aload_n hx hb dX1_property_36 rfl (lv_at hl 0 rfl) ?_
      refine lv_iload_n hx hb dX1_property_37 rfl (lv_at hl 1 rfl) ?_
      refine lv_aload_n hx hb dX1_property_38 rfl (lv_at hl 0 rfl) ?_
      refine lv_iload_n hx hb dX1_property_39 rfl (lv_at hl 1 rfl) ?_
      refine xc_R (As := [.int (jI (j : Int))]) (rest := [.int (jI (j : Int)), .ref (a 0)]) hSx (m_X1_goes l D cI a f g n b len kd sg nb pt j (by omega) (by omega)) (cwV 1 hts gX1_property_X1_goes rfl rfl rfl (by decide +kernel) ⟨Nat.le_of_ble_eq_true rfl, Nat.le_of_ble_eq_true rfl⟩) hP hK 0 rfl rfl rfl rfl hl.1 rfl (Nat.le_of_ble_eq_true rfl) dX1_property_40 ⟨Nat.zero_le _, Nat.zero_le _⟩ ?_
      refine xc_R (As := [.int (jI (j : Int)), .int (jI (s_X1_goes f j))]) (rest := []) hSx (m_X1_hoursToRunDown l D cI a f g n b len kd sg nb pt j (s_X1_goes f j) (by omega) (by omega) (by omega) (b01 (b_X1_goes f j))) (cwV 2 hts gX1_property_X1_hoursToRunDown rfl rfl rfl (by decide +kernel) ⟨Nat.le_of_ble_eq_true rfl, Nat.le_of_ble_eq_true rfl⟩) hP hK 0 rfl rfl rfl rfl hl.1 rfl (Nat.le_of_ble_eq_true rfl) dX1_property_43 ⟨Nat.zero_le _, Nat.zero_le _⟩ ?_
      subst hz
      exact xr_i hx hb hr hlocks rfl dX1_property_46
  · rw [if_pos c2] at hz
    refine lv_aload_n hx hb dX1_property_5 rfl (lv_at hl 0 rfl) ?_
    refine va_get (D := D) (ci := 1) (v := .ref (a 1)) (C := RX1) (T := TX1) (N := 6) hx hb hts inRX1 hown hK hP 0 rfl rfl 0 (by decide) qf9 (fun _ h9 => h9) rfl dX1_property_6 ?_
    refine lv_iload_n hx hb dX1_property_9 rfl (lv_at hl 1 rfl) ?_
    refine lv_iconst (v := jI 3) hx hb dX1_property_10 rfl ?_
    refine xc_P (As := [.int (jI (j : Int)), .int (jI 3)]) (rest := [.ref (a 1)]) hSx (m_X1_place l (j : Int) 3 ) (va_cwS 2 hts gX1_property_X1_place rfl rfl rfl (by decide +kernel) ⟨Nat.le_of_ble_eq_true rfl, Nat.le_of_ble_eq_true rfl⟩) rfl hl.1 rfl (Nat.le_of_ble_eq_true rfl) dX1_property_11 ⟨Nat.zero_le _, Nat.zero_le _⟩ ?_
    refine x_iald hx hb hK hP 1 0 rfl rfl ((21 + (j * 4)) + 3) (by omega) (by omega) (by decide) dX1_property_14 ?_
    refine lv_aload_n hx hb dX1_property_15 rfl (lv_at hl 0 rfl) ?_
    refine va_get (D := D) (ci := 1) (v := .ref (a 1)) (C := RX1) (T := TX1) (N := 6) hx hb hts inRX1 hown hK hP 0 rfl rfl 0 (by decide) qf9 (fun _ h9 => h9) rfl dX1_property_16 ?_
    refine lv_bipush (v := jI 13) hx hb dX1_property_19 (by decide) ?_
    refine x_iald hx hb hK hP 1 0 rfl rfl 13 rfl (by decide) (by decide) dX1_property_21 ?_
    refine x_icmp_lt (tgt := 29) hx hb dX1_property_22 (by decide) ⟨(hrf _), (hrf _)⟩ (fun c22 => ?_) (fun c22 => ?_)
    · rw [if_pos c22] at hz
      refine lv_iconst (v := jI 0) hx hb dX1_property_29 rfl ?_
      subst hz
      exact xr_i hx hb hr hlocks rfl dX1_property_30
    · rw [if_neg c22] at hz
      refine lv_iconst (v := jI 1) hx hb dX1_property_25 rfl ?_
      refine lv_goto (tgt := 30) hx hb dX1_property_26 (by decide) ?_
      subst hz
      exact xr_i hx hb hr hlocks rfl dX1_property_30
def s_X1_number (f : Nat → Int) (n : Nat) (x1 : Nat) : Int := if (x1 : Int) = 0 then (f 0) else (if (x1 : Int) = 1 then (((f 0) / 24) % 7) else (if (x1 : Int) = 2 then ((f 0) % 24) else (if (x1 : Int) = 3 then (f 1) else (if (x1 : Int) = 4 then (s_X1_hoursToOpening f) else (if (x1 : Int) = 5 then (f 2) else (if (x1 : Int) = 6 then (f 3) else (if (x1 : Int) = 7 then (if ((f 4) - (f 0)) < 0 then 0 else ((f 4) - (f 0))) else (if (x1 : Int) = 8 then (f 5) else (if (x1 : Int) = 9 then (f 6) else (if (x1 : Int) = 10 then (f 7) else (if (x1 : Int) = 11 then (f 8) else (if (x1 : Int) = 12 then (f 9) else (if (x1 : Int) = 13 then (f 10) else ((n : Int)))))))))))))))
abbrev rm_X1_number : Room := { frames := 2, cells := 0, slots := 0, locals := 60 }
set_option maxHeartbeats 4000000 in
set_option maxRecDepth 100000 in
theorem m_X1_number (l : Launch) (D : va_G) (cI : ClassId) (a : Nat → Nat) (f : Nat → Int) (g : Nat → Int) (n : Nat) (b : Nat → Int) (len : Nat) (kd : Nat → Int) (sg : Nat → Int) (nb : Nat → Int) (pt : Nat) (x1 : Nat) (hx1 : x1 ≤ 14) (hrf : rng f) (hh : 0 ≤ f 0 ∧ f 0 ≤ 99999) (hd : ∀ k : Nat, 14 ≤ k → k < 21 → -1 ≤ f k ∧ f k ≤ 23) (hw : 0 ≤ f 4 ∧ f 4 ≤ 100100) : MetR l yX1_number wsX1_number rm_X1_number D cI [.ref (a 0), .int (jI (x1 : Int))] (w1 cI a f g n b len kd sg nb pt) (s_X1_number f n x1) := by
  refine xe_R (cc := cX1_number) (maxL := 2) (ret := (some .int)) (by decide) rfl (Nat.le_of_ble_eq_true rfl) ?_
  intro p e s m below meth c hx hb hr hml hts hown hlocks hP hK ls hl
  have hl : lv_has ls 2 [(0, .ref (a 0)), (1, .int (jI (x1 : Int)))] := hl
  have hown : s.vm.findClass RX1 = some m.cls := hown
  have hSx : CallFix p m c cX1_number 2 s ([.ref (a 0), .int (jI (x1 : Int))] : List Value).toArray wsX1_number RX1 := ⟨hx, hb, hml, hown, hts⟩
  have inRX1 : ∀ w ∈ u_ws RX1 TX1 6, w ∈ wsX1_number := by decide +kernel
  have qf16 := hts (.fieldLink RX1 16 "VaultMovements" "savedStates" "I") (by decide +kernel)
  have qf9 := hts (.fieldLink RX1 9 "VaultMovements" "now" "[I") (by decide +kernel)
  obtain ⟨z, hz⟩ : ∃ z, z = (s_X1_number f n x1) := ⟨_, rfl⟩
  rw [← hz]
  unfold s_X1_number at hz
  refine lv_iload_n hx hb dX1_number_0 rfl (lv_at hl 1 rfl) ?_
  refine lv_topi (fun y9 ey9 => ?_)
  by_cases e0 : (x1 : Int) = 0
  · rw [if_pos e0] at hz
    obtain rfl : y9 = jI 0 := ey9.trans (congrArg jI e0)
    refine lv_tableIn (off := 71) (tgt := 72) hx hb dX1_number_1 (by decide) (by decide) (by decide) (by decide) ?_
    refine lv_aload_n hx hb dX1_number_72 rfl (lv_at hl 0 rfl) ?_
    refine va_get (D := D) (ci := 1) (v := .ref (a 1)) (C := RX1) (T := TX1) (N := 6) hx hb hts inRX1 hown hK hP 0 rfl rfl 0 (by decide) qf9 (fun _ h9 => h9) rfl dX1_number_73 ?_
    refine lv_iconst (v := jI 0) hx hb dX1_number_76 rfl ?_
    refine x_iald hx hb hK hP 1 0 rfl rfl 0 rfl (by decide) (by decide) dX1_number_77 ?_
    subst hz
    exact xr_i hx hb hr hlocks rfl dX1_number_78
  rw [if_neg e0] at hz
  by_cases e1 : (x1 : Int) = 1
  · rw [if_pos e1] at hz
    obtain rfl : y9 = jI 1 := ey9.trans (congrArg jI e1)
    refine lv_tableIn (off := 78) (tgt := 79) hx hb dX1_number_1 (by decide) (by decide) (by decide) (by decide) ?_
    refine lv_aload_n hx hb dX1_number_79 rfl (lv_at hl 0 rfl) ?_
    refine xc_R (As := []) (rest := []) hSx (m_X1_today l D cI a f g n b len kd sg nb pt  (by omega)) (cwV 0 hts gX1_number_X1_today rfl rfl rfl (by decide +kernel) ⟨Nat.le_of_ble_eq_true rfl, Nat.le_of_ble_eq_true rfl⟩) hP hK 0 rfl rfl rfl rfl hl.1 rfl (Nat.le_of_ble_eq_true rfl) dX1_number_80 ⟨Nat.zero_le _, Nat.zero_le _⟩ ?_
    subst hz
    exact xr_i hx hb hr hlocks rfl dX1_number_83
  rw [if_neg e1] at hz
  by_cases e2 : (x1 : Int) = 2
  · rw [if_pos e2] at hz
    obtain rfl : y9 = jI 2 := ey9.trans (congrArg jI e2)
    refine lv_tableIn (off := 83) (tgt := 84) hx hb dX1_number_1 (by decide) (by decide) (by decide) (by decide) ?_
    refine lv_aload_n hx hb dX1_number_84 rfl (lv_at hl 0 rfl) ?_
    refine xc_R (As := []) (rest := []) hSx (m_X1_timeOfDay l D cI a f g n b len kd sg nb pt  (by omega)) (cwV 0 hts gX1_number_X1_timeOfDay rfl rfl rfl (by decide +kernel) ⟨Nat.le_of_ble_eq_true rfl, Nat.le_of_ble_eq_true rfl⟩) hP hK 0 rfl rfl rfl rfl hl.1 rfl (Nat.le_of_ble_eq_true rfl) dX1_number_85 ⟨Nat.zero_le _, Nat.zero_le _⟩ ?_
    subst hz
    exact xr_i hx hb hr hlocks rfl dX1_number_88
  rw [if_neg e2] at hz
  by_cases e3 : (x1 : Int) = 3
  · rw [if_pos e3] at hz
    obtain rfl : y9 = jI 3 := ey9.trans (congrArg jI e3)
    refine lv_tableIn (off := 88) (tgt := 89) hx hb dX1_number_1 (by decide) (by decide) (by decide) (by decide) ?_
    refine lv_aload_n hx hb dX1_number_89 rfl (lv_at hl 0 rfl) ?_
    refine va_get (D := D) (ci := 1) (v := .ref (a 1)) (C := RX1) (T := TX1) (N := 6) hx hb hts inRX1 hown hK hP 0 rfl rfl 0 (by decide) qf9 (fun _ h9 => h9) rfl dX1_number_90 ?_
    refine lv_iconst (v := jI 1) hx hb dX1_number_93 rfl ?_
    refine x_iald hx hb hK hP 1 0 rfl rfl 1 rfl (by decide) (by decide) dX1_number_94 ?_
    subst hz
    exact xr_i hx hb hr hlocks rfl dX1_number_95
  rw [if_neg e3] at hz
  by_cases e4 : (x1 : Int) = 4
  · rw [if_pos e4] at hz
    obtain rfl : y9 = jI 4 := ey9.trans (congrArg jI e4)
    refine lv_tableIn (off := 95) (tgt := 96) hx hb dX1_number_1 (by decide) (by decide) (by decide) (by decide) ?_
    refine lv_aload_n hx hb dX1_number_96 rfl (lv_at hl 0 rfl) ?_
    refine xc_R (As := []) (rest := []) hSx (m_X1_hoursToOpening l D cI a f g n b len kd sg nb pt  (by omega) (by omega) (by omega)) (cwV 0 hts gX1_number_X1_hoursToOpening rfl rfl rfl (by decide +kernel) ⟨Nat.le_of_ble_eq_true rfl, Nat.le_of_ble_eq_true rfl⟩) hP hK 0 rfl rfl rfl rfl hl.1 rfl (Nat.le_of_ble_eq_true rfl) dX1_number_97 ⟨Nat.zero_le _, Nat.zero_le _⟩ ?_
    subst hz
    exact xr_i hx hb hr hlocks rfl dX1_number_100
  rw [if_neg e4] at hz
  by_cases e5 : (x1 : Int) = 5
  · rw [if_pos e5] at hz
    obtain rfl : y9 = jI 5 := ey9.trans (congrArg jI e5)
    refine lv_tableIn (off := 100) (tgt := 101) hx hb dX1_number_1 (by decide) (by decide) (by decide) (by decide) ?_
    refine lv_aload_n hx hb dX1_number_101 rfl (lv_at hl 0 rfl) ?_
    refine va_get (D := D) (ci := 1) (v := .ref (a 1)) (C := RX1) (T := TX1) (N := 6) hx hb hts inRX1 hown hK hP 0 rfl rfl 0 (by decide) qf9 (fun _ h9 => h9) rfl dX1_number_102 ?_
    refine lv_iconst (v := jI 2) hx hb dX1_number_105 rfl ?_
    refine x_iald hx hb hK hP 1 0 rfl rfl 2 rfl (by decide) (by decide) dX1_number_106 ?_
    subst hz
    exact xr_i hx hb hr hlocks rfl dX1_number_107
  rw [if_neg e5] at hz
  by_cases e6 : (x1 : Int) = 6
  · rw [if_pos e6] at hz
    obtain rfl : y9 = jI 6 := ey9.trans (congrArg jI e6)
    refine lv_tableIn (off := 107) (tgt := 108) hx hb dX1_number_1 (by decide) (by decide) (by decide) (by decide) ?_
    refine lv_aload_n hx hb dX1_number_108 rfl (lv_at hl 0 rfl) ?_
    refine va_get (D := D) (ci := 1) (v := .ref (a 1)) (C := RX1) (T := TX1) (N := 6) hx hb hts inRX1 hown hK hP 0 rfl rfl 0 (by decide) qf9 (fun _ h9 => h9) rfl dX1_number_109 ?_
    refine lv_iconst (v := jI 3) hx hb dX1_number_112 rfl ?_
    refine x_iald hx hb hK hP 1 0 rfl rfl 3 rfl (by decide) (by decide) dX1_number_113 ?_
    subst hz
    exact xr_i hx hb hr hlocks rfl dX1_number_114
  rw [if_neg e6] at hz
  by_cases e7 : (x1 : Int) = 7
  · rw [if_pos e7] at hz
    obtain rfl : y9 = jI 7 := ey9.trans (congrArg jI e7)
    refine lv_tableIn (off := 114) (tgt := 115) hx hb dX1_number_1 (by decide) (by decide) (by decide) (by decide) ?_
    refine lv_aload_n hx hb dX1_number_115 rfl (lv_at hl 0 rfl) ?_
    refine xc_R (As := []) (rest := []) hSx (m_X1_hoursToWait l D cI a f g n b len kd sg nb pt  (by omega) (by omega)) (cwV 0 hts gX1_number_X1_hoursToWait rfl rfl rfl (by decide +kernel) ⟨Nat.le_of_ble_eq_true rfl, Nat.le_of_ble_eq_true rfl⟩) hP hK 0 rfl rfl rfl rfl hl.1 rfl (Nat.le_of_ble_eq_true rfl) dX1_number_116 ⟨Nat.zero_le _, Nat.zero_le _⟩ ?_
    subst hz
    exact xr_i hx hb hr hlocks rfl dX1_number_119
  rw [if_neg e7] at hz
  by_cases e8 : (x1 : Int) = 8
  · rw [if_pos e8] at hz
    obtain rfl : y9 = jI 8 := ey9.trans (congrArg jI e8)
    refine lv_tableIn (off := 119) (tgt := 120) hx hb dX1_number_1 (by decide) (by decide) (by decide) (by decide) ?_
    refine lv_aload_n hx hb dX1_number_120 rfl (lv_at hl 0 rfl) ?_
    refine va_get (D := D) (ci := 1) (v := .ref (a 1)) (C := RX1) (T := TX1) (N := 6) hx hb hts inRX1 hown hK hP 0 rfl rfl 0 (by decide) qf9 (fun _ h9 => h9) rfl dX1_number_121 ?_
    refine lv_iconst (v := jI 5) hx hb dX1_number_124 rfl ?_
    refine x_iald hx hb hK hP 1 0 rfl rfl 5 rfl (by decide) (by decide) dX1_number_125 ?_
    subst hz
    exact xr_i hx hb hr hlocks rfl dX1_number_126
  rw [if_neg e8] at hz
  by_cases e9 : (x1 : Int) = 9
  · rw [if_pos e9] at hz
    obtain rfl : y9 = jI 9 := ey9.trans (congrArg jI e9)
    refine lv_tableIn (off := 126) (tgt := 127) hx hb dX1_number_1 (by decide) (by decide) (by decide) (by decide) ?_
    refine lv_aload_n hx hb dX1_number_127 rfl (lv_at hl 0 rfl) ?_
    refine va_get (D := D) (ci := 1) (v := .ref (a 1)) (C := RX1) (T := TX1) (N := 6) hx hb hts inRX1 hown hK hP 0 rfl rfl 0 (by decide) qf9 (fun _ h9 => h9) rfl dX1_number_128 ?_
    refine lv_bipush (v := jI 6) hx hb dX1_number_131 (by decide) ?_
    refine x_iald hx hb hK hP 1 0 rfl rfl 6 rfl (by decide) (by decide) dX1_number_133 ?_
    subst hz
    exact xr_i hx hb hr hlocks rfl dX1_number_134
  rw [if_neg e9] at hz
  by_cases e10 : (x1 : Int) = 10
  · rw [if_pos e10] at hz
    obtain rfl : y9 = jI 10 := ey9.trans (congrArg jI e10)
    refine lv_tableIn (off := 134) (tgt := 135) hx hb dX1_number_1 (by decide) (by decide) (by decide) (by decide) ?_
    refine lv_aload_n hx hb dX1_number_135 rfl (lv_at hl 0 rfl) ?_
    refine va_get (D := D) (ci := 1) (v := .ref (a 1)) (C := RX1) (T := TX1) (N := 6) hx hb hts inRX1 hown hK hP 0 rfl rfl 0 (by decide) qf9 (fun _ h9 => h9) rfl dX1_number_136 ?_
    refine lv_bipush (v := jI 7) hx hb dX1_number_139 (by decide) ?_
    refine x_iald hx hb hK hP 1 0 rfl rfl 7 rfl (by decide) (by decide) dX1_number_141 ?_
    subst hz
    exact xr_i hx hb hr hlocks rfl dX1_number_142
  rw [if_neg e10] at hz
  by_cases e11 : (x1 : Int) = 11
  · rw [if_pos e11] at hz
    obtain rfl : y9 = jI 11 := ey9.trans (congrArg jI e11)
    refine lv_tableIn (off := 142) (tgt := 143) hx hb dX1_number_1 (by decide) (by decide) (by decide) (by decide) ?_
    refine lv_aload_n hx hb dX1_number_143 rfl (lv_at hl 0 rfl) ?_
    refine va_get (D := D) (ci := 1) (v := .ref (a 1)) (C := RX1) (T := TX1) (N := 6) hx hb hts inRX1 hown hK hP 0 rfl rfl 0 (by decide) qf9 (fun _ h9 => h9) rfl dX1_number_144 ?_
    refine lv_bipush (v := jI 8) hx hb dX1_number_147 (by decide) ?_
    refine x_iald hx hb hK hP 1 0 rfl rfl 8 rfl (by decide) (by decide) dX1_number_149 ?_
    subst hz
    exact xr_i hx hb hr hlocks rfl dX1_number_150
  rw [if_neg e11] at hz
  by_cases e12 : (x1 : Int) = 12
  · rw [if_pos e12] at hz
    obtain rfl : y9 = jI 12 := ey9.trans (congrArg jI e12)
    refine lv_tableIn (off := 150) (tgt := 151) hx hb dX1_number_1 (by decide) (by decide) (by decide) (by decide) ?_
    refine lv_aload_n hx hb dX1_number_151 rfl (lv_at hl 0 rfl) ?_
    refine va_get (D := D) (ci := 1) (v := .ref (a 1)) (C := RX1) (T := TX1) (N := 6) hx hb hts inRX1 hown hK hP 0 rfl rfl 0 (by decide) qf9 (fun _ h9 => h9) rfl dX1_number_152 ?_
    refine lv_bipush (v := jI 9) hx hb dX1_number_155 (by decide) ?_
    refine x_iald hx hb hK hP 1 0 rfl rfl 9 rfl (by decide) (by decide) dX1_number_157 ?_
    subst hz
    exact xr_i hx hb hr hlocks rfl dX1_number_158
  rw [if_neg e12] at hz
  by_cases e13 : (x1 : Int) = 13
  · rw [if_pos e13] at hz
    obtain rfl : y9 = jI 13 := ey9.trans (congrArg jI e13)
    refine lv_tableIn (off := 158) (tgt := 159) hx hb dX1_number_1 (by decide) (by decide) (by decide) (by decide) ?_
    refine lv_aload_n hx hb dX1_number_159 rfl (lv_at hl 0 rfl) ?_
    refine va_get (D := D) (ci := 1) (v := .ref (a 1)) (C := RX1) (T := TX1) (N := 6) hx hb hts inRX1 hown hK hP 0 rfl rfl 0 (by decide) qf9 (fun _ h9 => h9) rfl dX1_number_160 ?_
    refine lv_bipush (v := jI 10) hx hb dX1_number_163 (by decide) ?_
    refine x_iald hx hb hK hP 1 0 rfl rfl 10 rfl (by decide) (by decide) dX1_number_165 ?_
    subst hz
    exact xr_i hx hb hr hlocks rfl dX1_number_166
  rw [if_neg e13] at hz
  obtain rfl : y9 = jI 14 := ey9.trans (congrArg jI (by omega))
  refine lv_tableOut (tgt := 167) hx hb dX1_number_1 (by decide) (by decide) ?_
  refine lv_aload_n hx hb dX1_number_167 rfl (lv_at hl 0 rfl) ?_
  refine va_get (D := D) (ci := 1) (v := .int (jI (n : Int))) (C := RX1) (T := TX1) (N := 6) hx hb hts inRX1 hown hK hP 0 rfl rfl 2 (by decide) qf16 (fun _ h9 => h9) rfl dX1_number_168 ?_
  subst hz
  exact xr_i hx hb hr hlocks rfl dX1_number_171
abbrev rm_X1_canWindAll : Room := { frames := 2, cells := 0, slots := 0, locals := 42 }
abbrev rm_X1_readBuffer : Room := { frames := 3, cells := 0, slots := 0, locals := 61 }
end
section
/-! methods that throw, and what they need of the tables -/
def xI : String := "java/lang/IndexOutOfBoundsException"
def xA : String := "java/lang/IllegalArgumentException"
def xS : String := "java/lang/IllegalStateException"
def xN : List String := ["java/lang/RuntimeException", "java/lang/Exception"]
/-- the exception of a code: 1 a place, 2 an argument, else a state -/
def xex (c : Int) : String := if c = 1 then xI else if c = 2 then xA else xS
def xB : List Cond := [.castable xI xI, .castable xA xA, .castable xS xS, .declares (Bundle.initS "java/lang/RuntimeException"), .declares (Bundle.initS "java/lang/Exception"), .declares (Bundle.initS Bundle.tN)]
def xtexts : List (Nat × String) := [(42, "no such day"), (49, "the time is out of range"), (59, "no such setting"), (67, "the value is out of range"), (72, "no such movement"), (77, "the hours are out of range"), (88, "the door is locked, or the movement is stopped"), (94, "the loss is out of range"), (96, "the door is locked"), (101, "the door is locked, or no movement would run"), (110, "the door is open"), (130, "the hour would be too late"), (138, "no such character"), (140, "the buffer is full"), (148, "the buffer holds no complete windings"), (153, "the door is locked, or a movement cannot be wound so"), (161, "no state is saved"), (169, "no such property"), (174, "no such number")]
def xleast (k : Nat) : Int := if k = 0 then 1 else if k = 1 then 1 else 10
def xmost (k : Nat) : Int := if k = 0 then 9 else if k = 1 then 24 else 5000
theorem xface {args args' : Array Value} {s U : State} {c : Cond} (hW : s.WarmedH U.vm) (hc : c.onTables = true) (hk : c.keepsFace = true) (h : c.before args s = true) : c.before args' U = true := by
  have h1 : c.before args' (U.setVm U.vm) = true := by
    rw [Cond.onTables_vm (A' := args) (U' := s) U.vm c hc]
    exact Cond.before_shiftedFace (State.Shifted.of_warmed hW) c hk h
  rwa [State.setVm_self] at h1
theorem xB_face : ∀ w ∈ xB, w.onTables = true ∧ w.keepsFace = true := by decide +kernel
def xenv (A : Nat → Prop) (U : State) : Prop :=
  vx_Zq Bundle.tN "UNASSIGNED_STACK" Bundle.steD A U U.heap ∧ vx_Zq Bundle.tN "SUPPRESSED_SENTINEL" Bundle.listD A U U.heap ∧ (∀ q ∈ xtexts, ∃ sa, vk_R RX1 q.1 q.2 sa U) ∧ (∀ w ∈ xB, w.before #[] U = true) ∧ (va_Nc xA xI U ∧ va_Nc xS xI U ∧ va_Nc xS xA U) ∧
  (∃ t : Nat, va_Z "VaultMovements" "SETTING_LEAST" "[I" (.ref t) A U U.heap ∧ va_T .int t 3 (fun j => .int (jI (xleast j))) A U U.heap) ∧ (∃ t : Nat, va_Z "VaultMovements" "SETTING_MOST" "[I" (.ref t) A U U.heap ∧ va_T .int t 3 (fun j => .int (jI (xmost j))) A U U.heap)
theorem xenv.to {A B : Nat → Prop} {s U : State} {H : Heap} {locs : List Loc} (h : xenv A s) (hS : va_S A s.heap H locs) (hU : U.heap = H) (hW : s.WarmedH U.vm) (hB : ∀ q, B q → A q) : xenv B U := by
  obtain ⟨h1, h2, h3, h4, ⟨h5, h6, h7⟩, ⟨t, h8, h9⟩, ⟨t2, h10, h11⟩⟩ := h
  subst hU
  exact ⟨((h1.kept hS.2.1).narrow hB).moved hW.alike, ((h2.kept hS.2.1).narrow hB).moved hW.alike, fun q hq => by obtain ⟨sa, h⟩ := h3 q hq; exact ⟨sa, vk_R.warm hW h⟩,
    fun w hw => xface hW (xB_face w hw).1 (xB_face w hw).2 (h4 w hw), ⟨h5.moved hW.alike, h6.moved hW.alike, h7.moved hW.alike⟩,
    ⟨t, ((h8.kept hS.2.1).narrow hB).moved hW.alike, ((h9.kept hS.2.1).narrow hB).moved hW.alike⟩, ⟨t2, ((h10.kept hS.2.1).narrow hB).moved hW.alike, ((h11.kept hS.2.1).narrow hB).moved hW.alike⟩⟩
abbrev xq_T (D : va_G) (cI : ClassId) (av : List Value) (w : va_W) (sz : Nat) : Array Value → State → Prop := va_Pc av (fun U => U.heap.size = sz ∧ va_P D vwCl w U.heap ∧ va_K D vwCl [(cI, .int)] U ∧ va_D (fun _ => True) w ∧ xenv (va_A w sz) U)
theorem xq_Tbl {D : va_G} {cI : ClassId} {av : List Value} {w : va_W} {sz : Nat} : FrameBlind (xq_T D cI av w sz) := fun a U g mk q => ⟨q.1, q.2.1, q.2.2.1, va_K.moved (u := U) (U := U.calling g mk a) (Vm.Alike.refl U.vm) q.2.2.2.1, q.2.2.2.2.1, xenv.to (s := U) (U := U.calling g mk a) (locs := []) q.2.2.2.2.2 va_S.rf rfl (State.WarmedH.refl U) (fun _ h => h)⟩
/-- writes the world, answers an int, or throws the exception of the code -/
def MetT (l : Launch) (y : MethodName) (ws : List Cond) (rm : Room) (D : va_G) (cI : ClassId) (av : List Value) (w w1 : va_W) (code r : Int) : Prop := ∀ sz : Nat, vx_Met l y ws rm (xq_T D cI av w sz) (va_Qi (fun x (_ : Unit) => code = 0 ∧ x = jI r) (xq_B D cI (va_A w sz) w1) (va_A w sz)) (vx_X (fun (_ : Unit) => code ≠ 0) (fun E _ t => E = xex code ∧ xq_B D cI (va_A w sz) w1 () t) (va_A w sz)) 1 6 (va_A w sz)
section XTE
variable {l : Launch} {y : MethodName} {ws ws' : List Cond} {rm : Room} {D : va_G} {cI : ClassId} {av : List Value} {w w1 : va_W} {code r : Int} {cc : ByteArray} {maxL : Nat} {ret : Option FieldType}
theorem xe_T (hy : plainName y.cls = true) (hw : ws = Cond.code y cc maxL ret :: ws') (hlen : (lg_sl av).length ≤ maxL)
    (body : ∀ (p : Program) (e : Env) (s : State) (m : MethodId) (below : List Frame) (meth : Method) (c : Code), p.tables.exec = Jvm.exec → c.code = cc → meth.sig.returnType = ret → c.maxLocals = maxL → (∀ z ∈ ws, z.before av.toArray s = true) → s.vm.findClass y.cls = some m.cls → meth.locks = false → (∀ x ∈ c.exceptionTable.toList, False) →
      va_P D vwCl w s.heap → va_K D vwCl [(cI, .int)] s → ∀ A : Nat → Prop, (∀ q, s.heap.size ≤ q → A q) → va_D A w → va_S A s.heap s.heap [] → xenv A s → ∀ ls : Array Slot, lv_has ls maxL (lv_args 0 av) →
      W p l e rm s m av.toArray below meth c s.heap [] 0 0 (vx_MQ below (va_Qi (fun x (_ : Unit) => code = 0 ∧ x = jI r) (xq_B D cI A w1) A) (vx_X (fun (_ : Unit) => code ≠ 0) (fun E _ t => E = xex code ∧ xq_B D cI A w1 () t) A) av.toArray s 1 6 A) (F0 m 0 ls [])) : MetT l y ws rm D cI av w w1 code r := by
  intro sz
  refine vx_ofW hy hw ?_
  intro p e s m args below meth c s₁ B hml hex hv
  obtain ⟨rfl, hsz, hP, hK, hD0, hE⟩ := hv
  subst hsz
  have hl := lv_entry av (n := maxL) hlen
  rw [lg_entry_eq]
  exact body p e s m below meth c B.exec B.bytes B.returns hml (atoms_spec (ws := ws) B.pre) (findClass_of_methodNamed B.named) B.notSynchronized hex hP hK (va_A w s.heap.size) (fun q h => Or.inr h) hD0.self va_S.rf hE _ hl
end XTE
section XTW
variable {p : Program} {l : Launch} {e : Env} {R : Room} {s : State} {m : MethodId} {args : Array Value} {below : List Frame} {meth : Method} {c : Code} {H : Heap} {locs : List Loc} {cells slots : Nat} {Q : State → Prop}
variable {cc : ByteArray} {pc : Nat} {ls : Array Slot} {rest st0 : List Value} {D : va_G} {cI : ClassId} {A : Nat → Prop} {w w1 w2 : va_W} {tys : List (ClassId × FieldType)}
variable {y : MethodName} {bytes : ByteArray} {maxL nL n index : Nat} {ret : Option FieldType} {ws : List Cond} {rm : Room} {Ts : List Cond} {own C : String} {b : Addr} {As : List Value} {code r : Int}
/-- a normal end -/
theorem xt_i {v : Int} (hx : p.tables.exec = Jvm.exec) (hb : c.code = cc) (hr : meth.sig.returnType = some .int) (hlocks : meth.locks = false) (hK : va_K D vwCl [(cI, .int)] s) (hP : va_P D vwCl w H) (hD : va_D A w) (hS : va_S A s.heap H locs) (hc : cells ≤ 1) (hs : slots ≤ 6) (h0 : code = 0) (h : v = r) (hw : w = w1) (hdg : decode cc pc = .ok (.ireturn, 1)) : W p l e R s m args below meth c H locs cells slots (vx_MQ below (va_Qi (fun x (_ : Unit) => code = 0 ∧ x = jI r) (xq_B D cI A w1) A) (vx_X (fun (_ : Unit) => code ≠ 0) (fun E _ t => E = xex code ∧ xq_B D cI A w1 () t) A) args s 1 6 A) (F0 m pc ls [.int (jI v)]) := by
  subst hw
  exact vx_ret (W.widen hc hs (W.iret hx hb hr (fun t ht hW => ⟨⟨_, (), rfl, ⟨h0, congrArg jI h⟩, by rw [ht]; exact hP, va_K.moved hW.alike hK, hD⟩, hS.F ht⟩) hS.2.2 hdg hlocks))
/-- new E(text), thrown -/
theorem xt_throw (hx : p.tables.exec = Jvm.exec) (hb : c.code = cc) (hlt : l.stackTraces = false) {cls text : String} {ik is ic : Nat} (hown : s.vm.findClass RX1 = some m.cls) (hcls : Bundle.fit cls = true)
    (hk : (Cond.classLink RX1 ik cls).before args s = true) (hini : (Cond.initialized cls).before args s = true) (htx : (is, text) ∈ xtexts) (hat : ∀ w ∈ (vx_atS RX1 ic cls xN).filter goodWord, w.before args s = true) (hng : ∀ w ∈ (vx_atS RX1 ic cls xN).filter (fun w => !goodWord w), w ∈ xB)
    (hgood : ∀ w ∈ Cond.classLink RX1 ik cls :: Cond.initialized cls :: vx_atS RX1 ic cls xN, vx_ot w = true) (hE : xenv A s) (hA : ∀ q, s.heap.size ≤ q → A q) (hsize : ls.size = c.maxLocals)
    (d0 : decode cc pc = .ok (.new ik, 3)) (d3 : decode cc (pc + 3) = .ok (.dup, 1)) (d4 : decode cc (pc + 4) = .ok (.ldc is, 2)) (d6 : decode cc (pc + 6) = .ok (.invokespecial ic, 3)) (d9 : decode cc (pc + 9) = .ok (.athrow, 1))
    (hex : ∀ x ∈ c.exceptionTable.toList, False) (hRf : 5 < R.frames) (hRl : (rest.map fun v => v.category).sum + 82 ≤ R.locals) (hRc : cells + 1 ≤ R.cells) (hRs : slots + 6 ≤ R.slots) (hlocks : meth.locks = false)
    (hK : va_K D vwCl [(cI, .int)] s) (hP : va_P D vwCl w H) (hD : va_D A w) (hS : va_S A s.heap H locs) (hc : cells = 0) (hs : slots = 0) (h0 : code ≠ 0) (hcd : cls = xex code) (hw : w = w1) :
    W p l e R s m args below meth c H locs cells slots (vx_MQ below (va_Qi (fun x (_ : Unit) => code = 0 ∧ x = jI r) (xq_B D cI A w1) A) (vx_X (fun (_ : Unit) => code ≠ 0) (fun E _ t => E = xex code ∧ xq_B D cI A w1 () t) A) args s 1 6 A) (F0 m pc ls rest) := by
  subst hw
  obtain ⟨sa, hstr⟩ := hE.2.2.1 _ htx
  refine vx_throwS (A := A) (names := xN) (text := text) hx hb hlt hown hcls (by decide) hk hini hstr (vx_hat hat hng (fun w hw => ?_)) hgood hE.1 hE.2.1 hS hsize d0 d3 d4 d6 d9 (fun x h => (hex x h).elim) hRf hRl hRc hRs hlocks (fun t hvm h1 h2 => ⟨(), h0, ⟨hcd, ?_, va_K.moved hvm hK, hD⟩, ?_⟩) hS.2.2 (by omega) (by omega)
  · exact xface (State.WarmedH.refl s) (xB_face w hw).1 (xB_face w hw).2 (hE.2.2.2.1 w hw)
  · exact hP.kept (fun k q hq => h2 q.1 ((hP k q hq).lt))
  · exact ⟨Nat.le_trans hS.1 h1, fun q hq hnA => (h2 q (Nat.lt_of_lt_of_le hq hS.1)).trans (hS.2.1 q hq hnA)⟩
end XTW
theorem xng_I : ∀ w ∈ (vx_atS RX1 44 xI xN).filter (fun w => !goodWord w), w ∈ xB := by decide +kernel
theorem xng_A : ∀ w ∈ (vx_atS RX1 51 xA xN).filter (fun w => !goodWord w), w ∈ xB := by decide +kernel
theorem xng_S : ∀ w ∈ (vx_atS RX1 90 xS xN).filter (fun w => !goodWord w), w ∈ xB := by decide +kernel
theorem xgd_I : ∀ w ∈ Cond.classLink RX1 40 xI :: Cond.initialized xI :: vx_atS RX1 44 xI xN, vx_ot w = true := by decide +kernel
theorem xgd_A : ∀ w ∈ Cond.classLink RX1 47 xA :: Cond.initialized xA :: vx_atS RX1 51 xA xN, vx_ot w = true := by decide +kernel
theorem xgd_S : ∀ w ∈ Cond.classLink RX1 86 xS :: Cond.initialized xS :: vx_atS RX1 90 xS xN, vx_ot w = true := by decide +kernel
theorem rng_upz {F : Nat → Int} {k : Nat} {v : Int} (h : rng F) (hv : -2147483648 ≤ v ∧ v < 2147483648) : rng (upz F k v) := fun j => by
  unfold upz
  split
  · exact hv
  · exact h j
end
section
def s_X1_save (f : Nat → Int) (g : Nat → Int) (n : Nat) : (Nat → Int) × Nat := if (n : Int) < 6 then ((va_cpy f g 0 (n * 33) 33), (n + 1)) else ((va_cpy f (va_cpy g g 33 0 165) 0 (5 * 33) 33), (5 + 1))
abbrev rm_X1_save : Room := { frames := 1, cells := 0, slots := 0, locals := 60 }
set_option maxHeartbeats 4000000 in
set_option maxRecDepth 100000 in
theorem m_X1_save (l : Launch) (D : va_G) (cI : ClassId) (a : Nat → Nat) (f : Nat → Int) (g : Nat → Int) (n : Nat) (b : Nat → Int) (len : Nat) (kd : Nat → Int) (sg : Nat → Int) (nb : Nat → Int) (pt : Nat) (hn : n ≤ 6) : MetV l yX1_save wsX1_save rm_X1_save D cI [.ref (a 0)] (w1 cI a f g n b len kd sg nb pt) (w1 cI a f ((s_X1_save f g n).1) ((s_X1_save f g n).2) b len kd sg nb pt) := by
  refine xe_V (cc := cX1_save) (maxL := 1) (ret := none) (by decide) rfl (Nat.le_of_ble_eq_true rfl) ?_
  intro p e s m below meth c hx hb hr hml hts hown hlocks hP hK A hA hD hS ls hl
  have hl : lv_has ls 1 [(0, .ref (a 0))] := hl
  have hown : s.vm.findClass RX1 = some m.cls := hown
  have hSx : CallFix p m c cX1_save 1 s ([.ref (a 0)] : List Value).toArray wsX1_save RX1 := ⟨hx, hb, hml, hown, hts⟩
  have inRX1 : ∀ w ∈ u_ws RX1 TX1 6, w ∈ wsX1_save := by decide +kernel
  have qf13 := hts (.fieldLink RX1 13 "VaultMovements" "saved" "[I") (by decide +kernel)
  have qf16 := hts (.fieldLink RX1 16 "VaultMovements" "savedStates" "I") (by decide +kernel)
  have qf9 := hts (.fieldLink RX1 9 "VaultMovements" "now" "[I") (by decide +kernel)
  have qm163 := hts (.methodLink RX1 163 arraycopyName) (by decide +kernel)
  have qmI := hts (.initialized "java/lang/System") (by decide +kernel)
  have qmN := hts (.native arraycopyName) (by decide +kernel)
  have qmS := hts (.static arraycopyName) (by decide +kernel)
  obtain ⟨z, hz⟩ : ∃ z, z = (s_X1_save f g n) := ⟨_, rfl⟩
  rw [← hz]
  unfold s_X1_save at hz
  refine lv_aload_n hx hb dX1_save_0 rfl (lv_at hl 0 rfl) ?_
  refine va_get (D := D) (ci := 1) (v := .int (jI (n : Int))) (C := RX1) (T := TX1) (N := 6) hx hb hts inRX1 hown hK hP 0 rfl rfl 2 (by decide) qf16 (fun _ h9 => h9) rfl dX1_save_1 ?_
  refine lv_bipush (v := jI 6) hx hb dX1_save_4 (by decide) ?_
  refine x_icmp_lt (tgt := 31) hx hb dX1_save_6 (by decide) ⟨(by omega), (by decide)⟩ (fun c6 => ?_) (fun c6 => ?_)
  · rw [if_pos c6] at hz
    refine lv_aload_n hx hb dX1_save_31 rfl (lv_at hl 0 rfl) ?_
    refine va_get (D := D) (ci := 1) (v := .ref (a 1)) (C := RX1) (T := TX1) (N := 6) hx hb hts inRX1 hown hK hP 0 rfl rfl 0 (by decide) qf9 (fun _ h9 => h9) rfl dX1_save_32 ?_
    refine lv_iconst (v := jI 0) hx hb dX1_save_35 rfl ?_
    refine lv_aload_n hx hb dX1_save_36 rfl (lv_at hl 0 rfl) ?_
    refine va_get (D := D) (ci := 1) (v := .ref (a 2)) (C := RX1) (T := TX1) (N := 6) hx hb hts inRX1 hown hK hP 0 rfl rfl 1 (by decide) qf13 (fun _ h9 => h9) rfl dX1_save_37 ?_
    refine lv_aload_n hx hb dX1_save_40 rfl (lv_at hl 0 rfl) ?_
    refine va_get (D := D) (ci := 1) (v := .int (jI (n : Int))) (C := RX1) (T := TX1) (N := 6) hx hb hts inRX1 hown hK hP 0 rfl rfl 2 (by decide) qf16 (fun _ h9 => h9) rfl dX1_save_41 ?_
    refine lv_bipush (v := jI 33) hx hb dX1_save_44 (by decide) ?_
    refine x_imul hx hb dX1_save_46 ?_
    refine lv_bipush (v := jI 33) hx hb dX1_save_47 (by decide) ?_
    refine x_copy (w1 := (w1 cI a f (va_cpy f g 0 (n * 33) 33) n b len kd sg nb pt)) hx hb (hml.trans hl.1.symm) hown qm163 qmN qmS qmI hK hP hD hS 1 2 0 rfl rfl rfl 0 (n * 33) 33 (by omega) (by omega) (by omega) (by omega) (by omega) (Nat.le_of_ble_eq_true rfl) (Nat.le_of_ble_eq_true rfl) dX1_save_49 rfl (fun H locs hP hD hS => ?_)
    refine lv_aload_n hx hb dX1_save_52 rfl (lv_at hl 0 rfl) ?_
    refine lv_dup hx hb dX1_save_53 rfl ?_
    refine va_get (D := D) (ci := 1) (v := .int (jI (n : Int))) (C := RX1) (T := TX1) (N := 6) hx hb hts inRX1 hown hK hP 0 rfl rfl 2 (by decide) qf16 (fun _ h9 => h9) rfl dX1_save_54 ?_
    refine lv_iconst (v := jI 1) hx hb dX1_save_57 rfl ?_
    refine x_iadd hx hb dX1_save_58 ?_
    refine va_put (D := D) (ci := 1) (v := .int (jI ((n : Int) + 1))) (ty := .int) (C := RX1) (T := TX1) (N := 6) hx hb hts inRX1 tyX1 tyX1_ok nmX1 hown hK hP hD hS 0 rfl rfl 2 (by decide) qf16 (fun _ h9 => h9) rfl (by decide +kernel) rfl rfl (Nat.le_of_ble_eq_true rfl) dX1_save_59 (fun H locs hP hD hS => ?_)
    have hP : va_P D vwCl (w1 cI a f (va_cpy f g 0 (n * 33) 33) (n + 1) b len kd sg nb pt) H := hP
    have hD : va_D A (w1 cI a f (va_cpy f g 0 (n * 33) 33) (n + 1) b len kd sg nb pt) := hD
    subst hz
    exact xi_v hx hb hr hlocks hK hP hD hS rfl dX1_save_62
  · rw [if_neg c6] at hz
    refine lv_aload_n hx hb dX1_save_9 rfl (lv_at hl 0 rfl) ?_
    refine va_get (D := D) (ci := 1) (v := .ref (a 2)) (C := RX1) (T := TX1) (N := 6) hx hb hts inRX1 hown hK hP 0 rfl rfl 1 (by decide) qf13 (fun _ h9 => h9) rfl dX1_save_10 ?_
    refine lv_bipush (v := jI 33) hx hb dX1_save_13 (by decide) ?_
    refine lv_aload_n hx hb dX1_save_15 rfl (lv_at hl 0 rfl) ?_
    refine va_get (D := D) (ci := 1) (v := .ref (a 2)) (C := RX1) (T := TX1) (N := 6) hx hb hts inRX1 hown hK hP 0 rfl rfl 1 (by decide) qf13 (fun _ h9 => h9) rfl dX1_save_16 ?_
    refine lv_iconst (v := jI 0) hx hb dX1_save_19 rfl ?_
    refine lv_sipush (v := jI 165) hx hb dX1_save_20 (by decide) ?_
    refine x_copy (w1 := (w1 cI a f (va_cpy g g 33 0 165) n b len kd sg nb pt)) hx hb (hml.trans hl.1.symm) hown qm163 qmN qmS qmI hK hP hD hS 2 2 0 rfl rfl rfl 33 0 165 (by omega) (by omega) (by omega) (by omega) (by omega) (Nat.le_of_ble_eq_true rfl) (Nat.le_of_ble_eq_true rfl) dX1_save_23 rfl (fun H locs hP hD hS => ?_)
    refine lv_aload_n hx hb dX1_save_26 rfl (lv_at hl 0 rfl) ?_
    refine lv_iconst (v := jI 5) hx hb dX1_save_27 rfl ?_
    refine va_put (D := D) (ci := 1) (v := .int (jI 5)) (ty := .int) (C := RX1) (T := TX1) (N := 6) hx hb hts inRX1 tyX1 tyX1_ok nmX1 hown hK hP hD hS 0 rfl rfl 2 (by decide) qf16 (fun _ h9 => h9) rfl (by decide +kernel) rfl rfl (Nat.le_of_ble_eq_true rfl) dX1_save_28 (fun H locs hP hD hS => ?_)
    have hP : va_P D vwCl (w1 cI a f (va_cpy g g 33 0 165) 5 b len kd sg nb pt) H := hP
    have hD : va_D A (w1 cI a f (va_cpy g g 33 0 165) 5 b len kd sg nb pt) := hD
    refine lv_aload_n hx hb dX1_save_31 rfl (lv_at hl 0 rfl) ?_
    refine va_get (D := D) (ci := 1) (v := .ref (a 1)) (C := RX1) (T := TX1) (N := 6) hx hb hts inRX1 hown hK hP 0 rfl rfl 0 (by decide) qf9 (fun _ h9 => h9) rfl dX1_save_32 ?_
    refine lv_iconst (v := jI 0) hx hb dX1_save_35 rfl ?_
    refine lv_aload_n hx hb dX1_save_36 rfl (lv_at hl 0 rfl) ?_
    refine va_get (D := D) (ci := 1) (v := .ref (a 2)) (C := RX1) (T := TX1) (N := 6) hx hb hts inRX1 hown hK hP 0 rfl rfl 1 (by decide) qf13 (fun _ h9 => h9) rfl dX1_save_37 ?_
    refine lv_aload_n hx hb dX1_save_40 rfl (lv_at hl 0 rfl) ?_
    refine va_get (D := D) (ci := 1) (v := .int (jI 5)) (C := RX1) (T := TX1) (N := 6) hx hb hts inRX1 hown hK hP 0 rfl rfl 2 (by decide) qf16 (fun _ h9 => h9) rfl dX1_save_41 ?_
    refine lv_bipush (v := jI 33) hx hb dX1_save_44 (by decide) ?_
    refine x_imul hx hb dX1_save_46 ?_
    refine lv_bipush (v := jI 33) hx hb dX1_save_47 (by decide) ?_
    refine x_copy (w1 := (w1 cI a f (va_cpy f (va_cpy g g 33 0 165) 0 (5 * 33) 33) 5 b len kd sg nb pt)) hx hb (hml.trans hl.1.symm) hown qm163 qmN qmS qmI hK hP hD hS 1 2 0 rfl rfl rfl 0 (5 * 33) 33 (by omega) (by omega) (by omega) (by omega) (by omega) (Nat.le_of_ble_eq_true rfl) (Nat.le_of_ble_eq_true rfl) dX1_save_49 rfl (fun H locs hP hD hS => ?_)
    refine lv_aload_n hx hb dX1_save_52 rfl (lv_at hl 0 rfl) ?_
    refine lv_dup hx hb dX1_save_53 rfl ?_
    refine va_get (D := D) (ci := 1) (v := .int (jI 5)) (C := RX1) (T := TX1) (N := 6) hx hb hts inRX1 hown hK hP 0 rfl rfl 2 (by decide) qf16 (fun _ h9 => h9) rfl dX1_save_54 ?_
    refine lv_iconst (v := jI 1) hx hb dX1_save_57 rfl ?_
    refine x_iadd hx hb dX1_save_58 ?_
    refine va_put (D := D) (ci := 1) (v := .int (jI (5 + 1))) (ty := .int) (C := RX1) (T := TX1) (N := 6) hx hb hts inRX1 tyX1 tyX1_ok nmX1 hown hK hP hD hS 0 rfl rfl 2 (by decide) qf16 (fun _ h9 => h9) rfl (by decide +kernel) rfl rfl (Nat.le_of_ble_eq_true rfl) dX1_save_59 (fun H locs hP hD hS => ?_)
    have hP : va_P D vwCl (w1 cI a f (va_cpy f (va_cpy g g 33 0 165) 0 (5 * 33) 33) (5 + 1) b len kd sg nb pt) H := hP
    have hD : va_D A (w1 cI a f (va_cpy f (va_cpy g g 33 0 165) 0 (5 * 33) 33) (5 + 1) b len kd sg nb pt) := hD
    subst hz
    exact xi_v hx hb hr hlocks hK hP hD hS rfl dX1_save_62
theorem n_X1_save (f g : Nat → Int) (n : Nat) (h : n ≤ 6) : (s_X1_save f g n).2 ≤ 6 := by
  unfold s_X1_save
  split <;> (dsimp only; omega)
def s_X1_change (f : Nat → Int) (g : Nat → Int) (n : Nat) (p0 : Nat) (x2 : Int) : Int × (Nat → Int) × (Nat → Int) × Nat := ((f p0), (upz f p0 x2), (s_X1_save f g n).1, (s_X1_save f g n).2)
abbrev rm_X1_change : Room := { frames := 2, cells := 0, slots := 0, locals := 80 }
set_option maxHeartbeats 4000000 in
set_option maxRecDepth 100000 in
theorem m_X1_change (l : Launch) (D : va_G) (cI : ClassId) (a : Nat → Nat) (f : Nat → Int) (g : Nat → Int) (n : Nat) (b : Nat → Int) (len : Nat) (kd : Nat → Int) (sg : Nat → Int) (nb : Nat → Int) (pt : Nat) (p0 : Nat) (x2 : Int) (hn : n ≤ 6) (hp0 : p0 < 33) : MetI l yX1_change wsX1_change rm_X1_change D cI [.ref (a 0), .int (jI (p0 : Int)), .int (jI x2)] (w1 cI a f g n b len kd sg nb pt) (w1 cI a ((s_X1_change f g n p0 x2).2.1) ((s_X1_change f g n p0 x2).2.2.1) ((s_X1_change f g n p0 x2).2.2.2) b len kd sg nb pt) ((s_X1_change f g n p0 x2).1) := by
  refine xe_I (cc := cX1_change) (maxL := 4) (ret := (some .int)) (by decide) rfl (Nat.le_of_ble_eq_true rfl) ?_
  intro p e s m below meth c hx hb hr hml hts hown hlocks hP hK A hA hD hS ls hl
  have hl : lv_has ls 4 [(0, .ref (a 0)), (1, .int (jI (p0 : Int))), (2, .int (jI x2))] := hl
  have hown : s.vm.findClass RX1 = some m.cls := hown
  have hSx : CallFix p m c cX1_change 4 s ([.ref (a 0), .int (jI (p0 : Int)), .int (jI x2)] : List Value).toArray wsX1_change RX1 := ⟨hx, hb, hml, hown, hts⟩
  have inRX1 : ∀ w ∈ u_ws RX1 TX1 6, w ∈ wsX1_change := by decide +kernel
  have qf9 := hts (.fieldLink RX1 9 "VaultMovements" "now" "[I") (by decide +kernel)
  obtain ⟨z, hz⟩ : ∃ z, z = (s_X1_change f g n p0 x2) := ⟨_, rfl⟩
  rw [← hz]
  unfold s_X1_change at hz
  refine lv_aload_n hx hb dX1_change_0 rfl (lv_at hl 0 rfl) ?_
  refine xc_V (As := []) (rest := []) hSx (m_X1_save l D cI a f g n b len kd sg nb pt  (by omega)) (cwV 0 hts gX1_change_X1_save rfl rfl rfl (by decide +kernel) ⟨Nat.le_of_ble_eq_true rfl, Nat.le_of_ble_eq_true rfl⟩) hP hD hS hA hK 0 rfl rfl rfl rfl hl.1 rfl (Nat.le_of_ble_eq_true rfl) dX1_change_1 ⟨Nat.zero_le _, Nat.zero_le _⟩ (fun H locs hP hD hS => ?_)
  refine lv_aload_n hx hb dX1_change_4 rfl (lv_at hl 0 rfl) ?_
  refine va_get (D := D) (ci := 1) (v := .ref (a 1)) (C := RX1) (T := TX1) (N := 6) hx hb hts inRX1 hown hK hP 0 rfl rfl 0 (by decide) qf9 (fun _ h9 => h9) rfl dX1_change_5 ?_
  refine lv_iload_n hx hb dX1_change_8 rfl (lv_at hl 1 rfl) ?_
  refine x_iald hx hb hK hP 1 0 rfl rfl p0 (by omega) (by omega) (by decide) dX1_change_9 ?_
  refine lv_istore_n (lv' := [(3, .int (jI (f p0))), (0, .ref (a 0)), (1, .int (jI (p0 : Int))), (2, .int (jI x2))]) hx hb dX1_change_10 rfl hl (by decide) rfl (fun ls hl => ?_)
  refine lv_aload_n hx hb dX1_change_11 rfl (lv_at hl 1 rfl) ?_
  refine va_get (D := D) (ci := 1) (v := .ref (a 1)) (C := RX1) (T := TX1) (N := 6) hx hb hts inRX1 hown hK hP 0 rfl rfl 0 (by decide) qf9 (fun _ h9 => h9) rfl dX1_change_12 ?_
  refine lv_iload_n hx hb dX1_change_15 rfl (lv_at hl 2 rfl) ?_
  refine lv_iload_n hx hb dX1_change_16 rfl (lv_at hl 3 rfl) ?_
  refine x_iast (w1 := (w1 cI a (upz f p0 x2) ((s_X1_save f g n).1) ((s_X1_save f g n).2) b len kd sg nb pt)) hx hb hK hP hD hS 1 0 rfl rfl p0 (by omega) (by omega) (by decide) dX1_change_17 rfl (fun H locs hP hD hS => ?_)
  refine lv_iload_n hx hb dX1_change_18 rfl (lv_at hl 0 rfl) ?_
  subst hz
  exact xi_i hx hb hr hlocks hK hP hD hS rfl rfl dX1_change_19
def s_X1_runHour (f : Nat → Int) (j : Nat) : (Nat → Int) := if (s_X1_goes f j) = 0 then f else (if (f ((21 + (j * 4)) + 0)) = 0 then f else (if (s_X1_isLostHour ((f ((21 + (j * 4)) + 3)) + 1) (f ((21 + (j * 4)) + 2))) = 0 then (upz (upz f ((21 + (j * 4)) + 3) ((f ((21 + (j * 4)) + 3)) + 1)) ((21 + (j * 4)) + 0) ((f ((21 + (j * 4)) + 0)) - 1)) else (upz f ((21 + (j * 4)) + 3) ((f ((21 + (j * 4)) + 3)) + 1))))
abbrev rm_X1_runHour : Room := { frames := 2, cells := 0, slots := 0, locals := 42 }
set_option maxHeartbeats 4000000 in
set_option maxRecDepth 100000 in
theorem m_X1_runHour (l : Launch) (D : va_G) (cI : ClassId) (a : Nat → Nat) (f : Nat → Int) (g : Nat → Int) (n : Nat) (b : Nat → Int) (len : Nat) (kd : Nat → Int) (sg : Nat → Int) (nb : Nat → Int) (pt : Nat) (j : Nat) (hj : j < 3) (hrf : rng f) (hm : mvs f) : MetV l yX1_runHour wsX1_runHour rm_X1_runHour D cI [.ref (a 0), .int (jI (j : Int))] (w1 cI a f g n b len kd sg nb pt) (w1 cI a (s_X1_runHour f j) g n b len kd sg nb pt) := by
  refine xe_V (cc := cX1_runHour) (maxL := 2) (ret := none) (by decide) rfl (Nat.le_of_ble_eq_true rfl) ?_
  intro p e s m below meth c hx hb hr hml hts hown hlocks hP hK A hA hD hS ls hl
  have hl : lv_has ls 2 [(0, .ref (a 0)), (1, .int (jI (j : Int)))] := hl
  have hown : s.vm.findClass RX1 = some m.cls := hown
  have hSx : CallFix p m c cX1_runHour 2 s ([.ref (a 0), .int (jI (j : Int))] : List Value).toArray wsX1_runHour RX1 := ⟨hx, hb, hml, hown, hts⟩
  have inRX1 : ∀ w ∈ u_ws RX1 TX1 6, w ∈ wsX1_runHour := by decide +kernel
  have qf9 := hts (.fieldLink RX1 9 "VaultMovements" "now" "[I") (by decide +kernel)
  have hm1 := hm j hj
  obtain ⟨z, hz⟩ : ∃ z, z = (s_X1_runHour f j) := ⟨_, rfl⟩
  rw [← hz]
  unfold s_X1_runHour at hz
  refine lv_aload_n hx hb dX1_runHour_0 rfl (lv_at hl 0 rfl) ?_
  refine lv_iload_n hx hb dX1_runHour_1 rfl (lv_at hl 1 rfl) ?_
  refine xc_R (As := [.int (jI (j : Int))]) (rest := []) hSx (m_X1_goes l D cI a f g n b len kd sg nb pt j (by omega) (by omega)) (cwV 1 hts gX1_runHour_X1_goes rfl rfl rfl (by decide +kernel) ⟨Nat.le_of_ble_eq_true rfl, Nat.le_of_ble_eq_true rfl⟩) hP hK 0 rfl rfl rfl rfl hl.1 rfl (Nat.le_of_ble_eq_true rfl) dX1_runHour_2 ⟨Nat.zero_le _, Nat.zero_le _⟩ ?_
  refine x_if_eq (tgt := 21) hx hb dX1_runHour_5 (by decide) (b01 (b_X1_goes f j)) (fun c5 => ?_) (fun c5 => ?_)
  · rw [if_pos c5] at hz
    subst hz
    exact xi_v hx hb hr hlocks hK hP hD hS rfl dX1_runHour_21
  · rw [if_neg c5] at hz
    refine lv_aload_n hx hb dX1_runHour_8 rfl (lv_at hl 0 rfl) ?_
    refine va_get (D := D) (ci := 1) (v := .ref (a 1)) (C := RX1) (T := TX1) (N := 6) hx hb hts inRX1 hown hK hP 0 rfl rfl 0 (by decide) qf9 (fun _ h9 => h9) rfl dX1_runHour_9 ?_
    refine lv_iload_n hx hb dX1_runHour_12 rfl (lv_at hl 1 rfl) ?_
    refine lv_iconst (v := jI 0) hx hb dX1_runHour_13 rfl ?_
    refine xc_P (As := [.int (jI (j : Int)), .int (jI 0)]) (rest := [.ref (a 1)]) hSx (m_X1_place l (j : Int) 0 ) (va_cwS 2 hts gX1_runHour_X1_place rfl rfl rfl (by decide +kernel) ⟨Nat.le_of_ble_eq_true rfl, Nat.le_of_ble_eq_true rfl⟩) rfl hl.1 rfl (Nat.le_of_ble_eq_true rfl) dX1_runHour_14 ⟨Nat.zero_le _, Nat.zero_le _⟩ ?_
    refine x_iald hx hb hK hP 1 0 rfl rfl ((21 + (j * 4)) + 0) (by omega) (by omega) (by decide) dX1_runHour_17 ?_
    refine x_if_ne (tgt := 22) hx hb dX1_runHour_18 (by decide) (hrf _) (fun c18 => ?_) (fun c18 => ?_)
    · rw [if_neg c18] at hz
      refine lv_aload_n hx hb dX1_runHour_22 rfl (lv_at hl 0 rfl) ?_
      refine va_get (D := D) (ci := 1) (v := .ref (a 1)) (C := RX1) (T := TX1) (N := 6) hx hb hts inRX1 hown hK hP 0 rfl rfl 0 (by decide) qf9 (fun _ h9 => h9) rfl dX1_runHour_23 ?_
      refine lv_iload_n hx hb dX1_runHour_26 rfl (lv_at hl 1 rfl) ?_
      refine lv_iconst (v := jI 3) hx hb dX1_runHour_27 rfl ?_
      refine xc_P (As := [.int (jI (j : Int)), .int (jI 3)]) (rest := [.ref (a 1)]) hSx (m_X1_place l (j : Int) 3 ) (va_cwS 2 hts gX1_runHour_X1_place rfl rfl rfl (by decide +kernel) ⟨Nat.le_of_ble_eq_true rfl, Nat.le_of_ble_eq_true rfl⟩) rfl hl.1 rfl (Nat.le_of_ble_eq_true rfl) dX1_runHour_28 ⟨Nat.zero_le _, Nat.zero_le _⟩ ?_
      refine lv_dup2_11 hx hb dX1_runHour_31 rfl rfl ?_
      refine x_iald hx hb hK hP 1 0 rfl rfl ((21 + (j * 4)) + 3) (by omega) (by omega) (by decide) dX1_runHour_32 ?_
      refine lv_iconst (v := jI 1) hx hb dX1_runHour_33 rfl ?_
      refine x_iadd hx hb dX1_runHour_34 ?_
      refine x_iast (w1 := (w1 cI a (upz f ((21 + (j * 4)) + 3) ((f ((21 + (j * 4)) + 3)) + 1)) g n b len kd sg nb pt)) hx hb hK hP hD hS 1 0 rfl rfl ((21 + (j * 4)) + 3) (by omega) (by omega) (by decide) dX1_runHour_35 rfl (fun H locs hP hD hS => ?_)
      refine lv_aload_n hx hb dX1_runHour_36 rfl (lv_at hl 0 rfl) ?_
      refine va_get (D := D) (ci := 1) (v := .ref (a 1)) (C := RX1) (T := TX1) (N := 6) hx hb hts inRX1 hown hK hP 0 rfl rfl 0 (by decide) qf9 (fun _ h9 => h9) rfl dX1_runHour_37 ?_
      refine lv_iload_n hx hb dX1_runHour_40 rfl (lv_at hl 1 rfl) ?_
      refine lv_iconst (v := jI 3) hx hb dX1_runHour_41 rfl ?_
      refine xc_P (As := [.int (jI (j : Int)), .int (jI 3)]) (rest := [.ref (a 1)]) hSx (m_X1_place l (j : Int) 3 ) (va_cwS 2 hts gX1_runHour_X1_place rfl rfl rfl (by decide +kernel) ⟨Nat.le_of_ble_eq_true rfl, Nat.le_of_ble_eq_true rfl⟩) rfl hl.1 rfl (Nat.le_of_ble_eq_true rfl) dX1_runHour_42 ⟨Nat.zero_le _, Nat.zero_le _⟩ ?_
      refine x_iald hx hb hK hP 1 0 rfl rfl ((21 + (j * 4)) + 3) (by omega) (by omega) (by decide) dX1_runHour_45 ?_
      rw [show (upz f ((21 + (j * 4)) + 3) ((f ((21 + (j * 4)) + 3)) + 1)) ((21 + (j * 4)) + 3) = ((f ((21 + (j * 4)) + 3)) + 1) from upz_s]
      refine lv_aload_n hx hb dX1_runHour_46 rfl (lv_at hl 0 rfl) ?_
      refine va_get (D := D) (ci := 1) (v := .ref (a 1)) (C := RX1) (T := TX1) (N := 6) hx hb hts inRX1 hown hK hP 0 rfl rfl 0 (by decide) qf9 (fun _ h9 => h9) rfl dX1_runHour_47 ?_
      refine lv_iload_n hx hb dX1_runHour_50 rfl (lv_at hl 1 rfl) ?_
      refine lv_iconst (v := jI 2) hx hb dX1_runHour_51 rfl ?_
      refine xc_P (As := [.int (jI (j : Int)), .int (jI 2)]) (rest := [.ref (a 1), .int (jI ((f ((21 + (j * 4)) + 3)) + 1))]) hSx (m_X1_place l (j : Int) 2 ) (va_cwS 2 hts gX1_runHour_X1_place rfl rfl rfl (by decide +kernel) ⟨Nat.le_of_ble_eq_true rfl, Nat.le_of_ble_eq_true rfl⟩) rfl hl.1 rfl (Nat.le_of_ble_eq_true rfl) dX1_runHour_52 ⟨Nat.zero_le _, Nat.zero_le _⟩ ?_
      refine x_iald hx hb hK hP 1 0 rfl rfl ((21 + (j * 4)) + 2) (by omega) (by omega) (by decide) dX1_runHour_55 ?_
      rw [show (upz f ((21 + (j * 4)) + 3) ((f ((21 + (j * 4)) + 3)) + 1)) ((21 + (j * 4)) + 2) = f ((21 + (j * 4)) + 2) from upz_n (by omega)]
      refine xc_P (As := [.int (jI ((f ((21 + (j * 4)) + 3)) + 1)), .int (jI (f ((21 + (j * 4)) + 2)))]) (rest := []) hSx (m_X1_isLostHour l ((f ((21 + (j * 4)) + 3)) + 1) (f ((21 + (j * 4)) + 2)) (by omega) (hrf _)) (va_cwS 2 hts gX1_runHour_X1_isLostHour rfl rfl rfl (by decide +kernel) ⟨Nat.le_of_ble_eq_true rfl, Nat.le_of_ble_eq_true rfl⟩) rfl hl.1 rfl (Nat.le_of_ble_eq_true rfl) dX1_runHour_56 ⟨Nat.zero_le _, Nat.zero_le _⟩ ?_
      refine x_if_ne (tgt := 76) hx hb dX1_runHour_59 (by decide) (b01 (b_X1_isLostHour ((f ((21 + (j * 4)) + 3)) + 1) (f ((21 + (j * 4)) + 2)))) (fun c59 => ?_) (fun c59 => ?_)
      · rw [if_neg c59] at hz
        subst hz
        exact xi_v hx hb hr hlocks hK hP hD hS rfl dX1_runHour_76
      · rw [if_pos c59] at hz
        refine lv_aload_n hx hb dX1_runHour_62 rfl (lv_at hl 0 rfl) ?_
        refine va_get (D := D) (ci := 1) (v := .ref (a 1)) (C := RX1) (T := TX1) (N := 6) hx hb hts inRX1 hown hK hP 0 rfl rfl 0 (by decide) qf9 (fun _ h9 => h9) rfl dX1_runHour_63 ?_
        refine lv_iload_n hx hb dX1_runHour_66 rfl (lv_at hl 1 rfl) ?_
        refine lv_iconst (v := jI 0) hx hb dX1_runHour_67 rfl ?_
        refine xc_P (As := [.int (jI (j : Int)), .int (jI 0)]) (rest := [.ref (a 1)]) hSx (m_X1_place l (j : Int) 0 ) (va_cwS 2 hts gX1_runHour_X1_place rfl rfl rfl (by decide +kernel) ⟨Nat.le_of_ble_eq_true rfl, Nat.le_of_ble_eq_true rfl⟩) rfl hl.1 rfl (Nat.le_of_ble_eq_true rfl) dX1_runHour_68 ⟨Nat.zero_le _, Nat.zero_le _⟩ ?_
        refine lv_dup2_11 hx hb dX1_runHour_71 rfl rfl ?_
        refine x_iald hx hb hK hP 1 0 rfl rfl ((21 + (j * 4)) + 0) (by omega) (by omega) (by decide) dX1_runHour_72 ?_
        rw [show (upz f ((21 + (j * 4)) + 3) ((f ((21 + (j * 4)) + 3)) + 1)) ((21 + (j * 4)) + 0) = f ((21 + (j * 4)) + 0) from upz_n (by omega)]
        refine lv_iconst (v := jI 1) hx hb dX1_runHour_73 rfl ?_
        refine x_isub hx hb dX1_runHour_74 ?_
        refine x_iast (w1 := (w1 cI a (upz (upz f ((21 + (j * 4)) + 3) ((f ((21 + (j * 4)) + 3)) + 1)) ((21 + (j * 4)) + 0) ((f ((21 + (j * 4)) + 0)) - 1)) g n b len kd sg nb pt)) hx hb hK hP hD hS 1 0 rfl rfl ((21 + (j * 4)) + 0) (by omega) (by omega) (by decide) dX1_runHour_75 rfl (fun H locs hP hD hS => ?_)
        subst hz
        exact xi_v hx hb hr hlocks hK hP hD hS rfl dX1_runHour_76
    · rw [if_pos c18] at hz
      subst hz
      exact xi_v hx hb hr hlocks hK hP hD hS rfl dX1_runHour_21
theorem ok_X1_runHour (f : Nat → Int) (j : Nat) (B : Int) (hj : j < 3) (hf : rng f) (hm : mvB f B) (hB : B ≤ 1000000) : rng (s_X1_runHour f j) ∧ mvB (s_X1_runHour f j) (B + 1) := by
  have hm1 := hm j hj
  unfold s_X1_runHour
  split
  · exact ⟨hf, mvB_mono hm (by omega)⟩
  split
  · refine ⟨?_, ?_⟩
    · (repeat' split) <;> (repeat' apply rng_upz) <;> first | exact hf | omega
    · intro j2 hj2
      have hm2 := hm j2 hj2
      (repeat' split) <;> (try dsimp only [upz]) <;> ((repeat' split) <;> omega)
  · refine ⟨?_, ?_⟩
    · (repeat' split) <;> (repeat' apply rng_upz) <;> first | exact hf | omega
    · intro j2 hj2
      have hm2 := hm j2 hj2
      (repeat' split) <;> (try dsimp only [upz]) <;> ((repeat' split) <;> omega)
def s_X1_passHour_lp19  : Nat → Nat → (Nat → Int) → (Nat → Int)
  | 0, _, _ => default
  | k + 1, i, f => if 3 ≤ (i : Int) then f else (s_X1_passHour_lp19 k (i + 1) (s_X1_runHour f i))
def s_X1_passHour (f : Nat → Int) : (Nat → Int) := if (s_X1_isLocked (upz f 0 ((f 0) + 1))) = 0 then (upz f 0 ((f 0) + 1)) else (s_X1_passHour_lp19 (3 + 1 - 0) 0 (upz f 0 ((f 0) + 1)))
abbrev rm_X1_passHour : Room := { frames := 3, cells := 0, slots := 0, locals := 63 }
set_option maxHeartbeats 4000000 in
set_option maxRecDepth 100000 in
theorem m_X1_passHour (l : Launch) (D : va_G) (cI : ClassId) (a : Nat → Nat) (f : Nat → Int) (g : Nat → Int) (n : Nat) (b : Nat → Int) (len : Nat) (kd : Nat → Int) (sg : Nat → Int) (nb : Nat → Int) (pt : Nat) (hrf : rng f) (hh : 0 ≤ f 0 ∧ f 0 ≤ 99999) (hm : mvB f 900000) : MetV l yX1_passHour wsX1_passHour rm_X1_passHour D cI [.ref (a 0)] (w1 cI a f g n b len kd sg nb pt) (w1 cI a (s_X1_passHour f) g n b len kd sg nb pt) := by
  refine xe_V (cc := cX1_passHour) (maxL := 2) (ret := none) (by decide) rfl (Nat.le_of_ble_eq_true rfl) ?_
  intro p e s m below meth c hx hb hr hml hts hown hlocks hP hK A hA hD hS ls hl
  have hl : lv_has ls 2 [(0, .ref (a 0))] := hl
  have hown : s.vm.findClass RX1 = some m.cls := hown
  have hSx : CallFix p m c cX1_passHour 2 s ([.ref (a 0)] : List Value).toArray wsX1_passHour RX1 := ⟨hx, hb, hml, hown, hts⟩
  have inRX1 : ∀ w ∈ u_ws RX1 TX1 6, w ∈ wsX1_passHour := by decide +kernel
  have qf9 := hts (.fieldLink RX1 9 "VaultMovements" "now" "[I") (by decide +kernel)
  obtain ⟨z, hz⟩ : ∃ z, z = (s_X1_passHour f) := ⟨_, rfl⟩
  rw [← hz]
  unfold s_X1_passHour at hz
  refine lv_aload_n hx hb dX1_passHour_0 rfl (lv_at hl 0 rfl) ?_
  refine va_get (D := D) (ci := 1) (v := .ref (a 1)) (C := RX1) (T := TX1) (N := 6) hx hb hts inRX1 hown hK hP 0 rfl rfl 0 (by decide) qf9 (fun _ h9 => h9) rfl dX1_passHour_1 ?_
  refine lv_iconst (v := jI 0) hx hb dX1_passHour_4 rfl ?_
  refine lv_dup2_11 hx hb dX1_passHour_5 rfl rfl ?_
  refine x_iald hx hb hK hP 1 0 rfl rfl 0 rfl (by decide) (by decide) dX1_passHour_6 ?_
  refine lv_iconst (v := jI 1) hx hb dX1_passHour_7 rfl ?_
  refine x_iadd hx hb dX1_passHour_8 ?_
  refine x_iast (w1 := (w1 cI a (upz f 0 ((f 0) + 1)) g n b len kd sg nb pt)) hx hb hK hP hD hS 1 0 rfl rfl 0 rfl (by decide) (by decide) dX1_passHour_9 rfl (fun H locs hP hD hS => ?_)
  have hrf1 := rng_upz (k := 0) (v := f 0 + 1) hrf (by omega)
  refine lv_aload_n hx hb dX1_passHour_10 rfl (lv_at hl 0 rfl) ?_
  refine xc_R (As := []) (rest := []) hSx (m_X1_isLocked l D cI a (upz f 0 ((f 0) + 1)) g n b len kd sg nb pt  hrf1) (cwV 0 hts gX1_passHour_X1_isLocked rfl rfl rfl (by decide +kernel) ⟨Nat.le_of_ble_eq_true rfl, Nat.le_of_ble_eq_true rfl⟩) hP hK 0 rfl rfl rfl rfl hl.1 rfl (Nat.le_of_ble_eq_true rfl) dX1_passHour_11 ⟨Nat.zero_le _, Nat.zero_le _⟩ ?_
  refine x_if_eq (tgt := 35) hx hb dX1_passHour_14 (by decide) (b01 (b_X1_isLocked (upz f 0 ((f 0) + 1)))) (fun c14 => ?_) (fun c14 => ?_)
  · rw [if_pos c14] at hz
    subst hz
    exact xi_v hx hb hr hlocks hK hP hD hS rfl dX1_passHour_35
  · rw [if_neg c14] at hz
    refine lv_iconst (v := jI 0) hx hb dX1_passHour_17 rfl ?_
    refine lv_istore_n (lv' := [(1, .int (jI 0)), (0, .ref (a 0))]) hx hb dX1_passHour_18 rfl hl (by decide) rfl (fun ls hl => ?_)
    have LP19 : ∀ (k i : Nat) (f : Nat → Int) (H : Heap) (locs : List Loc) (ls : Array Slot), i ≤ 3 → i + k = 3 + 1 → z = s_X1_passHour_lp19 k i f → (rng f ∧ mvB f (900000 + i)) → va_P D vwCl (w1 cI a f g n b len kd sg nb pt) H → va_D A (w1 cI a f g n b len kd sg nb pt) → va_S A s.heap H locs → lv_has ls 2 [(0, .ref (a 0)), (1, .int (jI (i : Int)))] → W p l e rm_X1_passHour s m ([.ref (a 0)] : List Value).toArray below meth c H locs 0 0 (MQ below (va_Qv (fun (_ : Unit) => True) (xq_B D cI A (w1 cI a z g n b len kd sg nb pt)) A) ([.ref (a 0)] : List Value).toArray s 0 0 A) (F0 m 19 ls []) := by
      intro k
      induction k with
      | zero => intro i f _ _ ls h1 h2; exact absurd h2 (by omega)
      | succ k ih =>
        intro i f H locs ls h1 h2 hz hi2 hP hD hS hl
        rw [s_X1_passHour_lp19] at hz
        refine lv_iload_n hx hb dX1_passHour_19 rfl (lv_at hl 1 rfl) ?_
        refine lv_iconst (v := jI 3) hx hb dX1_passHour_20 rfl ?_
        refine x_icmp_ge (tgt := 35) hx hb dX1_passHour_21 (by decide) ⟨(by omega), (by decide)⟩ (fun c21 => ?_) (fun c21 => ?_)
        · rw [if_pos c21] at hz
          subst hz
          exact xi_v hx hb hr hlocks hK hP hD hS rfl dX1_passHour_35
        · rw [if_neg c21] at hz
          refine lv_aload_n hx hb dX1_passHour_24 rfl (lv_at hl 0 rfl) ?_
          refine lv_iload_n hx hb dX1_passHour_25 rfl (lv_at hl 1 rfl) ?_
          refine xc_V (As := [.int (jI (i : Int))]) (rest := []) hSx (m_X1_runHour l D cI a f g n b len kd sg nb pt i (by omega) hi2.1 (mvB_mono hi2.2 (by omega))) (cwV 1 hts gX1_passHour_X1_runHour rfl rfl rfl (by decide +kernel) ⟨Nat.le_of_ble_eq_true rfl, Nat.le_of_ble_eq_true rfl⟩) hP hD hS hA hK 0 rfl rfl rfl rfl hl.1 rfl (Nat.le_of_ble_eq_true rfl) dX1_passHour_26 ⟨Nat.zero_le _, Nat.zero_le _⟩ (fun H locs hP hD hS => ?_)
          have hok0 := ok_X1_runHour f i (900000 + i) (by omega) hi2.1 hi2.2 (by omega)
          have hok : rng (s_X1_runHour f i) ∧ mvB (s_X1_runHour f i) (900000 + ((i + 1 : Nat) : Int)) := ⟨hok0.1, mvB_mono hok0.2 (by omega)⟩
          refine lv_iinc (v := jI ((i + 1 : Nat) : Int)) (lv' := [(1, .int (jI ((i + 1 : Nat) : Int))), (0, .ref (a 0))]) hx hb dX1_passHour_29 hl (k := 1) rfl (jI_inc _ 1) (by decide) rfl (fun ls hl => ?_)
          refine lv_goto (tgt := 19) hx hb dX1_passHour_32 (by decide) ?_
          exact ih (i + 1) (s_X1_runHour f i) _ _ ls (by omega) (by omega) hz hok hP hD hS (lv_sub hl [1, 0] rfl)
    exact LP19 (3 + 1 - 0) 0 (upz f 0 ((f 0) + 1)) _ _ ls (by omega) (by omega) hz ⟨rng_upz hrf (by omega), mvB_mono (mvB_upz hm (by decide)) (by omega)⟩ hP hD hS (lv_sub hl [1, 0] rfl)
def s_X1_countEarlyTry (f : Nat → Int) : (Nat → Int) := if ((f 3) + 1) < (f 11) then (upz (upz f 5 ((f 5) + 1)) 3 ((f 3) + 1)) else (upz (upz (upz (upz f 5 ((f 5) + 1)) 3 ((f 3) + 1)) 4 ((f 0) + (f 12))) 3 0)
abbrev rm_X1_countEarlyTry : Room := { frames := 0, cells := 0, slots := 0, locals := 0 }
set_option maxHeartbeats 4000000 in
set_option maxRecDepth 100000 in
theorem m_X1_countEarlyTry (l : Launch) (D : va_G) (cI : ClassId) (a : Nat → Nat) (f : Nat → Int) (g : Nat → Int) (n : Nat) (b : Nat → Int) (len : Nat) (kd : Nat → Int) (sg : Nat → Int) (nb : Nat → Int) (pt : Nat) (hrf : rng f) (hh : 0 ≤ f 0 ∧ f 0 ≤ 99999) (h3 : 0 ≤ f 3 ∧ f 3 ≤ 8) (h11 : 1 ≤ f 11 ∧ f 11 ≤ 9) : MetV l yX1_countEarlyTry wsX1_countEarlyTry rm_X1_countEarlyTry D cI [.ref (a 0)] (w1 cI a f g n b len kd sg nb pt) (w1 cI a (s_X1_countEarlyTry f) g n b len kd sg nb pt) := by
  refine xe_V (cc := cX1_countEarlyTry) (maxL := 1) (ret := none) (by decide) rfl (Nat.le_of_ble_eq_true rfl) ?_
  intro p e s m below meth c hx hb hr hml hts hown hlocks hP hK A hA hD hS ls hl
  have hl : lv_has ls 1 [(0, .ref (a 0))] := hl
  have hown : s.vm.findClass RX1 = some m.cls := hown
  have hSx : CallFix p m c cX1_countEarlyTry 1 s ([.ref (a 0)] : List Value).toArray wsX1_countEarlyTry RX1 := ⟨hx, hb, hml, hown, hts⟩
  have inRX1 : ∀ w ∈ u_ws RX1 TX1 6, w ∈ wsX1_countEarlyTry := by decide +kernel
  have qf9 := hts (.fieldLink RX1 9 "VaultMovements" "now" "[I") (by decide +kernel)
  obtain ⟨z, hz⟩ : ∃ z, z = (s_X1_countEarlyTry f) := ⟨_, rfl⟩
  rw [← hz]
  unfold s_X1_countEarlyTry at hz
  refine lv_aload_n hx hb dX1_countEarlyTry_0 rfl (lv_at hl 0 rfl) ?_
  refine va_get (D := D) (ci := 1) (v := .ref (a 1)) (C := RX1) (T := TX1) (N := 6) hx hb hts inRX1 hown hK hP 0 rfl rfl 0 (by decide) qf9 (fun _ h9 => h9) rfl dX1_countEarlyTry_1 ?_
  refine lv_iconst (v := jI 5) hx hb dX1_countEarlyTry_4 rfl ?_
  refine lv_dup2_11 hx hb dX1_countEarlyTry_5 rfl rfl ?_
  refine x_iald hx hb hK hP 1 0 rfl rfl 5 rfl (by decide) (by decide) dX1_countEarlyTry_6 ?_
  refine lv_iconst (v := jI 1) hx hb dX1_countEarlyTry_7 rfl ?_
  refine x_iadd hx hb dX1_countEarlyTry_8 ?_
  refine x_iast (w1 := (w1 cI a (upz f 5 ((f 5) + 1)) g n b len kd sg nb pt)) hx hb hK hP hD hS 1 0 rfl rfl 5 rfl (by decide) (by decide) dX1_countEarlyTry_9 rfl (fun H locs hP hD hS => ?_)
  refine lv_aload_n hx hb dX1_countEarlyTry_10 rfl (lv_at hl 0 rfl) ?_
  refine va_get (D := D) (ci := 1) (v := .ref (a 1)) (C := RX1) (T := TX1) (N := 6) hx hb hts inRX1 hown hK hP 0 rfl rfl 0 (by decide) qf9 (fun _ h9 => h9) rfl dX1_countEarlyTry_11 ?_
  refine lv_iconst (v := jI 3) hx hb dX1_countEarlyTry_14 rfl ?_
  refine lv_dup2_11 hx hb dX1_countEarlyTry_15 rfl rfl ?_
  refine x_iald hx hb hK hP 1 0 rfl rfl 3 rfl (by decide) (by decide) dX1_countEarlyTry_16 ?_
  rw [show (upz f 5 ((f 5) + 1)) 3 = f 3 from upz_n (by omega)]
  refine lv_iconst (v := jI 1) hx hb dX1_countEarlyTry_17 rfl ?_
  refine x_iadd hx hb dX1_countEarlyTry_18 ?_
  refine x_iast (w1 := (w1 cI a (upz (upz f 5 ((f 5) + 1)) 3 ((f 3) + 1)) g n b len kd sg nb pt)) hx hb hK hP hD hS 1 0 rfl rfl 3 rfl (by decide) (by decide) dX1_countEarlyTry_19 rfl (fun H locs hP hD hS => ?_)
  refine lv_aload_n hx hb dX1_countEarlyTry_20 rfl (lv_at hl 0 rfl) ?_
  refine va_get (D := D) (ci := 1) (v := .ref (a 1)) (C := RX1) (T := TX1) (N := 6) hx hb hts inRX1 hown hK hP 0 rfl rfl 0 (by decide) qf9 (fun _ h9 => h9) rfl dX1_countEarlyTry_21 ?_
  refine lv_iconst (v := jI 3) hx hb dX1_countEarlyTry_24 rfl ?_
  refine x_iald hx hb hK hP 1 0 rfl rfl 3 rfl (by decide) (by decide) dX1_countEarlyTry_25 ?_
  rw [show (upz (upz f 5 ((f 5) + 1)) 3 ((f 3) + 1)) 3 = ((f 3) + 1) from upz_s]
  refine lv_aload_n hx hb dX1_countEarlyTry_26 rfl (lv_at hl 0 rfl) ?_
  refine va_get (D := D) (ci := 1) (v := .ref (a 1)) (C := RX1) (T := TX1) (N := 6) hx hb hts inRX1 hown hK hP 0 rfl rfl 0 (by decide) qf9 (fun _ h9 => h9) rfl dX1_countEarlyTry_27 ?_
  refine lv_bipush (v := jI 11) hx hb dX1_countEarlyTry_30 (by decide) ?_
  refine x_iald hx hb hK hP 1 0 rfl rfl 11 rfl (by decide) (by decide) dX1_countEarlyTry_32 ?_
  rw [show (upz (upz f 5 ((f 5) + 1)) 3 ((f 3) + 1)) 11 = (upz f 5 ((f 5) + 1)) 11 from upz_n (by omega)]
  rw [show (upz f 5 ((f 5) + 1)) 11 = f 11 from upz_n (by omega)]
  refine x_icmp_lt (tgt := 63) hx hb dX1_countEarlyTry_33 (by decide) ⟨(by omega), (hrf _)⟩ (fun c33 => ?_) (fun c33 => ?_)
  · rw [if_pos c33] at hz
    subst hz
    exact xi_v hx hb hr hlocks hK hP hD hS rfl dX1_countEarlyTry_63
  · rw [if_neg c33] at hz
    refine lv_aload_n hx hb dX1_countEarlyTry_36 rfl (lv_at hl 0 rfl) ?_
    refine va_get (D := D) (ci := 1) (v := .ref (a 1)) (C := RX1) (T := TX1) (N := 6) hx hb hts inRX1 hown hK hP 0 rfl rfl 0 (by decide) qf9 (fun _ h9 => h9) rfl dX1_countEarlyTry_37 ?_
    refine lv_iconst (v := jI 4) hx hb dX1_countEarlyTry_40 rfl ?_
    refine lv_aload_n hx hb dX1_countEarlyTry_41 rfl (lv_at hl 0 rfl) ?_
    refine va_get (D := D) (ci := 1) (v := .ref (a 1)) (C := RX1) (T := TX1) (N := 6) hx hb hts inRX1 hown hK hP 0 rfl rfl 0 (by decide) qf9 (fun _ h9 => h9) rfl dX1_countEarlyTry_42 ?_
    refine lv_iconst (v := jI 0) hx hb dX1_countEarlyTry_45 rfl ?_
    refine x_iald hx hb hK hP 1 0 rfl rfl 0 rfl (by decide) (by decide) dX1_countEarlyTry_46 ?_
    rw [show (upz (upz f 5 ((f 5) + 1)) 3 ((f 3) + 1)) 0 = (upz f 5 ((f 5) + 1)) 0 from upz_n (by omega)]
    rw [show (upz f 5 ((f 5) + 1)) 0 = f 0 from upz_n (by omega)]
    refine lv_aload_n hx hb dX1_countEarlyTry_47 rfl (lv_at hl 0 rfl) ?_
    refine va_get (D := D) (ci := 1) (v := .ref (a 1)) (C := RX1) (T := TX1) (N := 6) hx hb hts inRX1 hown hK hP 0 rfl rfl 0 (by decide) qf9 (fun _ h9 => h9) rfl dX1_countEarlyTry_48 ?_
    refine lv_bipush (v := jI 12) hx hb dX1_countEarlyTry_51 (by decide) ?_
    refine x_iald hx hb hK hP 1 0 rfl rfl 12 rfl (by decide) (by decide) dX1_countEarlyTry_53 ?_
    rw [show (upz (upz f 5 ((f 5) + 1)) 3 ((f 3) + 1)) 12 = (upz f 5 ((f 5) + 1)) 12 from upz_n (by omega)]
    rw [show (upz f 5 ((f 5) + 1)) 12 = f 12 from upz_n (by omega)]
    refine x_iadd hx hb dX1_countEarlyTry_54 ?_
    refine x_iast (w1 := (w1 cI a (upz (upz (upz f 5 ((f 5) + 1)) 3 ((f 3) + 1)) 4 ((f 0) + (f 12))) g n b len kd sg nb pt)) hx hb hK hP hD hS 1 0 rfl rfl 4 rfl (by decide) (by decide) dX1_countEarlyTry_55 rfl (fun H locs hP hD hS => ?_)
    refine lv_aload_n hx hb dX1_countEarlyTry_56 rfl (lv_at hl 0 rfl) ?_
    refine va_get (D := D) (ci := 1) (v := .ref (a 1)) (C := RX1) (T := TX1) (N := 6) hx hb hts inRX1 hown hK hP 0 rfl rfl 0 (by decide) qf9 (fun _ h9 => h9) rfl dX1_countEarlyTry_57 ?_
    refine lv_iconst (v := jI 3) hx hb dX1_countEarlyTry_60 rfl ?_
    refine lv_iconst (v := jI 0) hx hb dX1_countEarlyTry_61 rfl ?_
    refine x_iast (w1 := (w1 cI a (upz (upz (upz (upz f 5 ((f 5) + 1)) 3 ((f 3) + 1)) 4 ((f 0) + (f 12))) 3 0) g n b len kd sg nb pt)) hx hb hK hP hD hS 1 0 rfl rfl 3 rfl (by decide) (by decide) dX1_countEarlyTry_62 rfl (fun H locs hP hD hS => ?_)
    subst hz
    exact xi_v hx hb hr hlocks hK hP hD hS rfl dX1_countEarlyTry_63
def s_X1_countOpening (f : Nat → Int) (x1 : Int) : (Nat → Int) := if x1 ≤ 0 then (if 0 ≤ x1 then (upz (upz f 6 ((f 6) + 1)) 7 ((f 7) + 1)) else (upz (upz f 6 ((f 6) + 1)) 9 ((f 9) + 1))) else (upz (upz f 6 ((f 6) + 1)) 8 ((f 8) + 1))
abbrev rm_X1_countOpening : Room := { frames := 0, cells := 0, slots := 0, locals := 0 }
set_option maxHeartbeats 4000000 in
set_option maxRecDepth 100000 in
theorem m_X1_countOpening (l : Launch) (D : va_G) (cI : ClassId) (a : Nat → Nat) (f : Nat → Int) (g : Nat → Int) (n : Nat) (b : Nat → Int) (len : Nat) (kd : Nat → Int) (sg : Nat → Int) (nb : Nat → Int) (pt : Nat) (x1 : Int) (hx1 : -2147483648 ≤ x1 ∧ x1 < 2147483648) : MetV l yX1_countOpening wsX1_countOpening rm_X1_countOpening D cI [.ref (a 0), .int (jI x1)] (w1 cI a f g n b len kd sg nb pt) (w1 cI a (s_X1_countOpening f x1) g n b len kd sg nb pt) := by
  refine xe_V (cc := cX1_countOpening) (maxL := 2) (ret := none) (by decide) rfl (Nat.le_of_ble_eq_true rfl) ?_
  intro p e s m below meth c hx hb hr hml hts hown hlocks hP hK A hA hD hS ls hl
  have hl : lv_has ls 2 [(0, .ref (a 0)), (1, .int (jI x1))] := hl
  have hown : s.vm.findClass RX1 = some m.cls := hown
  have hSx : CallFix p m c cX1_countOpening 2 s ([.ref (a 0), .int (jI x1)] : List Value).toArray wsX1_countOpening RX1 := ⟨hx, hb, hml, hown, hts⟩
  have inRX1 : ∀ w ∈ u_ws RX1 TX1 6, w ∈ wsX1_countOpening := by decide +kernel
  have qf9 := hts (.fieldLink RX1 9 "VaultMovements" "now" "[I") (by decide +kernel)
  obtain ⟨z, hz⟩ : ∃ z, z = (s_X1_countOpening f x1) := ⟨_, rfl⟩
  rw [← hz]
  unfold s_X1_countOpening at hz
  refine lv_aload_n hx hb dX1_countOpening_0 rfl (lv_at hl 0 rfl) ?_
  refine va_get (D := D) (ci := 1) (v := .ref (a 1)) (C := RX1) (T := TX1) (N := 6) hx hb hts inRX1 hown hK hP 0 rfl rfl 0 (by decide) qf9 (fun _ h9 => h9) rfl dX1_countOpening_1 ?_
  refine lv_bipush (v := jI 6) hx hb dX1_countOpening_4 (by decide) ?_
  refine lv_dup2_11 hx hb dX1_countOpening_6 rfl rfl ?_
  refine x_iald hx hb hK hP 1 0 rfl rfl 6 rfl (by decide) (by decide) dX1_countOpening_7 ?_
  refine lv_iconst (v := jI 1) hx hb dX1_countOpening_8 rfl ?_
  refine x_iadd hx hb dX1_countOpening_9 ?_
  refine x_iast (w1 := (w1 cI a (upz f 6 ((f 6) + 1)) g n b len kd sg nb pt)) hx hb hK hP hD hS 1 0 rfl rfl 6 rfl (by decide) (by decide) dX1_countOpening_10 rfl (fun H locs hP hD hS => ?_)
  refine lv_iload_n hx hb dX1_countOpening_11 rfl (lv_at hl 1 rfl) ?_
  refine x_if_le (tgt := 29) hx hb dX1_countOpening_12 (by decide) (by omega) (fun c12 => ?_) (fun c12 => ?_)
  · rw [if_pos c12] at hz
    refine lv_iload_n hx hb dX1_countOpening_29 rfl (lv_at hl 1 rfl) ?_
    refine x_if_ge (tgt := 47) hx hb dX1_countOpening_30 (by decide) (by omega) (fun c30 => ?_) (fun c30 => ?_)
    · rw [if_pos c30] at hz
      refine lv_aload_n hx hb dX1_countOpening_47 rfl (lv_at hl 0 rfl) ?_
      refine va_get (D := D) (ci := 1) (v := .ref (a 1)) (C := RX1) (T := TX1) (N := 6) hx hb hts inRX1 hown hK hP 0 rfl rfl 0 (by decide) qf9 (fun _ h9 => h9) rfl dX1_countOpening_48 ?_
      refine lv_bipush (v := jI 7) hx hb dX1_countOpening_51 (by decide) ?_
      refine lv_dup2_11 hx hb dX1_countOpening_53 rfl rfl ?_
      refine x_iald hx hb hK hP 1 0 rfl rfl 7 rfl (by decide) (by decide) dX1_countOpening_54 ?_
      rw [show (upz f 6 ((f 6) + 1)) 7 = f 7 from upz_n (by omega)]
      refine lv_iconst (v := jI 1) hx hb dX1_countOpening_55 rfl ?_
      refine x_iadd hx hb dX1_countOpening_56 ?_
      refine x_iast (w1 := (w1 cI a (upz (upz f 6 ((f 6) + 1)) 7 ((f 7) + 1)) g n b len kd sg nb pt)) hx hb hK hP hD hS 1 0 rfl rfl 7 rfl (by decide) (by decide) dX1_countOpening_57 rfl (fun H locs hP hD hS => ?_)
      subst hz
      exact xi_v hx hb hr hlocks hK hP hD hS rfl dX1_countOpening_58
    · rw [if_neg c30] at hz
      refine lv_aload_n hx hb dX1_countOpening_33 rfl (lv_at hl 0 rfl) ?_
      refine va_get (D := D) (ci := 1) (v := .ref (a 1)) (C := RX1) (T := TX1) (N := 6) hx hb hts inRX1 hown hK hP 0 rfl rfl 0 (by decide) qf9 (fun _ h9 => h9) rfl dX1_countOpening_34 ?_
      refine lv_bipush (v := jI 9) hx hb dX1_countOpening_37 (by decide) ?_
      refine lv_dup2_11 hx hb dX1_countOpening_39 rfl rfl ?_
      refine x_iald hx hb hK hP 1 0 rfl rfl 9 rfl (by decide) (by decide) dX1_countOpening_40 ?_
      rw [show (upz f 6 ((f 6) + 1)) 9 = f 9 from upz_n (by omega)]
      refine lv_iconst (v := jI 1) hx hb dX1_countOpening_41 rfl ?_
      refine x_iadd hx hb dX1_countOpening_42 ?_
      refine x_iast (w1 := (w1 cI a (upz (upz f 6 ((f 6) + 1)) 9 ((f 9) + 1)) g n b len kd sg nb pt)) hx hb hK hP hD hS 1 0 rfl rfl 9 rfl (by decide) (by decide) dX1_countOpening_43 rfl (fun H locs hP hD hS => ?_)
      refine lv_goto (tgt := 58) hx hb dX1_countOpening_44 (by decide) ?_
      subst hz
      exact xi_v hx hb hr hlocks hK hP hD hS rfl dX1_countOpening_58
  · rw [if_neg c12] at hz
    refine lv_aload_n hx hb dX1_countOpening_15 rfl (lv_at hl 0 rfl) ?_
    refine va_get (D := D) (ci := 1) (v := .ref (a 1)) (C := RX1) (T := TX1) (N := 6) hx hb hts inRX1 hown hK hP 0 rfl rfl 0 (by decide) qf9 (fun _ h9 => h9) rfl dX1_countOpening_16 ?_
    refine lv_bipush (v := jI 8) hx hb dX1_countOpening_19 (by decide) ?_
    refine lv_dup2_11 hx hb dX1_countOpening_21 rfl rfl ?_
    refine x_iald hx hb hK hP 1 0 rfl rfl 8 rfl (by decide) (by decide) dX1_countOpening_22 ?_
    rw [show (upz f 6 ((f 6) + 1)) 8 = f 8 from upz_n (by omega)]
    refine lv_iconst (v := jI 1) hx hb dX1_countOpening_23 rfl ?_
    refine x_iadd hx hb dX1_countOpening_24 ?_
    refine x_iast (w1 := (w1 cI a (upz (upz f 6 ((f 6) + 1)) 8 ((f 8) + 1)) g n b len kd sg nb pt)) hx hb hK hP hD hS 1 0 rfl rfl 8 rfl (by decide) (by decide) dX1_countOpening_25 rfl (fun H locs hP hD hS => ?_)
    refine lv_goto (tgt := 58) hx hb dX1_countOpening_26 (by decide) ?_
    subst hz
    exact xi_v hx hb hr hlocks hK hP hD hS rfl dX1_countOpening_58
def s_X1_leaveOpen (f : Nat → Int) : (Nat → Int) := (upz (upz (upz (upz f 1 0) 2 (-1)) 3 0) 4 0)
abbrev rm_X1_leaveOpen : Room := { frames := 0, cells := 0, slots := 0, locals := 0 }
set_option maxHeartbeats 4000000 in
set_option maxRecDepth 100000 in
theorem m_X1_leaveOpen (l : Launch) (D : va_G) (cI : ClassId) (a : Nat → Nat) (f : Nat → Int) (g : Nat → Int) (n : Nat) (b : Nat → Int) (len : Nat) (kd : Nat → Int) (sg : Nat → Int) (nb : Nat → Int) (pt : Nat) : MetV l yX1_leaveOpen wsX1_leaveOpen rm_X1_leaveOpen D cI [.ref (a 0)] (w1 cI a f g n b len kd sg nb pt) (w1 cI a (s_X1_leaveOpen f) g n b len kd sg nb pt) := by
  refine xe_V (cc := cX1_leaveOpen) (maxL := 1) (ret := none) (by decide) rfl (Nat.le_of_ble_eq_true rfl) ?_
  intro p e s m below meth c hx hb hr hml hts hown hlocks hP hK A hA hD hS ls hl
  have hl : lv_has ls 1 [(0, .ref (a 0))] := hl
  have hown : s.vm.findClass RX1 = some m.cls := hown
  have hSx : CallFix p m c cX1_leaveOpen 1 s ([.ref (a 0)] : List Value).toArray wsX1_leaveOpen RX1 := ⟨hx, hb, hml, hown, hts⟩
  have inRX1 : ∀ w ∈ u_ws RX1 TX1 6, w ∈ wsX1_leaveOpen := by decide +kernel
  have qf9 := hts (.fieldLink RX1 9 "VaultMovements" "now" "[I") (by decide +kernel)
  obtain ⟨z, hz⟩ : ∃ z, z = (s_X1_leaveOpen f) := ⟨_, rfl⟩
  rw [← hz]
  unfold s_X1_leaveOpen at hz
  refine lv_aload_n hx hb dX1_leaveOpen_0 rfl (lv_at hl 0 rfl) ?_
  refine va_get (D := D) (ci := 1) (v := .ref (a 1)) (C := RX1) (T := TX1) (N := 6) hx hb hts inRX1 hown hK hP 0 rfl rfl 0 (by decide) qf9 (fun _ h9 => h9) rfl dX1_leaveOpen_1 ?_
  refine lv_iconst (v := jI 1) hx hb dX1_leaveOpen_4 rfl ?_
  refine lv_iconst (v := jI 0) hx hb dX1_leaveOpen_5 rfl ?_
  refine x_iast (w1 := (w1 cI a (upz f 1 0) g n b len kd sg nb pt)) hx hb hK hP hD hS 1 0 rfl rfl 1 rfl (by decide) (by decide) dX1_leaveOpen_6 rfl (fun H locs hP hD hS => ?_)
  refine lv_aload_n hx hb dX1_leaveOpen_7 rfl (lv_at hl 0 rfl) ?_
  refine va_get (D := D) (ci := 1) (v := .ref (a 1)) (C := RX1) (T := TX1) (N := 6) hx hb hts inRX1 hown hK hP 0 rfl rfl 0 (by decide) qf9 (fun _ h9 => h9) rfl dX1_leaveOpen_8 ?_
  refine lv_iconst (v := jI 2) hx hb dX1_leaveOpen_11 rfl ?_
  refine lv_iconst (v := jI (-1)) hx hb dX1_leaveOpen_12 rfl ?_
  refine x_iast (w1 := (w1 cI a (upz (upz f 1 0) 2 (-1)) g n b len kd sg nb pt)) hx hb hK hP hD hS 1 0 rfl rfl 2 rfl (by decide) (by decide) dX1_leaveOpen_13 rfl (fun H locs hP hD hS => ?_)
  refine lv_aload_n hx hb dX1_leaveOpen_14 rfl (lv_at hl 0 rfl) ?_
  refine va_get (D := D) (ci := 1) (v := .ref (a 1)) (C := RX1) (T := TX1) (N := 6) hx hb hts inRX1 hown hK hP 0 rfl rfl 0 (by decide) qf9 (fun _ h9 => h9) rfl dX1_leaveOpen_15 ?_
  refine lv_iconst (v := jI 3) hx hb dX1_leaveOpen_18 rfl ?_
  refine lv_iconst (v := jI 0) hx hb dX1_leaveOpen_19 rfl ?_
  refine x_iast (w1 := (w1 cI a (upz (upz (upz f 1 0) 2 (-1)) 3 0) g n b len kd sg nb pt)) hx hb hK hP hD hS 1 0 rfl rfl 3 rfl (by decide) (by decide) dX1_leaveOpen_20 rfl (fun H locs hP hD hS => ?_)
  refine lv_aload_n hx hb dX1_leaveOpen_21 rfl (lv_at hl 0 rfl) ?_
  refine va_get (D := D) (ci := 1) (v := .ref (a 1)) (C := RX1) (T := TX1) (N := 6) hx hb hts inRX1 hown hK hP 0 rfl rfl 0 (by decide) qf9 (fun _ h9 => h9) rfl dX1_leaveOpen_22 ?_
  refine lv_iconst (v := jI 4) hx hb dX1_leaveOpen_25 rfl ?_
  refine lv_iconst (v := jI 0) hx hb dX1_leaveOpen_26 rfl ?_
  refine x_iast (w1 := (w1 cI a (upz (upz (upz (upz f 1 0) 2 (-1)) 3 0) 4 0) g n b len kd sg nb pt)) hx hb hK hP hD hS 1 0 rfl rfl 4 rfl (by decide) (by decide) dX1_leaveOpen_27 rfl (fun H locs hP hD hS => ?_)
  subst hz
  exact xi_v hx hb hr hlocks hK hP hD hS rfl dX1_leaveOpen_28
def s_X1_clearBuffer (len : Nat) : Int × Nat := ((len : Int), 0)
abbrev rm_X1_clearBuffer : Room := { frames := 0, cells := 0, slots := 0, locals := 0 }
abbrev rm_X1_firstError : Room := { frames := 4, cells := 0, slots := 0, locals := 82 }
end
section
theorem xl_rng (k : Nat) : -2147483648 ≤ xleast k ∧ xleast k < 2147483648 := by
  unfold xleast
  (repeat' split) <;> omega
theorem xm_rng (k : Nat) : -2147483648 ≤ xmost k ∧ xmost k < 2147483648 := by
  unfold xmost
  (repeat' split) <;> omega
theorem ok_ph_lp (B : Int) (hB : B ≤ 900000) : ∀ (k i : Nat) (f : Nat → Int), i ≤ 3 → i + k = 4 → rng f → mvB f (B + i) → rng (s_X1_passHour_lp19 k i f) ∧ mvB (s_X1_passHour_lp19 k i f) (B + 3) ∧ s_X1_passHour_lp19 k i f 0 = f 0 := by
  intro k
  induction k with
  | zero => intro i f h0 h; exact absurd h (by omega)
  | succ k ih =>
    intro i f h0 h hf hm
    rw [s_X1_passHour_lp19]
    split
    · exact ⟨hf, mvB_mono hm (by omega), rfl⟩
    · have h1 := ok_X1_runHour f i (B + i) (by omega) hf hm (by omega)
      have h2 := ih (i + 1) (s_X1_runHour f i) (by omega) (by omega) h1.1 (mvB_mono h1.2 (by omega))
      have h3 : s_X1_runHour f i 0 = f 0 := by
        unfold s_X1_runHour
        (repeat' split) <;> (try dsimp only [upz]) <;> ((repeat' split) <;> omega)
      exact ⟨h2.1, h2.2.1, h2.2.2.trans h3⟩
theorem ok_X1_passHour (f : Nat → Int) (B : Int) (hf : rng f) (hm : mvB f B) (hB : B ≤ 900000) (hh : 0 ≤ f 0 ∧ f 0 ≤ 99999) : rng (s_X1_passHour f) ∧ mvB (s_X1_passHour f) (B + 3) ∧ s_X1_passHour f 0 = f 0 + 1 := by
  unfold s_X1_passHour
  split
  · exact ⟨rng_upz hf (by omega), mvB_mono (mvB_upz hm (by decide)) (by omega), upz_s⟩
  · have h := ok_ph_lp B hB (3 + 1 - 0) 0 (upz f 0 (f 0 + 1)) (by decide) (by decide) (rng_upz hf (by omega)) (mvB_mono (mvB_upz hm (by decide)) (by omega))
    exact ⟨h.1, h.2.1, h.2.2.trans upz_s⟩
theorem ok_X1_isDay {x : Int} (h : ¬ s_X1_isDay x = 0) : 0 ≤ x ∧ x < 7 := by
  unfold s_X1_isDay at h
  (repeat' split at h) <;> omega
theorem ok_X1_isSetting {x : Int} (h : ¬ s_X1_isSetting x = 0) : 0 ≤ x ∧ x < 3 := by
  unfold s_X1_isSetting at h
  (repeat' split at h) <;> omega
theorem ok_X1_isMovement {x : Int} (h : ¬ s_X1_isMovement x = 0) : 0 ≤ x ∧ x < 3 := by
  unfold s_X1_isMovement at h
  (repeat' split at h) <;> omega
def s_X1_opening (f : Nat → Int) (g : Nat → Int) (n : Nat) (x0 : Int) (x1 : Int) : Int × Int × (Nat → Int) × (Nat → Int) × Nat := if (s_X1_isDay x0) = 0 then (1, 0, f, g, n) else (if x1 = (-1) then (0, (s_X1_change f g n (14 + (x0.toNat)) x1).1, (s_X1_change f g n (14 + (x0.toNat)) x1).2.1, (s_X1_change f g n (14 + (x0.toNat)) x1).2.2.1, (s_X1_change f g n (14 + (x0.toNat)) x1).2.2.2) else (if x1 < 0 then (2, 0, f, g, n) else (if x1 < 24 then (0, (s_X1_change f g n (14 + (x0.toNat)) x1).1, (s_X1_change f g n (14 + (x0.toNat)) x1).2.1, (s_X1_change f g n (14 + (x0.toNat)) x1).2.2.1, (s_X1_change f g n (14 + (x0.toNat)) x1).2.2.2) else (2, 0, f, g, n))))
abbrev rm_X1_opening : Room := { frames := 6, cells := 1, slots := 6, locals := 103 }
set_option maxHeartbeats 4000000 in
set_option maxRecDepth 100000 in
theorem m_X1_opening (l : Launch) (D : va_G) (cI : ClassId) (a : Nat → Nat) (f : Nat → Int) (g : Nat → Int) (n : Nat) (b : Nat → Int) (len : Nat) (kd : Nat → Int) (sg : Nat → Int) (nb : Nat → Int) (pt : Nat) (hlt : l.stackTraces = false) (x0 : Int) (x1 : Int) (hn : n ≤ 6) (hx0 : -2147483648 ≤ x0 ∧ x0 < 2147483648) (hx1 : -2147483648 ≤ x1 ∧ x1 < 2147483648) : MetT l yX1_opening wsX1_opening rm_X1_opening D cI [.ref (a 0), .int (jI x0), .int (jI x1)] (w1 cI a f g n b len kd sg nb pt) (w1 cI a ((s_X1_opening f g n x0 x1).2.2.1) ((s_X1_opening f g n x0 x1).2.2.2.1) ((s_X1_opening f g n x0 x1).2.2.2.2) b len kd sg nb pt) ((s_X1_opening f g n x0 x1).1) ((s_X1_opening f g n x0 x1).2.1) := by
  refine xe_T (cc := cX1_opening) (maxL := 3) (ret := (some .int)) (by decide) rfl (Nat.le_of_ble_eq_true rfl) ?_
  intro p e s m below meth c hx hb hr hml hts hown hlocks hex hP hK A hA hD hS hE ls hl
  have hl : lv_has ls 3 [(0, .ref (a 0)), (1, .int (jI x0)), (2, .int (jI x1))] := hl
  have hown : s.vm.findClass RX1 = some m.cls := hown
  have hSx : CallFix p m c cX1_opening 3 s ([.ref (a 0), .int (jI x0), .int (jI x1)] : List Value).toArray wsX1_opening RX1 := ⟨hx, hb, hml, hown, hts⟩
  have qc40 := hts (.classLink RX1 40 xI) (by decide +kernel)
  have qc47 := hts (.classLink RX1 47 xA) (by decide +kernel)
  have qiA := hts (.initialized xA) (by decide +kernel)
  have qiI := hts (.initialized xI) (by decide +kernel)
  obtain ⟨z, hz⟩ : ∃ z, z = (s_X1_opening f g n x0 x1) := ⟨_, rfl⟩
  rw [← hz]
  unfold s_X1_opening at hz
  refine lv_iload_n hx hb dX1_opening_0 rfl (lv_at hl 1 rfl) ?_
  refine xc_P (As := [.int (jI x0)]) (rest := []) hSx (m_X1_isDay l x0 (by omega)) (va_cwS 1 hts gX1_opening_X1_isDay rfl rfl rfl (by decide +kernel) ⟨Nat.le_of_ble_eq_true rfl, Nat.le_of_ble_eq_true rfl⟩) rfl hl.1 rfl (Nat.le_of_ble_eq_true rfl) dX1_opening_1 ⟨Nat.zero_le _, Nat.zero_le _⟩ ?_
  refine x_if_ne (tgt := 17) hx hb dX1_opening_4 (by decide) (b01 (b_X1_isDay x0)) (fun c4 => ?_) (fun c4 => ?_)
  · rw [if_neg c4] at hz
    have hok := ok_X1_isDay c4
    obtain ⟨j, rfl⟩ : ∃ j : Nat, x0 = (j : Int) := ⟨x0.toNat, by omega⟩
    have hj : j < 7 := by omega
    try simp only [Int.toNat_natCast] at hz
    refine lv_iload_n hx hb dX1_opening_17 rfl (lv_at hl 2 rfl) ?_
    refine lv_iconst (v := jI (-1)) hx hb dX1_opening_18 rfl ?_
    refine x_icmp_eq (tgt := 42) hx hb dX1_opening_19 (by decide) ⟨(by omega), (by decide)⟩ (fun c19 => ?_) (fun c19 => ?_)
    · rw [if_pos c19] at hz
      refine lv_aload_n hx hb dX1_opening_42 rfl (lv_at hl 0 rfl) ?_
      refine lv_bipush (v := jI 14) hx hb dX1_opening_43 (by decide) ?_
      refine lv_iload_n hx hb dX1_opening_45 rfl (lv_at hl 1 rfl) ?_
      refine x_iadd hx hb dX1_opening_46 ?_
      refine lv_iload_n hx hb dX1_opening_47 rfl (lv_at hl 2 rfl) ?_
      refine xc_I (As := [.int (jI (14 + (j : Int))), .int (jI x1)]) (rest := []) hSx (m_X1_change l D cI a f g n b len kd sg nb pt (14 + j) x1 (by omega) (by omega)) (cwV 2 hts gX1_opening_X1_change rfl rfl rfl (by decide +kernel) ⟨Nat.le_of_ble_eq_true rfl, Nat.le_of_ble_eq_true rfl⟩) hP hD hS hA hK 0 rfl rfl rfl rfl hl.1 rfl (Nat.le_of_ble_eq_true rfl) dX1_opening_48 ⟨Nat.zero_le _, Nat.zero_le _⟩ (fun H locs hP hD hS => ?_)
      subst hz
      exact xt_i hx hb hr hlocks hK hP hD hS (Nat.zero_le _) (Nat.zero_le _) rfl rfl rfl dX1_opening_51
    · rw [if_neg c19] at hz
      refine lv_iload_n hx hb dX1_opening_22 rfl (lv_at hl 2 rfl) ?_
      refine x_if_lt (tgt := 32) hx hb dX1_opening_23 (by decide) (by omega) (fun c23 => ?_) (fun c23 => ?_)
      · rw [if_pos c23] at hz
        subst hz
        exact xt_throw (text := "the time is out of range") (is := 49) hx hb hlt hown (by decide) qc47 qiA (by decide) (fun z h9 => hts z (List.mem_cons_of_mem _ (List.mem_append_right _ h9))) xng_A xgd_A hE hA (hl.1.trans hml.symm) dX1_opening_32 dX1_opening_35 dX1_opening_36 dX1_opening_38 dX1_opening_41 hex (Nat.le_of_ble_eq_true rfl) (Nat.le_of_ble_eq_true rfl) (Nat.le_of_ble_eq_true rfl) (Nat.le_of_ble_eq_true rfl) hlocks hK hP hD hS rfl rfl (show (2 : Int) ≠ 0 by decide) rfl rfl
      · rw [if_neg c23] at hz
        refine lv_iload_n hx hb dX1_opening_26 rfl (lv_at hl 2 rfl) ?_
        refine lv_bipush (v := jI 24) hx hb dX1_opening_27 (by decide) ?_
        refine x_icmp_lt (tgt := 42) hx hb dX1_opening_29 (by decide) ⟨(by omega), (by decide)⟩ (fun c29 => ?_) (fun c29 => ?_)
        · rw [if_pos c29] at hz
          refine lv_aload_n hx hb dX1_opening_42 rfl (lv_at hl 0 rfl) ?_
          refine lv_bipush (v := jI 14) hx hb dX1_opening_43 (by decide) ?_
          refine lv_iload_n hx hb dX1_opening_45 rfl (lv_at hl 1 rfl) ?_
          refine x_iadd hx hb dX1_opening_46 ?_
          refine lv_iload_n hx hb dX1_opening_47 rfl (lv_at hl 2 rfl) ?_
          refine xc_I (As := [.int (jI (14 + (j : Int))), .int (jI x1)]) (rest := []) hSx (m_X1_change l D cI a f g n b len kd sg nb pt (14 + j) x1 (by omega) (by omega)) (cwV 2 hts gX1_opening_X1_change rfl rfl rfl (by decide +kernel) ⟨Nat.le_of_ble_eq_true rfl, Nat.le_of_ble_eq_true rfl⟩) hP hD hS hA hK 0 rfl rfl rfl rfl hl.1 rfl (Nat.le_of_ble_eq_true rfl) dX1_opening_48 ⟨Nat.zero_le _, Nat.zero_le _⟩ (fun H locs hP hD hS => ?_)
          subst hz
          exact xt_i hx hb hr hlocks hK hP hD hS (Nat.zero_le _) (Nat.zero_le _) rfl rfl rfl dX1_opening_51
        · rw [if_neg c29] at hz
          subst hz
          exact xt_throw (text := "the time is out of range") (is := 49) hx hb hlt hown (by decide) qc47 qiA (by decide) (fun z h9 => hts z (List.mem_cons_of_mem _ (List.mem_append_right _ h9))) xng_A xgd_A hE hA (hl.1.trans hml.symm) dX1_opening_32 dX1_opening_35 dX1_opening_36 dX1_opening_38 dX1_opening_41 hex (Nat.le_of_ble_eq_true rfl) (Nat.le_of_ble_eq_true rfl) (Nat.le_of_ble_eq_true rfl) (Nat.le_of_ble_eq_true rfl) hlocks hK hP hD hS rfl rfl (show (2 : Int) ≠ 0 by decide) rfl rfl
  · rw [if_pos c4] at hz
    subst hz
    exact xt_throw (text := "no such day") (is := 42) hx hb hlt hown (by decide) qc40 qiI (by decide) (fun z h9 => hts z (List.mem_cons_of_mem _ (List.mem_append_left _ (List.mem_append_right _ h9)))) xng_I xgd_I hE hA (hl.1.trans hml.symm) dX1_opening_7 dX1_opening_10 dX1_opening_11 dX1_opening_13 dX1_opening_16 hex (Nat.le_of_ble_eq_true rfl) (Nat.le_of_ble_eq_true rfl) (Nat.le_of_ble_eq_true rfl) (Nat.le_of_ble_eq_true rfl) hlocks hK hP hD hS rfl rfl (show (1 : Int) ≠ 0 by decide) rfl rfl
def s_X1_set (f : Nat → Int) (g : Nat → Int) (n : Nat) (x0 : Int) (x1 : Int) : Int × Int × (Nat → Int) × (Nat → Int) × Nat := if (s_X1_isSetting x0) = 0 then (1, 0, f, g, n) else (if x1 < (xleast (x0.toNat)) then (2, 0, f, g, n) else (if x1 ≤ (xmost (x0.toNat)) then (0, (s_X1_change f g n (11 + (x0.toNat)) x1).1, (s_X1_change f g n (11 + (x0.toNat)) x1).2.1, (s_X1_change f g n (11 + (x0.toNat)) x1).2.2.1, (s_X1_change f g n (11 + (x0.toNat)) x1).2.2.2) else (2, 0, f, g, n)))
abbrev rm_X1_set : Room := { frames := 6, cells := 1, slots := 6, locals := 103 }
set_option maxHeartbeats 4000000 in
set_option maxRecDepth 100000 in
theorem m_X1_set (l : Launch) (D : va_G) (cI : ClassId) (a : Nat → Nat) (f : Nat → Int) (g : Nat → Int) (n : Nat) (b : Nat → Int) (len : Nat) (kd : Nat → Int) (sg : Nat → Int) (nb : Nat → Int) (pt : Nat) (hlt : l.stackTraces = false) (x0 : Int) (x1 : Int) (hn : n ≤ 6) (hx0 : -2147483648 ≤ x0 ∧ x0 < 2147483648) (hx1 : -2147483648 ≤ x1 ∧ x1 < 2147483648) : MetT l yX1_set wsX1_set rm_X1_set D cI [.ref (a 0), .int (jI x0), .int (jI x1)] (w1 cI a f g n b len kd sg nb pt) (w1 cI a ((s_X1_set f g n x0 x1).2.2.1) ((s_X1_set f g n x0 x1).2.2.2.1) ((s_X1_set f g n x0 x1).2.2.2.2) b len kd sg nb pt) ((s_X1_set f g n x0 x1).1) ((s_X1_set f g n x0 x1).2.1) := by
  refine xe_T (cc := cX1_set) (maxL := 3) (ret := (some .int)) (by decide) rfl (Nat.le_of_ble_eq_true rfl) ?_
  intro p e s m below meth c hx hb hr hml hts hown hlocks hex hP hK A hA hD hS hE ls hl
  have hl : lv_has ls 3 [(0, .ref (a 0)), (1, .int (jI x0)), (2, .int (jI x1))] := hl
  have hown : s.vm.findClass RX1 = some m.cls := hown
  have hSx : CallFix p m c cX1_set 3 s ([.ref (a 0), .int (jI x0), .int (jI x1)] : List Value).toArray wsX1_set RX1 := ⟨hx, hb, hml, hown, hts⟩
  have qc40 := hts (.classLink RX1 40 xI) (by decide +kernel)
  have qc47 := hts (.classLink RX1 47 xA) (by decide +kernel)
  have qf61 := hts (.fieldLink RX1 61 "VaultMovements" "SETTING_LEAST" "[I") (by decide +kernel)
  have qf64 := hts (.fieldLink RX1 64 "VaultMovements" "SETTING_MOST" "[I") (by decide +kernel)
  have qiA := hts (.initialized xA) (by decide +kernel)
  have qiI := hts (.initialized xI) (by decide +kernel)
  obtain ⟨tl0, hZ0, hT0⟩ := hE.2.2.2.2.2.1
  obtain ⟨tl1, hZ1, hT1⟩ := hE.2.2.2.2.2.2
  obtain ⟨z, hz⟩ : ∃ z, z = (s_X1_set f g n x0 x1) := ⟨_, rfl⟩
  rw [← hz]
  unfold s_X1_set at hz
  refine lv_iload_n hx hb dX1_set_0 rfl (lv_at hl 1 rfl) ?_
  refine xc_P (As := [.int (jI x0)]) (rest := []) hSx (m_X1_isSetting l x0 (by omega)) (va_cwS 1 hts gX1_set_X1_isSetting rfl rfl rfl (by decide +kernel) ⟨Nat.le_of_ble_eq_true rfl, Nat.le_of_ble_eq_true rfl⟩) rfl hl.1 rfl (Nat.le_of_ble_eq_true rfl) dX1_set_1 ⟨Nat.zero_le _, Nat.zero_le _⟩ ?_
  refine x_if_ne (tgt := 17) hx hb dX1_set_4 (by decide) (b01 (b_X1_isSetting x0)) (fun c4 => ?_) (fun c4 => ?_)
  · rw [if_neg c4] at hz
    have hok := ok_X1_isSetting c4
    obtain ⟨j, rfl⟩ : ∃ j : Nat, x0 = (j : Int) := ⟨x0.toNat, by omega⟩
    have hj : j < 3 := by omega
    try simp only [Int.toNat_natCast] at hz
    refine lv_iload_n hx hb dX1_set_17 rfl (lv_at hl 2 rfl) ?_
    refine va_gets (v := .ref tl0) hx hb hZ0 hS hown qf61 (fun _ h9 => h9) dX1_set_18 ?_
    refine lv_iload_n hx hb dX1_set_21 rfl (lv_at hl 1 rfl) ?_
    refine va_ti (v := .int (jI (xleast j))) hx hb hT0 hS (by rw [jI_nat]; exact vp_in_nI (by omega) (by decide)) (by rw [jI_nat, nI_clamp (by omega)]) dX1_set_22 ?_
    refine x_icmp_lt (tgt := 35) hx hb dX1_set_23 (by decide) ⟨(by omega), (xl_rng _)⟩ (fun c23 => ?_) (fun c23 => ?_)
    · rw [if_pos c23] at hz
      subst hz
      exact xt_throw (text := "the value is out of range") (is := 67) hx hb hlt hown (by decide) qc47 qiA (by decide) (fun z h9 => hts z (List.mem_cons_of_mem _ (List.mem_append_right _ h9))) xng_A xgd_A hE hA (hl.1.trans hml.symm) dX1_set_35 dX1_set_38 dX1_set_39 dX1_set_41 dX1_set_44 hex (Nat.le_of_ble_eq_true rfl) (Nat.le_of_ble_eq_true rfl) (Nat.le_of_ble_eq_true rfl) (Nat.le_of_ble_eq_true rfl) hlocks hK hP hD hS rfl rfl (show (2 : Int) ≠ 0 by decide) rfl rfl
    · rw [if_neg c23] at hz
      refine lv_iload_n hx hb dX1_set_26 rfl (lv_at hl 2 rfl) ?_
      refine va_gets (v := .ref tl1) hx hb hZ1 hS hown qf64 (fun _ h9 => h9) dX1_set_27 ?_
      refine lv_iload_n hx hb dX1_set_30 rfl (lv_at hl 1 rfl) ?_
      refine va_ti (v := .int (jI (xmost j))) hx hb hT1 hS (by rw [jI_nat]; exact vp_in_nI (by omega) (by decide)) (by rw [jI_nat, nI_clamp (by omega)]) dX1_set_31 ?_
      refine x_icmp_le (tgt := 45) hx hb dX1_set_32 (by decide) ⟨(by omega), (xm_rng _)⟩ (fun c32 => ?_) (fun c32 => ?_)
      · rw [if_pos c32] at hz
        refine lv_aload_n hx hb dX1_set_45 rfl (lv_at hl 0 rfl) ?_
        refine lv_bipush (v := jI 11) hx hb dX1_set_46 (by decide) ?_
        refine lv_iload_n hx hb dX1_set_48 rfl (lv_at hl 1 rfl) ?_
        refine x_iadd hx hb dX1_set_49 ?_
        refine lv_iload_n hx hb dX1_set_50 rfl (lv_at hl 2 rfl) ?_
        refine xc_I (As := [.int (jI (11 + (j : Int))), .int (jI x1)]) (rest := []) hSx (m_X1_change l D cI a f g n b len kd sg nb pt (11 + j) x1 (by omega) (by omega)) (cwV 2 hts gX1_set_X1_change rfl rfl rfl (by decide +kernel) ⟨Nat.le_of_ble_eq_true rfl, Nat.le_of_ble_eq_true rfl⟩) hP hD hS hA hK 0 rfl rfl rfl rfl hl.1 rfl (Nat.le_of_ble_eq_true rfl) dX1_set_51 ⟨Nat.zero_le _, Nat.zero_le _⟩ (fun H locs hP hD hS => ?_)
        subst hz
        exact xt_i hx hb hr hlocks hK hP hD hS (Nat.zero_le _) (Nat.zero_le _) rfl rfl rfl dX1_set_54
      · rw [if_neg c32] at hz
        subst hz
        exact xt_throw (text := "the value is out of range") (is := 67) hx hb hlt hown (by decide) qc47 qiA (by decide) (fun z h9 => hts z (List.mem_cons_of_mem _ (List.mem_append_right _ h9))) xng_A xgd_A hE hA (hl.1.trans hml.symm) dX1_set_35 dX1_set_38 dX1_set_39 dX1_set_41 dX1_set_44 hex (Nat.le_of_ble_eq_true rfl) (Nat.le_of_ble_eq_true rfl) (Nat.le_of_ble_eq_true rfl) (Nat.le_of_ble_eq_true rfl) hlocks hK hP hD hS rfl rfl (show (2 : Int) ≠ 0 by decide) rfl rfl
  · rw [if_pos c4] at hz
    subst hz
    exact xt_throw (text := "no such setting") (is := 59) hx hb hlt hown (by decide) qc40 qiI (by decide) (fun z h9 => hts z (List.mem_cons_of_mem _ (List.mem_append_left _ (List.mem_append_right _ h9)))) xng_I xgd_I hE hA (hl.1.trans hml.symm) dX1_set_7 dX1_set_10 dX1_set_11 dX1_set_13 dX1_set_16 hex (Nat.le_of_ble_eq_true rfl) (Nat.le_of_ble_eq_true rfl) (Nat.le_of_ble_eq_true rfl) (Nat.le_of_ble_eq_true rfl) hlocks hK hP hD hS rfl rfl (show (1 : Int) ≠ 0 by decide) rfl rfl
def s_X1_wind (f : Nat → Int) (g : Nat → Int) (n : Nat) (x0 : Int) (x1 : Int) : Int × Int × (Nat → Int) × (Nat → Int) × Nat := if (s_X1_isMovement x0) = 0 then (1, 0, f, g, n) else (if (s_X1_areWindingHours x1) = 0 then (2, 0, f, g, n) else (if (s_X1_isLocked f) = 0 then (if (s_X1_goes f (x0.toNat)) = 0 then (3, 0, f, g, n) else (0, (s_X1_change f g n ((21 + ((x0.toNat) * 4)) + 0) x1).1, (s_X1_change f g n ((21 + ((x0.toNat) * 4)) + 0) x1).2.1, (s_X1_change f g n ((21 + ((x0.toNat) * 4)) + 0) x1).2.2.1, (s_X1_change f g n ((21 + ((x0.toNat) * 4)) + 0) x1).2.2.2)) else (3, 0, f, g, n)))
abbrev rm_X1_wind : Room := { frames := 6, cells := 1, slots := 6, locals := 103 }
set_option maxHeartbeats 4000000 in
set_option maxRecDepth 100000 in
theorem m_X1_wind (l : Launch) (D : va_G) (cI : ClassId) (a : Nat → Nat) (f : Nat → Int) (g : Nat → Int) (n : Nat) (b : Nat → Int) (len : Nat) (kd : Nat → Int) (sg : Nat → Int) (nb : Nat → Int) (pt : Nat) (hlt : l.stackTraces = false) (x0 : Int) (x1 : Int) (hn : n ≤ 6) (hrf : rng f) (hx0 : -2147483648 ≤ x0 ∧ x0 < 2147483648) (hx1 : -2147483648 ≤ x1 ∧ x1 < 2147483648) : MetT l yX1_wind wsX1_wind rm_X1_wind D cI [.ref (a 0), .int (jI x0), .int (jI x1)] (w1 cI a f g n b len kd sg nb pt) (w1 cI a ((s_X1_wind f g n x0 x1).2.2.1) ((s_X1_wind f g n x0 x1).2.2.2.1) ((s_X1_wind f g n x0 x1).2.2.2.2) b len kd sg nb pt) ((s_X1_wind f g n x0 x1).1) ((s_X1_wind f g n x0 x1).2.1) := by
  refine xe_T (cc := cX1_wind) (maxL := 3) (ret := (some .int)) (by decide) rfl (Nat.le_of_ble_eq_true rfl) ?_
  intro p e s m below meth c hx hb hr hml hts hown hlocks hex hP hK A hA hD hS hE ls hl
  have hl : lv_has ls 3 [(0, .ref (a 0)), (1, .int (jI x0)), (2, .int (jI x1))] := hl
  have hown : s.vm.findClass RX1 = some m.cls := hown
  have hSx : CallFix p m c cX1_wind 3 s ([.ref (a 0), .int (jI x0), .int (jI x1)] : List Value).toArray wsX1_wind RX1 := ⟨hx, hb, hml, hown, hts⟩
  have qc40 := hts (.classLink RX1 40 xI) (by decide +kernel)
  have qc47 := hts (.classLink RX1 47 xA) (by decide +kernel)
  have qc86 := hts (.classLink RX1 86 xS) (by decide +kernel)
  have qiA := hts (.initialized xA) (by decide +kernel)
  have qiI := hts (.initialized xI) (by decide +kernel)
  have qiS := hts (.initialized xS) (by decide +kernel)
  obtain ⟨z, hz⟩ : ∃ z, z = (s_X1_wind f g n x0 x1) := ⟨_, rfl⟩
  rw [← hz]
  unfold s_X1_wind at hz
  refine lv_iload_n hx hb dX1_wind_0 rfl (lv_at hl 1 rfl) ?_
  refine xc_P (As := [.int (jI x0)]) (rest := []) hSx (m_X1_isMovement l x0 (by omega)) (va_cwS 1 hts gX1_wind_X1_isMovement rfl rfl rfl (by decide +kernel) ⟨Nat.le_of_ble_eq_true rfl, Nat.le_of_ble_eq_true rfl⟩) rfl hl.1 rfl (Nat.le_of_ble_eq_true rfl) dX1_wind_1 ⟨Nat.zero_le _, Nat.zero_le _⟩ ?_
  refine x_if_ne (tgt := 17) hx hb dX1_wind_4 (by decide) (b01 (b_X1_isMovement x0)) (fun c4 => ?_) (fun c4 => ?_)
  · rw [if_neg c4] at hz
    have hok := ok_X1_isMovement c4
    obtain ⟨j, rfl⟩ : ∃ j : Nat, x0 = (j : Int) := ⟨x0.toNat, by omega⟩
    have hj : j < 3 := by omega
    try simp only [Int.toNat_natCast] at hz
    refine lv_iload_n hx hb dX1_wind_17 rfl (lv_at hl 2 rfl) ?_
    refine xc_P (As := [.int (jI x1)]) (rest := []) hSx (m_X1_areWindingHours l x1 (by omega)) (va_cwS 1 hts gX1_wind_X1_areWindingHours rfl rfl rfl (by decide +kernel) ⟨Nat.le_of_ble_eq_true rfl, Nat.le_of_ble_eq_true rfl⟩) rfl hl.1 rfl (Nat.le_of_ble_eq_true rfl) dX1_wind_18 ⟨Nat.zero_le _, Nat.zero_le _⟩ ?_
    refine x_if_ne (tgt := 34) hx hb dX1_wind_21 (by decide) (b01 (b_X1_areWindingHours x1)) (fun c21 => ?_) (fun c21 => ?_)
    · rw [if_neg c21] at hz
      refine lv_aload_n hx hb dX1_wind_34 rfl (lv_at hl 0 rfl) ?_
      refine xc_R (As := []) (rest := []) hSx (m_X1_isLocked l D cI a f g n b len kd sg nb pt  (by omega)) (cwV 0 hts gX1_wind_X1_isLocked rfl rfl rfl (by decide +kernel) ⟨Nat.le_of_ble_eq_true rfl, Nat.le_of_ble_eq_true rfl⟩) hP hK 0 rfl rfl rfl rfl hl.1 rfl (Nat.le_of_ble_eq_true rfl) dX1_wind_35 ⟨Nat.zero_le _, Nat.zero_le _⟩ ?_
      refine x_if_ne (tgt := 49) hx hb dX1_wind_38 (by decide) (b01 (b_X1_isLocked f)) (fun c38 => ?_) (fun c38 => ?_)
      · rw [if_neg c38] at hz
        subst hz
        exact xt_throw (text := "the door is locked, or the movement is stopped") (is := 88) hx hb hlt hown (by decide) qc86 qiS (by decide) (fun z h9 => hts z (List.mem_cons_of_mem _ (List.mem_append_right _ h9))) xng_S xgd_S hE hA (hl.1.trans hml.symm) dX1_wind_49 dX1_wind_52 dX1_wind_53 dX1_wind_55 dX1_wind_58 hex (Nat.le_of_ble_eq_true rfl) (Nat.le_of_ble_eq_true rfl) (Nat.le_of_ble_eq_true rfl) (Nat.le_of_ble_eq_true rfl) hlocks hK hP hD hS rfl rfl (show (3 : Int) ≠ 0 by decide) rfl rfl
      · rw [if_pos c38] at hz
        refine lv_aload_n hx hb dX1_wind_41 rfl (lv_at hl 0 rfl) ?_
        refine lv_iload_n hx hb dX1_wind_42 rfl (lv_at hl 1 rfl) ?_
        refine xc_R (As := [.int (jI (j : Int))]) (rest := []) hSx (m_X1_goes l D cI a f g n b len kd sg nb pt j (by omega) (by omega)) (cwV 1 hts gX1_wind_X1_goes rfl rfl rfl (by decide +kernel) ⟨Nat.le_of_ble_eq_true rfl, Nat.le_of_ble_eq_true rfl⟩) hP hK 0 rfl rfl rfl rfl hl.1 rfl (Nat.le_of_ble_eq_true rfl) dX1_wind_43 ⟨Nat.zero_le _, Nat.zero_le _⟩ ?_
        refine x_if_ne (tgt := 59) hx hb dX1_wind_46 (by decide) (b01 (b_X1_goes f j)) (fun c46 => ?_) (fun c46 => ?_)
        · rw [if_neg c46] at hz
          refine lv_aload_n hx hb dX1_wind_59 rfl (lv_at hl 0 rfl) ?_
          refine lv_iload_n hx hb dX1_wind_60 rfl (lv_at hl 1 rfl) ?_
          refine lv_iconst (v := jI 0) hx hb dX1_wind_61 rfl ?_
          refine xc_P (As := [.int (jI (j : Int)), .int (jI 0)]) (rest := [.ref (a 0)]) hSx (m_X1_place l (j : Int) 0 ) (va_cwS 2 hts gX1_wind_X1_place rfl rfl rfl (by decide +kernel) ⟨Nat.le_of_ble_eq_true rfl, Nat.le_of_ble_eq_true rfl⟩) rfl hl.1 rfl (Nat.le_of_ble_eq_true rfl) dX1_wind_62 ⟨Nat.zero_le _, Nat.zero_le _⟩ ?_
          refine lv_iload_n hx hb dX1_wind_65 rfl (lv_at hl 2 rfl) ?_
          refine xc_I (As := [.int (jI ((21 + ((j : Int) * 4)) + 0)), .int (jI x1)]) (rest := []) hSx (m_X1_change l D cI a f g n b len kd sg nb pt ((21 + (j * 4)) + 0) x1 (by omega) (by omega)) (cwV 2 hts gX1_wind_X1_change rfl rfl rfl (by decide +kernel) ⟨Nat.le_of_ble_eq_true rfl, Nat.le_of_ble_eq_true rfl⟩) hP hD hS hA hK 0 rfl rfl rfl rfl hl.1 rfl (Nat.le_of_ble_eq_true rfl) dX1_wind_66 ⟨Nat.zero_le _, Nat.zero_le _⟩ (fun H locs hP hD hS => ?_)
          subst hz
          exact xt_i hx hb hr hlocks hK hP hD hS (Nat.zero_le _) (Nat.zero_le _) rfl rfl rfl dX1_wind_69
        · rw [if_pos c46] at hz
          subst hz
          exact xt_throw (text := "the door is locked, or the movement is stopped") (is := 88) hx hb hlt hown (by decide) qc86 qiS (by decide) (fun z h9 => hts z (List.mem_cons_of_mem _ (List.mem_append_right _ h9))) xng_S xgd_S hE hA (hl.1.trans hml.symm) dX1_wind_49 dX1_wind_52 dX1_wind_53 dX1_wind_55 dX1_wind_58 hex (Nat.le_of_ble_eq_true rfl) (Nat.le_of_ble_eq_true rfl) (Nat.le_of_ble_eq_true rfl) (Nat.le_of_ble_eq_true rfl) hlocks hK hP hD hS rfl rfl (show (3 : Int) ≠ 0 by decide) rfl rfl
    · rw [if_pos c21] at hz
      subst hz
      exact xt_throw (text := "the hours are out of range") (is := 77) hx hb hlt hown (by decide) qc47 qiA (by decide) (fun z h9 => hts z (List.mem_cons_of_mem _ (List.mem_append_left _ (List.mem_append_right _ h9)))) xng_A xgd_A hE hA (hl.1.trans hml.symm) dX1_wind_24 dX1_wind_27 dX1_wind_28 dX1_wind_30 dX1_wind_33 hex (Nat.le_of_ble_eq_true rfl) (Nat.le_of_ble_eq_true rfl) (Nat.le_of_ble_eq_true rfl) (Nat.le_of_ble_eq_true rfl) hlocks hK hP hD hS rfl rfl (show (2 : Int) ≠ 0 by decide) rfl rfl
  · rw [if_pos c4] at hz
    subst hz
    exact xt_throw (text := "no such movement") (is := 72) hx hb hlt hown (by decide) qc40 qiI (by decide) (fun z h9 => hts z (List.mem_cons_of_mem _ (List.mem_append_left _ (List.mem_append_left _ (List.mem_append_right _ h9))))) xng_I xgd_I hE hA (hl.1.trans hml.symm) dX1_wind_7 dX1_wind_10 dX1_wind_11 dX1_wind_13 dX1_wind_16 hex (Nat.le_of_ble_eq_true rfl) (Nat.le_of_ble_eq_true rfl) (Nat.le_of_ble_eq_true rfl) (Nat.le_of_ble_eq_true rfl) hlocks hK hP hD hS rfl rfl (show (1 : Int) ≠ 0 by decide) rfl rfl
def s_X1_fault (f : Nat → Int) (g : Nat → Int) (n : Nat) (x0 : Int) (x1 : Int) : Int × Int × (Nat → Int) × (Nat → Int) × Nat := if (s_X1_isMovement x0) = 0 then (1, 0, f, g, n) else (if x1 = 0 then (0, (s_X1_change f g n ((21 + ((x0.toNat) * 4)) + 1) 0).1, (s_X1_change f g n ((21 + ((x0.toNat) * 4)) + 1) 0).2.1, (s_X1_change f g n ((21 + ((x0.toNat) * 4)) + 1) 0).2.2.1, (s_X1_change f g n ((21 + ((x0.toNat) * 4)) + 1) 0).2.2.2) else (0, (s_X1_change f g n ((21 + ((x0.toNat) * 4)) + 1) 1).1, (s_X1_change f g n ((21 + ((x0.toNat) * 4)) + 1) 1).2.1, (s_X1_change f g n ((21 + ((x0.toNat) * 4)) + 1) 1).2.2.1, (s_X1_change f g n ((21 + ((x0.toNat) * 4)) + 1) 1).2.2.2))
abbrev rm_X1_fault : Room := { frames := 6, cells := 1, slots := 6, locals := 103 }
set_option maxHeartbeats 4000000 in
set_option maxRecDepth 100000 in
theorem m_X1_fault (l : Launch) (D : va_G) (cI : ClassId) (a : Nat → Nat) (f : Nat → Int) (g : Nat → Int) (n : Nat) (b : Nat → Int) (len : Nat) (kd : Nat → Int) (sg : Nat → Int) (nb : Nat → Int) (pt : Nat) (hlt : l.stackTraces = false) (x0 : Int) (x1 : Int) (hn : n ≤ 6) (hx0 : -2147483648 ≤ x0 ∧ x0 < 2147483648) (hx1 : x1 = 0 ∨ x1 = 1) : MetT l yX1_fault wsX1_fault rm_X1_fault D cI [.ref (a 0), .int (jI x0), .int (jI x1)] (w1 cI a f g n b len kd sg nb pt) (w1 cI a ((s_X1_fault f g n x0 x1).2.2.1) ((s_X1_fault f g n x0 x1).2.2.2.1) ((s_X1_fault f g n x0 x1).2.2.2.2) b len kd sg nb pt) ((s_X1_fault f g n x0 x1).1) ((s_X1_fault f g n x0 x1).2.1) := by
  refine xe_T (cc := cX1_fault) (maxL := 3) (ret := (some .int)) (by decide) rfl (Nat.le_of_ble_eq_true rfl) ?_
  intro p e s m below meth c hx hb hr hml hts hown hlocks hex hP hK A hA hD hS hE ls hl
  have hl : lv_has ls 3 [(0, .ref (a 0)), (1, .int (jI x0)), (2, .int (jI x1))] := hl
  have hown : s.vm.findClass RX1 = some m.cls := hown
  have hSx : CallFix p m c cX1_fault 3 s ([.ref (a 0), .int (jI x0), .int (jI x1)] : List Value).toArray wsX1_fault RX1 := ⟨hx, hb, hml, hown, hts⟩
  have qc40 := hts (.classLink RX1 40 xI) (by decide +kernel)
  have qiI := hts (.initialized xI) (by decide +kernel)
  obtain ⟨z, hz⟩ : ∃ z, z = (s_X1_fault f g n x0 x1) := ⟨_, rfl⟩
  rw [← hz]
  unfold s_X1_fault at hz
  refine lv_iload_n hx hb dX1_fault_0 rfl (lv_at hl 1 rfl) ?_
  refine xc_P (As := [.int (jI x0)]) (rest := []) hSx (m_X1_isMovement l x0 (by omega)) (va_cwS 1 hts gX1_fault_X1_isMovement rfl rfl rfl (by decide +kernel) ⟨Nat.le_of_ble_eq_true rfl, Nat.le_of_ble_eq_true rfl⟩) rfl hl.1 rfl (Nat.le_of_ble_eq_true rfl) dX1_fault_1 ⟨Nat.zero_le _, Nat.zero_le _⟩ ?_
  refine x_if_ne (tgt := 17) hx hb dX1_fault_4 (by decide) (b01 (b_X1_isMovement x0)) (fun c4 => ?_) (fun c4 => ?_)
  · rw [if_neg c4] at hz
    have hok := ok_X1_isMovement c4
    obtain ⟨j, rfl⟩ : ∃ j : Nat, x0 = (j : Int) := ⟨x0.toNat, by omega⟩
    have hj : j < 3 := by omega
    try simp only [Int.toNat_natCast] at hz
    refine lv_aload_n hx hb dX1_fault_17 rfl (lv_at hl 0 rfl) ?_
    refine lv_iload_n hx hb dX1_fault_18 rfl (lv_at hl 1 rfl) ?_
    refine lv_iconst (v := jI 1) hx hb dX1_fault_19 rfl ?_
    refine xc_P (As := [.int (jI (j : Int)), .int (jI 1)]) (rest := [.ref (a 0)]) hSx (m_X1_place l (j : Int) 1 ) (va_cwS 2 hts gX1_fault_X1_place rfl rfl rfl (by decide +kernel) ⟨Nat.le_of_ble_eq_true rfl, Nat.le_of_ble_eq_true rfl⟩) rfl hl.1 rfl (Nat.le_of_ble_eq_true rfl) dX1_fault_20 ⟨Nat.zero_le _, Nat.zero_le _⟩ ?_
    refine lv_iload_n hx hb dX1_fault_23 rfl (lv_at hl 2 rfl) ?_
    refine x_if_eq (tgt := 31) hx hb dX1_fault_24 (by decide) (by omega) (fun c24 => ?_) (fun c24 => ?_)
    · rw [if_pos c24] at hz
      refine lv_iconst (v := jI 0) hx hb dX1_fault_31 rfl ?_
      refine xc_I (As := [.int (jI ((21 + ((j : Int) * 4)) + 1)), .int (jI 0)]) (rest := []) hSx (m_X1_change l D cI a f g n b len kd sg nb pt ((21 + (j * 4)) + 1) 0 (by omega) (by omega)) (cwV 2 hts gX1_fault_X1_change rfl rfl rfl (by decide +kernel) ⟨Nat.le_of_ble_eq_true rfl, Nat.le_of_ble_eq_true rfl⟩) hP hD hS hA hK 0 rfl rfl rfl rfl hl.1 rfl (Nat.le_of_ble_eq_true rfl) dX1_fault_32 ⟨Nat.zero_le _, Nat.zero_le _⟩ (fun H locs hP hD hS => ?_)
      subst hz
      exact xt_i hx hb hr hlocks hK hP hD hS (Nat.zero_le _) (Nat.zero_le _) rfl rfl rfl dX1_fault_35
    · rw [if_neg c24] at hz
      refine lv_iconst (v := jI 1) hx hb dX1_fault_27 rfl ?_
      refine lv_goto (tgt := 32) hx hb dX1_fault_28 (by decide) ?_
      refine xc_I (As := [.int (jI ((21 + ((j : Int) * 4)) + 1)), .int (jI 1)]) (rest := []) hSx (m_X1_change l D cI a f g n b len kd sg nb pt ((21 + (j * 4)) + 1) 1 (by omega) (by omega)) (cwV 2 hts gX1_fault_X1_change rfl rfl rfl (by decide +kernel) ⟨Nat.le_of_ble_eq_true rfl, Nat.le_of_ble_eq_true rfl⟩) hP hD hS hA hK 0 rfl rfl rfl rfl hl.1 rfl (Nat.le_of_ble_eq_true rfl) dX1_fault_32 ⟨Nat.zero_le _, Nat.zero_le _⟩ (fun H locs hP hD hS => ?_)
      subst hz
      exact xt_i hx hb hr hlocks hK hP hD hS (Nat.zero_le _) (Nat.zero_le _) rfl rfl rfl dX1_fault_35
  · rw [if_pos c4] at hz
    subst hz
    exact xt_throw (text := "no such movement") (is := 72) hx hb hlt hown (by decide) qc40 qiI (by decide) (fun z h9 => hts z (List.mem_cons_of_mem _ (List.mem_append_right _ h9))) xng_I xgd_I hE hA (hl.1.trans hml.symm) dX1_fault_7 dX1_fault_10 dX1_fault_11 dX1_fault_13 dX1_fault_16 hex (Nat.le_of_ble_eq_true rfl) (Nat.le_of_ble_eq_true rfl) (Nat.le_of_ble_eq_true rfl) (Nat.le_of_ble_eq_true rfl) hlocks hK hP hD hS rfl rfl (show (1 : Int) ≠ 0 by decide) rfl rfl
def s_X1_loss (f : Nat → Int) (g : Nat → Int) (n : Nat) (x0 : Int) (x1 : Int) : Int × Int × (Nat → Int) × (Nat → Int) × Nat := if (s_X1_isMovement x0) = 0 then (1, 0, f, g, n) else (if x1 < 0 then (2, 0, f, g, n) else (if x1 ≤ 20 then (0, (s_X1_change f g n ((21 + ((x0.toNat) * 4)) + 2) x1).1, (s_X1_change f g n ((21 + ((x0.toNat) * 4)) + 2) x1).2.1, (s_X1_change f g n ((21 + ((x0.toNat) * 4)) + 2) x1).2.2.1, (s_X1_change f g n ((21 + ((x0.toNat) * 4)) + 2) x1).2.2.2) else (2, 0, f, g, n)))
abbrev rm_X1_loss : Room := { frames := 6, cells := 1, slots := 6, locals := 103 }
set_option maxHeartbeats 4000000 in
set_option maxRecDepth 100000 in
theorem m_X1_loss (l : Launch) (D : va_G) (cI : ClassId) (a : Nat → Nat) (f : Nat → Int) (g : Nat → Int) (n : Nat) (b : Nat → Int) (len : Nat) (kd : Nat → Int) (sg : Nat → Int) (nb : Nat → Int) (pt : Nat) (hlt : l.stackTraces = false) (x0 : Int) (x1 : Int) (hn : n ≤ 6) (hx0 : -2147483648 ≤ x0 ∧ x0 < 2147483648) (hx1 : -2147483648 ≤ x1 ∧ x1 < 2147483648) : MetT l yX1_loss wsX1_loss rm_X1_loss D cI [.ref (a 0), .int (jI x0), .int (jI x1)] (w1 cI a f g n b len kd sg nb pt) (w1 cI a ((s_X1_loss f g n x0 x1).2.2.1) ((s_X1_loss f g n x0 x1).2.2.2.1) ((s_X1_loss f g n x0 x1).2.2.2.2) b len kd sg nb pt) ((s_X1_loss f g n x0 x1).1) ((s_X1_loss f g n x0 x1).2.1) := by
  refine xe_T (cc := cX1_loss) (maxL := 3) (ret := (some .int)) (by decide) rfl (Nat.le_of_ble_eq_true rfl) ?_
  intro p e s m below meth c hx hb hr hml hts hown hlocks hex hP hK A hA hD hS hE ls hl
  have hl : lv_has ls 3 [(0, .ref (a 0)), (1, .int (jI x0)), (2, .int (jI x1))] := hl
  have hown : s.vm.findClass RX1 = some m.cls := hown
  have hSx : CallFix p m c cX1_loss 3 s ([.ref (a 0), .int (jI x0), .int (jI x1)] : List Value).toArray wsX1_loss RX1 := ⟨hx, hb, hml, hown, hts⟩
  have qc40 := hts (.classLink RX1 40 xI) (by decide +kernel)
  have qc47 := hts (.classLink RX1 47 xA) (by decide +kernel)
  have qiA := hts (.initialized xA) (by decide +kernel)
  have qiI := hts (.initialized xI) (by decide +kernel)
  obtain ⟨z, hz⟩ : ∃ z, z = (s_X1_loss f g n x0 x1) := ⟨_, rfl⟩
  rw [← hz]
  unfold s_X1_loss at hz
  refine lv_iload_n hx hb dX1_loss_0 rfl (lv_at hl 1 rfl) ?_
  refine xc_P (As := [.int (jI x0)]) (rest := []) hSx (m_X1_isMovement l x0 (by omega)) (va_cwS 1 hts gX1_loss_X1_isMovement rfl rfl rfl (by decide +kernel) ⟨Nat.le_of_ble_eq_true rfl, Nat.le_of_ble_eq_true rfl⟩) rfl hl.1 rfl (Nat.le_of_ble_eq_true rfl) dX1_loss_1 ⟨Nat.zero_le _, Nat.zero_le _⟩ ?_
  refine x_if_ne (tgt := 17) hx hb dX1_loss_4 (by decide) (b01 (b_X1_isMovement x0)) (fun c4 => ?_) (fun c4 => ?_)
  · rw [if_neg c4] at hz
    have hok := ok_X1_isMovement c4
    obtain ⟨j, rfl⟩ : ∃ j : Nat, x0 = (j : Int) := ⟨x0.toNat, by omega⟩
    have hj : j < 3 := by omega
    try simp only [Int.toNat_natCast] at hz
    refine lv_iload_n hx hb dX1_loss_17 rfl (lv_at hl 2 rfl) ?_
    refine x_if_lt (tgt := 27) hx hb dX1_loss_18 (by decide) (by omega) (fun c18 => ?_) (fun c18 => ?_)
    · rw [if_pos c18] at hz
      subst hz
      exact xt_throw (text := "the loss is out of range") (is := 94) hx hb hlt hown (by decide) qc47 qiA (by decide) (fun z h9 => hts z (List.mem_cons_of_mem _ (List.mem_append_right _ h9))) xng_A xgd_A hE hA (hl.1.trans hml.symm) dX1_loss_27 dX1_loss_30 dX1_loss_31 dX1_loss_33 dX1_loss_36 hex (Nat.le_of_ble_eq_true rfl) (Nat.le_of_ble_eq_true rfl) (Nat.le_of_ble_eq_true rfl) (Nat.le_of_ble_eq_true rfl) hlocks hK hP hD hS rfl rfl (show (2 : Int) ≠ 0 by decide) rfl rfl
    · rw [if_neg c18] at hz
      refine lv_iload_n hx hb dX1_loss_21 rfl (lv_at hl 2 rfl) ?_
      refine lv_bipush (v := jI 20) hx hb dX1_loss_22 (by decide) ?_
      refine x_icmp_le (tgt := 37) hx hb dX1_loss_24 (by decide) ⟨(by omega), (by decide)⟩ (fun c24 => ?_) (fun c24 => ?_)
      · rw [if_pos c24] at hz
        refine lv_aload_n hx hb dX1_loss_37 rfl (lv_at hl 0 rfl) ?_
        refine lv_iload_n hx hb dX1_loss_38 rfl (lv_at hl 1 rfl) ?_
        refine lv_iconst (v := jI 2) hx hb dX1_loss_39 rfl ?_
        refine xc_P (As := [.int (jI (j : Int)), .int (jI 2)]) (rest := [.ref (a 0)]) hSx (m_X1_place l (j : Int) 2 ) (va_cwS 2 hts gX1_loss_X1_place rfl rfl rfl (by decide +kernel) ⟨Nat.le_of_ble_eq_true rfl, Nat.le_of_ble_eq_true rfl⟩) rfl hl.1 rfl (Nat.le_of_ble_eq_true rfl) dX1_loss_40 ⟨Nat.zero_le _, Nat.zero_le _⟩ ?_
        refine lv_iload_n hx hb dX1_loss_43 rfl (lv_at hl 2 rfl) ?_
        refine xc_I (As := [.int (jI ((21 + ((j : Int) * 4)) + 2)), .int (jI x1)]) (rest := []) hSx (m_X1_change l D cI a f g n b len kd sg nb pt ((21 + (j * 4)) + 2) x1 (by omega) (by omega)) (cwV 2 hts gX1_loss_X1_change rfl rfl rfl (by decide +kernel) ⟨Nat.le_of_ble_eq_true rfl, Nat.le_of_ble_eq_true rfl⟩) hP hD hS hA hK 0 rfl rfl rfl rfl hl.1 rfl (Nat.le_of_ble_eq_true rfl) dX1_loss_44 ⟨Nat.zero_le _, Nat.zero_le _⟩ (fun H locs hP hD hS => ?_)
        subst hz
        exact xt_i hx hb hr hlocks hK hP hD hS (Nat.zero_le _) (Nat.zero_le _) rfl rfl rfl dX1_loss_47
      · rw [if_neg c24] at hz
        subst hz
        exact xt_throw (text := "the loss is out of range") (is := 94) hx hb hlt hown (by decide) qc47 qiA (by decide) (fun z h9 => hts z (List.mem_cons_of_mem _ (List.mem_append_right _ h9))) xng_A xgd_A hE hA (hl.1.trans hml.symm) dX1_loss_27 dX1_loss_30 dX1_loss_31 dX1_loss_33 dX1_loss_36 hex (Nat.le_of_ble_eq_true rfl) (Nat.le_of_ble_eq_true rfl) (Nat.le_of_ble_eq_true rfl) (Nat.le_of_ble_eq_true rfl) hlocks hK hP hD hS rfl rfl (show (2 : Int) ≠ 0 by decide) rfl rfl
  · rw [if_pos c4] at hz
    subst hz
    exact xt_throw (text := "no such movement") (is := 72) hx hb hlt hown (by decide) qc40 qiI (by decide) (fun z h9 => hts z (List.mem_cons_of_mem _ (List.mem_append_left _ (List.mem_append_right _ h9)))) xng_I xgd_I hE hA (hl.1.trans hml.symm) dX1_loss_7 dX1_loss_10 dX1_loss_11 dX1_loss_13 dX1_loss_16 hex (Nat.le_of_ble_eq_true rfl) (Nat.le_of_ble_eq_true rfl) (Nat.le_of_ble_eq_true rfl) (Nat.le_of_ble_eq_true rfl) hlocks hK hP hD hS rfl rfl (show (1 : Int) ≠ 0 by decide) rfl rfl
def s_X1_service (f : Nat → Int) (g : Nat → Int) (n : Nat) (x0 : Int) : Int × Int × (Nat → Int) × (Nat → Int) × Nat := if (s_X1_isMovement x0) = 0 then (1, 0, f, g, n) else (if (s_X1_isLocked f) = 0 then (0, (s_X1_change f g n ((21 + ((x0.toNat) * 4)) + 3) 0).1, (upz (upz ((s_X1_change f g n ((21 + ((x0.toNat) * 4)) + 3) 0).2.1) ((21 + ((x0.toNat) * 4)) + 1) 1) ((21 + ((x0.toNat) * 4)) + 2) 0), (s_X1_change f g n ((21 + ((x0.toNat) * 4)) + 3) 0).2.2.1, (s_X1_change f g n ((21 + ((x0.toNat) * 4)) + 3) 0).2.2.2) else (3, 0, f, g, n))
abbrev rm_X1_service : Room := { frames := 6, cells := 1, slots := 6, locals := 103 }
set_option maxHeartbeats 4000000 in
set_option maxRecDepth 100000 in
theorem m_X1_service (l : Launch) (D : va_G) (cI : ClassId) (a : Nat → Nat) (f : Nat → Int) (g : Nat → Int) (n : Nat) (b : Nat → Int) (len : Nat) (kd : Nat → Int) (sg : Nat → Int) (nb : Nat → Int) (pt : Nat) (hlt : l.stackTraces = false) (x0 : Int) (hn : n ≤ 6) (hrf : rng f) (hx0 : -2147483648 ≤ x0 ∧ x0 < 2147483648) : MetT l yX1_service wsX1_service rm_X1_service D cI [.ref (a 0), .int (jI x0)] (w1 cI a f g n b len kd sg nb pt) (w1 cI a ((s_X1_service f g n x0).2.2.1) ((s_X1_service f g n x0).2.2.2.1) ((s_X1_service f g n x0).2.2.2.2) b len kd sg nb pt) ((s_X1_service f g n x0).1) ((s_X1_service f g n x0).2.1) := by
  refine xe_T (cc := cX1_service) (maxL := 3) (ret := (some .int)) (by decide) rfl (Nat.le_of_ble_eq_true rfl) ?_
  intro p e s m below meth c hx hb hr hml hts hown hlocks hex hP hK A hA hD hS hE ls hl
  have hl : lv_has ls 3 [(0, .ref (a 0)), (1, .int (jI x0))] := hl
  have hown : s.vm.findClass RX1 = some m.cls := hown
  have hSx : CallFix p m c cX1_service 3 s ([.ref (a 0), .int (jI x0)] : List Value).toArray wsX1_service RX1 := ⟨hx, hb, hml, hown, hts⟩
  have inRX1 : ∀ w ∈ u_ws RX1 TX1 6, w ∈ wsX1_service := by decide +kernel
  have qc40 := hts (.classLink RX1 40 xI) (by decide +kernel)
  have qc86 := hts (.classLink RX1 86 xS) (by decide +kernel)
  have qf9 := hts (.fieldLink RX1 9 "VaultMovements" "now" "[I") (by decide +kernel)
  have qiI := hts (.initialized xI) (by decide +kernel)
  have qiS := hts (.initialized xS) (by decide +kernel)
  obtain ⟨z, hz⟩ : ∃ z, z = (s_X1_service f g n x0) := ⟨_, rfl⟩
  rw [← hz]
  unfold s_X1_service at hz
  refine lv_iload_n hx hb dX1_service_0 rfl (lv_at hl 1 rfl) ?_
  refine xc_P (As := [.int (jI x0)]) (rest := []) hSx (m_X1_isMovement l x0 (by omega)) (va_cwS 1 hts gX1_service_X1_isMovement rfl rfl rfl (by decide +kernel) ⟨Nat.le_of_ble_eq_true rfl, Nat.le_of_ble_eq_true rfl⟩) rfl hl.1 rfl (Nat.le_of_ble_eq_true rfl) dX1_service_1 ⟨Nat.zero_le _, Nat.zero_le _⟩ ?_
  refine x_if_ne (tgt := 17) hx hb dX1_service_4 (by decide) (b01 (b_X1_isMovement x0)) (fun c4 => ?_) (fun c4 => ?_)
  · rw [if_neg c4] at hz
    have hok := ok_X1_isMovement c4
    obtain ⟨j, rfl⟩ : ∃ j : Nat, x0 = (j : Int) := ⟨x0.toNat, by omega⟩
    have hj : j < 3 := by omega
    try simp only [Int.toNat_natCast] at hz
    refine lv_aload_n hx hb dX1_service_17 rfl (lv_at hl 0 rfl) ?_
    refine xc_R (As := []) (rest := []) hSx (m_X1_isLocked l D cI a f g n b len kd sg nb pt  (by omega)) (cwV 0 hts gX1_service_X1_isLocked rfl rfl rfl (by decide +kernel) ⟨Nat.le_of_ble_eq_true rfl, Nat.le_of_ble_eq_true rfl⟩) hP hK 0 rfl rfl rfl rfl hl.1 rfl (Nat.le_of_ble_eq_true rfl) dX1_service_18 ⟨Nat.zero_le _, Nat.zero_le _⟩ ?_
    refine x_if_eq (tgt := 34) hx hb dX1_service_21 (by decide) (b01 (b_X1_isLocked f)) (fun c21 => ?_) (fun c21 => ?_)
    · rw [if_pos c21] at hz
      refine lv_aload_n hx hb dX1_service_34 rfl (lv_at hl 0 rfl) ?_
      refine lv_iload_n hx hb dX1_service_35 rfl (lv_at hl 1 rfl) ?_
      refine lv_iconst (v := jI 3) hx hb dX1_service_36 rfl ?_
      refine xc_P (As := [.int (jI (j : Int)), .int (jI 3)]) (rest := [.ref (a 0)]) hSx (m_X1_place l (j : Int) 3 ) (va_cwS 2 hts gX1_service_X1_place rfl rfl rfl (by decide +kernel) ⟨Nat.le_of_ble_eq_true rfl, Nat.le_of_ble_eq_true rfl⟩) rfl hl.1 rfl (Nat.le_of_ble_eq_true rfl) dX1_service_37 ⟨Nat.zero_le _, Nat.zero_le _⟩ ?_
      refine lv_iconst (v := jI 0) hx hb dX1_service_40 rfl ?_
      refine xc_I (As := [.int (jI ((21 + ((j : Int) * 4)) + 3)), .int (jI 0)]) (rest := []) hSx (m_X1_change l D cI a f g n b len kd sg nb pt ((21 + (j * 4)) + 3) 0 (by omega) (by omega)) (cwV 2 hts gX1_service_X1_change rfl rfl rfl (by decide +kernel) ⟨Nat.le_of_ble_eq_true rfl, Nat.le_of_ble_eq_true rfl⟩) hP hD hS hA hK 0 rfl rfl rfl rfl hl.1 rfl (Nat.le_of_ble_eq_true rfl) dX1_service_41 ⟨Nat.zero_le _, Nat.zero_le _⟩ (fun H locs hP hD hS => ?_)
      refine lv_istore_n (lv' := [(2, .int (jI ((s_X1_change f g n ((21 + (j * 4)) + 3) 0).1))), (0, .ref (a 0)), (1, .int (jI (j : Int)))]) hx hb dX1_service_44 rfl hl (by decide) rfl (fun ls hl => ?_)
      refine lv_aload_n hx hb dX1_service_45 rfl (lv_at hl 1 rfl) ?_
      refine va_get (D := D) (ci := 1) (v := .ref (a 1)) (C := RX1) (T := TX1) (N := 6) hx hb hts inRX1 hown hK hP 0 rfl rfl 0 (by decide) qf9 (fun _ h9 => h9) rfl dX1_service_46 ?_
      refine lv_iload_n hx hb dX1_service_49 rfl (lv_at hl 2 rfl) ?_
      refine lv_iconst (v := jI 1) hx hb dX1_service_50 rfl ?_
      refine xc_P (As := [.int (jI (j : Int)), .int (jI 1)]) (rest := [.ref (a 1)]) hSx (m_X1_place l (j : Int) 1 ) (va_cwS 2 hts gX1_service_X1_place rfl rfl rfl (by decide +kernel) ⟨Nat.le_of_ble_eq_true rfl, Nat.le_of_ble_eq_true rfl⟩) rfl hl.1 rfl (Nat.le_of_ble_eq_true rfl) dX1_service_51 ⟨Nat.zero_le _, Nat.zero_le _⟩ ?_
      refine lv_iconst (v := jI 1) hx hb dX1_service_54 rfl ?_
      refine x_iast (w1 := (w1 cI a (upz ((s_X1_change f g n ((21 + (j * 4)) + 3) 0).2.1) ((21 + (j * 4)) + 1) 1) ((s_X1_change f g n ((21 + (j * 4)) + 3) 0).2.2.1) ((s_X1_change f g n ((21 + (j * 4)) + 3) 0).2.2.2) b len kd sg nb pt)) hx hb hK hP hD hS 1 0 rfl rfl ((21 + (j * 4)) + 1) (by omega) (by omega) (by decide) dX1_service_55 rfl (fun H locs hP hD hS => ?_)
      refine lv_aload_n hx hb dX1_service_56 rfl (lv_at hl 1 rfl) ?_
      refine va_get (D := D) (ci := 1) (v := .ref (a 1)) (C := RX1) (T := TX1) (N := 6) hx hb hts inRX1 hown hK hP 0 rfl rfl 0 (by decide) qf9 (fun _ h9 => h9) rfl dX1_service_57 ?_
      refine lv_iload_n hx hb dX1_service_60 rfl (lv_at hl 2 rfl) ?_
      refine lv_iconst (v := jI 2) hx hb dX1_service_61 rfl ?_
      refine xc_P (As := [.int (jI (j : Int)), .int (jI 2)]) (rest := [.ref (a 1)]) hSx (m_X1_place l (j : Int) 2 ) (va_cwS 2 hts gX1_service_X1_place rfl rfl rfl (by decide +kernel) ⟨Nat.le_of_ble_eq_true rfl, Nat.le_of_ble_eq_true rfl⟩) rfl hl.1 rfl (Nat.le_of_ble_eq_true rfl) dX1_service_62 ⟨Nat.zero_le _, Nat.zero_le _⟩ ?_
      refine lv_iconst (v := jI 0) hx hb dX1_service_65 rfl ?_
      refine x_iast (w1 := (w1 cI a (upz (upz ((s_X1_change f g n ((21 + (j * 4)) + 3) 0).2.1) ((21 + (j * 4)) + 1) 1) ((21 + (j * 4)) + 2) 0) ((s_X1_change f g n ((21 + (j * 4)) + 3) 0).2.2.1) ((s_X1_change f g n ((21 + (j * 4)) + 3) 0).2.2.2) b len kd sg nb pt)) hx hb hK hP hD hS 1 0 rfl rfl ((21 + (j * 4)) + 2) (by omega) (by omega) (by decide) dX1_service_66 rfl (fun H locs hP hD hS => ?_)
      refine lv_iload_n hx hb dX1_service_67 rfl (lv_at hl 0 rfl) ?_
      subst hz
      exact xt_i hx hb hr hlocks hK hP hD hS (Nat.zero_le _) (Nat.zero_le _) rfl rfl rfl dX1_service_68
    · rw [if_neg c21] at hz
      subst hz
      exact xt_throw (text := "the door is locked") (is := 96) hx hb hlt hown (by decide) qc86 qiS (by decide) (fun z h9 => hts z (List.mem_cons_of_mem _ (List.mem_append_right _ h9))) xng_S xgd_S hE hA (hl.1.trans hml.symm) dX1_service_24 dX1_service_27 dX1_service_28 dX1_service_30 dX1_service_33 hex (Nat.le_of_ble_eq_true rfl) (Nat.le_of_ble_eq_true rfl) (Nat.le_of_ble_eq_true rfl) (Nat.le_of_ble_eq_true rfl) hlocks hK hP hD hS rfl rfl (show (3 : Int) ≠ 0 by decide) rfl rfl
  · rw [if_pos c4] at hz
    subst hz
    exact xt_throw (text := "no such movement") (is := 72) hx hb hlt hown (by decide) qc40 qiI (by decide) (fun z h9 => hts z (List.mem_cons_of_mem _ (List.mem_append_left _ (List.mem_append_right _ h9)))) xng_I xgd_I hE hA (hl.1.trans hml.symm) dX1_service_7 dX1_service_10 dX1_service_11 dX1_service_13 dX1_service_16 hex (Nat.le_of_ble_eq_true rfl) (Nat.le_of_ble_eq_true rfl) (Nat.le_of_ble_eq_true rfl) (Nat.le_of_ble_eq_true rfl) hlocks hK hP hD hS rfl rfl (show (1 : Int) ≠ 0 by decide) rfl rfl
def s_X1_lock (f : Nat → Int) (g : Nat → Int) (n : Nat) : Int × Int × (Nat → Int) × (Nat → Int) × Nat := if (s_X1_isLocked f) = 0 then (if (s_X1_someMovementRuns f) = 0 then (3, 0, f, g, n) else (if (s_X1_hoursToOpening f) = (-1) then (0, (s_X1_hoursToOpening f), (upz (upz f 1 1) 2 (-1)), (s_X1_save f g n).1, (s_X1_save f g n).2) else (0, (s_X1_hoursToOpening f), (upz (upz f 1 1) 2 ((f 0) + (s_X1_hoursToOpening f))), (s_X1_save f g n).1, (s_X1_save f g n).2))) else (3, 0, f, g, n)
abbrev rm_X1_lock : Room := { frames := 6, cells := 1, slots := 6, locals := 100 }
set_option maxHeartbeats 4000000 in
set_option maxRecDepth 100000 in
theorem m_X1_lock (l : Launch) (D : va_G) (cI : ClassId) (a : Nat → Nat) (f : Nat → Int) (g : Nat → Int) (n : Nat) (b : Nat → Int) (len : Nat) (kd : Nat → Int) (sg : Nat → Int) (nb : Nat → Int) (pt : Nat) (hlt : l.stackTraces = false) (hn : n ≤ 6) (hrf : rng f) (hm : mvs f) (hh : 0 ≤ f 0 ∧ f 0 ≤ 99999) (hd : ∀ k : Nat, 14 ≤ k → k < 21 → -1 ≤ f k ∧ f k ≤ 23) : MetT l yX1_lock wsX1_lock rm_X1_lock D cI [.ref (a 0)] (w1 cI a f g n b len kd sg nb pt) (w1 cI a ((s_X1_lock f g n).2.2.1) ((s_X1_lock f g n).2.2.2.1) ((s_X1_lock f g n).2.2.2.2) b len kd sg nb pt) ((s_X1_lock f g n).1) ((s_X1_lock f g n).2.1) := by
  refine xe_T (cc := cX1_lock) (maxL := 2) (ret := (some .int)) (by decide) rfl (Nat.le_of_ble_eq_true rfl) ?_
  intro p e s m below meth c hx hb hr hml hts hown hlocks hex hP hK A hA hD hS hE ls hl
  have hl : lv_has ls 2 [(0, .ref (a 0))] := hl
  have hown : s.vm.findClass RX1 = some m.cls := hown
  have hSx : CallFix p m c cX1_lock 2 s ([.ref (a 0)] : List Value).toArray wsX1_lock RX1 := ⟨hx, hb, hml, hown, hts⟩
  have inRX1 : ∀ w ∈ u_ws RX1 TX1 6, w ∈ wsX1_lock := by decide +kernel
  have qc86 := hts (.classLink RX1 86 xS) (by decide +kernel)
  have qf9 := hts (.fieldLink RX1 9 "VaultMovements" "now" "[I") (by decide +kernel)
  have qiS := hts (.initialized xS) (by decide +kernel)
  obtain ⟨z, hz⟩ : ∃ z, z = (s_X1_lock f g n) := ⟨_, rfl⟩
  rw [← hz]
  unfold s_X1_lock at hz
  refine lv_aload_n hx hb dX1_lock_0 rfl (lv_at hl 0 rfl) ?_
  refine xc_R (As := []) (rest := []) hSx (m_X1_isLocked l D cI a f g n b len kd sg nb pt  (by omega)) (cwV 0 hts gX1_lock_X1_isLocked rfl rfl rfl (by decide +kernel) ⟨Nat.le_of_ble_eq_true rfl, Nat.le_of_ble_eq_true rfl⟩) hP hK 0 rfl rfl rfl rfl hl.1 rfl (Nat.le_of_ble_eq_true rfl) dX1_lock_1 ⟨Nat.zero_le _, Nat.zero_le _⟩ ?_
  refine x_if_ne (tgt := 14) hx hb dX1_lock_4 (by decide) (b01 (b_X1_isLocked f)) (fun c4 => ?_) (fun c4 => ?_)
  · rw [if_neg c4] at hz
    subst hz
    exact xt_throw (text := "the door is locked, or no movement would run") (is := 101) hx hb hlt hown (by decide) qc86 qiS (by decide) (fun z h9 => hts z (List.mem_cons_of_mem _ (List.mem_append_right _ h9))) xng_S xgd_S hE hA (hl.1.trans hml.symm) dX1_lock_14 dX1_lock_17 dX1_lock_18 dX1_lock_20 dX1_lock_23 hex (Nat.le_of_ble_eq_true rfl) (Nat.le_of_ble_eq_true rfl) (Nat.le_of_ble_eq_true rfl) (Nat.le_of_ble_eq_true rfl) hlocks hK hP hD hS rfl rfl (show (3 : Int) ≠ 0 by decide) rfl rfl
  · rw [if_pos c4] at hz
    refine lv_aload_n hx hb dX1_lock_7 rfl (lv_at hl 0 rfl) ?_
    refine xc_R (As := []) (rest := []) hSx (m_X1_someMovementRuns l D cI a f g n b len kd sg nb pt  (by omega) (by omega)) (cwV 0 hts gX1_lock_X1_someMovementRuns rfl rfl rfl (by decide +kernel) ⟨Nat.le_of_ble_eq_true rfl, Nat.le_of_ble_eq_true rfl⟩) hP hK 0 rfl rfl rfl rfl hl.1 rfl (Nat.le_of_ble_eq_true rfl) dX1_lock_8 ⟨Nat.zero_le _, Nat.zero_le _⟩ ?_
    refine x_if_ne (tgt := 24) hx hb dX1_lock_11 (by decide) (b01 (b_X1_someMovementRuns f)) (fun c11 => ?_) (fun c11 => ?_)
    · rw [if_neg c11] at hz
      refine lv_aload_n hx hb dX1_lock_24 rfl (lv_at hl 0 rfl) ?_
      refine xc_V (As := []) (rest := []) hSx (m_X1_save l D cI a f g n b len kd sg nb pt  (by omega)) (cwV 0 hts gX1_lock_X1_save rfl rfl rfl (by decide +kernel) ⟨Nat.le_of_ble_eq_true rfl, Nat.le_of_ble_eq_true rfl⟩) hP hD hS hA hK 0 rfl rfl rfl rfl hl.1 rfl (Nat.le_of_ble_eq_true rfl) dX1_lock_25 ⟨Nat.zero_le _, Nat.zero_le _⟩ (fun H locs hP hD hS => ?_)
      refine lv_aload_n hx hb dX1_lock_28 rfl (lv_at hl 0 rfl) ?_
      refine xc_R (As := []) (rest := []) hSx (m_X1_hoursToOpening l D cI a f ((s_X1_save f g n).1) ((s_X1_save f g n).2) b len kd sg nb pt  (by omega) (by omega) (by omega)) (cwV 0 hts gX1_lock_X1_hoursToOpening rfl rfl rfl (by decide +kernel) ⟨Nat.le_of_ble_eq_true rfl, Nat.le_of_ble_eq_true rfl⟩) hP hK 0 rfl rfl rfl rfl hl.1 rfl (Nat.le_of_ble_eq_true rfl) dX1_lock_29 ⟨Nat.zero_le _, Nat.zero_le _⟩ ?_
      have hrd := r_X1_hoursToOpening f hh hd
      refine lv_istore_n (lv' := [(1, .int (jI (s_X1_hoursToOpening f))), (0, .ref (a 0))]) hx hb dX1_lock_32 rfl hl (by decide) rfl (fun ls hl => ?_)
      refine lv_aload_n hx hb dX1_lock_33 rfl (lv_at hl 1 rfl) ?_
      refine va_get (D := D) (ci := 1) (v := .ref (a 1)) (C := RX1) (T := TX1) (N := 6) hx hb hts inRX1 hown hK hP 0 rfl rfl 0 (by decide) qf9 (fun _ h9 => h9) rfl dX1_lock_34 ?_
      refine lv_iconst (v := jI 1) hx hb dX1_lock_37 rfl ?_
      refine lv_iconst (v := jI 1) hx hb dX1_lock_38 rfl ?_
      refine x_iast (w1 := (w1 cI a (upz f 1 1) ((s_X1_save f g n).1) ((s_X1_save f g n).2) b len kd sg nb pt)) hx hb hK hP hD hS 1 0 rfl rfl 1 rfl (by decide) (by decide) dX1_lock_39 rfl (fun H locs hP hD hS => ?_)
      refine lv_aload_n hx hb dX1_lock_40 rfl (lv_at hl 1 rfl) ?_
      refine va_get (D := D) (ci := 1) (v := .ref (a 1)) (C := RX1) (T := TX1) (N := 6) hx hb hts inRX1 hown hK hP 0 rfl rfl 0 (by decide) qf9 (fun _ h9 => h9) rfl dX1_lock_41 ?_
      refine lv_iconst (v := jI 2) hx hb dX1_lock_44 rfl ?_
      refine lv_iload_n hx hb dX1_lock_45 rfl (lv_at hl 0 rfl) ?_
      refine lv_iconst (v := jI (-1)) hx hb dX1_lock_46 rfl ?_
      refine x_icmp_ne (tgt := 54) hx hb dX1_lock_47 (by decide) ⟨(by omega), (by decide)⟩ (fun c47 => ?_) (fun c47 => ?_)
      · rw [if_neg c47] at hz
        refine lv_aload_n hx hb dX1_lock_54 rfl (lv_at hl 1 rfl) ?_
        refine va_get (D := D) (ci := 1) (v := .ref (a 1)) (C := RX1) (T := TX1) (N := 6) hx hb hts inRX1 hown hK hP 0 rfl rfl 0 (by decide) qf9 (fun _ h9 => h9) rfl dX1_lock_55 ?_
        refine lv_iconst (v := jI 0) hx hb dX1_lock_58 rfl ?_
        refine x_iald hx hb hK hP 1 0 rfl rfl 0 rfl (by decide) (by decide) dX1_lock_59 ?_
        rw [show (upz f 1 1) 0 = f 0 from upz_n (by omega)]
        refine lv_iload_n hx hb dX1_lock_60 rfl (lv_at hl 0 rfl) ?_
        refine x_iadd hx hb dX1_lock_61 ?_
        refine x_iast (w1 := (w1 cI a (upz (upz f 1 1) 2 ((f 0) + (s_X1_hoursToOpening f))) ((s_X1_save f g n).1) ((s_X1_save f g n).2) b len kd sg nb pt)) hx hb hK hP hD hS 1 0 rfl rfl 2 rfl (by decide) (by decide) dX1_lock_62 rfl (fun H locs hP hD hS => ?_)
        refine lv_iload_n hx hb dX1_lock_63 rfl (lv_at hl 0 rfl) ?_
        subst hz
        exact xt_i hx hb hr hlocks hK hP hD hS (Nat.zero_le _) (Nat.zero_le _) rfl rfl rfl dX1_lock_64
      · rw [if_pos c47] at hz
        refine lv_iconst (v := jI (-1)) hx hb dX1_lock_50 rfl ?_
        refine lv_goto (tgt := 62) hx hb dX1_lock_51 (by decide) ?_
        refine x_iast (w1 := (w1 cI a (upz (upz f 1 1) 2 (-1)) ((s_X1_save f g n).1) ((s_X1_save f g n).2) b len kd sg nb pt)) hx hb hK hP hD hS 1 0 rfl rfl 2 rfl (by decide) (by decide) dX1_lock_62 rfl (fun H locs hP hD hS => ?_)
        refine lv_iload_n hx hb dX1_lock_63 rfl (lv_at hl 0 rfl) ?_
        subst hz
        exact xt_i hx hb hr hlocks hK hP hD hS (Nat.zero_le _) (Nat.zero_le _) rfl rfl rfl dX1_lock_64
    · rw [if_pos c11] at hz
      subst hz
      exact xt_throw (text := "the door is locked, or no movement would run") (is := 101) hx hb hlt hown (by decide) qc86 qiS (by decide) (fun z h9 => hts z (List.mem_cons_of_mem _ (List.mem_append_right _ h9))) xng_S xgd_S hE hA (hl.1.trans hml.symm) dX1_lock_14 dX1_lock_17 dX1_lock_18 dX1_lock_20 dX1_lock_23 hex (Nat.le_of_ble_eq_true rfl) (Nat.le_of_ble_eq_true rfl) (Nat.le_of_ble_eq_true rfl) (Nat.le_of_ble_eq_true rfl) hlocks hK hP hD hS rfl rfl (show (3 : Int) ≠ 0 by decide) rfl rfl
def s_X1_open (f : Nat → Int) (g : Nat → Int) (n : Nat) : Int × Int × (Nat → Int) × (Nat → Int) × Nat := if (s_X1_isLocked f) = 0 then (3, 0, f, g, n) else (if (s_X1_hoursToOpen f (-1)) = 0 then (0, 1, (s_X1_leaveOpen (s_X1_countOpening f (s_X1_latenessAfter f 0))), (s_X1_save f g n).1, (s_X1_save f g n).2) else (0, 0, (s_X1_countEarlyTry f), (s_X1_save f g n).1, (s_X1_save f g n).2))
abbrev rm_X1_open : Room := { frames := 6, cells := 1, slots := 6, locals := 100 }
set_option maxHeartbeats 4000000 in
set_option maxRecDepth 100000 in
theorem m_X1_open (l : Launch) (D : va_G) (cI : ClassId) (a : Nat → Nat) (f : Nat → Int) (g : Nat → Int) (n : Nat) (b : Nat → Int) (len : Nat) (kd : Nat → Int) (sg : Nat → Int) (nb : Nat → Int) (pt : Nat) (hlt : l.stackTraces = false) (hn : n ≤ 6) (hrf : rng f) (hm : mvs f) (hh : 0 ≤ f 0 ∧ f 0 ≤ 99999) (hw : 0 ≤ f 4 ∧ f 4 ≤ 100100) (h2 : -1 ≤ f 2 ∧ f 2 ≤ 100300) (h3 : 0 ≤ f 3 ∧ f 3 ≤ 8) (h11 : 1 ≤ f 11 ∧ f 11 ≤ 9) : MetT l yX1_open wsX1_open rm_X1_open D cI [.ref (a 0)] (w1 cI a f g n b len kd sg nb pt) (w1 cI a ((s_X1_open f g n).2.2.1) ((s_X1_open f g n).2.2.2.1) ((s_X1_open f g n).2.2.2.2) b len kd sg nb pt) ((s_X1_open f g n).1) ((s_X1_open f g n).2.1) := by
  refine xe_T (cc := cX1_open) (maxL := 1) (ret := (some .int)) (by decide) rfl (Nat.le_of_ble_eq_true rfl) ?_
  intro p e s m below meth c hx hb hr hml hts hown hlocks hex hP hK A hA hD hS hE ls hl
  have hl : lv_has ls 1 [(0, .ref (a 0))] := hl
  have hown : s.vm.findClass RX1 = some m.cls := hown
  have hSx : CallFix p m c cX1_open 1 s ([.ref (a 0)] : List Value).toArray wsX1_open RX1 := ⟨hx, hb, hml, hown, hts⟩
  have qc86 := hts (.classLink RX1 86 xS) (by decide +kernel)
  have qiS := hts (.initialized xS) (by decide +kernel)
  obtain ⟨z, hz⟩ : ∃ z, z = (s_X1_open f g n) := ⟨_, rfl⟩
  rw [← hz]
  unfold s_X1_open at hz
  refine lv_aload_n hx hb dX1_open_0 rfl (lv_at hl 0 rfl) ?_
  refine xc_R (As := []) (rest := []) hSx (m_X1_isLocked l D cI a f g n b len kd sg nb pt  (by omega)) (cwV 0 hts gX1_open_X1_isLocked rfl rfl rfl (by decide +kernel) ⟨Nat.le_of_ble_eq_true rfl, Nat.le_of_ble_eq_true rfl⟩) hP hK 0 rfl rfl rfl rfl hl.1 rfl (Nat.le_of_ble_eq_true rfl) dX1_open_1 ⟨Nat.zero_le _, Nat.zero_le _⟩ ?_
  refine x_if_ne (tgt := 17) hx hb dX1_open_4 (by decide) (b01 (b_X1_isLocked f)) (fun c4 => ?_) (fun c4 => ?_)
  · rw [if_neg c4] at hz
    refine lv_aload_n hx hb dX1_open_17 rfl (lv_at hl 0 rfl) ?_
    refine xc_V (As := []) (rest := []) hSx (m_X1_save l D cI a f g n b len kd sg nb pt  (by omega)) (cwV 0 hts gX1_open_X1_save rfl rfl rfl (by decide +kernel) ⟨Nat.le_of_ble_eq_true rfl, Nat.le_of_ble_eq_true rfl⟩) hP hD hS hA hK 0 rfl rfl rfl rfl hl.1 rfl (Nat.le_of_ble_eq_true rfl) dX1_open_18 ⟨Nat.zero_le _, Nat.zero_le _⟩ (fun H locs hP hD hS => ?_)
    refine lv_aload_n hx hb dX1_open_21 rfl (lv_at hl 0 rfl) ?_
    refine lv_iconst (v := jI (-1)) hx hb dX1_open_22 rfl ?_
    refine xc_R (As := [.int (jI (-1))]) (rest := []) hSx (m_X1_hoursToOpen l D cI a f ((s_X1_save f g n).1) ((s_X1_save f g n).2) b len kd sg nb pt (-1) (by omega) (by omega) (by omega) (by omega) (by decide)) (cwV 1 hts gX1_open_X1_hoursToOpen rfl rfl rfl (by decide +kernel) ⟨Nat.le_of_ble_eq_true rfl, Nat.le_of_ble_eq_true rfl⟩) hP hK 0 rfl rfl rfl rfl hl.1 rfl (Nat.le_of_ble_eq_true rfl) dX1_open_23 ⟨Nat.zero_le _, Nat.zero_le _⟩ ?_
    have hrd := r_X1_hoursToOpen f (-1) hm hh hw
    refine x_if_eq (tgt := 35) hx hb dX1_open_26 (by decide) (by omega) (fun c26 => ?_) (fun c26 => ?_)
    · rw [if_pos c26] at hz
      refine lv_aload_n hx hb dX1_open_35 rfl (lv_at hl 0 rfl) ?_
      refine lv_aload_n hx hb dX1_open_36 rfl (lv_at hl 0 rfl) ?_
      refine lv_iconst (v := jI 0) hx hb dX1_open_37 rfl ?_
      refine xc_R (As := [.int (jI 0)]) (rest := [.ref (a 0)]) hSx (m_X1_latenessAfter l D cI a f ((s_X1_save f g n).1) ((s_X1_save f g n).2) b len kd sg nb pt 0 (by omega)) (cwV 1 hts gX1_open_X1_latenessAfter rfl rfl rfl (by decide +kernel) ⟨Nat.le_of_ble_eq_true rfl, Nat.le_of_ble_eq_true rfl⟩) hP hK 0 rfl rfl rfl rfl hl.1 rfl (Nat.le_of_ble_eq_true rfl) dX1_open_38 ⟨Nat.zero_le _, Nat.zero_le _⟩ ?_
      have hla : -2147483648 ≤ s_X1_latenessAfter f 0 ∧ s_X1_latenessAfter f 0 < 2147483648 := by unfold s_X1_latenessAfter; split <;> omega
      refine xc_V (As := [.int (jI (s_X1_latenessAfter f 0))]) (rest := []) hSx (m_X1_countOpening l D cI a f ((s_X1_save f g n).1) ((s_X1_save f g n).2) b len kd sg nb pt (s_X1_latenessAfter f 0) hla) (cwV 1 hts gX1_open_X1_countOpening rfl rfl rfl (by decide +kernel) ⟨Nat.le_of_ble_eq_true rfl, Nat.le_of_ble_eq_true rfl⟩) hP hD hS hA hK 0 rfl rfl rfl rfl hl.1 rfl (Nat.le_of_ble_eq_true rfl) dX1_open_41 ⟨Nat.zero_le _, Nat.zero_le _⟩ (fun H locs hP hD hS => ?_)
      refine lv_aload_n hx hb dX1_open_44 rfl (lv_at hl 0 rfl) ?_
      refine xc_V (As := []) (rest := []) hSx (m_X1_leaveOpen l D cI a (s_X1_countOpening f (s_X1_latenessAfter f 0)) ((s_X1_save f g n).1) ((s_X1_save f g n).2) b len kd sg nb pt  ) (cwV 0 hts gX1_open_X1_leaveOpen rfl rfl rfl (by decide +kernel) ⟨Nat.le_of_ble_eq_true rfl, Nat.le_of_ble_eq_true rfl⟩) hP hD hS hA hK 0 rfl rfl rfl rfl hl.1 rfl (Nat.le_of_ble_eq_true rfl) dX1_open_45 ⟨Nat.zero_le _, Nat.zero_le _⟩ (fun H locs hP hD hS => ?_)
      refine lv_iconst (v := jI 1) hx hb dX1_open_48 rfl ?_
      subst hz
      exact xt_i hx hb hr hlocks hK hP hD hS (Nat.zero_le _) (Nat.zero_le _) rfl rfl rfl dX1_open_49
    · rw [if_neg c26] at hz
      refine lv_aload_n hx hb dX1_open_29 rfl (lv_at hl 0 rfl) ?_
      refine xc_V (As := []) (rest := []) hSx (m_X1_countEarlyTry l D cI a f ((s_X1_save f g n).1) ((s_X1_save f g n).2) b len kd sg nb pt  (by omega) (by omega) (by omega) (by omega)) (cwV 0 hts gX1_open_X1_countEarlyTry rfl rfl rfl (by decide +kernel) ⟨Nat.le_of_ble_eq_true rfl, Nat.le_of_ble_eq_true rfl⟩) hP hD hS hA hK 0 rfl rfl rfl rfl hl.1 rfl (Nat.le_of_ble_eq_true rfl) dX1_open_30 ⟨Nat.zero_le _, Nat.zero_le _⟩ (fun H locs hP hD hS => ?_)
      refine lv_iconst (v := jI 0) hx hb dX1_open_33 rfl ?_
      subst hz
      exact xt_i hx hb hr hlocks hK hP hD hS (Nat.zero_le _) (Nat.zero_le _) rfl rfl rfl dX1_open_34
  · rw [if_pos c4] at hz
    subst hz
    exact xt_throw (text := "the door is open") (is := 110) hx hb hlt hown (by decide) qc86 qiS (by decide) (fun z h9 => hts z (List.mem_cons_of_mem _ (List.mem_append_right _ h9))) xng_S xgd_S hE hA (hl.1.trans hml.symm) dX1_open_7 dX1_open_10 dX1_open_11 dX1_open_13 dX1_open_16 hex (Nat.le_of_ble_eq_true rfl) (Nat.le_of_ble_eq_true rfl) (Nat.le_of_ble_eq_true rfl) (Nat.le_of_ble_eq_true rfl) hlocks hK hP hD hS rfl rfl (show (3 : Int) ≠ 0 by decide) rfl rfl
def s_X1_drill_lp23 (f : Nat → Int) (g : Nat → Int) (n : Nat) : Nat → Nat → (Nat → Int) → Int × Int × (Nat → Int) × (Nat → Int) × Nat
  | 0, _, _ => default
  | k + 1, i, f9 => if 3 ≤ (i : Int) then (0, (((s_X1_leaveOpen f9) 10) + 1), (upz (s_X1_leaveOpen f9) 10 (((s_X1_leaveOpen f9) 10) + 1)), (s_X1_save f g n).1, (s_X1_save f g n).2) else (s_X1_drill_lp23 f g n k (i + 1) (upz (upz f9 ((21 + (i * 4)) + 0) 0) ((21 + (i * 4)) + 1) 0))
def s_X1_drill (f : Nat → Int) (g : Nat → Int) (n : Nat) : Int × Int × (Nat → Int) × (Nat → Int) × Nat := if (s_X1_isLocked f) = 0 then (3, 0, f, g, n) else (s_X1_drill_lp23 f g n (3 + 1 - 0) 0 f)
abbrev rm_X1_drill : Room := { frames := 6, cells := 1, slots := 6, locals := 100 }
set_option maxHeartbeats 4000000 in
set_option maxRecDepth 100000 in
theorem m_X1_drill (l : Launch) (D : va_G) (cI : ClassId) (a : Nat → Nat) (f : Nat → Int) (g : Nat → Int) (n : Nat) (b : Nat → Int) (len : Nat) (kd : Nat → Int) (sg : Nat → Int) (nb : Nat → Int) (pt : Nat) (hlt : l.stackTraces = false) (hn : n ≤ 6) (hrf : rng f) : MetT l yX1_drill wsX1_drill rm_X1_drill D cI [.ref (a 0)] (w1 cI a f g n b len kd sg nb pt) (w1 cI a ((s_X1_drill f g n).2.2.1) ((s_X1_drill f g n).2.2.2.1) ((s_X1_drill f g n).2.2.2.2) b len kd sg nb pt) ((s_X1_drill f g n).1) ((s_X1_drill f g n).2.1) := by
  refine xe_T (cc := cX1_drill) (maxL := 2) (ret := (some .int)) (by decide) rfl (Nat.le_of_ble_eq_true rfl) ?_
  intro p e s m below meth c hx hb hr hml hts hown hlocks hex hP hK A hA hD hS hE ls hl
  have hl : lv_has ls 2 [(0, .ref (a 0))] := hl
  have hown : s.vm.findClass RX1 = some m.cls := hown
  have hSx : CallFix p m c cX1_drill 2 s ([.ref (a 0)] : List Value).toArray wsX1_drill RX1 := ⟨hx, hb, hml, hown, hts⟩
  have inRX1 : ∀ w ∈ u_ws RX1 TX1 6, w ∈ wsX1_drill := by decide +kernel
  have qc86 := hts (.classLink RX1 86 xS) (by decide +kernel)
  have qf9 := hts (.fieldLink RX1 9 "VaultMovements" "now" "[I") (by decide +kernel)
  have qiS := hts (.initialized xS) (by decide +kernel)
  obtain ⟨z, hz⟩ : ∃ z, z = (s_X1_drill f g n) := ⟨_, rfl⟩
  rw [← hz]
  unfold s_X1_drill at hz
  refine lv_aload_n hx hb dX1_drill_0 rfl (lv_at hl 0 rfl) ?_
  refine xc_R (As := []) (rest := []) hSx (m_X1_isLocked l D cI a f g n b len kd sg nb pt  (by omega)) (cwV 0 hts gX1_drill_X1_isLocked rfl rfl rfl (by decide +kernel) ⟨Nat.le_of_ble_eq_true rfl, Nat.le_of_ble_eq_true rfl⟩) hP hK 0 rfl rfl rfl rfl hl.1 rfl (Nat.le_of_ble_eq_true rfl) dX1_drill_1 ⟨Nat.zero_le _, Nat.zero_le _⟩ ?_
  refine x_if_ne (tgt := 17) hx hb dX1_drill_4 (by decide) (b01 (b_X1_isLocked f)) (fun c4 => ?_) (fun c4 => ?_)
  · rw [if_neg c4] at hz
    refine lv_aload_n hx hb dX1_drill_17 rfl (lv_at hl 0 rfl) ?_
    refine xc_V (As := []) (rest := []) hSx (m_X1_save l D cI a f g n b len kd sg nb pt  (by omega)) (cwV 0 hts gX1_drill_X1_save rfl rfl rfl (by decide +kernel) ⟨Nat.le_of_ble_eq_true rfl, Nat.le_of_ble_eq_true rfl⟩) hP hD hS hA hK 0 rfl rfl rfl rfl hl.1 rfl (Nat.le_of_ble_eq_true rfl) dX1_drill_18 ⟨Nat.zero_le _, Nat.zero_le _⟩ (fun H locs hP hD hS => ?_)
    refine lv_iconst (v := jI 0) hx hb dX1_drill_21 rfl ?_
    refine lv_istore_n (lv' := [(1, .int (jI 0)), (0, .ref (a 0))]) hx hb dX1_drill_22 rfl hl (by decide) rfl (fun ls hl => ?_)
    have LP23 : ∀ (k i : Nat) (f9 : Nat → Int) (H : Heap) (locs : List Loc) (ls : Array Slot), i ≤ 3 → i + k = 3 + 1 → z = (s_X1_drill_lp23 f g n) k i f9 → va_P D vwCl (w1 cI a f9 ((s_X1_save f g n).1) ((s_X1_save f g n).2) b len kd sg nb pt) H → va_D A (w1 cI a f9 ((s_X1_save f g n).1) ((s_X1_save f g n).2) b len kd sg nb pt) → va_S A s.heap H locs → lv_has ls 2 [(0, .ref (a 0)), (1, .int (jI (i : Int)))] → W p l e rm_X1_drill s m ([.ref (a 0)] : List Value).toArray below meth c H locs 0 0 (vx_MQ below (va_Qi (fun x (_ : Unit) => z.1 = 0 ∧ x = jI z.2.1) (xq_B D cI A (w1 cI a z.2.2.1 z.2.2.2.1 z.2.2.2.2 b len kd sg nb pt)) A) (vx_X (fun (_ : Unit) => z.1 ≠ 0) (fun E _ t => E = xex z.1 ∧ xq_B D cI A (w1 cI a z.2.2.1 z.2.2.2.1 z.2.2.2.2 b len kd sg nb pt) () t) A) ([.ref (a 0)] : List Value).toArray s 1 6 A) (F0 m 23 ls []) := by
      intro k
      induction k with
      | zero => intro i f9 _ _ ls h1 h2; exact absurd h2 (by omega)
      | succ k ih =>
        intro i f9 H locs ls h1 h2 hz hP hD hS hl
        rw [s_X1_drill_lp23] at hz
        refine lv_iload_n hx hb dX1_drill_23 rfl (lv_at hl 1 rfl) ?_
        refine lv_iconst (v := jI 3) hx hb dX1_drill_24 rfl ?_
        refine x_icmp_ge (tgt := 56) hx hb dX1_drill_25 (by decide) ⟨(by omega), (by decide)⟩ (fun c25 => ?_) (fun c25 => ?_)
        · rw [if_pos c25] at hz
          refine lv_aload_n hx hb dX1_drill_56 rfl (lv_at hl 0 rfl) ?_
          refine xc_V (As := []) (rest := []) hSx (m_X1_leaveOpen l D cI a f9 ((s_X1_save f g n).1) ((s_X1_save f g n).2) b len kd sg nb pt  ) (cwV 0 hts gX1_drill_X1_leaveOpen rfl rfl rfl (by decide +kernel) ⟨Nat.le_of_ble_eq_true rfl, Nat.le_of_ble_eq_true rfl⟩) hP hD hS hA hK 0 rfl rfl rfl rfl hl.1 rfl (Nat.le_of_ble_eq_true rfl) dX1_drill_57 ⟨Nat.zero_le _, Nat.zero_le _⟩ (fun H locs hP hD hS => ?_)
          refine lv_aload_n hx hb dX1_drill_60 rfl (lv_at hl 0 rfl) ?_
          refine va_get (D := D) (ci := 1) (v := .ref (a 1)) (C := RX1) (T := TX1) (N := 6) hx hb hts inRX1 hown hK hP 0 rfl rfl 0 (by decide) qf9 (fun _ h9 => h9) rfl dX1_drill_61 ?_
          refine lv_bipush (v := jI 10) hx hb dX1_drill_64 (by decide) ?_
          refine lv_dup2_11 hx hb dX1_drill_66 rfl rfl ?_
          refine x_iald hx hb hK hP 1 0 rfl rfl 10 rfl (by decide) (by decide) dX1_drill_67 ?_
          refine lv_iconst (v := jI 1) hx hb dX1_drill_68 rfl ?_
          refine x_iadd hx hb dX1_drill_69 ?_
          refine x_iast (w1 := (w1 cI a (upz (s_X1_leaveOpen f9) 10 (((s_X1_leaveOpen f9) 10) + 1)) ((s_X1_save f g n).1) ((s_X1_save f g n).2) b len kd sg nb pt)) hx hb hK hP hD hS 1 0 rfl rfl 10 rfl (by decide) (by decide) dX1_drill_70 rfl (fun H locs hP hD hS => ?_)
          refine lv_aload_n hx hb dX1_drill_71 rfl (lv_at hl 0 rfl) ?_
          refine va_get (D := D) (ci := 1) (v := .ref (a 1)) (C := RX1) (T := TX1) (N := 6) hx hb hts inRX1 hown hK hP 0 rfl rfl 0 (by decide) qf9 (fun _ h9 => h9) rfl dX1_drill_72 ?_
          refine lv_bipush (v := jI 10) hx hb dX1_drill_75 (by decide) ?_
          refine x_iald hx hb hK hP 1 0 rfl rfl 10 rfl (by decide) (by decide) dX1_drill_77 ?_
          rw [show (upz (s_X1_leaveOpen f9) 10 (((s_X1_leaveOpen f9) 10) + 1)) 10 = (((s_X1_leaveOpen f9) 10) + 1) from upz_s]
          subst hz
          exact xt_i hx hb hr hlocks hK hP hD hS (Nat.zero_le _) (Nat.zero_le _) rfl rfl rfl dX1_drill_78
        · rw [if_neg c25] at hz
          refine lv_aload_n hx hb dX1_drill_28 rfl (lv_at hl 0 rfl) ?_
          refine va_get (D := D) (ci := 1) (v := .ref (a 1)) (C := RX1) (T := TX1) (N := 6) hx hb hts inRX1 hown hK hP 0 rfl rfl 0 (by decide) qf9 (fun _ h9 => h9) rfl dX1_drill_29 ?_
          refine lv_iload_n hx hb dX1_drill_32 rfl (lv_at hl 1 rfl) ?_
          refine lv_iconst (v := jI 0) hx hb dX1_drill_33 rfl ?_
          refine xc_P (As := [.int (jI (i : Int)), .int (jI 0)]) (rest := [.ref (a 1)]) hSx (m_X1_place l (i : Int) 0 ) (va_cwS 2 hts gX1_drill_X1_place rfl rfl rfl (by decide +kernel) ⟨Nat.le_of_ble_eq_true rfl, Nat.le_of_ble_eq_true rfl⟩) rfl hl.1 rfl (Nat.le_of_ble_eq_true rfl) dX1_drill_34 ⟨Nat.zero_le _, Nat.zero_le _⟩ ?_
          refine lv_iconst (v := jI 0) hx hb dX1_drill_37 rfl ?_
          refine x_iast (w1 := (w1 cI a (upz f9 ((21 + (i * 4)) + 0) 0) ((s_X1_save f g n).1) ((s_X1_save f g n).2) b len kd sg nb pt)) hx hb hK hP hD hS 1 0 rfl rfl ((21 + (i * 4)) + 0) (by omega) (by omega) (by decide) dX1_drill_38 rfl (fun H locs hP hD hS => ?_)
          refine lv_aload_n hx hb dX1_drill_39 rfl (lv_at hl 0 rfl) ?_
          refine va_get (D := D) (ci := 1) (v := .ref (a 1)) (C := RX1) (T := TX1) (N := 6) hx hb hts inRX1 hown hK hP 0 rfl rfl 0 (by decide) qf9 (fun _ h9 => h9) rfl dX1_drill_40 ?_
          refine lv_iload_n hx hb dX1_drill_43 rfl (lv_at hl 1 rfl) ?_
          refine lv_iconst (v := jI 1) hx hb dX1_drill_44 rfl ?_
          refine xc_P (As := [.int (jI (i : Int)), .int (jI 1)]) (rest := [.ref (a 1)]) hSx (m_X1_place l (i : Int) 1 ) (va_cwS 2 hts gX1_drill_X1_place rfl rfl rfl (by decide +kernel) ⟨Nat.le_of_ble_eq_true rfl, Nat.le_of_ble_eq_true rfl⟩) rfl hl.1 rfl (Nat.le_of_ble_eq_true rfl) dX1_drill_45 ⟨Nat.zero_le _, Nat.zero_le _⟩ ?_
          refine lv_iconst (v := jI 0) hx hb dX1_drill_48 rfl ?_
          refine x_iast (w1 := (w1 cI a (upz (upz f9 ((21 + (i * 4)) + 0) 0) ((21 + (i * 4)) + 1) 0) ((s_X1_save f g n).1) ((s_X1_save f g n).2) b len kd sg nb pt)) hx hb hK hP hD hS 1 0 rfl rfl ((21 + (i * 4)) + 1) (by omega) (by omega) (by decide) dX1_drill_49 rfl (fun H locs hP hD hS => ?_)
          refine lv_iinc (v := jI ((i + 1 : Nat) : Int)) (lv' := [(1, .int (jI ((i + 1 : Nat) : Int))), (0, .ref (a 0))]) hx hb dX1_drill_50 hl (k := 1) rfl (jI_inc _ 1) (by decide) rfl (fun ls hl => ?_)
          refine lv_goto (tgt := 23) hx hb dX1_drill_53 (by decide) ?_
          exact ih (i + 1) (upz (upz f9 ((21 + (i * 4)) + 0) 0) ((21 + (i * 4)) + 1) 0) _ _ ls (by omega) (by omega) hz hP hD hS (lv_sub hl [1, 0] rfl)
    exact LP23 (3 + 1 - 0) 0 f _ _ ls (by omega) (by omega) hz hP hD hS (lv_sub hl [1, 0] rfl)
  · rw [if_pos c4] at hz
    subst hz
    exact xt_throw (text := "the door is open") (is := 110) hx hb hlt hown (by decide) qc86 qiS (by decide) (fun z h9 => hts z (List.mem_cons_of_mem _ (List.mem_append_right _ h9))) xng_S xgd_S hE hA (hl.1.trans hml.symm) dX1_drill_7 dX1_drill_10 dX1_drill_11 dX1_drill_13 dX1_drill_16 hex (Nat.le_of_ble_eq_true rfl) (Nat.le_of_ble_eq_true rfl) (Nat.le_of_ble_eq_true rfl) (Nat.le_of_ble_eq_true rfl) hlocks hK hP hD hS rfl rfl (show (3 : Int) ≠ 0 by decide) rfl rfl
def s_X1_pass_lp51 (f : Nat → Int) (g : Nat → Int) (n : Nat) (x0 : Int) : Nat → Nat → (Nat → Int) → Int × Int × (Nat → Int) × (Nat → Int) × Nat
  | 0, _, _ => default
  | k + 1, i, f9 => if x0 ≤ (i : Int) then (0, (s_X1_movementsRunDown f9), f9, (s_X1_save f g n).1, (s_X1_save f g n).2) else (s_X1_pass_lp51 f g n x0 k (i + 1) (s_X1_passHour f9))
def s_X1_pass (f : Nat → Int) (g : Nat → Int) (n : Nat) (x0 : Int) : Int × Int × (Nat → Int) × (Nat → Int) × Nat := if x0 < 1 then (2, 0, f, g, n) else (if x0 ≤ 200 then (if ((f 0) + x0) ≤ 99999 then (s_X1_pass_lp51 f g n x0 (x0.toNat + 1 - 0) 0 f) else (3, 0, f, g, n)) else (2, 0, f, g, n))
abbrev rm_X1_pass : Room := { frames := 6, cells := 1, slots := 6, locals := 100 }
set_option maxHeartbeats 4000000 in
set_option maxRecDepth 100000 in
theorem m_X1_pass (l : Launch) (D : va_G) (cI : ClassId) (a : Nat → Nat) (f : Nat → Int) (g : Nat → Int) (n : Nat) (b : Nat → Int) (len : Nat) (kd : Nat → Int) (sg : Nat → Int) (nb : Nat → Int) (pt : Nat) (hlt : l.stackTraces = false) (x0 : Int) (hn : n ≤ 6) (hrf : rng f) (hh : 0 ≤ f 0 ∧ f 0 ≤ 99999) (hm : mvB f 100000) (hx0 : -2147483648 ≤ x0 ∧ x0 < 2147483648) : MetT l yX1_pass wsX1_pass rm_X1_pass D cI [.ref (a 0), .int (jI x0)] (w1 cI a f g n b len kd sg nb pt) (w1 cI a ((s_X1_pass f g n x0).2.2.1) ((s_X1_pass f g n x0).2.2.2.1) ((s_X1_pass f g n x0).2.2.2.2) b len kd sg nb pt) ((s_X1_pass f g n x0).1) ((s_X1_pass f g n x0).2.1) := by
  refine xe_T (cc := cX1_pass) (maxL := 3) (ret := (some .int)) (by decide) rfl (Nat.le_of_ble_eq_true rfl) ?_
  intro p e s m below meth c hx hb hr hml hts hown hlocks hex hP hK A hA hD hS hE ls hl
  have hl : lv_has ls 3 [(0, .ref (a 0)), (1, .int (jI x0))] := hl
  have hown : s.vm.findClass RX1 = some m.cls := hown
  have hSx : CallFix p m c cX1_pass 3 s ([.ref (a 0), .int (jI x0)] : List Value).toArray wsX1_pass RX1 := ⟨hx, hb, hml, hown, hts⟩
  have inRX1 : ∀ w ∈ u_ws RX1 TX1 6, w ∈ wsX1_pass := by decide +kernel
  have qc47 := hts (.classLink RX1 47 xA) (by decide +kernel)
  have qc86 := hts (.classLink RX1 86 xS) (by decide +kernel)
  have qf9 := hts (.fieldLink RX1 9 "VaultMovements" "now" "[I") (by decide +kernel)
  have qiA := hts (.initialized xA) (by decide +kernel)
  have qiS := hts (.initialized xS) (by decide +kernel)
  have qk129 := hts (.constant RX1 129 (99999)) (by decide +kernel)
  obtain ⟨z, hz⟩ : ∃ z, z = (s_X1_pass f g n x0) := ⟨_, rfl⟩
  rw [← hz]
  unfold s_X1_pass at hz
  refine lv_iload_n hx hb dX1_pass_0 rfl (lv_at hl 1 rfl) ?_
  refine lv_iconst (v := jI 1) hx hb dX1_pass_1 rfl ?_
  refine x_icmp_lt (tgt := 12) hx hb dX1_pass_2 (by decide) ⟨(by omega), (by decide)⟩ (fun c2 => ?_) (fun c2 => ?_)
  · rw [if_pos c2] at hz
    subst hz
    exact xt_throw (text := "the hours are out of range") (is := 77) hx hb hlt hown (by decide) qc47 qiA (by decide) (fun z h9 => hts z (List.mem_cons_of_mem _ (List.mem_append_left _ (List.mem_append_right _ h9)))) xng_A xgd_A hE hA (hl.1.trans hml.symm) dX1_pass_12 dX1_pass_15 dX1_pass_16 dX1_pass_18 dX1_pass_21 hex (Nat.le_of_ble_eq_true rfl) (Nat.le_of_ble_eq_true rfl) (Nat.le_of_ble_eq_true rfl) (Nat.le_of_ble_eq_true rfl) hlocks hK hP hD hS rfl rfl (show (2 : Int) ≠ 0 by decide) rfl rfl
  · rw [if_neg c2] at hz
    refine lv_iload_n hx hb dX1_pass_5 rfl (lv_at hl 1 rfl) ?_
    refine lv_sipush (v := jI 200) hx hb dX1_pass_6 (by decide) ?_
    refine x_icmp_le (tgt := 22) hx hb dX1_pass_9 (by decide) ⟨(by omega), (by decide)⟩ (fun c9 => ?_) (fun c9 => ?_)
    · rw [if_pos c9] at hz
      refine lv_aload_n hx hb dX1_pass_22 rfl (lv_at hl 0 rfl) ?_
      refine va_get (D := D) (ci := 1) (v := .ref (a 1)) (C := RX1) (T := TX1) (N := 6) hx hb hts inRX1 hown hK hP 0 rfl rfl 0 (by decide) qf9 (fun _ h9 => h9) rfl dX1_pass_23 ?_
      refine lv_iconst (v := jI 0) hx hb dX1_pass_26 rfl ?_
      refine x_iald hx hb hK hP 1 0 rfl rfl 0 rfl (by decide) (by decide) dX1_pass_27 ?_
      refine lv_iload_n hx hb dX1_pass_28 rfl (lv_at hl 1 rfl) ?_
      refine x_iadd hx hb dX1_pass_29 ?_
      refine lv_ldc (v := jI 99999) hx hb hown qk129 dX1_pass_30 ?_
      refine x_icmp_le (tgt := 45) hx hb dX1_pass_32 (by decide) ⟨(by omega), (by decide)⟩ (fun c32 => ?_) (fun c32 => ?_)
      · rw [if_pos c32] at hz
        refine lv_aload_n hx hb dX1_pass_45 rfl (lv_at hl 0 rfl) ?_
        refine xc_V (As := []) (rest := []) hSx (m_X1_save l D cI a f g n b len kd sg nb pt  (by omega)) (cwV 0 hts gX1_pass_X1_save rfl rfl rfl (by decide +kernel) ⟨Nat.le_of_ble_eq_true rfl, Nat.le_of_ble_eq_true rfl⟩) hP hD hS hA hK 0 rfl rfl rfl rfl hl.1 rfl (Nat.le_of_ble_eq_true rfl) dX1_pass_46 ⟨Nat.zero_le _, Nat.zero_le _⟩ (fun H locs hP hD hS => ?_)
        refine lv_iconst (v := jI 0) hx hb dX1_pass_49 rfl ?_
        refine lv_istore_n (lv' := [(2, .int (jI 0)), (0, .ref (a 0)), (1, .int (jI x0))]) hx hb dX1_pass_50 rfl hl (by decide) rfl (fun ls hl => ?_)
        have LP51 : ∀ (k i : Nat) (f9 : Nat → Int) (H : Heap) (locs : List Loc) (ls : Array Slot), i ≤ x0.toNat → i + k = x0.toNat + 1 → z = (s_X1_pass_lp51 f g n x0) k i f9 → (rng f9 ∧ mvB f9 (100000 + 3 * i) ∧ 0 ≤ f9 0 ∧ f9 0 + (x0 - i) ≤ 99999) → va_P D vwCl (w1 cI a f9 ((s_X1_save f g n).1) ((s_X1_save f g n).2) b len kd sg nb pt) H → va_D A (w1 cI a f9 ((s_X1_save f g n).1) ((s_X1_save f g n).2) b len kd sg nb pt) → va_S A s.heap H locs → lv_has ls 3 [(0, .ref (a 0)), (1, .int (jI x0)), (2, .int (jI (i : Int)))] → W p l e rm_X1_pass s m ([.ref (a 0), .int (jI x0)] : List Value).toArray below meth c H locs 0 0 (vx_MQ below (va_Qi (fun x (_ : Unit) => z.1 = 0 ∧ x = jI z.2.1) (xq_B D cI A (w1 cI a z.2.2.1 z.2.2.2.1 z.2.2.2.2 b len kd sg nb pt)) A) (vx_X (fun (_ : Unit) => z.1 ≠ 0) (fun E _ t => E = xex z.1 ∧ xq_B D cI A (w1 cI a z.2.2.1 z.2.2.2.1 z.2.2.2.2 b len kd sg nb pt) () t) A) ([.ref (a 0), .int (jI x0)] : List Value).toArray s 1 6 A) (F0 m 51 ls []) := by
          intro k
          induction k with
          | zero => intro i f9 _ _ ls h1 h2; exact absurd h2 (by omega)
          | succ k ih =>
            intro i f9 H locs ls h1 h2 hz hi2 hP hD hS hl
            rw [s_X1_pass_lp51] at hz
            refine lv_iload_n hx hb dX1_pass_51 rfl (lv_at hl 2 rfl) ?_
            refine lv_iload_n hx hb dX1_pass_52 rfl (lv_at hl 1 rfl) ?_
            refine x_icmp_ge (tgt := 66) hx hb dX1_pass_53 (by decide) ⟨(by omega), (by omega)⟩ (fun c53 => ?_) (fun c53 => ?_)
            · rw [if_pos c53] at hz
              refine lv_aload_n hx hb dX1_pass_66 rfl (lv_at hl 0 rfl) ?_
              refine xc_R (As := []) (rest := []) hSx (m_X1_movementsRunDown l D cI a f9 ((s_X1_save f g n).1) ((s_X1_save f g n).2) b len kd sg nb pt  hi2.1) (cwV 0 hts gX1_pass_X1_movementsRunDown rfl rfl rfl (by decide +kernel) ⟨Nat.le_of_ble_eq_true rfl, Nat.le_of_ble_eq_true rfl⟩) hP hK 0 rfl rfl rfl rfl hl.1 rfl (Nat.le_of_ble_eq_true rfl) dX1_pass_67 ⟨Nat.zero_le _, Nat.zero_le _⟩ ?_
              subst hz
              exact xt_i hx hb hr hlocks hK hP hD hS (Nat.zero_le _) (Nat.zero_le _) rfl rfl rfl dX1_pass_70
            · rw [if_neg c53] at hz
              refine lv_aload_n hx hb dX1_pass_56 rfl (lv_at hl 0 rfl) ?_
              refine xc_V (As := []) (rest := []) hSx (m_X1_passHour l D cI a f9 ((s_X1_save f g n).1) ((s_X1_save f g n).2) b len kd sg nb pt  hi2.1 (by omega) (mvB_mono hi2.2.1 (by omega))) (cwV 0 hts gX1_pass_X1_passHour rfl rfl rfl (by decide +kernel) ⟨Nat.le_of_ble_eq_true rfl, Nat.le_of_ble_eq_true rfl⟩) hP hD hS hA hK 0 rfl rfl rfl rfl hl.1 rfl (Nat.le_of_ble_eq_true rfl) dX1_pass_57 ⟨Nat.zero_le _, Nat.zero_le _⟩ (fun H locs hP hD hS => ?_)
              have hok0 := ok_X1_passHour f9 (100000 + 3 * i) hi2.1 hi2.2.1 (by omega) (by omega)
              have hok : rng (s_X1_passHour f9) ∧ mvB (s_X1_passHour f9) (100000 + 3 * ((i + 1 : Nat) : Int)) ∧ 0 ≤ s_X1_passHour f9 0 ∧ s_X1_passHour f9 0 + (x0 - ((i + 1 : Nat) : Int)) ≤ 99999 := ⟨hok0.1, mvB_mono hok0.2.1 (by omega), by omega, by omega⟩
              refine lv_iinc (v := jI ((i + 1 : Nat) : Int)) (lv' := [(2, .int (jI ((i + 1 : Nat) : Int))), (0, .ref (a 0)), (1, .int (jI x0))]) hx hb dX1_pass_60 hl (k := 2) rfl (jI_inc _ 1) (by decide) rfl (fun ls hl => ?_)
              refine lv_goto (tgt := 51) hx hb dX1_pass_63 (by decide) ?_
              exact ih (i + 1) (s_X1_passHour f9) _ _ ls (by omega) (by omega) hz hok hP hD hS (lv_sub hl [1, 2, 0] rfl)
        exact LP51 (x0.toNat + 1 - 0) 0 f _ _ ls (by omega) (by omega) hz ⟨hrf, mvB_mono hm (by omega), by omega, by omega⟩ hP hD hS (lv_sub hl [1, 2, 0] rfl)
      · rw [if_neg c32] at hz
        subst hz
        exact xt_throw (text := "the hour would be too late") (is := 130) hx hb hlt hown (by decide) qc86 qiS (by decide) (fun z h9 => hts z (List.mem_cons_of_mem _ (List.mem_append_right _ h9))) xng_S xgd_S hE hA (hl.1.trans hml.symm) dX1_pass_35 dX1_pass_38 dX1_pass_39 dX1_pass_41 dX1_pass_44 hex (Nat.le_of_ble_eq_true rfl) (Nat.le_of_ble_eq_true rfl) (Nat.le_of_ble_eq_true rfl) (Nat.le_of_ble_eq_true rfl) hlocks hK hP hD hS rfl rfl (show (3 : Int) ≠ 0 by decide) rfl rfl
    · rw [if_neg c9] at hz
      subst hz
      exact xt_throw (text := "the hours are out of range") (is := 77) hx hb hlt hown (by decide) qc47 qiA (by decide) (fun z h9 => hts z (List.mem_cons_of_mem _ (List.mem_append_left _ (List.mem_append_right _ h9)))) xng_A xgd_A hE hA (hl.1.trans hml.symm) dX1_pass_12 dX1_pass_15 dX1_pass_16 dX1_pass_18 dX1_pass_21 hex (Nat.le_of_ble_eq_true rfl) (Nat.le_of_ble_eq_true rfl) (Nat.le_of_ble_eq_true rfl) (Nat.le_of_ble_eq_true rfl) hlocks hK hP hD hS rfl rfl (show (2 : Int) ≠ 0 by decide) rfl rfl
def s_X1_append (b : Nat → Int) (len : Nat) (x0 : Int) : Int × Int × (Nat → Int) × Nat := if x0 < 33 then (2, 0, b, len) else (if x0 ≤ 126 then (if (len : Int) < 60 then (0, (((len + 1) : Nat) : Int), (upz b len x0), (len + 1)) else (3, 0, b, len)) else (2, 0, b, len))
abbrev rm_X1_append : Room := { frames := 6, cells := 1, slots := 6, locals := 100 }
abbrev rm_X1_windAll : Room := { frames := 6, cells := 1, slots := 6, locals := 100 }
def s_X1_undo (f : Nat → Int) (g : Nat → Int) (n : Nat) : Int × Int × (Nat → Int) × (Nat → Int) × Nat := if 0 < (n : Int) then (0, (((n - 1) : Nat) : Int), (va_cpy g f ((n - 1) * 33) 0 33), g, (n - 1)) else (3, 0, f, g, n)
abbrev rm_X1_undo : Room := { frames := 6, cells := 1, slots := 6, locals := 100 }
set_option maxHeartbeats 4000000 in
set_option maxRecDepth 100000 in
theorem m_X1_undo (l : Launch) (D : va_G) (cI : ClassId) (a : Nat → Nat) (f : Nat → Int) (g : Nat → Int) (n : Nat) (b : Nat → Int) (len : Nat) (kd : Nat → Int) (sg : Nat → Int) (nb : Nat → Int) (pt : Nat) (hlt : l.stackTraces = false) (hn : n ≤ 6) : MetT l yX1_undo wsX1_undo rm_X1_undo D cI [.ref (a 0)] (w1 cI a f g n b len kd sg nb pt) (w1 cI a ((s_X1_undo f g n).2.2.1) ((s_X1_undo f g n).2.2.2.1) ((s_X1_undo f g n).2.2.2.2) b len kd sg nb pt) ((s_X1_undo f g n).1) ((s_X1_undo f g n).2.1) := by
  refine xe_T (cc := cX1_undo) (maxL := 1) (ret := (some .int)) (by decide) rfl (Nat.le_of_ble_eq_true rfl) ?_
  intro p e s m below meth c hx hb hr hml hts hown hlocks hex hP hK A hA hD hS hE ls hl
  have hl : lv_has ls 1 [(0, .ref (a 0))] := hl
  have hown : s.vm.findClass RX1 = some m.cls := hown
  have hSx : CallFix p m c cX1_undo 1 s ([.ref (a 0)] : List Value).toArray wsX1_undo RX1 := ⟨hx, hb, hml, hown, hts⟩
  have inRX1 : ∀ w ∈ u_ws RX1 TX1 6, w ∈ wsX1_undo := by decide +kernel
  have qc86 := hts (.classLink RX1 86 xS) (by decide +kernel)
  have qf13 := hts (.fieldLink RX1 13 "VaultMovements" "saved" "[I") (by decide +kernel)
  have qf16 := hts (.fieldLink RX1 16 "VaultMovements" "savedStates" "I") (by decide +kernel)
  have qf9 := hts (.fieldLink RX1 9 "VaultMovements" "now" "[I") (by decide +kernel)
  have qiS := hts (.initialized xS) (by decide +kernel)
  have qm163 := hts (.methodLink RX1 163 arraycopyName) (by decide +kernel)
  have qmI := hts (.initialized "java/lang/System") (by decide +kernel)
  have qmN := hts (.native arraycopyName) (by decide +kernel)
  have qmS := hts (.static arraycopyName) (by decide +kernel)
  obtain ⟨z, hz⟩ : ∃ z, z = (s_X1_undo f g n) := ⟨_, rfl⟩
  rw [← hz]
  unfold s_X1_undo at hz
  refine lv_aload_n hx hb dX1_undo_0 rfl (lv_at hl 0 rfl) ?_
  refine va_get (D := D) (ci := 1) (v := .int (jI (n : Int))) (C := RX1) (T := TX1) (N := 6) hx hb hts inRX1 hown hK hP 0 rfl rfl 2 (by decide) qf16 (fun _ h9 => h9) rfl dX1_undo_1 ?_
  refine x_if_gt (tgt := 17) hx hb dX1_undo_4 (by decide) (by omega) (fun c4 => ?_) (fun c4 => ?_)
  · rw [if_pos c4] at hz
    refine lv_aload_n hx hb dX1_undo_17 rfl (lv_at hl 0 rfl) ?_
    refine lv_dup hx hb dX1_undo_18 rfl ?_
    refine va_get (D := D) (ci := 1) (v := .int (jI (n : Int))) (C := RX1) (T := TX1) (N := 6) hx hb hts inRX1 hown hK hP 0 rfl rfl 2 (by decide) qf16 (fun _ h9 => h9) rfl dX1_undo_19 ?_
    refine lv_iconst (v := jI 1) hx hb dX1_undo_22 rfl ?_
    refine x_isub hx hb dX1_undo_23 ?_
    refine lv_topi (fun y9 ey9 => ?_)
    obtain rfl : y9 = jI ((n - 1 : Nat) : Int) := ey9.trans (congrArg jI (by omega))
    refine va_put (D := D) (ci := 1) (v := .int (jI ((n - 1 : Nat) : Int))) (ty := .int) (C := RX1) (T := TX1) (N := 6) hx hb hts inRX1 tyX1 tyX1_ok nmX1 hown hK hP hD hS 0 rfl rfl 2 (by decide) qf16 (fun _ h9 => h9) rfl (by decide +kernel) rfl rfl (Nat.le_of_ble_eq_true rfl) dX1_undo_24 (fun H locs hP hD hS => ?_)
    have hP : va_P D vwCl (w1 cI a f g (n - 1) b len kd sg nb pt) H := hP
    have hD : va_D A (w1 cI a f g (n - 1) b len kd sg nb pt) := hD
    refine lv_aload_n hx hb dX1_undo_27 rfl (lv_at hl 0 rfl) ?_
    refine va_get (D := D) (ci := 1) (v := .ref (a 2)) (C := RX1) (T := TX1) (N := 6) hx hb hts inRX1 hown hK hP 0 rfl rfl 1 (by decide) qf13 (fun _ h9 => h9) rfl dX1_undo_28 ?_
    refine lv_aload_n hx hb dX1_undo_31 rfl (lv_at hl 0 rfl) ?_
    refine va_get (D := D) (ci := 1) (v := .int (jI (((n - 1) : Nat) : Int))) (C := RX1) (T := TX1) (N := 6) hx hb hts inRX1 hown hK hP 0 rfl rfl 2 (by decide) qf16 (fun _ h9 => h9) rfl dX1_undo_32 ?_
    refine lv_bipush (v := jI 33) hx hb dX1_undo_35 (by decide) ?_
    refine x_imul hx hb dX1_undo_37 ?_
    refine lv_aload_n hx hb dX1_undo_38 rfl (lv_at hl 0 rfl) ?_
    refine va_get (D := D) (ci := 1) (v := .ref (a 1)) (C := RX1) (T := TX1) (N := 6) hx hb hts inRX1 hown hK hP 0 rfl rfl 0 (by decide) qf9 (fun _ h9 => h9) rfl dX1_undo_39 ?_
    refine lv_iconst (v := jI 0) hx hb dX1_undo_42 rfl ?_
    refine lv_bipush (v := jI 33) hx hb dX1_undo_43 (by decide) ?_
    refine x_copy (w1 := (w1 cI a (va_cpy g f ((n - 1) * 33) 0 33) g (n - 1) b len kd sg nb pt)) hx hb (hml.trans hl.1.symm) hown qm163 qmN qmS qmI hK hP hD hS 2 1 0 rfl rfl rfl ((n - 1) * 33) 0 33 (by omega) (by omega) (by omega) (by omega) (by omega) (Nat.le_of_ble_eq_true rfl) (Nat.le_of_ble_eq_true rfl) dX1_undo_45 rfl (fun H locs hP hD hS => ?_)
    refine lv_aload_n hx hb dX1_undo_48 rfl (lv_at hl 0 rfl) ?_
    refine va_get (D := D) (ci := 1) (v := .int (jI (((n - 1) : Nat) : Int))) (C := RX1) (T := TX1) (N := 6) hx hb hts inRX1 hown hK hP 0 rfl rfl 2 (by decide) qf16 (fun _ h9 => h9) rfl dX1_undo_49 ?_
    subst hz
    exact xt_i hx hb hr hlocks hK hP hD hS (Nat.zero_le _) (Nat.zero_le _) rfl rfl rfl dX1_undo_52
  · rw [if_neg c4] at hz
    subst hz
    exact xt_throw (text := "no state is saved") (is := 161) hx hb hlt hown (by decide) qc86 qiS (by decide) (fun z h9 => hts z (List.mem_cons_of_mem _ (List.mem_append_right _ h9))) xng_S xgd_S hE hA (hl.1.trans hml.symm) dX1_undo_7 dX1_undo_10 dX1_undo_11 dX1_undo_13 dX1_undo_16 hex (Nat.le_of_ble_eq_true rfl) (Nat.le_of_ble_eq_true rfl) (Nat.le_of_ble_eq_true rfl) (Nat.le_of_ble_eq_true rfl) hlocks hK hP hD hS rfl rfl (show (3 : Int) ≠ 0 by decide) rfl rfl
def s_X1_movement (f : Nat → Int) (x0 : Int) (x1 : Int) : Int × Int := if (s_X1_isMovement x0) = 0 then (1, 0) else (if x1 < 0 then (2, 0) else (if x1 ≤ 5 then (0, (s_X1_property f (x0.toNat) (x1.toNat))) else (2, 0)))
abbrev rm_X1_movement : Room := { frames := 6, cells := 1, slots := 6, locals := 100 }
set_option maxHeartbeats 4000000 in
set_option maxRecDepth 100000 in
theorem m_X1_movement (l : Launch) (D : va_G) (cI : ClassId) (a : Nat → Nat) (f : Nat → Int) (g : Nat → Int) (n : Nat) (b : Nat → Int) (len : Nat) (kd : Nat → Int) (sg : Nat → Int) (nb : Nat → Int) (pt : Nat) (hlt : l.stackTraces = false) (x0 : Int) (x1 : Int) (hrf : rng f) (hm : mvs f) (hx0 : -2147483648 ≤ x0 ∧ x0 < 2147483648) (hx1 : -2147483648 ≤ x1 ∧ x1 < 2147483648) : MetT l yX1_movement wsX1_movement rm_X1_movement D cI [.ref (a 0), .int (jI x0), .int (jI x1)] (w1 cI a f g n b len kd sg nb pt) (w1 cI a f g n b len kd sg nb pt) ((s_X1_movement f x0 x1).1) ((s_X1_movement f x0 x1).2) := by
  refine xe_T (cc := cX1_movement) (maxL := 3) (ret := (some .int)) (by decide) rfl (Nat.le_of_ble_eq_true rfl) ?_
  intro p e s m below meth c hx hb hr hml hts hown hlocks hex hP hK A hA hD hS hE ls hl
  have hl : lv_has ls 3 [(0, .ref (a 0)), (1, .int (jI x0)), (2, .int (jI x1))] := hl
  have hown : s.vm.findClass RX1 = some m.cls := hown
  have hSx : CallFix p m c cX1_movement 3 s ([.ref (a 0), .int (jI x0), .int (jI x1)] : List Value).toArray wsX1_movement RX1 := ⟨hx, hb, hml, hown, hts⟩
  have qc40 := hts (.classLink RX1 40 xI) (by decide +kernel)
  have qc47 := hts (.classLink RX1 47 xA) (by decide +kernel)
  have qiA := hts (.initialized xA) (by decide +kernel)
  have qiI := hts (.initialized xI) (by decide +kernel)
  obtain ⟨z, hz⟩ : ∃ z, z = (s_X1_movement f x0 x1) := ⟨_, rfl⟩
  rw [← hz]
  unfold s_X1_movement at hz
  refine lv_iload_n hx hb dX1_movement_0 rfl (lv_at hl 1 rfl) ?_
  refine xc_P (As := [.int (jI x0)]) (rest := []) hSx (m_X1_isMovement l x0 (by omega)) (va_cwS 1 hts gX1_movement_X1_isMovement rfl rfl rfl (by decide +kernel) ⟨Nat.le_of_ble_eq_true rfl, Nat.le_of_ble_eq_true rfl⟩) rfl hl.1 rfl (Nat.le_of_ble_eq_true rfl) dX1_movement_1 ⟨Nat.zero_le _, Nat.zero_le _⟩ ?_
  refine x_if_ne (tgt := 17) hx hb dX1_movement_4 (by decide) (b01 (b_X1_isMovement x0)) (fun c4 => ?_) (fun c4 => ?_)
  · rw [if_neg c4] at hz
    have hok := ok_X1_isMovement c4
    obtain ⟨j, rfl⟩ : ∃ j : Nat, x0 = (j : Int) := ⟨x0.toNat, by omega⟩
    have hj : j < 3 := by omega
    try simp only [Int.toNat_natCast] at hz
    refine lv_iload_n hx hb dX1_movement_17 rfl (lv_at hl 2 rfl) ?_
    refine x_if_lt (tgt := 26) hx hb dX1_movement_18 (by decide) (by omega) (fun c18 => ?_) (fun c18 => ?_)
    · rw [if_pos c18] at hz
      subst hz
      exact xt_throw (text := "no such property") (is := 169) hx hb hlt hown (by decide) qc47 qiA (by decide) (fun z h9 => hts z (List.mem_cons_of_mem _ (List.mem_append_right _ h9))) xng_A xgd_A hE hA (hl.1.trans hml.symm) dX1_movement_26 dX1_movement_29 dX1_movement_30 dX1_movement_32 dX1_movement_35 hex (Nat.le_of_ble_eq_true rfl) (Nat.le_of_ble_eq_true rfl) (Nat.le_of_ble_eq_true rfl) (Nat.le_of_ble_eq_true rfl) hlocks hK hP hD hS rfl rfl (show (2 : Int) ≠ 0 by decide) rfl rfl
    · rw [if_neg c18] at hz
      refine lv_iload_n hx hb dX1_movement_21 rfl (lv_at hl 2 rfl) ?_
      refine lv_iconst (v := jI 5) hx hb dX1_movement_22 rfl ?_
      refine x_icmp_le (tgt := 36) hx hb dX1_movement_23 (by decide) ⟨(by omega), (by decide)⟩ (fun c23 => ?_) (fun c23 => ?_)
      · rw [if_pos c23] at hz
        have hok := True.intro
        obtain ⟨j1, rfl⟩ : ∃ j1 : Nat, x1 = (j1 : Int) := ⟨x1.toNat, by omega⟩
        have hj1 : j1 < 6 := by omega
        try simp only [Int.toNat_natCast] at hz
        refine lv_aload_n hx hb dX1_movement_36 rfl (lv_at hl 0 rfl) ?_
        refine lv_iload_n hx hb dX1_movement_37 rfl (lv_at hl 1 rfl) ?_
        refine lv_iload_n hx hb dX1_movement_38 rfl (lv_at hl 2 rfl) ?_
        refine xc_R (As := [.int (jI (j : Int)), .int (jI (j1 : Int))]) (rest := []) hSx (m_X1_property l D cI a f g n b len kd sg nb pt j j1 (by omega) (by omega) (by omega) (by omega)) (cwV 2 hts gX1_movement_X1_property rfl rfl rfl (by decide +kernel) ⟨Nat.le_of_ble_eq_true rfl, Nat.le_of_ble_eq_true rfl⟩) hP hK 0 rfl rfl rfl rfl hl.1 rfl (Nat.le_of_ble_eq_true rfl) dX1_movement_39 ⟨Nat.zero_le _, Nat.zero_le _⟩ ?_
        subst hz
        exact xt_i hx hb hr hlocks hK hP hD hS (Nat.zero_le _) (Nat.zero_le _) rfl rfl rfl dX1_movement_42
      · rw [if_neg c23] at hz
        subst hz
        exact xt_throw (text := "no such property") (is := 169) hx hb hlt hown (by decide) qc47 qiA (by decide) (fun z h9 => hts z (List.mem_cons_of_mem _ (List.mem_append_right _ h9))) xng_A xgd_A hE hA (hl.1.trans hml.symm) dX1_movement_26 dX1_movement_29 dX1_movement_30 dX1_movement_32 dX1_movement_35 hex (Nat.le_of_ble_eq_true rfl) (Nat.le_of_ble_eq_true rfl) (Nat.le_of_ble_eq_true rfl) (Nat.le_of_ble_eq_true rfl) hlocks hK hP hD hS rfl rfl (show (2 : Int) ≠ 0 by decide) rfl rfl
  · rw [if_pos c4] at hz
    subst hz
    exact xt_throw (text := "no such movement") (is := 72) hx hb hlt hown (by decide) qc40 qiI (by decide) (fun z h9 => hts z (List.mem_cons_of_mem _ (List.mem_append_left _ (List.mem_append_right _ h9)))) xng_I xgd_I hE hA (hl.1.trans hml.symm) dX1_movement_7 dX1_movement_10 dX1_movement_11 dX1_movement_13 dX1_movement_16 hex (Nat.le_of_ble_eq_true rfl) (Nat.le_of_ble_eq_true rfl) (Nat.le_of_ble_eq_true rfl) (Nat.le_of_ble_eq_true rfl) hlocks hK hP hD hS rfl rfl (show (1 : Int) ≠ 0 by decide) rfl rfl
def s_X1_day (f : Nat → Int) (x0 : Int) : Int × Int := if (s_X1_isDay x0) = 0 then (1, 0) else (0, (f (14 + (x0.toNat))))
abbrev rm_X1_day : Room := { frames := 6, cells := 1, slots := 6, locals := 100 }
set_option maxHeartbeats 4000000 in
set_option maxRecDepth 100000 in
theorem m_X1_day (l : Launch) (D : va_G) (cI : ClassId) (a : Nat → Nat) (f : Nat → Int) (g : Nat → Int) (n : Nat) (b : Nat → Int) (len : Nat) (kd : Nat → Int) (sg : Nat → Int) (nb : Nat → Int) (pt : Nat) (hlt : l.stackTraces = false) (x0 : Int) (hx0 : -2147483648 ≤ x0 ∧ x0 < 2147483648) : MetT l yX1_day wsX1_day rm_X1_day D cI [.ref (a 0), .int (jI x0)] (w1 cI a f g n b len kd sg nb pt) (w1 cI a f g n b len kd sg nb pt) ((s_X1_day f x0).1) ((s_X1_day f x0).2) := by
  refine xe_T (cc := cX1_day) (maxL := 2) (ret := (some .int)) (by decide) rfl (Nat.le_of_ble_eq_true rfl) ?_
  intro p e s m below meth c hx hb hr hml hts hown hlocks hex hP hK A hA hD hS hE ls hl
  have hl : lv_has ls 2 [(0, .ref (a 0)), (1, .int (jI x0))] := hl
  have hown : s.vm.findClass RX1 = some m.cls := hown
  have hSx : CallFix p m c cX1_day 2 s ([.ref (a 0), .int (jI x0)] : List Value).toArray wsX1_day RX1 := ⟨hx, hb, hml, hown, hts⟩
  have inRX1 : ∀ w ∈ u_ws RX1 TX1 6, w ∈ wsX1_day := by decide +kernel
  have qc40 := hts (.classLink RX1 40 xI) (by decide +kernel)
  have qf9 := hts (.fieldLink RX1 9 "VaultMovements" "now" "[I") (by decide +kernel)
  have qiI := hts (.initialized xI) (by decide +kernel)
  obtain ⟨z, hz⟩ : ∃ z, z = (s_X1_day f x0) := ⟨_, rfl⟩
  rw [← hz]
  unfold s_X1_day at hz
  refine lv_iload_n hx hb dX1_day_0 rfl (lv_at hl 1 rfl) ?_
  refine xc_P (As := [.int (jI x0)]) (rest := []) hSx (m_X1_isDay l x0 (by omega)) (va_cwS 1 hts gX1_day_X1_isDay rfl rfl rfl (by decide +kernel) ⟨Nat.le_of_ble_eq_true rfl, Nat.le_of_ble_eq_true rfl⟩) rfl hl.1 rfl (Nat.le_of_ble_eq_true rfl) dX1_day_1 ⟨Nat.zero_le _, Nat.zero_le _⟩ ?_
  refine x_if_ne (tgt := 17) hx hb dX1_day_4 (by decide) (b01 (b_X1_isDay x0)) (fun c4 => ?_) (fun c4 => ?_)
  · rw [if_neg c4] at hz
    have hok := ok_X1_isDay c4
    obtain ⟨j, rfl⟩ : ∃ j : Nat, x0 = (j : Int) := ⟨x0.toNat, by omega⟩
    have hj : j < 7 := by omega
    try simp only [Int.toNat_natCast] at hz
    refine lv_aload_n hx hb dX1_day_17 rfl (lv_at hl 0 rfl) ?_
    refine va_get (D := D) (ci := 1) (v := .ref (a 1)) (C := RX1) (T := TX1) (N := 6) hx hb hts inRX1 hown hK hP 0 rfl rfl 0 (by decide) qf9 (fun _ h9 => h9) rfl dX1_day_18 ?_
    refine lv_bipush (v := jI 14) hx hb dX1_day_21 (by decide) ?_
    refine lv_iload_n hx hb dX1_day_23 rfl (lv_at hl 1 rfl) ?_
    refine x_iadd hx hb dX1_day_24 ?_
    refine x_iald hx hb hK hP 1 0 rfl rfl (14 + j) (by omega) (by omega) (by decide) dX1_day_25 ?_
    subst hz
    exact xt_i hx hb hr hlocks hK hP hD hS (Nat.zero_le _) (Nat.zero_le _) rfl rfl rfl dX1_day_26
  · rw [if_pos c4] at hz
    subst hz
    exact xt_throw (text := "no such day") (is := 42) hx hb hlt hown (by decide) qc40 qiI (by decide) (fun z h9 => hts z (List.mem_cons_of_mem _ (List.mem_append_right _ h9))) xng_I xgd_I hE hA (hl.1.trans hml.symm) dX1_day_7 dX1_day_10 dX1_day_11 dX1_day_13 dX1_day_16 hex (Nat.le_of_ble_eq_true rfl) (Nat.le_of_ble_eq_true rfl) (Nat.le_of_ble_eq_true rfl) (Nat.le_of_ble_eq_true rfl) hlocks hK hP hD hS rfl rfl (show (1 : Int) ≠ 0 by decide) rfl rfl
def s_X1_count (f : Nat → Int) (n : Nat) (x0 : Int) : Int × Int := if x0 < 0 then (2, 0) else (if x0 ≤ 14 then (0, (s_X1_number f n (x0.toNat))) else (2, 0))
abbrev rm_X1_count : Room := { frames := 6, cells := 1, slots := 6, locals := 100 }
set_option maxHeartbeats 4000000 in
set_option maxRecDepth 100000 in
theorem m_X1_count (l : Launch) (D : va_G) (cI : ClassId) (a : Nat → Nat) (f : Nat → Int) (g : Nat → Int) (n : Nat) (b : Nat → Int) (len : Nat) (kd : Nat → Int) (sg : Nat → Int) (nb : Nat → Int) (pt : Nat) (hlt : l.stackTraces = false) (x0 : Int) (hrf : rng f) (hh : 0 ≤ f 0 ∧ f 0 ≤ 99999) (hd : ∀ k : Nat, 14 ≤ k → k < 21 → -1 ≤ f k ∧ f k ≤ 23) (hw : 0 ≤ f 4 ∧ f 4 ≤ 100100) (hx0 : -2147483648 ≤ x0 ∧ x0 < 2147483648) : MetT l yX1_count wsX1_count rm_X1_count D cI [.ref (a 0), .int (jI x0)] (w1 cI a f g n b len kd sg nb pt) (w1 cI a f g n b len kd sg nb pt) ((s_X1_count f n x0).1) ((s_X1_count f n x0).2) := by
  refine xe_T (cc := cX1_count) (maxL := 2) (ret := (some .int)) (by decide) rfl (Nat.le_of_ble_eq_true rfl) ?_
  intro p e s m below meth c hx hb hr hml hts hown hlocks hex hP hK A hA hD hS hE ls hl
  have hl : lv_has ls 2 [(0, .ref (a 0)), (1, .int (jI x0))] := hl
  have hown : s.vm.findClass RX1 = some m.cls := hown
  have hSx : CallFix p m c cX1_count 2 s ([.ref (a 0), .int (jI x0)] : List Value).toArray wsX1_count RX1 := ⟨hx, hb, hml, hown, hts⟩
  have qc47 := hts (.classLink RX1 47 xA) (by decide +kernel)
  have qiA := hts (.initialized xA) (by decide +kernel)
  obtain ⟨z, hz⟩ : ∃ z, z = (s_X1_count f n x0) := ⟨_, rfl⟩
  rw [← hz]
  unfold s_X1_count at hz
  refine lv_iload_n hx hb dX1_count_0 rfl (lv_at hl 1 rfl) ?_
  refine x_if_lt (tgt := 10) hx hb dX1_count_1 (by decide) (by omega) (fun c1 => ?_) (fun c1 => ?_)
  · rw [if_pos c1] at hz
    subst hz
    exact xt_throw (text := "no such number") (is := 174) hx hb hlt hown (by decide) qc47 qiA (by decide) (fun z h9 => hts z (List.mem_cons_of_mem _ (List.mem_append_right _ h9))) xng_A xgd_A hE hA (hl.1.trans hml.symm) dX1_count_10 dX1_count_13 dX1_count_14 dX1_count_16 dX1_count_19 hex (Nat.le_of_ble_eq_true rfl) (Nat.le_of_ble_eq_true rfl) (Nat.le_of_ble_eq_true rfl) (Nat.le_of_ble_eq_true rfl) hlocks hK hP hD hS rfl rfl (show (2 : Int) ≠ 0 by decide) rfl rfl
  · rw [if_neg c1] at hz
    refine lv_iload_n hx hb dX1_count_4 rfl (lv_at hl 1 rfl) ?_
    refine lv_bipush (v := jI 14) hx hb dX1_count_5 (by decide) ?_
    refine x_icmp_le (tgt := 20) hx hb dX1_count_7 (by decide) ⟨(by omega), (by decide)⟩ (fun c7 => ?_) (fun c7 => ?_)
    · rw [if_pos c7] at hz
      have hok := True.intro
      obtain ⟨j, rfl⟩ : ∃ j : Nat, x0 = (j : Int) := ⟨x0.toNat, by omega⟩
      have hj : j < 15 := by omega
      try simp only [Int.toNat_natCast] at hz
      refine lv_aload_n hx hb dX1_count_20 rfl (lv_at hl 0 rfl) ?_
      refine lv_iload_n hx hb dX1_count_21 rfl (lv_at hl 1 rfl) ?_
      refine xc_R (As := [.int (jI (j : Int))]) (rest := []) hSx (m_X1_number l D cI a f g n b len kd sg nb pt j (by omega) (by omega) (by omega) (by omega) (by omega)) (cwV 1 hts gX1_count_X1_number rfl rfl rfl (by decide +kernel) ⟨Nat.le_of_ble_eq_true rfl, Nat.le_of_ble_eq_true rfl⟩) hP hK 0 rfl rfl rfl rfl hl.1 rfl (Nat.le_of_ble_eq_true rfl) dX1_count_22 ⟨Nat.zero_le _, Nat.zero_le _⟩ ?_
      subst hz
      exact xt_i hx hb hr hlocks hK hP hD hS (Nat.zero_le _) (Nat.zero_le _) rfl rfl rfl dX1_count_25
    · rw [if_neg c7] at hz
      subst hz
      exact xt_throw (text := "no such number") (is := 174) hx hb hlt hown (by decide) qc47 qiA (by decide) (fun z h9 => hts z (List.mem_cons_of_mem _ (List.mem_append_right _ h9))) xng_A xgd_A hE hA (hl.1.trans hml.symm) dX1_count_10 dX1_count_13 dX1_count_14 dX1_count_16 dX1_count_19 hex (Nat.le_of_ble_eq_true rfl) (Nat.le_of_ble_eq_true rfl) (Nat.le_of_ble_eq_true rfl) (Nat.le_of_ble_eq_true rfl) hlocks hK hP hD hS rfl rfl (show (2 : Int) ≠ 0 by decide) rfl rfl
def s_X1_setting (f : Nat → Int) (x0 : Int) : Int × Int := if (s_X1_isSetting x0) = 0 then (1, 0) else (0, (f (11 + (x0.toNat))))
abbrev rm_X1_setting : Room := { frames := 6, cells := 1, slots := 6, locals := 100 }
set_option maxHeartbeats 4000000 in
set_option maxRecDepth 100000 in
theorem m_X1_setting (l : Launch) (D : va_G) (cI : ClassId) (a : Nat → Nat) (f : Nat → Int) (g : Nat → Int) (n : Nat) (b : Nat → Int) (len : Nat) (kd : Nat → Int) (sg : Nat → Int) (nb : Nat → Int) (pt : Nat) (hlt : l.stackTraces = false) (x0 : Int) (hx0 : -2147483648 ≤ x0 ∧ x0 < 2147483648) : MetT l yX1_setting wsX1_setting rm_X1_setting D cI [.ref (a 0), .int (jI x0)] (w1 cI a f g n b len kd sg nb pt) (w1 cI a f g n b len kd sg nb pt) ((s_X1_setting f x0).1) ((s_X1_setting f x0).2) := by
  refine xe_T (cc := cX1_setting) (maxL := 2) (ret := (some .int)) (by decide) rfl (Nat.le_of_ble_eq_true rfl) ?_
  intro p e s m below meth c hx hb hr hml hts hown hlocks hex hP hK A hA hD hS hE ls hl
  have hl : lv_has ls 2 [(0, .ref (a 0)), (1, .int (jI x0))] := hl
  have hown : s.vm.findClass RX1 = some m.cls := hown
  have hSx : CallFix p m c cX1_setting 2 s ([.ref (a 0), .int (jI x0)] : List Value).toArray wsX1_setting RX1 := ⟨hx, hb, hml, hown, hts⟩
  have inRX1 : ∀ w ∈ u_ws RX1 TX1 6, w ∈ wsX1_setting := by decide +kernel
  have qc40 := hts (.classLink RX1 40 xI) (by decide +kernel)
  have qf9 := hts (.fieldLink RX1 9 "VaultMovements" "now" "[I") (by decide +kernel)
  have qiI := hts (.initialized xI) (by decide +kernel)
  obtain ⟨z, hz⟩ : ∃ z, z = (s_X1_setting f x0) := ⟨_, rfl⟩
  rw [← hz]
  unfold s_X1_setting at hz
  refine lv_iload_n hx hb dX1_setting_0 rfl (lv_at hl 1 rfl) ?_
  refine xc_P (As := [.int (jI x0)]) (rest := []) hSx (m_X1_isSetting l x0 (by omega)) (va_cwS 1 hts gX1_setting_X1_isSetting rfl rfl rfl (by decide +kernel) ⟨Nat.le_of_ble_eq_true rfl, Nat.le_of_ble_eq_true rfl⟩) rfl hl.1 rfl (Nat.le_of_ble_eq_true rfl) dX1_setting_1 ⟨Nat.zero_le _, Nat.zero_le _⟩ ?_
  refine x_if_ne (tgt := 17) hx hb dX1_setting_4 (by decide) (b01 (b_X1_isSetting x0)) (fun c4 => ?_) (fun c4 => ?_)
  · rw [if_neg c4] at hz
    have hok := ok_X1_isSetting c4
    obtain ⟨j, rfl⟩ : ∃ j : Nat, x0 = (j : Int) := ⟨x0.toNat, by omega⟩
    have hj : j < 3 := by omega
    try simp only [Int.toNat_natCast] at hz
    refine lv_aload_n hx hb dX1_setting_17 rfl (lv_at hl 0 rfl) ?_
    refine va_get (D := D) (ci := 1) (v := .ref (a 1)) (C := RX1) (T := TX1) (N := 6) hx hb hts inRX1 hown hK hP 0 rfl rfl 0 (by decide) qf9 (fun _ h9 => h9) rfl dX1_setting_18 ?_
    refine lv_bipush (v := jI 11) hx hb dX1_setting_21 (by decide) ?_
    refine lv_iload_n hx hb dX1_setting_23 rfl (lv_at hl 1 rfl) ?_
    refine x_iadd hx hb dX1_setting_24 ?_
    refine x_iald hx hb hK hP 1 0 rfl rfl (11 + j) (by omega) (by omega) (by decide) dX1_setting_25 ?_
    subst hz
    exact xt_i hx hb hr hlocks hK hP hD hS (Nat.zero_le _) (Nat.zero_le _) rfl rfl rfl dX1_setting_26
  · rw [if_pos c4] at hz
    subst hz
    exact xt_throw (text := "no such setting") (is := 59) hx hb hlt hown (by decide) qc40 qiI (by decide) (fun z h9 => hts z (List.mem_cons_of_mem _ (List.mem_append_right _ h9))) xng_I xgd_I hE hA (hl.1.trans hml.symm) dX1_setting_7 dX1_setting_10 dX1_setting_11 dX1_setting_13 dX1_setting_16 hex (Nat.le_of_ble_eq_true rfl) (Nat.le_of_ble_eq_true rfl) (Nat.le_of_ble_eq_true rfl) (Nat.le_of_ble_eq_true rfl) hlocks hK hP hD hS rfl rfl (show (1 : Int) ≠ 0 by decide) rfl rfl
def s_X1_rightWinding (f : Nat → Int) (x0 : Int) : Int × Int := if (s_X1_isMovement x0) = 0 then (1, 0) else (0, (s_X1_hoursToWind f (x0.toNat)))
abbrev rm_X1_rightWinding : Room := { frames := 6, cells := 1, slots := 6, locals := 100 }
set_option maxHeartbeats 4000000 in
set_option maxRecDepth 100000 in
theorem m_X1_rightWinding (l : Launch) (D : va_G) (cI : ClassId) (a : Nat → Nat) (f : Nat → Int) (g : Nat → Int) (n : Nat) (b : Nat → Int) (len : Nat) (kd : Nat → Int) (sg : Nat → Int) (nb : Nat → Int) (pt : Nat) (hlt : l.stackTraces = false) (x0 : Int) (hrf : rng f) (hh : 0 ≤ f 0 ∧ f 0 ≤ 99999) (hd : ∀ k : Nat, 14 ≤ k → k < 21 → -1 ≤ f k ∧ f k ≤ 23) (hm : mvs f) (hx0 : -2147483648 ≤ x0 ∧ x0 < 2147483648) : MetT l yX1_rightWinding wsX1_rightWinding rm_X1_rightWinding D cI [.ref (a 0), .int (jI x0)] (w1 cI a f g n b len kd sg nb pt) (w1 cI a f g n b len kd sg nb pt) ((s_X1_rightWinding f x0).1) ((s_X1_rightWinding f x0).2) := by
  refine xe_T (cc := cX1_rightWinding) (maxL := 2) (ret := (some .int)) (by decide) rfl (Nat.le_of_ble_eq_true rfl) ?_
  intro p e s m below meth c hx hb hr hml hts hown hlocks hex hP hK A hA hD hS hE ls hl
  have hl : lv_has ls 2 [(0, .ref (a 0)), (1, .int (jI x0))] := hl
  have hown : s.vm.findClass RX1 = some m.cls := hown
  have hSx : CallFix p m c cX1_rightWinding 2 s ([.ref (a 0), .int (jI x0)] : List Value).toArray wsX1_rightWinding RX1 := ⟨hx, hb, hml, hown, hts⟩
  have qc40 := hts (.classLink RX1 40 xI) (by decide +kernel)
  have qiI := hts (.initialized xI) (by decide +kernel)
  obtain ⟨z, hz⟩ : ∃ z, z = (s_X1_rightWinding f x0) := ⟨_, rfl⟩
  rw [← hz]
  unfold s_X1_rightWinding at hz
  refine lv_iload_n hx hb dX1_rightWinding_0 rfl (lv_at hl 1 rfl) ?_
  refine xc_P (As := [.int (jI x0)]) (rest := []) hSx (m_X1_isMovement l x0 (by omega)) (va_cwS 1 hts gX1_rightWinding_X1_isMovement rfl rfl rfl (by decide +kernel) ⟨Nat.le_of_ble_eq_true rfl, Nat.le_of_ble_eq_true rfl⟩) rfl hl.1 rfl (Nat.le_of_ble_eq_true rfl) dX1_rightWinding_1 ⟨Nat.zero_le _, Nat.zero_le _⟩ ?_
  refine x_if_ne (tgt := 17) hx hb dX1_rightWinding_4 (by decide) (b01 (b_X1_isMovement x0)) (fun c4 => ?_) (fun c4 => ?_)
  · rw [if_neg c4] at hz
    have hok := ok_X1_isMovement c4
    obtain ⟨j, rfl⟩ : ∃ j : Nat, x0 = (j : Int) := ⟨x0.toNat, by omega⟩
    have hj : j < 3 := by omega
    try simp only [Int.toNat_natCast] at hz
    refine lv_aload_n hx hb dX1_rightWinding_17 rfl (lv_at hl 0 rfl) ?_
    refine lv_iload_n hx hb dX1_rightWinding_18 rfl (lv_at hl 1 rfl) ?_
    refine xc_R (As := [.int (jI (j : Int))]) (rest := []) hSx (m_X1_hoursToWind l D cI a f g n b len kd sg nb pt j (by omega) (by omega) (by omega) (by omega) (by omega)) (cwV 1 hts gX1_rightWinding_X1_hoursToWind rfl rfl rfl (by decide +kernel) ⟨Nat.le_of_ble_eq_true rfl, Nat.le_of_ble_eq_true rfl⟩) hP hK 0 rfl rfl rfl rfl hl.1 rfl (Nat.le_of_ble_eq_true rfl) dX1_rightWinding_19 ⟨Nat.zero_le _, Nat.zero_le _⟩ ?_
    subst hz
    exact xt_i hx hb hr hlocks hK hP hD hS (Nat.zero_le _) (Nat.zero_le _) rfl rfl rfl dX1_rightWinding_22
  · rw [if_pos c4] at hz
    subst hz
    exact xt_throw (text := "no such movement") (is := 72) hx hb hlt hown (by decide) qc40 qiI (by decide) (fun z h9 => hts z (List.mem_cons_of_mem _ (List.mem_append_right _ h9))) xng_I xgd_I hE hA (hl.1.trans hml.symm) dX1_rightWinding_7 dX1_rightWinding_10 dX1_rightWinding_11 dX1_rightWinding_13 dX1_rightWinding_16 hex (Nat.le_of_ble_eq_true rfl) (Nat.le_of_ble_eq_true rfl) (Nat.le_of_ble_eq_true rfl) (Nat.le_of_ble_eq_true rfl) hlocks hK hP hD hS rfl rfl (show (1 : Int) ≠ 0 by decide) rfl rfl
end
section
/-! the looks, where nothing is thrown -/
theorem is_day {j : Nat} (h : j < 7) : ¬ s_X1_isDay (j : Int) = 0 := by unfold s_X1_isDay; (repeat' split) <;> omega
theorem is_set {j : Nat} (h : j < 3) : ¬ s_X1_isSetting (j : Int) = 0 := by unfold s_X1_isSetting; (repeat' split) <;> omega
theorem is_mov {j : Nat} (h : j < 3) : ¬ s_X1_isMovement (j : Int) = 0 := by unfold s_X1_isMovement; (repeat' split) <;> omega
abbrev rm_X1_count_R : Room := { frames := 3, cells := 0, slots := 0, locals := 81 }
set_option maxHeartbeats 4000000 in
set_option maxRecDepth 100000 in
theorem m_X1_count_R (l : Launch) (D : va_G) (cI : ClassId) (a : Nat → Nat) (f : Nat → Int) (g : Nat → Int) (n : Nat) (b : Nat → Int) (len : Nat) (kd : Nat → Int) (sg : Nat → Int) (nb : Nat → Int) (pt : Nat) (x0 : Nat) (hx0 : x0 ≤ 14) (hrf : rng f) (hh : 0 ≤ f 0 ∧ f 0 ≤ 99999) (hd : ∀ k : Nat, 14 ≤ k → k < 21 → -1 ≤ f k ∧ f k ≤ 23) (hw : 0 ≤ f 4 ∧ f 4 ≤ 100100) : MetR l yX1_count wsX1_count rm_X1_count_R D cI [.ref (a 0), .int (jI (x0 : Int))] (w1 cI a f g n b len kd sg nb pt) (s_X1_number f n x0) := by
  refine xe_R (cc := cX1_count) (maxL := 2) (ret := (some .int)) (by decide) rfl (Nat.le_of_ble_eq_true rfl) ?_
  intro p e s m below meth c hx hb hr hml hts hown hlocks hP hK ls hl
  have hl : lv_has ls 2 [(0, .ref (a 0)), (1, .int (jI (x0 : Int)))] := hl
  have hown : s.vm.findClass RX1 = some m.cls := hown
  have hSx : CallFix p m c cX1_count 2 s ([.ref (a 0), .int (jI (x0 : Int))] : List Value).toArray wsX1_count RX1 := ⟨hx, hb, hml, hown, hts⟩
  obtain ⟨z, hz⟩ : ∃ z, z = (s_X1_number f n x0) := ⟨_, rfl⟩
  rw [← hz]
  refine lv_iload_n hx hb dX1_count_0 rfl (lv_at hl 1 rfl) ?_
  refine x_if_lt (tgt := 10) hx hb dX1_count_1 (by decide) (by omega) (fun c1 => (by omega)) (fun c1 => ?_)
  refine lv_iload_n hx hb dX1_count_4 rfl (lv_at hl 1 rfl) ?_
  refine lv_bipush (v := jI 14) hx hb dX1_count_5 (by decide) ?_
  refine x_icmp_le (tgt := 20) hx hb dX1_count_7 (by decide) ⟨(by omega), (by decide)⟩ (fun c7 => ?_) (fun c7 => (by omega))
  refine lv_aload_n hx hb dX1_count_20 rfl (lv_at hl 0 rfl) ?_
  refine lv_iload_n hx hb dX1_count_21 rfl (lv_at hl 1 rfl) ?_
  refine xc_R (As := [.int (jI (x0 : Int))]) (rest := []) hSx (m_X1_number l D cI a f g n b len kd sg nb pt x0 (by omega) (by omega) (by omega) (by omega) (by omega)) (cwV 1 hts gX1_count_X1_number rfl rfl rfl (by decide +kernel) ⟨Nat.le_of_ble_eq_true rfl, Nat.le_of_ble_eq_true rfl⟩) hP hK 0 rfl rfl rfl rfl hl.1 rfl (Nat.le_of_ble_eq_true rfl) dX1_count_22 ⟨Nat.zero_le _, Nat.zero_le _⟩ ?_
  subst hz
  exact xr_i hx hb hr hlocks rfl dX1_count_25
abbrev rm_X1_day_R : Room := { frames := 1, cells := 0, slots := 0, locals := 20 }
set_option maxHeartbeats 4000000 in
set_option maxRecDepth 100000 in
theorem m_X1_day_R (l : Launch) (D : va_G) (cI : ClassId) (a : Nat → Nat) (f : Nat → Int) (g : Nat → Int) (n : Nat) (b : Nat → Int) (len : Nat) (kd : Nat → Int) (sg : Nat → Int) (nb : Nat → Int) (pt : Nat) (j : Nat) (hj : j < 7) (hrf : rng f) : MetR l yX1_day wsX1_day rm_X1_day_R D cI [.ref (a 0), .int (jI (j : Int))] (w1 cI a f g n b len kd sg nb pt) (f (14 + j)) := by
  refine xe_R (cc := cX1_day) (maxL := 2) (ret := (some .int)) (by decide) rfl (Nat.le_of_ble_eq_true rfl) ?_
  intro p e s m below meth c hx hb hr hml hts hown hlocks hP hK ls hl
  have hl : lv_has ls 2 [(0, .ref (a 0)), (1, .int (jI (j : Int)))] := hl
  have hown : s.vm.findClass RX1 = some m.cls := hown
  have hSx : CallFix p m c cX1_day 2 s ([.ref (a 0), .int (jI (j : Int))] : List Value).toArray wsX1_day RX1 := ⟨hx, hb, hml, hown, hts⟩
  have inRX1 : ∀ w ∈ u_ws RX1 TX1 6, w ∈ wsX1_day := by decide +kernel
  have qf9 := hts (.fieldLink RX1 9 "VaultMovements" "now" "[I") (by decide +kernel)
  obtain ⟨z, hz⟩ : ∃ z, z = (f (14 + j)) := ⟨_, rfl⟩
  rw [← hz]
  refine lv_iload_n hx hb dX1_day_0 rfl (lv_at hl 1 rfl) ?_
  refine xc_P (As := [.int (jI (j : Int))]) (rest := []) hSx (m_X1_isDay l (j : Int) (by omega)) (va_cwS 1 hts gX1_day_X1_isDay rfl rfl rfl (by decide +kernel) ⟨Nat.le_of_ble_eq_true rfl, Nat.le_of_ble_eq_true rfl⟩) rfl hl.1 rfl (Nat.le_of_ble_eq_true rfl) dX1_day_1 ⟨Nat.zero_le _, Nat.zero_le _⟩ ?_
  refine x_if_ne (tgt := 17) hx hb dX1_day_4 (by decide) (b01 (b_X1_isDay (j : Int))) (fun c4 => ?_) (fun c4 => (is_day hj c4))
  refine lv_aload_n hx hb dX1_day_17 rfl (lv_at hl 0 rfl) ?_
  refine va_get (D := D) (ci := 1) (v := .ref (a 1)) (C := RX1) (T := TX1) (N := 6) hx hb hts inRX1 hown hK hP 0 rfl rfl 0 (by decide) qf9 (fun _ h9 => h9) rfl dX1_day_18 ?_
  refine lv_bipush (v := jI 14) hx hb dX1_day_21 (by decide) ?_
  refine lv_iload_n hx hb dX1_day_23 rfl (lv_at hl 1 rfl) ?_
  refine x_iadd hx hb dX1_day_24 ?_
  refine x_iald hx hb hK hP 1 0 rfl rfl (14 + j) (by omega) (by omega) (by decide) dX1_day_25 ?_
  subst hz
  exact xr_i hx hb hr hlocks rfl dX1_day_26
abbrev rm_X1_setting_R : Room := { frames := 1, cells := 0, slots := 0, locals := 20 }
set_option maxHeartbeats 4000000 in
set_option maxRecDepth 100000 in
theorem m_X1_setting_R (l : Launch) (D : va_G) (cI : ClassId) (a : Nat → Nat) (f : Nat → Int) (g : Nat → Int) (n : Nat) (b : Nat → Int) (len : Nat) (kd : Nat → Int) (sg : Nat → Int) (nb : Nat → Int) (pt : Nat) (j : Nat) (hj : j < 3) (hrf : rng f) : MetR l yX1_setting wsX1_setting rm_X1_setting_R D cI [.ref (a 0), .int (jI (j : Int))] (w1 cI a f g n b len kd sg nb pt) (f (11 + j)) := by
  refine xe_R (cc := cX1_setting) (maxL := 2) (ret := (some .int)) (by decide) rfl (Nat.le_of_ble_eq_true rfl) ?_
  intro p e s m below meth c hx hb hr hml hts hown hlocks hP hK ls hl
  have hl : lv_has ls 2 [(0, .ref (a 0)), (1, .int (jI (j : Int)))] := hl
  have hown : s.vm.findClass RX1 = some m.cls := hown
  have hSx : CallFix p m c cX1_setting 2 s ([.ref (a 0), .int (jI (j : Int))] : List Value).toArray wsX1_setting RX1 := ⟨hx, hb, hml, hown, hts⟩
  have inRX1 : ∀ w ∈ u_ws RX1 TX1 6, w ∈ wsX1_setting := by decide +kernel
  have qf9 := hts (.fieldLink RX1 9 "VaultMovements" "now" "[I") (by decide +kernel)
  obtain ⟨z, hz⟩ : ∃ z, z = (f (11 + j)) := ⟨_, rfl⟩
  rw [← hz]
  refine lv_iload_n hx hb dX1_setting_0 rfl (lv_at hl 1 rfl) ?_
  refine xc_P (As := [.int (jI (j : Int))]) (rest := []) hSx (m_X1_isSetting l (j : Int) (by omega)) (va_cwS 1 hts gX1_setting_X1_isSetting rfl rfl rfl (by decide +kernel) ⟨Nat.le_of_ble_eq_true rfl, Nat.le_of_ble_eq_true rfl⟩) rfl hl.1 rfl (Nat.le_of_ble_eq_true rfl) dX1_setting_1 ⟨Nat.zero_le _, Nat.zero_le _⟩ ?_
  refine x_if_ne (tgt := 17) hx hb dX1_setting_4 (by decide) (b01 (b_X1_isSetting (j : Int))) (fun c4 => ?_) (fun c4 => (is_set hj c4))
  refine lv_aload_n hx hb dX1_setting_17 rfl (lv_at hl 0 rfl) ?_
  refine va_get (D := D) (ci := 1) (v := .ref (a 1)) (C := RX1) (T := TX1) (N := 6) hx hb hts inRX1 hown hK hP 0 rfl rfl 0 (by decide) qf9 (fun _ h9 => h9) rfl dX1_setting_18 ?_
  refine lv_bipush (v := jI 11) hx hb dX1_setting_21 (by decide) ?_
  refine lv_iload_n hx hb dX1_setting_23 rfl (lv_at hl 1 rfl) ?_
  refine x_iadd hx hb dX1_setting_24 ?_
  refine x_iald hx hb hK hP 1 0 rfl rfl (11 + j) (by omega) (by omega) (by decide) dX1_setting_25 ?_
  subst hz
  exact xr_i hx hb hr hlocks rfl dX1_setting_26
abbrev rm_X1_movement_R : Room := { frames := 3, cells := 0, slots := 0, locals := 68 }
set_option maxHeartbeats 4000000 in
set_option maxRecDepth 100000 in
theorem m_X1_movement_R (l : Launch) (D : va_G) (cI : ClassId) (a : Nat → Nat) (f : Nat → Int) (g : Nat → Int) (n : Nat) (b : Nat → Int) (len : Nat) (kd : Nat → Int) (sg : Nat → Int) (nb : Nat → Int) (pt : Nat) (j : Nat) (x1 : Nat) (hj : j < 3) (hx1 : x1 ≤ 5) (hrf : rng f) (hm : mvs f) : MetR l yX1_movement wsX1_movement rm_X1_movement_R D cI [.ref (a 0), .int (jI (j : Int)), .int (jI (x1 : Int))] (w1 cI a f g n b len kd sg nb pt) (s_X1_property f j x1) := by
  refine xe_R (cc := cX1_movement) (maxL := 3) (ret := (some .int)) (by decide) rfl (Nat.le_of_ble_eq_true rfl) ?_
  intro p e s m below meth c hx hb hr hml hts hown hlocks hP hK ls hl
  have hl : lv_has ls 3 [(0, .ref (a 0)), (1, .int (jI (j : Int))), (2, .int (jI (x1 : Int)))] := hl
  have hown : s.vm.findClass RX1 = some m.cls := hown
  have hSx : CallFix p m c cX1_movement 3 s ([.ref (a 0), .int (jI (j : Int)), .int (jI (x1 : Int))] : List Value).toArray wsX1_movement RX1 := ⟨hx, hb, hml, hown, hts⟩
  obtain ⟨z, hz⟩ : ∃ z, z = (s_X1_property f j x1) := ⟨_, rfl⟩
  rw [← hz]
  refine lv_iload_n hx hb dX1_movement_0 rfl (lv_at hl 1 rfl) ?_
  refine xc_P (As := [.int (jI (j : Int))]) (rest := []) hSx (m_X1_isMovement l (j : Int) (by omega)) (va_cwS 1 hts gX1_movement_X1_isMovement rfl rfl rfl (by decide +kernel) ⟨Nat.le_of_ble_eq_true rfl, Nat.le_of_ble_eq_true rfl⟩) rfl hl.1 rfl (Nat.le_of_ble_eq_true rfl) dX1_movement_1 ⟨Nat.zero_le _, Nat.zero_le _⟩ ?_
  refine x_if_ne (tgt := 17) hx hb dX1_movement_4 (by decide) (b01 (b_X1_isMovement (j : Int))) (fun c4 => ?_) (fun c4 => (is_mov hj c4))
  refine lv_iload_n hx hb dX1_movement_17 rfl (lv_at hl 2 rfl) ?_
  refine x_if_lt (tgt := 26) hx hb dX1_movement_18 (by decide) (by omega) (fun c18 => (by omega)) (fun c18 => ?_)
  refine lv_iload_n hx hb dX1_movement_21 rfl (lv_at hl 2 rfl) ?_
  refine lv_iconst (v := jI 5) hx hb dX1_movement_22 rfl ?_
  refine x_icmp_le (tgt := 36) hx hb dX1_movement_23 (by decide) ⟨(by omega), (by decide)⟩ (fun c23 => ?_) (fun c23 => (by omega))
  refine lv_aload_n hx hb dX1_movement_36 rfl (lv_at hl 0 rfl) ?_
  refine lv_iload_n hx hb dX1_movement_37 rfl (lv_at hl 1 rfl) ?_
  refine lv_iload_n hx hb dX1_movement_38 rfl (lv_at hl 2 rfl) ?_
  refine xc_R (As := [.int (jI (j : Int)), .int (jI (x1 : Int))]) (rest := []) hSx (m_X1_property l D cI a f g n b len kd sg nb pt j x1 (by omega) (by omega) (by omega) (by omega)) (cwV 2 hts gX1_movement_X1_property rfl rfl rfl (by decide +kernel) ⟨Nat.le_of_ble_eq_true rfl, Nat.le_of_ble_eq_true rfl⟩) hP hK 0 rfl rfl rfl rfl hl.1 rfl (Nat.le_of_ble_eq_true rfl) dX1_movement_39 ⟨Nat.zero_le _, Nat.zero_le _⟩ ?_
  subst hz
  exact xr_i hx hb hr hlocks rfl dX1_movement_42
abbrev rm_X1_rightWinding_R : Room := { frames := 3, cells := 0, slots := 0, locals := 68 }
set_option maxHeartbeats 4000000 in
set_option maxRecDepth 100000 in
theorem m_X1_rightWinding_R (l : Launch) (D : va_G) (cI : ClassId) (a : Nat → Nat) (f : Nat → Int) (g : Nat → Int) (n : Nat) (b : Nat → Int) (len : Nat) (kd : Nat → Int) (sg : Nat → Int) (nb : Nat → Int) (pt : Nat) (j : Nat) (hj : j < 3) (hrf : rng f) (hh : 0 ≤ f 0 ∧ f 0 ≤ 99999) (hd : ∀ k : Nat, 14 ≤ k → k < 21 → -1 ≤ f k ∧ f k ≤ 23) (hm : mvs f) : MetR l yX1_rightWinding wsX1_rightWinding rm_X1_rightWinding_R D cI [.ref (a 0), .int (jI (j : Int))] (w1 cI a f g n b len kd sg nb pt) (s_X1_hoursToWind f j) := by
  refine xe_R (cc := cX1_rightWinding) (maxL := 2) (ret := (some .int)) (by decide) rfl (Nat.le_of_ble_eq_true rfl) ?_
  intro p e s m below meth c hx hb hr hml hts hown hlocks hP hK ls hl
  have hl : lv_has ls 2 [(0, .ref (a 0)), (1, .int (jI (j : Int)))] := hl
  have hown : s.vm.findClass RX1 = some m.cls := hown
  have hSx : CallFix p m c cX1_rightWinding 2 s ([.ref (a 0), .int (jI (j : Int))] : List Value).toArray wsX1_rightWinding RX1 := ⟨hx, hb, hml, hown, hts⟩
  obtain ⟨z, hz⟩ : ∃ z, z = (s_X1_hoursToWind f j) := ⟨_, rfl⟩
  rw [← hz]
  refine lv_iload_n hx hb dX1_rightWinding_0 rfl (lv_at hl 1 rfl) ?_
  refine xc_P (As := [.int (jI (j : Int))]) (rest := []) hSx (m_X1_isMovement l (j : Int) (by omega)) (va_cwS 1 hts gX1_rightWinding_X1_isMovement rfl rfl rfl (by decide +kernel) ⟨Nat.le_of_ble_eq_true rfl, Nat.le_of_ble_eq_true rfl⟩) rfl hl.1 rfl (Nat.le_of_ble_eq_true rfl) dX1_rightWinding_1 ⟨Nat.zero_le _, Nat.zero_le _⟩ ?_
  refine x_if_ne (tgt := 17) hx hb dX1_rightWinding_4 (by decide) (b01 (b_X1_isMovement (j : Int))) (fun c4 => ?_) (fun c4 => (is_mov hj c4))
  refine lv_aload_n hx hb dX1_rightWinding_17 rfl (lv_at hl 0 rfl) ?_
  refine lv_iload_n hx hb dX1_rightWinding_18 rfl (lv_at hl 1 rfl) ?_
  refine xc_R (As := [.int (jI (j : Int))]) (rest := []) hSx (m_X1_hoursToWind l D cI a f g n b len kd sg nb pt j (by omega) (by omega) (by omega) (by omega) (by omega)) (cwV 1 hts gX1_rightWinding_X1_hoursToWind rfl rfl rfl (by decide +kernel) ⟨Nat.le_of_ble_eq_true rfl, Nat.le_of_ble_eq_true rfl⟩) hP hK 0 rfl rfl rfl rfl hl.1 rfl (Nat.le_of_ble_eq_true rfl) dX1_rightWinding_19 ⟨Nat.zero_le _, Nat.zero_le _⟩ ?_
  subst hz
  exact xr_i hx hb hr hlocks rfl dX1_rightWinding_22
end
section
/-! the doubles that occur: shares, and what is made of them -/
def mk64 (E T : Nat) : UInt64 := UInt64.ofNat (E * 4503599627370496 + T)
theorem mk_of (E T : Nat) (h1 : 1 ≤ E) (h2 : E ≤ 2046) (hT : T < 4503599627370496) : mk64 E T = FP.Core.of64 (.fin false (4503599627370496 + T) ((E : Int) - 1075)) := by
  unfold mk64 FP.Core.of64
  congr 1
  have e1 : FP.Core.b64.tails = 4503599627370496 := by decide
  have e2 : FP.Core.b64.qmin = -1074 := by decide
  show _ = FP.Core.encode FP.Core.b64 (.fin false (4503599627370496 + T) ((E : Int) - 1075))
  unfold FP.Core.encode FP.Core.assemble
  dsimp only
  rw [e1, e2, if_neg (by omega)]
  have e3 : ((E : Int) - 1075 - -1074).toNat + 1 = E := by omega
  rw [e3]
  simp only [Bool.toNat_false]
  omega
theorem mk_fits (E T : Nat) (h1 : 1 ≤ E) (h2 : E ≤ 2046) (hT : T < 4503599627370496) : FP.Core.fits FP.Core.b64 (.fin false (4503599627370496 + T) ((E : Int) - 1075)) := by
  have e1 : FP.Core.b64.tails = 4503599627370496 := by decide
  have e2 : FP.Core.b64.qmin = -1074 := by decide
  have e3 : FP.Core.b64.qmax = 971 := by decide
  refine ⟨?_, ?_, ?_, Or.inr ?_⟩
  · show 4503599627370496 + T < 2 ^ 53
    omega
  · rw [e2]; omega
  · rw [e3]; omega
  · rw [e1]; omega
theorem mk_val (E T : Nat) (h1 : 1 ≤ E) (h2 : E ≤ 2046) (hT : T < 4503599627370496) : FP.Core.val64 (mk64 E T) = .fin false (4503599627370496 + T) ((E : Int) - 1075) := by
  rw [mk_of E T h1 h2 hT]
  exact FP.Core.val64_of64 (mk_fits E T h1 h2 hT)
theorem mk_inj {x : UInt64} {E T : Nat} (h1 : 1 ≤ E) (h2 : E ≤ 2046) (hT : T < 4503599627370496) (h : FP.Core.val64 x = .fin false (4503599627370496 + T) ((E : Int) - 1075)) : x = mk64 E T :=
  FP.Core.val64_inj (by rw [h]; exact fun q => nomatch q) (h.trans (mk_val E T h1 h2 hT).symm)
theorem mk_two : (4611686018427387904 : UInt64) = mk64 1024 0 := by decide
theorem mk_one : (4607182418800017408 : UInt64) = mk64 1023 0 := by decide
theorem mk_big : (4841369599423283200 : UInt64) = mk64 1075 0 := by decide
theorem mk_mul2 (E T : Nat) (h1 : 1 ≤ E) (h2 : E ≤ 2045) (hT : T < 4503599627370496) : FP.dmul (mk64 E T) 4611686018427387904 = mk64 (E + 1) T := by
  refine mk_inj (by omega) (by omega) hT ?_
  show FP.Core.val64 (FP.Core.dmul _ _) = _
  rw [FP.Core.val64_dmul, mk_two, mk_val E T h1 (by omega) hT, mk_val 1024 0 (by decide) (by decide) (by decide)]
  refine FP.Core.roundRatio_exact FP.Core.good_b64 (by decide) (mk_fits (E + 1) T (by omega) (by omega) hT) ?_
  have a1 : ((E : Int) - 1075 + (((1024 : Nat) : Int) - 1075) - (((E + 1 : Nat) : Int) - 1075)).toNat = 0 := by omega
  have a2 : (((E + 1 : Nat) : Int) - 1075 - ((E : Int) - 1075 + (((1024 : Nat) : Int) - 1075))).toNat = 52 := by omega
  rw [a1, a2]
  omega
theorem n64_of {r : UInt64} (h : FP.Core.val64 r ≠ .nan) : vf_n64 r := by
  unfold vf_n64
  rw [UInt64.le_iff_toNat_le, UInt64.toNat_and]
  have e1 : (0x7fffffffffffffff : UInt64).toNat = 2 ^ 63 - 1 := by decide
  have e2 : (0x7ff0000000000000 : UInt64).toNat = 9218868437227405312 := by decide
  rw [e1, e2, Nat.and_two_pow_sub_one_eq_mod]
  refine Nat.le_of_not_lt fun hc => h ?_
  unfold FP.Core.val64 FP.Core.decode FP.Core.fieldE FP.Core.fieldT
  have t1 : FP.Core.b64.tails = 4503599627370496 := by decide
  have t2 : FP.Core.b64.exps = 2048 := by decide
  rw [t1, t2]
  have := r.toNat_lt
  rw [if_pos (by omega), if_neg (by omega)]
theorem n64_mk (E T : Nat) (h1 : 1 ≤ E) (h2 : E ≤ 2046) (hT : T < 4503599627370496) : vf_n64 (mk64 E T) := n64_of (by rw [mk_val E T h1 h2 hT]; exact fun q => nomatch q)
theorem dcmp_order (x y : UInt64) : FP.dcmp x y = FP.Core.order (FP.Core.val64 x) (FP.Core.val64 y) := rfl
theorem one_mk : FP.dconst1 = mk64 1023 0 := by decide
theorem zero_val : FP.Core.val64 FP.dconst0 = .fin false 0 (-1074) := by decide
theorem cmp_lt {x y : Int} (h : x < y) : compare x y = .lt := by
  show compareOfLessAndEq x y = .lt
  unfold compareOfLessAndEq
  rw [if_pos h]
theorem cmp_gt {x y : Int} (h : y < x) : compare x y = .gt := by
  show compareOfLessAndEq x y = .gt
  unfold compareOfLessAndEq
  rw [if_neg (by omega), if_neg (by omega)]
theorem mk_lt1 (E T : Nat) (h1 : 1 ≤ E) (h2 : E < 1023) (hT : T < 4503599627370496) : Op.cmpValue (FP.dcmp (mk64 E T) FP.dconst1) .g = jI (-1) := by
  rw [dcmp_order, one_mk, mk_val E T h1 (by omega) hT, mk_val 1023 0 (by decide) (by decide) (by decide)]
  unfold FP.Core.order FP.Core.signed FP.Core.inUnits
  dsimp only
  have m1 : min ((E : Int) - 1075) (((1023 : Nat) : Int) - 1075) = (E : Int) - 1075 := by omega
  rw [m1]
  have p1 : ((E : Int) - 1075 - ((E : Int) - 1075)).toNat = 0 := by omega
  have p2 : (((1023 : Nat) : Int) - 1075 - ((E : Int) - 1075)).toNat = (1022 - E) + 1 := by omega
  rw [p1, p2, Nat.pow_succ]
  have p3 : 1 ≤ 2 ^ (1022 - E) := Nat.two_pow_pos _
  rw [cmp_lt]
  · rfl
  · show (((4503599627370496 + T) * 2 ^ 0 : Nat) : Int) < (((4503599627370496 + 0) * (2 ^ (1022 - E) * 2) : Nat) : Int)
    have p4 : 4503599627370496 * 2 ≤ 4503599627370496 * (2 ^ (1022 - E) * 2) := Nat.mul_le_mul_left _ (by omega)
    omega
theorem mk_ge1 (T : Nat) (hT : T < 4503599627370496) : Op.cmpValue (FP.dcmp (mk64 1023 T) FP.dconst1) .g = jI 0 ∨ Op.cmpValue (FP.dcmp (mk64 1023 T) FP.dconst1) .g = jI 1 := by
  rw [dcmp_order, one_mk, mk_val 1023 T (by decide) (by omega) hT, mk_val 1023 0 (by decide) (by decide) (by decide)]
  unfold FP.Core.order FP.Core.signed FP.Core.inUnits
  dsimp only
  have m1 : min (((1023 : Nat) : Int) - 1075) (((1023 : Nat) : Int) - 1075) = ((1023 : Nat) : Int) - 1075 := by omega
  rw [m1]
  have p1 : (((1023 : Nat) : Int) - 1075 - (((1023 : Nat) : Int) - 1075)).toNat = 0 := by omega
  rw [p1]
  by_cases h : T = 0
  · subst h
    exact Or.inl (by decide)
  · refine Or.inr ?_
    rw [cmp_gt]
    · rfl
    · show (((4503599627370496 + 0) * 2 ^ 0 : Nat) : Int) < (((4503599627370496 + T) * 2 ^ 0 : Nat) : Int)
      omega
theorem mk_gt0 (E T : Nat) (h1 : 1 ≤ E) (h2 : E ≤ 2046) (hT : T < 4503599627370496) : Op.cmpValue (FP.dcmp (mk64 E T) FP.dconst0) .g = jI 1 := by
  rw [dcmp_order, zero_val, mk_val E T h1 h2 hT]
  unfold FP.Core.order FP.Core.signed FP.Core.inUnits
  dsimp only
  rw [cmp_gt]
  · rfl
  · show ((0 * 2 ^ _ : Nat) : Int) < (((4503599627370496 + T) * 2 ^ _ : Nat) : Int)
    have p3 := Nat.two_pow_pos (((E : Int) - 1075) - min ((E : Int) - 1075) (-1074)).toNat
    have p4 := Nat.mul_le_mul_left (4503599627370496 + T) p3
    rw [Nat.zero_mul]
    omega
theorem zero_cmp : Op.cmpValue (FP.dcmp FP.dconst0 FP.dconst0) .g = jI 0 := by decide
/-- a number below 2^52, moved up to 53 digits -/
theorem up53 (T : Nat) (h0 : 0 < T) (hT : T < 4503599627370496) : ∃ k : Nat, k ≤ 52 ∧ 4503599627370496 ≤ T * 2 ^ k ∧ T * 2 ^ k < 9007199254740992 := by
  have a1 : 2 ^ T.log2 ≤ T := Nat.log2_self_le (by omega)
  have a2 : T < 2 ^ (T.log2 + 1) := Nat.lt_log2_self
  have a3 : T.log2 < 52 := (Nat.log2_lt (by omega)).mpr hT
  refine ⟨52 - T.log2, by omega, ?_, ?_⟩
  · have h : 2 ^ T.log2 * 2 ^ (52 - T.log2) ≤ T * 2 ^ (52 - T.log2) := Nat.mul_le_mul_right _ a1
    rw [← Nat.pow_add, show T.log2 + (52 - T.log2) = 52 by omega] at h
    exact h
  · have h : T * 2 ^ (52 - T.log2) < 2 ^ (T.log2 + 1) * 2 ^ (52 - T.log2) := Nat.mul_lt_mul_of_pos_right a2 (Nat.two_pow_pos _)
    rw [← Nat.pow_add, show T.log2 + 1 + (52 - T.log2) = 53 by omega] at h
    exact h
theorem fin_fits (c : Nat) (q : Int) (h1 : 4503599627370496 ≤ c) (h2 : c < 9007199254740992) (h3 : -1074 ≤ q) (h4 : q ≤ 971) : FP.Core.fits FP.Core.b64 (.fin false c q) := by
  have e1 : FP.Core.b64.tails = 4503599627370496 := by decide
  have e2 : FP.Core.b64.qmin = -1074 := by decide
  have e3 : FP.Core.b64.qmax = 971 := by decide
  refine ⟨?_, ?_, ?_, Or.inr ?_⟩
  · show c < 2 ^ 53
    omega
  · rw [e2]; omega
  · rw [e3]; omega
  · rw [e1]; omega
/-- the fraction: (x - 1.0) * 2^52, for x of the exponent 0 -/
theorem mk_sub_val (T : Nat) (hT : T < 4503599627370496) : FP.Core.val64 (FP.dsub (mk64 1023 T) FP.dconst1) = FP.Core.roundRatio FP.Core.b64 false T 1 (-52) := by
  show FP.Core.val64 (FP.Core.dsub _ _) = _
  rw [FP.Core.val64_dsub, one_mk, mk_val 1023 T (by decide) (by omega) hT, mk_val 1023 0 (by decide) (by decide) (by decide)]
  unfold FP.Core.negate FP.Core.exactSum FP.Core.sumUnits FP.Core.signed FP.Core.inUnits FP.Core.round
  dsimp only
  have m1 : min (((1023 : Nat) : Int) - 1075) (((1023 : Nat) : Int) - 1075) = -52 := by omega
  rw [m1]
  have p1 : (((1023 : Nat) : Int) - 1075 - -52).toNat = 0 := by omega
  rw [p1]
  have v : ((((4503599627370496 + T) * 2 ^ 0 : Nat) : Int) + -(((4503599627370496 + 0) * 2 ^ 0 : Nat) : Int)) = (T : Int) := by omega
  simp only [Bool.false_eq_true, if_false, Bool.not_false, if_true]
  rw [v]
  have sg : FP.Core.sumSign false true (T : Int) = false := by
    unfold FP.Core.sumSign
    split
    · rfl
    · exact decide_eq_false (by omega)
  rw [sg, Int.natAbs_natCast]
theorem mk_frac_val (T : Nat) (hT : T < 4503599627370496) : ∃ c q, FP.Core.val64 (FP.dmul (FP.dsub (mk64 1023 T) FP.dconst1) 4841369599423283200) = .fin false c q ∧ c * 2 ^ q.toNat / 2 ^ (-q).toNat = T := by
  have hs := mk_sub_val T hT
  rcases Nat.eq_zero_or_pos T with h0 | h0
  · subst h0
    refine ⟨0, -1074, ?_, by simp⟩
    show FP.Core.val64 (FP.Core.dmul _ _) = _
    rw [FP.Core.val64_dmul, hs, mk_big, mk_val 1075 0 (by decide) (by decide) (by decide)]
    decide
  · obtain ⟨k, k1, k2, k3⟩ := up53 T h0 hT
    have hr : FP.Core.roundRatio FP.Core.b64 false T 1 (-52) = .fin false (T * 2 ^ k) (-52 - (k : Int)) := by
      refine FP.Core.roundRatio_exact FP.Core.good_b64 (by decide) (fin_fits _ _ k2 k3 (by omega) (by omega)) ?_
      have a1 : (-52 - (-52 - (k : Int))).toNat = k := by omega
      have a2 : (-52 - (k : Int) - -52).toNat = 0 := by omega
      rw [a1, a2]
      omega
    refine ⟨T * 2 ^ k, -(k : Int), ?_, ?_⟩
    · show FP.Core.val64 (FP.Core.dmul _ _) = _
      rw [FP.Core.val64_dmul, hs, hr, mk_big, mk_val 1075 0 (by decide) (by decide) (by decide)]
      refine FP.Core.roundRatio_exact FP.Core.good_b64 (by decide) (fin_fits _ _ k2 k3 (by omega) (by omega)) ?_
      have a1 : (-52 - (k : Int) + (((1075 : Nat) : Int) - 1075) - -(k : Int)).toNat = 0 := by omega
      have a2 : (-(k : Int) - (-52 - (k : Int) + (((1075 : Nat) : Int) - 1075))).toNat = 52 := by omega
      rw [a1, a2]
      omega
    · have a1 : (-(k : Int)).toNat = 0 := by omega
      have a2 : (- -(k : Int)).toNat = k := by omega
      rw [a1, a2, Nat.pow_zero, Nat.mul_one]
      exact Nat.mul_div_cancel _ (Nat.two_pow_pos k)
theorem mk_frac (T : Nat) (hT : T < 4503599627370496) : FP.d2l (FP.dmul (FP.dsub (mk64 1023 T) FP.dconst1) 4841369599423283200) = Int64.ofInt (T : Int) := by
  obtain ⟨c, q, h1, h2⟩ := mk_frac_val T hT
  show FP.Core.toL (FP.Core.val64 _) = _
  rw [h1]
  unfold FP.Core.toL FP.Core.toInt FP.Core.truncate FP.Core.signed
  dsimp only
  rw [h2]
  congr 1
  simp only [Bool.false_eq_true, if_false]
  omega
theorem n64_sub (T : Nat) (hT : T < 4503599627370496) : vf_n64 (FP.dsub (mk64 1023 T) FP.dconst1) := n64_of (by rw [mk_sub_val T hT]; exact FP.Core.roundRatio_ne_nan _ _ _ _ _)
theorem n64_frac (T : Nat) (hT : T < 4503599627370496) : vf_n64 (FP.dmul (FP.dsub (mk64 1023 T) FP.dconst1) 4841369599423283200) := n64_of (by obtain ⟨c, q, h1, -⟩ := mk_frac_val T hT; rw [h1]; exact fun q => nomatch q)
/-- the bits, made by hand -/
theorem mk_bits (E T : Nat) (h2 : E ≤ 1023) (hT : T < 4503599627370496) : Int64.ofInt (E : Int) <<< ((jI 52).toInt64 &&& 63) + Int64.ofInt (T : Int) = (mk64 E T).toInt64 := by
  have e0 : ((jI 52).toInt64 &&& 63) = 52 := by decide
  rw [e0]
  apply Int64.toBitVec_inj.mp
  apply BitVec.eq_of_toNat_eq
  have hE : (Int64.ofInt (E : Int)).toBitVec.toNat = E := by
    rw [Int64.toBitVec_ofInt, BitVec.ofInt_natCast, BitVec.toNat_ofNat]
    omega
  have hT2 : (Int64.ofInt (T : Int)).toBitVec.toNat = T := by
    rw [Int64.toBitVec_ofInt, BitVec.ofInt_natCast, BitVec.toNat_ofNat]
    omega
  have hR : (mk64 E T).toInt64.toBitVec.toNat = E * 4503599627370496 + T := by
    show (UInt64.ofNat (E * 4503599627370496 + T)).toNat = _
    rw [UInt64.toNat_ofNat_of_lt' (by show _ < 2 ^ 64; omega)]
  have e1 : ((52 : Int64).toBitVec.smod 64).toNat = 52 := by decide
  rw [hR, Int64.toBitVec_add, BitVec.toNat_add, Int64.toBitVec_shiftLeft, BitVec.shiftLeft_eq', e1, BitVec.toNat_shiftLeft, hE, hT2, Nat.shiftLeft_eq]
  omega
/-- a share -/
theorem share_val (a b : Nat) (h1 : 1 ≤ a) (h2 : a ≤ b) (h3 : b ≤ 512) : ∃ E T : Nat, 1 ≤ E ∧ E ≤ 1023 ∧ T < 4503599627370496 ∧ FP.Core.roundRatio FP.Core.b64 false a b 0 = .fin false (4503599627370496 + T) ((E : Int) - 1075) := by
  have e1 : FP.Core.b64.tails = 4503599627370496 := by decide
  have e2 : FP.Core.b64.qmin = -1074 := by decide
  have e3 : FP.Core.b64.qmax = 971 := by decide
  have e4 : (FP.Core.b64.p : Int) = 53 := rfl
  have hf := FP.Core.roundRatio_fits FP.Core.good_b64 false a (show 0 < b by omega) 0
  have hb := FP.Core.quantum_below (f := FP.Core.b64) (show 0 < a by omega) (show 0 < b by omega) 0
  have hn := FP.Core.quantum_not_below (f := FP.Core.b64) (show 0 < a by omega) (show 0 < b by omega) 0
  have hr : FP.Core.roundRatio FP.Core.b64 false a b 0 = FP.Core.roundAt FP.Core.b64 false a b 0 (FP.Core.quantum FP.Core.b64 a b 0) := by
    unfold FP.Core.roundRatio
    rw [if_neg (by omega)]
  rw [hr] at hf ⊢
  generalize FP.Core.quantum FP.Core.b64 a b 0 = q at hf hb hn ⊢
  rw [e4] at hb hn
  rw [e2] at hn
  -- where the last digit is
  have q1 : q ≤ -52 := by
    rcases hn with hn | hn
    · omega
    · refine Int.not_lt.mp fun hq => hn ?_
      unfold FP.Core.Below
      have p1 : (-(q - 0 + (53 - 1))).toNat = 0 := by omega
      have p2 : (q - 0 + (53 - 1)).toNat = (q - 0 + (53 - 1)).toNat - 1 + 1 := by omega
      rw [p1, p2, Nat.pow_succ]
      have p3 : 1 ≤ 2 ^ ((q - 0 + (53 - 1)).toNat - 1) := Nat.two_pow_pos _
      have p4 : b * 2 ≤ b * (2 ^ ((q - 0 + (53 - 1)).toNat - 1) * 2) := Nat.mul_le_mul_left _ (by omega)
      omega
  have q2 : -62 ≤ q := by
    refine Int.not_lt.mp fun hq => ?_
    unfold FP.Core.Below at hb
    have p1 : (q - 0 + 53).toNat = 0 := by omega
    have p2 : (-(q - 0 + 53)).toNat = (-(q - 0 + 53)).toNat - 10 + 10 := by omega
    rw [p1, p2, Nat.pow_add] at hb
    have p3 : 1 ≤ 2 ^ ((-(q - 0 + 53)).toNat - 10) := Nat.two_pow_pos _
    have p4 : a * 1024 ≤ a * (2 ^ ((-(q - 0 + 53)).toNat - 10) * 2 ^ 10) := Nat.mul_le_mul_left _ (by omega)
    omega
  unfold FP.Core.roundAt FP.Core.settle FP.Core.bound at hf ⊢
  have u1 : FP.Core.unitsNum a 0 q = a * 2 ^ (-q).toNat := by
    unfold FP.Core.unitsNum
    rw [Int.zero_sub]
  have u2 : FP.Core.unitsDen b 0 q = b := by
    unfold FP.Core.unitsDen
    have p1 : (q - 0).toNat = 0 := by omega
    rw [p1, Nat.pow_zero, Nat.mul_one]
  rw [u1, u2] at hf ⊢
  have hle : q = -52 → FP.Core.nearest (a * 2 ^ (-q).toNat) b ≤ 4503599627370496 := fun hq => by
    subst hq
    refine FP.Core.nearest_le (by omega) ?_
    show a * 4503599627370496 ≤ 4503599627370496 * b
    omega
  generalize FP.Core.nearest (a * 2 ^ (-q).toNat) b = N at hf hle ⊢
  have e5 : 2 ^ FP.Core.b64.p = 9007199254740992 := by decide
  rw [e5, e3, e1] at hf ⊢
  by_cases hN : N < 9007199254740992
  · rw [if_pos hN, if_pos (by omega)] at hf ⊢
    obtain ⟨-, -, -, hf4⟩ := hf
    rw [e2, e1] at hf4
    exact ⟨(q + 1075).toNat, N - 4503599627370496, by omega, by omega, by omega, by rw [show 4503599627370496 + (N - 4503599627370496) = N by omega, show (((q + 1075).toNat : Nat) : Int) - 1075 = q by omega]⟩
  · rw [if_neg hN, if_pos (by omega)]
    exact ⟨(q + 1076).toNat, 0, by omega, by omega, by omega, by rw [show (((q + 1076).toNat : Nat) : Int) - 1075 = q + 1 by omega]⟩
theorem i2d_val (a : Nat) (h1 : 1 ≤ a) (h2 : a ≤ 512) : ∃ k : Nat, FP.Core.val64 (FP.i2d (jI (a : Int))) = .fin false (a * 2 ^ k) (-(k : Int)) := by
  obtain ⟨k, k1, k2, k3⟩ := up53 a h1 (by omega)
  refine ⟨k, ?_⟩
  show FP.Core.val64 (FP.Core.i2d _) = _
  rw [FP.Core.val64_i2d, jI_toInt (by omega)]
  unfold FP.Core.ofInt FP.Core.round
  dsimp only
  rw [Int.natAbs_natCast, decide_eq_false (show ¬ (a : Int) < 0 by omega)]
  refine FP.Core.roundRatio_exact FP.Core.good_b64 (by decide) (fin_fits _ _ k2 k3 (by omega) (by omega)) ?_
  have a1 : (0 - -(k : Int)).toNat = k := by omega
  have a2 : (-(k : Int) - 0).toNat = 0 := by omega
  rw [a1, a2]
  omega
theorem share_mk (a b : Nat) (h1 : 1 ≤ a) (h2 : a ≤ b) (h3 : b ≤ 512) : ∃ E T : Nat, 1 ≤ E ∧ E ≤ 1023 ∧ T < 4503599627370496 ∧ FP.ddiv (FP.i2d (jI (a : Int))) (FP.i2d (jI (b : Int))) = mk64 E T := by
  obtain ⟨E, T, g1, g2, g3, g4⟩ := share_val a b h1 h2 h3
  refine ⟨E, T, g1, g2, g3, mk_inj g1 (by omega) g3 ?_⟩
  obtain ⟨k, hk⟩ := i2d_val a h1 (by omega)
  obtain ⟨j, hj⟩ := i2d_val b (by omega) h3
  show FP.Core.val64 (FP.Core.ddiv _ _) = _
  rw [FP.Core.val64_ddiv, hk, hj]
  unfold FP.Core.quotient
  dsimp only
  have p1 : 0 < b * 2 ^ j := Nat.mul_pos (by omega) (Nat.two_pow_pos _)
  rw [if_neg (by omega), ← g4]
  refine FP.Core.roundRatio_congr p1 (by omega) ?_
  rcases Nat.le_total k j with hkj | hkj
  · have a1 : (-(k : Int) - -(j : Int) - 0).toNat = j - k := by omega
    have a2 : (0 - (-(k : Int) - -(j : Int))).toNat = 0 := by omega
    rw [a1, a2, Nat.pow_zero, Nat.mul_one]
    have e : 2 ^ j = 2 ^ k * 2 ^ (j - k) := by rw [← Nat.pow_add]; congr 1; omega
    rw [e]
    ac_rfl
  · have a1 : (-(k : Int) - -(j : Int) - 0).toNat = 0 := by omega
    have a2 : (0 - (-(k : Int) - -(j : Int))).toNat = k - j := by omega
    rw [a1, a2, Nat.pow_zero, Nat.mul_one]
    have e : 2 ^ k = 2 ^ j * 2 ^ (k - j) := by rw [← Nat.pow_add]; congr 1; omega
    rw [e]
    ac_rfl
theorem share_0 (b : Nat) (h1 : 1 ≤ b) (h3 : b ≤ 512) : FP.ddiv (FP.i2d (jI 0)) (FP.i2d (jI (b : Int))) = FP.dconst0 := by
  refine FP.Core.val64_inj ?_ ?_
  · obtain ⟨j, hj⟩ := i2d_val b h1 h3
    show FP.Core.val64 (FP.Core.ddiv _ _) ≠ _
    have e0 : FP.Core.val64 (FP.i2d (jI 0)) = .fin false 0 (-1074) := by decide
    rw [FP.Core.val64_ddiv, e0, hj]
    unfold FP.Core.quotient
    dsimp only
    have p1 : 0 < b * 2 ^ j := Nat.mul_pos (by omega) (Nat.two_pow_pos _)
    rw [if_neg (by omega)]
    exact FP.Core.roundRatio_ne_nan _ _ _ _ _
  · obtain ⟨j, hj⟩ := i2d_val b h1 h3
    show FP.Core.val64 (FP.Core.ddiv _ _) = _
    have e0 : FP.Core.val64 (FP.i2d (jI 0)) = .fin false 0 (-1074) := by decide
    rw [FP.Core.val64_ddiv, e0, hj, zero_val]
    unfold FP.Core.quotient
    dsimp only
    have p1 : 0 < b * 2 ^ j := Nat.mul_pos (by omega) (Nat.two_pow_pos _)
    rw [if_neg (by omega)]
    unfold FP.Core.roundRatio
    rw [if_pos rfl]
    rfl
/-- what a share is: none at all, or a number of (0, 1] -/
def shr (x : UInt64) : Prop := x = FP.dconst0 ∨ ∃ E T : Nat, 1 ≤ E ∧ E ≤ 1023 ∧ T < 4503599627370496 ∧ x = mk64 E T
theorem shr_of (a b : Int) (h1 : 0 ≤ a) (h2 : a ≤ b) (h0 : 1 ≤ b) (h3 : b ≤ 512) : shr (FP.ddiv (FP.i2d (jI a)) (FP.i2d (jI b))) := by
  obtain ⟨a', rfl⟩ : ∃ a' : Nat, a = (a' : Int) := ⟨a.toNat, by omega⟩
  obtain ⟨b', rfl⟩ : ∃ b' : Nat, b = (b' : Int) := ⟨b.toNat, by omega⟩
  rcases Nat.eq_zero_or_pos a' with h | h
  · subst h
    exact Or.inl (share_0 b' (by omega) (by omega))
  · exact Or.inr (share_mk a' b' h (by omega) (by omega))
theorem shr_1 : shr FP.dconst1 := Or.inr ⟨1023, 0, by decide, by decide, by decide, one_mk⟩
theorem shr_n64 {x : UInt64} (h : shr x) : vf_n64 x := by
  rcases h with rfl | ⟨E, T, h1, h2, h3, rfl⟩
  · exact n64_of (by rw [zero_val]; exact fun q => nomatch q)
  · exact n64_mk E T h1 (by omega) h3
end
section
/-! longs and doubles: contracts and ends -/
def MetPl (l : Launch) (y : MethodName) (ws : List Cond) (rm : Room) (av : List Value) (r : Int64) : Prop := Met l y ws rm (va_Pc av (fun _ => True)) (vp_Sl (fun x => x = r)) 0 0 (fun _ => False)
def MetIl (l : Launch) (y : MethodName) (ws : List Cond) (rm : Room) (D : va_G) (cI : ClassId) (av : List Value) (w w1 : va_W) (r : Int64) : Prop := ∀ sz : Nat, Met l y ws rm (xq_W D cI av w sz) (va_Ql (fun x (_ : Unit) => x = r) (xq_B D cI (va_A w sz) w1) (va_A w sz)) 0 0 (va_A w sz)
def MetId (l : Launch) (y : MethodName) (ws : List Cond) (rm : Room) (D : va_G) (cI : ClassId) (av : List Value) (w w1 : va_W) (r : UInt64) : Prop := ∀ sz : Nat, Met l y ws rm (xq_W D cI av w sz) (va_Qd (fun x (_ : Unit) => x = r) (xq_B D cI (va_A w sz) w1) (va_A w sz)) 0 0 (va_A w sz)
section XLE
variable {l : Launch} {y : MethodName} {ws ws' : List Cond} {rm : Room} {D : va_G} {cI : ClassId} {av : List Value} {w w1 : va_W} {cc : ByteArray} {maxL : Nat} {ret : Option FieldType}
theorem xe_Pl {r : Int64} (hy : plainName y.cls = true) (hw : ws = Cond.code y cc maxL ret :: ws') (hlen : (lg_sl av).length ≤ maxL)
    (body : ∀ (p : Program) (e : Env) (s : State) (m : MethodId) (below : List Frame) (meth : Method) (c : Code), p.tables.exec = Jvm.exec → c.code = cc → meth.sig.returnType = ret → c.maxLocals = maxL → (∀ z ∈ ws, z.before av.toArray s = true) → s.vm.findClass y.cls = some m.cls → meth.locks = false →
      ∀ ls : Array Slot, lv_has ls maxL (lv_args 0 av) → W p l e rm s m av.toArray below meth c s.heap [] 0 0 (MQ below (vp_Sl (fun x => x = r)) av.toArray s 0 0 (fun _ => False)) (F0 m 0 ls [])) : MetPl l y ws rm av r := by
  refine Met.ofW hy hw ?_
  intro p e s m args below meth c s₁ B hml hv
  obtain ⟨rfl, -⟩ := hv
  have hl := lv_entry av (n := maxL) hlen
  rw [lg_entry_eq]
  exact body p e s m below meth c B.exec B.bytes B.returns hml (atoms_spec (ws := ws) B.pre) (findClass_of_methodNamed B.named) B.notSynchronized _ hl
theorem xe_Il {r : Int64} (hy : plainName y.cls = true) (hw : ws = Cond.code y cc maxL ret :: ws') (hlen : (lg_sl av).length ≤ maxL)
    (body : ∀ (p : Program) (e : Env) (s : State) (m : MethodId) (below : List Frame) (meth : Method) (c : Code), p.tables.exec = Jvm.exec → c.code = cc → meth.sig.returnType = ret → c.maxLocals = maxL → (∀ z ∈ ws, z.before av.toArray s = true) → s.vm.findClass y.cls = some m.cls → meth.locks = false →
      va_P D vwCl w s.heap → va_K D vwCl [(cI, .int)] s → ∀ A : Nat → Prop, (∀ q, s.heap.size ≤ q → A q) → va_D A w → va_S A s.heap s.heap [] → ∀ ls : Array Slot, lv_has ls maxL (lv_args 0 av) →
      W p l e rm s m av.toArray below meth c s.heap [] 0 0 (MQ below (va_Ql (fun x (_ : Unit) => x = r) (xq_B D cI A w1) A) av.toArray s 0 0 A) (F0 m 0 ls [])) : MetIl l y ws rm D cI av w w1 r := by
  intro sz
  refine Met.ofW hy hw ?_
  intro p e s m args below meth c s₁ B hml hv
  obtain ⟨rfl, hsz, hP, hK, hD0⟩ := hv
  subst hsz
  have hl := lv_entry av (n := maxL) hlen
  rw [lg_entry_eq]
  exact body p e s m below meth c B.exec B.bytes B.returns hml (atoms_spec (ws := ws) B.pre) (findClass_of_methodNamed B.named) B.notSynchronized hP hK (va_A w s.heap.size) (fun q h => Or.inr h) hD0.self va_S.rf _ hl
theorem xe_Id {r : UInt64} (hy : plainName y.cls = true) (hw : ws = Cond.code y cc maxL ret :: ws') (hlen : (lg_sl av).length ≤ maxL)
    (body : ∀ (p : Program) (e : Env) (s : State) (m : MethodId) (below : List Frame) (meth : Method) (c : Code), p.tables.exec = Jvm.exec → c.code = cc → meth.sig.returnType = ret → c.maxLocals = maxL → (∀ z ∈ ws, z.before av.toArray s = true) → s.vm.findClass y.cls = some m.cls → meth.locks = false →
      va_P D vwCl w s.heap → va_K D vwCl [(cI, .int)] s → ∀ A : Nat → Prop, (∀ q, s.heap.size ≤ q → A q) → va_D A w → va_S A s.heap s.heap [] → ∀ ls : Array Slot, lv_has ls maxL (lv_args 0 av) →
      W p l e rm s m av.toArray below meth c s.heap [] 0 0 (MQ below (va_Qd (fun x (_ : Unit) => x = r) (xq_B D cI A w1) A) av.toArray s 0 0 A) (F0 m 0 ls [])) : MetId l y ws rm D cI av w w1 r := by
  intro sz
  refine Met.ofW hy hw ?_
  intro p e s m args below meth c s₁ B hml hv
  obtain ⟨rfl, hsz, hP, hK, hD0⟩ := hv
  subst hsz
  have hl := lv_entry av (n := maxL) hlen
  rw [lg_entry_eq]
  exact body p e s m below meth c B.exec B.bytes B.returns hml (atoms_spec (ws := ws) B.pre) (findClass_of_methodNamed B.named) B.notSynchronized hP hK (va_A w s.heap.size) (fun q h => Or.inr h) hD0.self va_S.rf _ hl
end XLE
section XLW
variable {p : Program} {l : Launch} {e : Env} {R : Room} {s : State} {m : MethodId} {args : Array Value} {below : List Frame} {meth : Method} {c : Code} {H : Heap} {locs : List Loc} {cells slots : Nat} {Q : State → Prop}
variable {cc : ByteArray} {pc : Nat} {ls : Array Slot} {rest st0 : List Value} {D : va_G} {cI : ClassId} {A : Nat → Prop} {w w1 w2 : va_W} {tys : List (ClassId × FieldType)}
variable {y : MethodName} {bytes : ByteArray} {maxL nL n index : Nat} {ret : Option FieldType} {ws : List Cond} {rm : Room} {Ts : List Cond} {own C : String} {b : Addr} {As : List Value}
theorem xi_l {v r : Int64} (hx : p.tables.exec = Jvm.exec) (hb : c.code = cc) (hr : meth.sig.returnType = some .long) (hlocks : meth.locks = false) (hK : va_K D vwCl [(cI, .int)] s) (hP : va_P D vwCl w H) (hD : va_D A w) (hS : va_S A s.heap H locs) (h : v = r) (hw : w = w1) (hdg : decode cc pc = .ok (.lreturn, 1)) : W p l e R s m args below meth c H locs cells slots (MQ below (va_Ql (fun x (_ : Unit) => x = r) (xq_B D cI A w1) A) args s cells slots A) (F0 m pc ls [.long v]) := by
  subst hw
  exact W.lret hx hb hr (fun t ht hW => ⟨⟨v, (), rfl, h, by rw [ht]; exact hP, va_K.moved hW.alike hK, hD⟩, hS.F ht⟩) hS.2.2 hdg hlocks
theorem xi_d {v r : UInt64} (hx : p.tables.exec = Jvm.exec) (hb : c.code = cc) (hr : meth.sig.returnType = some .double) (hlocks : meth.locks = false) (hK : va_K D vwCl [(cI, .int)] s) (hP : va_P D vwCl w H) (hD : va_D A w) (hS : va_S A s.heap H locs) (h : v = r) (hw : w = w1) (hdg : decode cc pc = .ok (.dreturn, 1)) : W p l e R s m args below meth c H locs cells slots (MQ below (va_Qd (fun x (_ : Unit) => x = r) (xq_B D cI A w1) A) args s cells slots A) (F0 m pc ls [.double v]) := by
  subst hw
  exact W.dret hx hb hr (fun t ht hW => ⟨⟨v, (), rfl, h, by rw [ht]; exact hP, va_K.moved hW.alike hK, hD⟩, hS.F ht⟩) hS.2.2 hdg hlocks
theorem xc_Pl {r : Int64} (S : CallFix p m c cc nL s args Ts own) (hM : MetPl l y ws rm As r) (cw : CallB R s args own index y bytes maxL ret ws rm 0 0 n ∧ (Cond.static y).before args s = true) (hn : As.length = n) (hl : ls.size = nL) (hst : st0 = As.reverse ++ rest) (hsum : (rest.map fun v => v.category).sum ≤ 8) (hdg : decode cc pc = .ok (.invokestatic index, 3)) (hf : cells ≤ R.cells ∧ slots ≤ R.slots)
    (kk : W p l e R s m args below meth c H locs cells slots Q (F0 m (pc + 3) ls (.long r :: rest))) : W p l e R s m args below meth c H locs cells slots Q (F0 m pc ls st0) :=
  vp_callSl (va_runS (As := As) (rest := rest) S hM cw ⟨fun a U g mk q => q, fun U hU hW => ⟨rfl, trivial⟩⟩ rfl hn hl hst (lv_room hsum) hdg hf).run (fun x hx => by rw [hx]; exact kk)
end XLW
end
section
def s_X1_punctuality (f : Nat → Int) : UInt64 := if ((f 6) + (f 10)) = 0 then FP.dconst1 else (FP.ddiv (FP.i2d (jI (f 7))) (FP.i2d (jI ((f 6) + (f 10)))))
abbrev rm_X1_punctuality : Room := { frames := 0, cells := 0, slots := 0, locals := 0 }
set_option maxHeartbeats 4000000 in
set_option maxRecDepth 100000 in
theorem m_X1_punctuality (l : Launch) (D : va_G) (cI : ClassId) (a : Nat → Nat) (f : Nat → Int) (g : Nat → Int) (n : Nat) (b : Nat → Int) (len : Nat) (kd : Nat → Int) (sg : Nat → Int) (nb : Nat → Int) (pt : Nat) (hs1 : 0 ≤ f 7 ∧ f 7 ≤ f 6) (hs2 : 0 ≤ f 10 ∧ f 6 + f 10 ≤ 512) : MetRd l yX1_punctuality wsX1_punctuality rm_X1_punctuality D cI [.ref (a 0)] (w1 cI a f g n b len kd sg nb pt) (s_X1_punctuality f) := by
  refine xe_Rd (cc := cX1_punctuality) (maxL := 2) (ret := (some .double)) (by decide) rfl (Nat.le_of_ble_eq_true rfl) ?_
  intro p e s m below meth c hx hb hr hml hts hown hlocks hP hK ls hl
  have hl : lv_has ls 2 [(0, .ref (a 0))] := hl
  have hown : s.vm.findClass RX1 = some m.cls := hown
  have hSx : CallFix p m c cX1_punctuality 2 s ([.ref (a 0)] : List Value).toArray wsX1_punctuality RX1 := ⟨hx, hb, hml, hown, hts⟩
  have inRX1 : ∀ w ∈ u_ws RX1 TX1 6, w ∈ wsX1_punctuality := by decide +kernel
  have qf9 := hts (.fieldLink RX1 9 "VaultMovements" "now" "[I") (by decide +kernel)
  obtain ⟨z, hz⟩ : ∃ z, z = (s_X1_punctuality f) := ⟨_, rfl⟩
  rw [← hz]
  unfold s_X1_punctuality at hz
  refine lv_aload_n hx hb dX1_punctuality_0 rfl (lv_at hl 0 rfl) ?_
  refine va_get (D := D) (ci := 1) (v := .ref (a 1)) (C := RX1) (T := TX1) (N := 6) hx hb hts inRX1 hown hK hP 0 rfl rfl 0 (by decide) qf9 (fun _ h9 => h9) rfl dX1_punctuality_1 ?_
  refine lv_bipush (v := jI 6) hx hb dX1_punctuality_4 (by decide) ?_
  refine x_iald hx hb hK hP 1 0 rfl rfl 6 rfl (by decide) (by decide) dX1_punctuality_6 ?_
  refine lv_aload_n hx hb dX1_punctuality_7 rfl (lv_at hl 0 rfl) ?_
  refine va_get (D := D) (ci := 1) (v := .ref (a 1)) (C := RX1) (T := TX1) (N := 6) hx hb hts inRX1 hown hK hP 0 rfl rfl 0 (by decide) qf9 (fun _ h9 => h9) rfl dX1_punctuality_8 ?_
  refine lv_bipush (v := jI 10) hx hb dX1_punctuality_11 (by decide) ?_
  refine x_iald hx hb hK hP 1 0 rfl rfl 10 rfl (by decide) (by decide) dX1_punctuality_13 ?_
  refine x_iadd hx hb dX1_punctuality_14 ?_
  refine lv_istore_n (lv' := [(1, .int (jI ((f 6) + (f 10)))), (0, .ref (a 0))]) hx hb dX1_punctuality_15 rfl hl (by decide) rfl (fun ls hl => ?_)
  refine lv_iload_n hx hb dX1_punctuality_16 rfl (lv_at hl 0 rfl) ?_
  refine x_if_ne (tgt := 24) hx hb dX1_punctuality_17 (by decide) (by omega) (fun c17 => ?_) (fun c17 => ?_)
  · rw [if_neg c17] at hz
    refine lv_aload_n hx hb dX1_punctuality_24 rfl (lv_at hl 1 rfl) ?_
    refine va_get (D := D) (ci := 1) (v := .ref (a 1)) (C := RX1) (T := TX1) (N := 6) hx hb hts inRX1 hown hK hP 0 rfl rfl 0 (by decide) qf9 (fun _ h9 => h9) rfl dX1_punctuality_25 ?_
    refine lv_bipush (v := jI 7) hx hb dX1_punctuality_28 (by decide) ?_
    refine x_iald hx hb hK hP 1 0 rfl rfl 7 rfl (by decide) (by decide) dX1_punctuality_30 ?_
    refine lv_i2d hx hb dX1_punctuality_31 ?_
    refine lv_iload_n hx hb dX1_punctuality_32 rfl (lv_at hl 0 rfl) ?_
    refine lv_i2d hx hb dX1_punctuality_33 ?_
    refine lv_ddiv hx hb dX1_punctuality_34 (shr_n64 (shr_of _ _ (by omega) (by omega) (by omega) (by omega))) ?_
    subst hz
    exact xr_d hx hb hr hlocks rfl dX1_punctuality_35
  · rw [if_pos c17] at hz
    refine lv_dconst1 hx hb dX1_punctuality_20 ?_
    refine lv_goto (tgt := 35) hx hb dX1_punctuality_21 (by decide) ?_
    subst hz
    exact xr_d hx hb hr hlocks rfl dX1_punctuality_35
theorem shr_X1 (f : Nat → Int) (hs1 : 0 ≤ f 7 ∧ f 7 ≤ f 6) (hs2 : 0 ≤ f 10 ∧ f 6 + f 10 ≤ 512) : shr (s_X1_punctuality f) := by
  unfold s_X1_punctuality
  split
  · exact shr_1
  · exact shr_of _ _ (by omega) (by omega) (by omega) (by omega)
end
section
/-! worlds side by side; the law's own methods, that call and catch -/
theorem va_D_iff {A : Nat → Prop} {ws : va_W} : va_D A ws ↔ (ws.map Prod.fst).Nodup ∧ ∀ a ∈ ws.map Prod.fst, A a := by
  constructor
  · intro h
    refine ⟨?_, ?_⟩
    · rw [List.nodup_iff_pairwise_ne, List.pairwise_iff_getElem]
      intro i j hi hj hij he
      rw [List.length_map] at hi hj
      have h1 : ws[i]? = some ws[i] := List.getElem?_eq_getElem hi
      have h2 : ws[j]? = some ws[j] := List.getElem?_eq_getElem hj
      rw [List.getElem_map, List.getElem_map] at he
      exact absurd (h.1 i j _ _ h1 h2 he) (by omega)
    · intro a ha
      obtain ⟨q, hq, rfl⟩ := List.mem_map.mp ha
      obtain ⟨k, hk⟩ := List.getElem?_of_mem hq
      exact h.2 k q hk
  · rintro ⟨hn, hA⟩
    refine ⟨?_, ?_⟩
    · intro i j p q hp hq he
      have hi : i < ws.length := (List.getElem?_eq_some_iff.mp hp).1
      have hj : j < ws.length := (List.getElem?_eq_some_iff.mp hq).1
      have e1 := (List.getElem?_eq_some_iff.mp hp).2
      have e2 := (List.getElem?_eq_some_iff.mp hq).2
      have hn2 := List.pairwise_iff_getElem.mp (List.nodup_iff_pairwise_ne.mp hn)
      rcases Nat.lt_trichotomy i j with h | h | h
      · refine absurd ?_ (hn2 i j (by rw [List.length_map]; exact hi) (by rw [List.length_map]; exact hj) h)
        rw [List.getElem_map, List.getElem_map, e1, e2]
        exact he
      · exact h
      · refine absurd ?_ (hn2 j i (by rw [List.length_map]; exact hj) (by rw [List.length_map]; exact hi) h)
        rw [List.getElem_map, List.getElem_map, e1, e2]
        exact he.symm
    · intro k q hq
      exact hA _ (List.mem_map_of_mem (List.mem_of_getElem? hq))
theorem va_D_perm {A : Nat → Prop} {ws ws' : va_W} (h : va_D A ws) (hp : (ws.map Prod.fst).Perm (ws'.map Prod.fst)) : va_D A ws' := by
  rw [va_D_iff] at h ⊢
  exact ⟨hp.nodup h.1, fun a ha => h.2 a (hp.mem_iff.mpr ha)⟩
theorem va_D_left {A : Nat → Prop} {x y : va_W} (h : va_D A (x ++ y)) : va_D A x := by
  rw [va_D_iff] at h ⊢
  rw [List.map_append] at h
  exact ⟨(List.nodup_append.mp h.1).1, fun a ha => h.2 a (List.mem_append_left _ ha)⟩
theorem va_D_swap {A : Nat → Prop} {x y : va_W} (h : va_D A (x ++ y)) : va_D A (y ++ x) := va_D_perm h (by rw [List.map_append, List.map_append]; exact List.perm_append_comm)
theorem va_keep {D : va_G} {A : Nat → Prop} {x y : va_W} {H H1 : Heap} (hD : va_D A (x ++ y)) (hP : va_P D vwCl y H) (hk : ∀ q : Nat, q < H.size → ¬ va_A x H.size q → H1[q]? = H[q]?) : va_P D vwCl y H1 := by
  refine hP.kept (fun k q hq => ?_)
  have hlt := (hP k q hq).lt
  refine hk _ hlt ?_
  rintro (⟨i, e, hi⟩ | h)
  · have h1 : (x ++ y)[i]? = some (q.1, e) := by
      rw [List.getElem?_append_left (List.getElem?_eq_some_iff.mp hi).1]
      exact hi
    have h2 : (x ++ y)[x.length + k]? = some q := by
      rw [List.getElem?_append_right (by omega), Nat.add_sub_cancel_left]
      exact hq
    have h3 := hD.1 _ _ _ _ h1 h2 rfl
    have h4 := (List.getElem?_eq_some_iff.mp hi).1
    omega
  · omega
theorem va_Asub {A : Nat → Prop} {x y : va_W} {H0 H : Heap} {locs : List Loc} (hD : va_D A (x ++ y)) (hS : va_S A H0 H locs) (hA : ∀ q, H0.size ≤ q → A q) : ∀ q, va_A x H.size q → A q := fun q h => by
  rcases h with ⟨k, e, h⟩ | h
  · exact (va_D_left hD).2 k (q, e) h
  · exact hA q (Nat.le_trans hS.1 h)
/-- the law's array of one long -/
abbrev wO (cL : ClassId) (o : Nat) (u : Nat → Int64) : va_W := [(o, .inl (cL, 1, .inr (.inl u)))]
abbrev kO (cI cL : ClassId) : List (ClassId × FieldType) := [(cI, .int), (cL, .long)]
abbrev xq_L (D : va_G) (cI cL : ClassId) (av : List Value) (w : va_W) (sz : Nat) : Array Value → State → Prop := va_Pc av (fun U => U.heap.size = sz ∧ va_P D vwCl w U.heap ∧ va_K D vwCl (kO cI cL) U ∧ va_D (fun _ => True) w ∧ xenv (va_A w sz) U)
theorem xq_Lbl {D : va_G} {cI cL : ClassId} {av : List Value} {w : va_W} {sz : Nat} : FrameBlind (xq_L D cI cL av w sz) := fun a U g mk q => ⟨q.1, q.2.1, q.2.2.1, va_K.moved (u := U) (U := U.calling g mk a) (Vm.Alike.refl U.vm) q.2.2.2.1, q.2.2.2.2.1, xenv.to (s := U) (U := U.calling g mk a) (locs := []) q.2.2.2.2.2 va_S.rf rfl (State.WarmedH.refl U) (fun _ h => h)⟩
/-- a call of the law's: the answer is km of the code; where that is 0, the long is the answer -/
def MetL (l : Launch) (y : MethodName) (ws : List Cond) (rm : Room) (D : va_G) (cI cL : ClassId) (av : List Value) (w w1 : va_W) (o : Nat) (ou : Nat → Int64) (code r : Int) (km : Int → Int) : Prop := ∀ sz : Nat, Met l y ws rm (xq_L D cI cL av (w ++ wO cL o ou) sz) (va_Qi (fun x (u : Nat → Int64) => x = jI (km code) ∧ (code = 0 → u 0 = (jI r).toInt64)) (fun u t => va_P D vwCl (w1 ++ wO cL o u) t.heap) (va_A (w ++ wO cL o ou) sz)) 1 6 (va_A (w ++ wO cL o ou) sz)
section XLM
variable {l : Launch} {y : MethodName} {ws ws' : List Cond} {rm : Room} {D : va_G} {cI cL : ClassId} {av : List Value} {w w1 : va_W} {o : Nat} {ou : Nat → Int64} {code r : Int} {km : Int → Int} {cc : ByteArray} {maxL : Nat} {ret : Option FieldType} {hh : List (Nat × Nat × Nat × Nat)}
theorem xe_L (hy : plainName y.cls = true) (hw : ws = Cond.codeWith y cc maxL ret hh :: ws') (hlen : (lg_sl av).length ≤ maxL)
    (body : ∀ (p : Program) (e : Env) (s : State) (m : MethodId) (below : List Frame) (meth : Method) (c : Code), p.tables.exec = Jvm.exec → c.code = cc → meth.sig.returnType = ret → c.maxLocals = maxL → (∀ z ∈ ws, z.before av.toArray s = true) → s.vm.findClass y.cls = some m.cls → meth.locks = false → c.exceptionTable.toList = tableOf hh →
      va_P D vwCl (w ++ wO cL o ou) s.heap → va_K D vwCl (kO cI cL) s → ∀ A : Nat → Prop, (∀ q, s.heap.size ≤ q → A q) → va_D A (w ++ wO cL o ou) → va_S A s.heap s.heap [] → xenv A s → ∀ ls : Array Slot, lv_has ls maxL (lv_args 0 av) →
      W p l e rm s m av.toArray below meth c s.heap [] 0 0 (MQ below (va_Qi (fun x (u : Nat → Int64) => x = jI (km code) ∧ (code = 0 → u 0 = (jI r).toInt64)) (fun u t => va_P D vwCl (w1 ++ wO cL o u) t.heap) A) av.toArray s 1 6 A) (F0 m 0 ls [])) : MetL l y ws rm D cI cL av w w1 o ou code r km := by
  intro sz
  refine va_MetW (hh := hh) hy hw ?_
  intro p e s m args below meth c s₁ B hml hv
  obtain ⟨rfl, hsz, hP, hK, hD0, hE⟩ := hv
  subst hsz
  have hl := lv_entry av (n := maxL) hlen
  rw [lg_entry_eq]
  have hts := atoms_spec (ws := ws) B.pre
  exact body p e s m below meth c B.exec B.bytes B.returns hml hts (findClass_of_methodNamed B.named) B.notSynchronized (vx_table (x := y) B (hts _ (by rw [hw]; exact List.mem_cons_self))) hP hK (va_A (w ++ wO cL o ou) s.heap.size) (fun q h => Or.inr h) hD0.self va_S.rf hE _ hl
end XLM
section XWC
variable {p : Program} {l : Launch} {e : Env} {R : Room} {s : State} {m : MethodId} {args : Array Value} {below : List Frame} {meth : Method} {c : Code} {H : Heap} {locs : List Loc} {cells slots : Nat} {Q : State → Prop}
variable {cc : ByteArray} {pc : Nat} {ls : Array Slot} {rest st0 : List Value} {D : va_G} {cI cL : ClassId} {A : Nat → Prop} {w w1 wr : va_W} {tys : List (ClassId × FieldType)}
variable {y : MethodName} {bytes : ByteArray} {maxL nL n index : Nat} {ret : Option FieldType} {ws : List Cond} {rm : Room} {Ts : List Cond} {own C : String} {b : Addr} {As : List Value} {code r : Int}
/-- a call of a method that may throw, beside other cells -/
theorem xw_T (S : CallFix p m c cc nL s args Ts own) (hM : MetT l y ws rm D cI (.ref b :: As) w w1 code r) (cw : CallW R s args own C index y bytes maxL ret ws rm 1 6 n) (hP : va_P D vwCl w H) (hR : va_P D vwCl wr H) (hD : va_D A (w ++ wr)) (hS : va_S A s.heap H locs) (hA : ∀ q, s.heap.size ≤ q → A q) (hK : va_K D vwCl [(cI, .int)] s) (hE : xenv A s) (q0 : Nat) {ci : Nat} {fs : List Value} {q : vw_C} (he : w[q0]? = some (b, .inr (ci, fs))) (hc : vwCl[ci]? = some q) (hC : q.1 = C) (hn : As.length = n) (hl : ls.size = nL) (hst : st0 = As.reverse ++ .ref b :: rest) (hsum : (rest.map fun v => v.category).sum ≤ 8) (hdg : decode cc pc = .ok (.invokevirtual index, 3)) (hf : cells + 1 ≤ R.cells ∧ slots + 6 ≤ R.slots)
    (kx : ∀ (E : String) (ce : Cell) (q9 : Addr) (H1 : Heap) (locs1 : List Loc), code ≠ 0 → E = xex code → va_P D vwCl w1 H1 → va_P D vwCl wr H1 → va_S A s.heap H1 locs1 → H1[q9]? = some ce → ce.vm = .none → s.vm.findClass E = some ce.cls → vx_W p l e R s m args below meth c H1 locs1 (cells + 1) (slots + 6) Q (F0 m pc ls rest) q9)
    (kk : ∀ (H1 : Heap) (locs1 : List Loc), code = 0 → va_P D vwCl w1 H1 → va_P D vwCl wr H1 → va_S A s.heap H1 locs1 → W p l e R s m args below meth c H1 locs1 (cells + 1) (slots + 6) Q (F0 m (pc + 3) ls (.int (jI r) :: rest))) : W p l e R s m args below meth c H locs cells slots Q (F0 m pc ls st0) := by
  subst hC
  have hF := va_Asub hD hS hA
  refine vx_calli (vx_runV (As := As) (rest := rest) S (hM H.size) cw ⟨xq_Tbl, va_recv hK hP hc he, fun U hU hW => ⟨rfl, by rw [hU], by rw [hU]; exact hP, va_K.moved hW.alike hK, (va_D_left hD).weaken (fun _ _ _ _ => trivial), hE.to hS hU hW hF⟩⟩ rfl hn hl hst (lv_room hsum) hdg hf) hS (fun q _ h => hF q h) hF (fun q _ h => hF q h) (fun E ce q9 u t H1 locs1 ht hvm hpx hB hz1 hk1 hS1 hce hcv hcl => ?_) (fun x u t H1 locs1 ht hvm hw hB hz1 hk1 hS1 => ?_)
  · obtain ⟨hEx, hP1, -, -⟩ := hB
    rw [ht] at hP1
    exact kx E ce q9 H1 locs1 hpx hEx hP1 (va_keep hD hR hk1) hS1 hce hcv hcl
  · obtain ⟨hP1, -, -⟩ := hB
    rw [ht] at hP1
    rw [hw.2]
    exact kk H1 locs1 hw.1 hP1 (va_keep hD hR hk1) hS1
/-- a law's method at its end -/
theorem xl_end {k : Int} {u : Nat → Int64} {o : Nat} {km : Int → Int} (hx : p.tables.exec = Jvm.exec) (hb : c.code = cc) (hr : meth.sig.returnType = some .int) (hlocks : meth.locks = false) (hP : va_P D vwCl (w1 ++ wO cL o u) H) (hS : va_S A s.heap H locs) (hk : k = km code) (hu : code = 0 → u 0 = (jI r).toInt64) (hdg : decode cc pc = .ok (.ireturn, 1)) : W p l e R s m args below meth c H locs 1 6 (MQ below (va_Qi (fun x (u : Nat → Int64) => x = jI (km code) ∧ (code = 0 → u 0 = (jI r).toInt64)) (fun u t => va_P D vwCl (w1 ++ wO cL o u) t.heap) A) args s 1 6 A) (F0 m pc ls [.int (jI k)]) :=
  W.iret hx hb hr (fun t ht hW => ⟨⟨_, u, rfl, ⟨congrArg jI hk, hu⟩, by show va_P D vwCl (w1 ++ wO cL o u) t.heap; rw [ht]; exact hP⟩, hS.F ht⟩) hS.2.2 hdg hlocks
theorem va_P_left {x y : va_W} (h : va_P D vwCl (x ++ y) H) : va_P D vwCl x H := fun k q hq => h k q (by rw [List.getElem?_append_left (List.getElem?_eq_some_iff.mp hq).1]; exact hq)
theorem va_P_right {x y : va_W} (h : va_P D vwCl (x ++ y) H) : va_P D vwCl y H := fun k q hq => h (x.length + k) q (by rw [List.getElem?_append_right (by omega), Nat.add_sub_cancel_left]; exact hq)
/-- the answer into the law's long -/
theorem xl_put {o : Nat} {u : Nat → Int64} {x : Int64} (hx : p.tables.exec = Jvm.exec) (hb : c.code = cc) (hK : va_K D vwCl (kO cI cL) s) (hP : va_P D vwCl w1 H) (hR : va_P D vwCl (wO cL o u) H) (hD : va_D A (w1 ++ wO cL o u)) {H0 : Heap} (hS : va_S A H0 H locs) (hdg : decode cc pc = .ok (.lastore, 1))
    (kk : ∀ (H1 : Heap) (locs1 : List Loc), va_P D vwCl (w1 ++ wO cL o (vp_updL u 0 x)) H1 → va_S A H0 H1 locs1 → W p l e R s m args below meth c H1 locs1 cells slots Q (F0 m (pc + 1) ls rest)) : W p l e R s m args below meth c H locs cells slots Q (F0 m pc ls (.long x :: .int (jI 0) :: .ref o :: rest)) := by
  have hin : vp_in (jI 0) 1 := by
    have e : jI 0 = nI 0 := jI_nat 0
    rw [e]
    exact vp_in_nI (by decide) (by decide)
  refine va_last hx hb hK (hP.app hR) hD hS w1.length 1 (by rw [List.getElem?_append_right (Nat.le_refl _), Nat.sub_self]; rfl) rfl hin hdg (fun H1 locs1 hP1 hD1 hS1 => kk H1 locs1 ?_ hS1)
  have e0 : (jI 0).toNatClampNeg = 0 := by decide
  rw [e0, List.set_append_right _ _ (Nat.le_refl _), Nat.sub_self] at hP1
  exact hP1
end XWC
end
section
/-! constructors -/
def xfirst (k : Nat) : Int := if k = 0 then 3 else if k = 1 then 2 else 500
/-- what the constructor of the class needs of the tables: its nest mate's constructor, the settings at first -/
def yenv (A : Nat → Prop) (U : State) : Prop := va_Nw (.methodLinkNest RX1 28 yX0_init RX1) U ∧ ∃ t : Nat, va_Z "VaultMovements" "SETTING_AT_FIRST" "[I" (.ref t) A U U.heap ∧ va_T .int t 3 (fun j => .int (jI (xfirst j))) A U U.heap
theorem yenv.to {A B : Nat → Prop} {s U : State} {H : Heap} {locs : List Loc} (h : yenv A s) (hS : va_S A s.heap H locs) (hU : U.heap = H) (hW : s.WarmedH U.vm) (hB : ∀ q, B q → A q) : yenv B U := by
  obtain ⟨h1, t, h2, h3⟩ := h
  subst hU
  exact ⟨h1.warmM hW, t, ((h2.kept hS.2.1).narrow hB).moved hW.alike, ((h3.kept hS.2.1).narrow hB).moved hW.alike⟩
def noenv (_ : Nat → Prop) (_ : State) : Prop := True
theorem noenv.to {A B : Nat → Prop} {s U : State} {H : Heap} {locs : List Loc} (_ : noenv A s) (_ : va_S A s.heap H locs) (_ : U.heap = H) (_ : s.WarmedH U.vm) (_ : ∀ q, B q → A q) : noenv B U := trivial
/-- an environment goes with the tables -/
def envOk (V : (Nat → Prop) → State → Prop) : Prop := ∀ {A B : Nat → Prop} {s U : State} {H : Heap} {locs : List Loc}, V A s → va_S A s.heap H locs → U.heap = H → s.WarmedH U.vm → (∀ q, B q → A q) → V B U
theorem yenv_ok : envOk yenv := fun h hS hU hW hB => h.to hS hU hW hB
theorem noenv_ok : envOk noenv := fun h hS hU hW hB => h.to hS hU hW hB
abbrev xq_N (V : (Nat → Prop) → State → Prop) (D : va_G) (cI : ClassId) (h0 : Nat) (w : va_W) (sz : Nat) : Array Value → State → Prop := va_Pc [.ref h0] (fun U => U.heap.size = sz ∧ va_P D vwCl w U.heap ∧ va_K D vwCl [(cI, .int)] U ∧ va_D (fun _ => True) w ∧ V (va_A w sz) U)
theorem xq_Nbl {V : (Nat → Prop) → State → Prop} (hV : envOk V) {D : va_G} {cI : ClassId} {h0 : Nat} {w : va_W} {sz : Nat} : FrameBlind (xq_N V D cI h0 w sz) := fun a U g mk q => ⟨q.1, q.2.1, q.2.2.1, va_K.moved (u := U) (U := U.calling g mk a) (Vm.Alike.refl U.vm) q.2.2.2.1, q.2.2.2.2.1, hV (s := U) (U := U.calling g mk a) (locs := []) q.2.2.2.2.2 va_S.rf rfl (State.WarmedH.refl U) (fun _ h => h)⟩
/-- makes cells beside the object; the addresses come with the end -/
def MetN (V : (Nat → Prop) → State → Prop) (l : Launch) (y : MethodName) (ws : List Cond) (rm : Room) (D : va_G) (cI : ClassId) (h0 : Nat) (w : va_W) (wf : (Nat → Nat) → va_W) (mc ms : Nat) : Prop := ∀ sz : Nat, Met l y ws rm (xq_N V D cI h0 w sz) (va_Qv (fun a : Nat → Nat => a 0 = h0) (fun a t => va_P D vwCl (wf a) t.heap ∧ va_D (va_A w sz) (wf a)) (va_A w sz)) mc ms (va_A w sz)
section XNE
variable {V : (Nat → Prop) → State → Prop} {l : Launch} {y : MethodName} {ws ws' : List Cond} {rm : Room} {D : va_G} {cI : ClassId} {h0 : Nat} {w : va_W} {wf : (Nat → Nat) → va_W} {mc ms : Nat} {cc : ByteArray} {maxL : Nat} {ret : Option FieldType}
theorem xe_N (hy : plainName y.cls = true) (hw : ws = Cond.code y cc maxL ret :: ws') (hlen : 1 ≤ maxL) (hin : y.name = "<init>")
    (body : ∀ (p : Program) (e : Env) (s : State) (m : MethodId) (below : List Frame) (meth : Method) (c : Code), p.tables.exec = Jvm.exec → c.code = cc → meth.sig.returnType = ret → c.maxLocals = maxL → (∀ z ∈ ws, z.before #[.ref h0] s = true) → s.vm.findClass y.cls = some m.cls → meth.locks = false → meth.name = "<init>" →
      va_P D vwCl w s.heap → va_K D vwCl [(cI, .int)] s → ∀ A : Nat → Prop, (∀ q, s.heap.size ≤ q → A q) → va_D A w → va_S A s.heap s.heap [] → V A s → ∀ ls : Array Slot, lv_has ls maxL [(0, .ref h0)] →
      W p l e rm s m #[.ref h0] below meth c s.heap [] 0 0 (MQ below (va_Qv (fun a : Nat → Nat => a 0 = h0) (fun a t => va_P D vwCl (wf a) t.heap ∧ va_D A (wf a)) A) #[.ref h0] s mc ms A) (F0 m 0 ls [])) : MetN V l y ws rm D cI h0 w wf mc ms := by
  intro sz
  refine Met.ofW hy hw ?_
  intro p e s m args below meth c s₁ B hml hv
  obtain ⟨rfl, hsz, hP, hK, hD0, hE⟩ := hv
  subst hsz
  have hl := lv_entry ([.ref h0] : List Value) (n := maxL) hlen
  rw [lg_entry_eq]
  exact body p e s m below meth c B.exec B.bytes B.returns hml (atoms_spec (ws := ws) B.pre) (findClass_of_methodNamed B.named) B.notSynchronized ((name_of_methodNamed B.named B.method).1.trans hin) hP hK (va_A w s.heap.size) (fun q h => Or.inr h) hD0.self va_S.rf hE _ hl
end XNE
theorem j0_eq : jI 0 = (0 : Int32) := by decide
section XNW
variable {p : Program} {l : Launch} {e : Env} {R : Room} {s : State} {m : MethodId} {args : Array Value} {below : List Frame} {meth : Method} {c : Code} {H : Heap} {locs : List Loc} {cells slots : Nat} {Q : State → Prop}
variable {cc : ByteArray} {pc : Nat} {ls : Array Slot} {rest st0 : List Value} {D : va_G} {cI : ClassId} {A : Nat → Prop} {w : va_W}
/-- a new array of ints, of the kind known already -/
theorem x_newa (hexec : p.tables.exec = Jvm.exec) (hb : c.code = cc) (harr : (Cond.arrayClass .int).before args s = true) (hK : va_K D vwCl [(cI, .int)] s) (hP : va_P D vwCl w H) (hD : va_D A w) {H0 : Heap} (hS : va_S A H0 H locs) (hA : ∀ q, H0.size ≤ q → A q) {n : Int} (N : Nat) (hn : n = (N : Int)) (hN : N ≤ 1000) (hcells : cells + 1 ≤ R.cells) (hslots : slots + N ≤ R.slots) (hdg : decode cc pc = .ok (.newarray .int, 2))
    (kk : ∀ (q : Nat) (H1 : Heap), va_P D vwCl (w ++ [(q, .inl (cI, N, .inl (jA (fun _ => 0))))]) H1 → va_D A (w ++ [(q, .inl (cI, N, .inl (jA (fun _ => 0))))]) → va_S A H0 H1 locs → W p l e R s m args below meth c H1 locs (cells + 1) (slots + N) Q (F0 m (pc + 2) ls (.ref q :: rest))) : W p l e R s m args below meth c H locs cells slots Q (F0 m pc ls (.int (jI n) :: rest)) := by
  subst hn
  refine va_newa (atype := .int) (ty := .int) (N' := N) (a0 := (N, .inl (jA (fun _ => 0)))) hexec hb harr rfl hK hP hD hS hA (fun cA => ?_) ?_ ?_ ?_ hcells hslots hdg (fun q cA H1 hK1 hP1 hD1 hS1 => ?_)
  · rw [vp_cell_i]
    exact congrArg (arrV cA N) (funext fun _ => congrArg Value.int j0_eq)
  · intro h
    have h' : jI (N : Int) < jI 0 := h
    rw [jI_lt (by omega) (by omega)] at h'
    omega
  · rw [jI_nat, nI_clamp (by omega)]
  · show N * 4 ≤ _
    omega
  · have h1 : s.vm.findClass ("[" ++ (FieldType.int).toString) = some cA := (hK1.2 1 (cA, .int) rfl).2
    have h2 : s.vm.findClass ("[" ++ (FieldType.int).toString) = some cI := (hK.2 0 (cI, .int) rfl).2
    have h3 : cA = cI := Option.some.inj (h1.symm.trans h2)
    subst h3
    exact kk q H1 hP1 hD1 hS1
/-- the end of a constructor -/
theorem xn_v {wf : (Nat → Nat) → va_W} {h0 : Nat} {mc ms : Nat} (a : Nat → Nat) (hx : p.tables.exec = Jvm.exec) (hb : c.code = cc) (hr : meth.sig.returnType = none) (hlocks : meth.locks = false) (hP : va_P D vwCl w H) (hD : va_D A w) (hS : va_S A s.heap H locs) (ha : a 0 = h0) (hw : w = wf a) (hdg : decode cc pc = .ok (.return_, 1)) : W p l e R s m args below meth c H locs mc ms (MQ below (va_Qv (fun a : Nat → Nat => a 0 = h0) (fun a t => va_P D vwCl (wf a) t.heap ∧ va_D A (wf a)) A) args s mc ms A) (F0 m pc ls []) := by
  subst hw
  exact W.vret hx hb hr (fun t ht hW => ⟨⟨a, rfl, ha, by rw [ht]; exact hP, hD⟩, hS.F ht⟩) hS.2.2 hdg hlocks
end XNW
end
section
/-! the constructors -/
abbrev rm_X0_init : Room := { frames := 1, cells := 3, slots := 9, locals := 12 }
set_option maxHeartbeats 8000000 in
set_option maxRecDepth 100000 in
theorem m_X0_init (l : Launch) (D : va_G) (cI : ClassId) (h0 : Nat) : MetN noenv l yX0_init wsX0_init rm_X0_init D cI h0 [(h0, .inr (0, [.null, .null, .null, .int (jI 0)]))] (fun a => [(a 0, .inr (0, [.ref (a 1), .ref (a 2), .ref (a 3), .int (jI 0)])), (a 1, .inl (cI, 3, .inl (jA (fun _ => 0)))), (a 2, .inl (cI, 3, .inl (jA (fun _ => 0)))), (a 3, .inl (cI, 3, .inl (jA (fun _ => 0))))]) 3 9 := by
  refine xe_N (cc := cX0_init) (maxL := 1) (ret := none) (by decide) rfl (by decide) rfl ?_
  intro p e s m below meth c hx hb hr hml hts hown hlocks hin hP hK A hA hD hS hE ls hl
  have hown : s.vm.findClass RX0 = some m.cls := hown
  have inRX0 : ∀ w ∈ u_ws RX0 TX0 4, w ∈ wsX0_init := by decide +kernel
  have qarr := hts (.arrayClass .int) (by decide +kernel)
  have qoL := hts (.methodLink RX0 3 objectInit) (by decide +kernel)
  have qoI := hts (.instanceMethod objectInit) (by decide +kernel)
  have qf9 := hts (.fieldLink RX0 9 "VaultMovements$Windings" "kinds" "[I") (by decide +kernel)
  have qf15 := hts (.fieldLink RX0 15 "VaultMovements$Windings" "signs" "[I") (by decide +kernel)
  have qf18 := hts (.fieldLink RX0 18 "VaultMovements$Windings" "numbers" "[I") (by decide +kernel)
  have qf21 := hts (.fieldLink RX0 21 "VaultMovements$Windings" "part" "I") (by decide +kernel)
  refine lv_aload_n hx hb dX0_init_0 rfl (lv_at hl 0 rfl) ?_
  refine W.objInit hx hb hown qoL qoI (hts _ (List.mem_cons_of_mem _ (List.mem_append_left _ (List.mem_of_getElem? (i := 2) rfl)))) rfl (by rw [hml]; exact hl.1) rfl dX0_init_1 (Nat.le_of_ble_eq_true rfl) (Nat.le_of_ble_eq_true rfl) ?_
  refine W.eq (g2 := F0 m 4 ls []) rfl ?_
  refine lv_aload_n hx hb dX0_init_4 rfl (lv_at hl 0 rfl) ?_
  refine lv_iconst (v := jI 3) hx hb dX0_init_5 rfl ?_
  refine x_newa hx hb qarr hK hP hD hS hA 3 rfl (by decide) (Nat.le_of_ble_eq_true rfl) (Nat.le_of_ble_eq_true rfl) dX0_init_6 (fun q1 H hP hD hS => ?_)
  have hP : va_P D vwCl [(h0, .inr (0, [.null, .null, .null, .int (jI 0)])), (q1, .inl (cI, 3, .inl (jA (fun _ => 0))))] H := hP
  have hD : va_D A [(h0, .inr (0, [.null, .null, .null, .int (jI 0)])), (q1, .inl (cI, 3, .inl (jA (fun _ => 0))))] := hD
  refine va_putF (D := D) (ci := 0) (v := .ref q1) (ty := tyX0 0) (C := RX0) (T := TX0) (N := 4) hx hb hts inRX0 tyX0 tyX0_ok nmX0 hown hK hP hD hS 0 rfl rfl 0 (by decide) qf9 (fun _ h9 => h9) rfl hin rfl (tyX0_ok 0 (by decide)) rfl rfl (Nat.le_of_ble_eq_true rfl) dX0_init_8 (fun H locs hP hD hS => ?_)
  have hP : va_P D vwCl [(h0, .inr (0, [.ref q1, .null, .null, .int (jI 0)])), (q1, .inl (cI, 3, .inl (jA (fun _ => 0))))] H := hP
  have hD : va_D A [(h0, .inr (0, [.ref q1, .null, .null, .int (jI 0)])), (q1, .inl (cI, 3, .inl (jA (fun _ => 0))))] := hD
  refine lv_aload_n hx hb dX0_init_11 rfl (lv_at hl 0 rfl) ?_
  refine lv_iconst (v := jI 3) hx hb dX0_init_12 rfl ?_
  refine x_newa hx hb qarr hK hP hD hS hA 3 rfl (by decide) (Nat.le_of_ble_eq_true rfl) (Nat.le_of_ble_eq_true rfl) dX0_init_13 (fun q2 H hP hD hS => ?_)
  have hP : va_P D vwCl [(h0, .inr (0, [.ref q1, .null, .null, .int (jI 0)])), (q1, .inl (cI, 3, .inl (jA (fun _ => 0)))), (q2, .inl (cI, 3, .inl (jA (fun _ => 0))))] H := hP
  have hD : va_D A [(h0, .inr (0, [.ref q1, .null, .null, .int (jI 0)])), (q1, .inl (cI, 3, .inl (jA (fun _ => 0)))), (q2, .inl (cI, 3, .inl (jA (fun _ => 0))))] := hD
  refine va_putF (D := D) (ci := 0) (v := .ref q2) (ty := tyX0 1) (C := RX0) (T := TX0) (N := 4) hx hb hts inRX0 tyX0 tyX0_ok nmX0 hown hK hP hD hS 0 rfl rfl 1 (by decide) qf15 (fun _ h9 => h9) rfl hin rfl (tyX0_ok 1 (by decide)) rfl rfl (Nat.le_of_ble_eq_true rfl) dX0_init_15 (fun H locs hP hD hS => ?_)
  have hP : va_P D vwCl [(h0, .inr (0, [.ref q1, .ref q2, .null, .int (jI 0)])), (q1, .inl (cI, 3, .inl (jA (fun _ => 0)))), (q2, .inl (cI, 3, .inl (jA (fun _ => 0))))] H := hP
  have hD : va_D A [(h0, .inr (0, [.ref q1, .ref q2, .null, .int (jI 0)])), (q1, .inl (cI, 3, .inl (jA (fun _ => 0)))), (q2, .inl (cI, 3, .inl (jA (fun _ => 0))))] := hD
  refine lv_aload_n hx hb dX0_init_18 rfl (lv_at hl 0 rfl) ?_
  refine lv_iconst (v := jI 3) hx hb dX0_init_19 rfl ?_
  refine x_newa hx hb qarr hK hP hD hS hA 3 rfl (by decide) (Nat.le_of_ble_eq_true rfl) (Nat.le_of_ble_eq_true rfl) dX0_init_20 (fun q3 H hP hD hS => ?_)
  have hP : va_P D vwCl [(h0, .inr (0, [.ref q1, .ref q2, .null, .int (jI 0)])), (q1, .inl (cI, 3, .inl (jA (fun _ => 0)))), (q2, .inl (cI, 3, .inl (jA (fun _ => 0)))), (q3, .inl (cI, 3, .inl (jA (fun _ => 0))))] H := hP
  have hD : va_D A [(h0, .inr (0, [.ref q1, .ref q2, .null, .int (jI 0)])), (q1, .inl (cI, 3, .inl (jA (fun _ => 0)))), (q2, .inl (cI, 3, .inl (jA (fun _ => 0)))), (q3, .inl (cI, 3, .inl (jA (fun _ => 0))))] := hD
  refine va_putF (D := D) (ci := 0) (v := .ref q3) (ty := tyX0 2) (C := RX0) (T := TX0) (N := 4) hx hb hts inRX0 tyX0 tyX0_ok nmX0 hown hK hP hD hS 0 rfl rfl 2 (by decide) qf18 (fun _ h9 => h9) rfl hin rfl (tyX0_ok 2 (by decide)) rfl rfl (Nat.le_of_ble_eq_true rfl) dX0_init_22 (fun H locs hP hD hS => ?_)
  have hP : va_P D vwCl [(h0, .inr (0, [.ref q1, .ref q2, .ref q3, .int (jI 0)])), (q1, .inl (cI, 3, .inl (jA (fun _ => 0)))), (q2, .inl (cI, 3, .inl (jA (fun _ => 0)))), (q3, .inl (cI, 3, .inl (jA (fun _ => 0))))] H := hP
  have hD : va_D A [(h0, .inr (0, [.ref q1, .ref q2, .ref q3, .int (jI 0)])), (q1, .inl (cI, 3, .inl (jA (fun _ => 0)))), (q2, .inl (cI, 3, .inl (jA (fun _ => 0)))), (q3, .inl (cI, 3, .inl (jA (fun _ => 0))))] := hD
  refine lv_aload_n hx hb dX0_init_25 rfl (lv_at hl 0 rfl) ?_
  refine lv_iconst (v := jI 0) hx hb dX0_init_26 rfl ?_
  refine va_put (D := D) (ci := 0) (v := .int (jI 0)) (ty := .int) (C := RX0) (T := TX0) (N := 4) hx hb hts inRX0 tyX0 tyX0_ok nmX0 hown hK hP hD hS 0 rfl rfl 3 (by decide) qf21 (fun _ h9 => h9) rfl (by decide +kernel) rfl rfl (Nat.le_of_ble_eq_true rfl) dX0_init_27 (fun H locs hP hD hS => ?_)
  have hP : va_P D vwCl [(h0, .inr (0, [.ref q1, .ref q2, .ref q3, .int (jI 0)])), (q1, .inl (cI, 3, .inl (jA (fun _ => 0)))), (q2, .inl (cI, 3, .inl (jA (fun _ => 0)))), (q3, .inl (cI, 3, .inl (jA (fun _ => 0))))] H := hP
  have hD : va_D A [(h0, .inr (0, [.ref q1, .ref q2, .ref q3, .int (jI 0)])), (q1, .inl (cI, 3, .inl (jA (fun _ => 0)))), (q2, .inl (cI, 3, .inl (jA (fun _ => 0)))), (q3, .inl (cI, 3, .inl (jA (fun _ => 0))))] := hD
  exact xn_v (fun k => [h0, q1, q2, q3].getD k 0) hx hb hr hlocks hP hD hS rfl rfl dX0_init_30
abbrev F1_0 : Nat → Int := (upz (upz (upz (upz (upz (upz (upz (upz (upz (upz (upz (upz (upz (upz (fun _ => 0) 2 (-1)) 11 (xfirst 0)) 12 (xfirst 1)) 13 (xfirst 2)) 14 8) 15 8) 16 8) 17 8) 18 8) 19 (-1)) 20 (-1)) 22 1) 26 1) 30 1)
abbrev F2_0 : Nat → Int := (upz (upz (upz (upz (upz (upz (upz (upz (upz (upz (upz (upz (upz (upz (fun _ => 0) 1 8) 2 8) 3 8) 4 8) 5 8) 6 (-1)) 7 (-1)) 8 3) 9 2) 10 500) 12 (-1)) 22 1) 26 1) 30 1)
abbrev rm_X1_init : Room := { frames := 2, cells := 7, slots := 304, locals := 32 }
set_option maxHeartbeats 8000000 in
set_option maxRecDepth 100000 in
theorem m_X1_init (l : Launch) (D : va_G) (cI : ClassId) (h0 : Nat) : MetN yenv l yX1_init wsX1_init rm_X1_init D cI h0 [(h0, .inr (1, [.null, .null, .int (jI 0), .null, .int (jI 0), .null]))] (fun a => w1 cI a F1_0 (fun _ => 0) 0 (fun _ => 0) 0 (fun _ => 0) (fun _ => 0) (fun _ => 0) 0) 7 304 := by
  refine xe_N (cc := cX1_init) (maxL := 2) (ret := none) (by decide) rfl (by decide) rfl ?_
  intro p e s m below meth c hx hb hr hml hts hown hlocks hin hP hK A hA hD hS hE ls hl
  have hown : s.vm.findClass RX1 = some m.cls := hown
  have inRX1 : ∀ w ∈ u_ws RX1 TX1 6, w ∈ wsX1_init := by decide +kernel
  have inRX0 : ∀ w ∈ u_ws RX0 TX0 4, w ∈ wsX1_init := by decide +kernel
  obtain ⟨tl, hZ, hT⟩ := hE.2
  have qarr := hts (.arrayClass .int) (by decide +kernel)
  have qoL := hts (.methodLink RX1 3 objectInit) (by decide +kernel)
  have qoI := hts (.instanceMethod objectInit) (by decide +kernel)
  have qf9 := hts (.fieldLink RX1 9 "VaultMovements" "now" "[I") (by decide +kernel)
  have qf13 := hts (.fieldLink RX1 13 "VaultMovements" "saved" "[I") (by decide +kernel)
  have qf16 := hts (.fieldLink RX1 16 "VaultMovements" "savedStates" "I") (by decide +kernel)
  have qf20 := hts (.fieldLink RX1 20 "VaultMovements" "buffer" "[I") (by decide +kernel)
  have qf23 := hts (.fieldLink RX1 23 "VaultMovements" "length" "I") (by decide +kernel)
  have qc26 := hts (.classLink RX1 26 RX0) (by decide +kernel)
  have qi26 := hts (.instantiable RX0 4) (by decide +kernel)
  have qn26 := hts (.initialized RX0) (by decide +kernel)
  have qyI := hts (.instanceMethod yX0_init) (by decide +kernel)
  have qf29 := hts (.fieldLink RX1 29 "VaultMovements" "windings" "LVaultMovements$Windings;") (by decide +kernel)
  have qf33 := hts (.fieldLink RX1 33 "VaultMovements" "SETTING_AT_FIRST" "[I") (by decide +kernel)
  refine lv_aload_n hx hb dX1_init_0 rfl (lv_at hl 0 rfl) ?_
  refine W.objInit hx hb hown qoL qoI (hts _ (List.mem_cons_of_mem _ (List.mem_append_left _ (List.mem_append_left _ (List.mem_of_getElem? (i := 2) rfl))))) rfl (by rw [hml]; exact hl.1) rfl dX1_init_1 (Nat.le_of_ble_eq_true rfl) (Nat.le_of_ble_eq_true rfl) ?_
  refine W.eq (g2 := F0 m 4 ls []) rfl ?_
  refine lv_aload_n hx hb dX1_init_4 rfl (lv_at hl 0 rfl) ?_
  refine lv_bipush (v := jI 33) hx hb dX1_init_5 (by decide) ?_
  refine x_newa hx hb qarr hK hP hD hS hA 33 rfl (by decide) (Nat.le_of_ble_eq_true rfl) (Nat.le_of_ble_eq_true rfl) dX1_init_7 (fun q1 H hP hD hS => ?_)
  have hP : va_P D vwCl [(h0, .inr (1, [.null, .null, .int (jI 0), .null, .int (jI 0), .null])), (q1, .inl (cI, 33, .inl (jA (fun _ => 0))))] H := hP
  have hD : va_D A [(h0, .inr (1, [.null, .null, .int (jI 0), .null, .int (jI 0), .null])), (q1, .inl (cI, 33, .inl (jA (fun _ => 0))))] := hD
  refine va_putF (D := D) (ci := 1) (v := .ref q1) (ty := tyX1 0) (C := RX1) (T := TX1) (N := 6) hx hb hts inRX1 tyX1 tyX1_ok nmX1 hown hK hP hD hS 0 rfl rfl 0 (by decide) qf9 (fun _ h9 => h9) rfl hin rfl (tyX1_ok 0 (by decide)) rfl rfl (Nat.le_of_ble_eq_true rfl) dX1_init_9 (fun H locs hP hD hS => ?_)
  have hP : va_P D vwCl [(h0, .inr (1, [.ref q1, .null, .int (jI 0), .null, .int (jI 0), .null])), (q1, .inl (cI, 33, .inl (jA (fun _ => 0))))] H := hP
  have hD : va_D A [(h0, .inr (1, [.ref q1, .null, .int (jI 0), .null, .int (jI 0), .null])), (q1, .inl (cI, 33, .inl (jA (fun _ => 0))))] := hD
  refine lv_aload_n hx hb dX1_init_12 rfl (lv_at hl 0 rfl) ?_
  refine lv_sipush (v := jI 198) hx hb dX1_init_13 (by decide) ?_
  refine x_newa hx hb qarr hK hP hD hS hA 198 rfl (by decide) (Nat.le_of_ble_eq_true rfl) (Nat.le_of_ble_eq_true rfl) dX1_init_16 (fun q2 H hP hD hS => ?_)
  have hP : va_P D vwCl [(h0, .inr (1, [.ref q1, .null, .int (jI 0), .null, .int (jI 0), .null])), (q1, .inl (cI, 33, .inl (jA (fun _ => 0)))), (q2, .inl (cI, 198, .inl (jA (fun _ => 0))))] H := hP
  have hD : va_D A [(h0, .inr (1, [.ref q1, .null, .int (jI 0), .null, .int (jI 0), .null])), (q1, .inl (cI, 33, .inl (jA (fun _ => 0)))), (q2, .inl (cI, 198, .inl (jA (fun _ => 0))))] := hD
  refine va_putF (D := D) (ci := 1) (v := .ref q2) (ty := tyX1 1) (C := RX1) (T := TX1) (N := 6) hx hb hts inRX1 tyX1 tyX1_ok nmX1 hown hK hP hD hS 0 rfl rfl 1 (by decide) qf13 (fun _ h9 => h9) rfl hin rfl (tyX1_ok 1 (by decide)) rfl rfl (Nat.le_of_ble_eq_true rfl) dX1_init_18 (fun H locs hP hD hS => ?_)
  have hP : va_P D vwCl [(h0, .inr (1, [.ref q1, .ref q2, .int (jI 0), .null, .int (jI 0), .null])), (q1, .inl (cI, 33, .inl (jA (fun _ => 0)))), (q2, .inl (cI, 198, .inl (jA (fun _ => 0))))] H := hP
  have hD : va_D A [(h0, .inr (1, [.ref q1, .ref q2, .int (jI 0), .null, .int (jI 0), .null])), (q1, .inl (cI, 33, .inl (jA (fun _ => 0)))), (q2, .inl (cI, 198, .inl (jA (fun _ => 0))))] := hD
  refine lv_aload_n hx hb dX1_init_21 rfl (lv_at hl 0 rfl) ?_
  refine lv_iconst (v := jI 0) hx hb dX1_init_22 rfl ?_
  refine va_put (D := D) (ci := 1) (v := .int (jI 0)) (ty := .int) (C := RX1) (T := TX1) (N := 6) hx hb hts inRX1 tyX1 tyX1_ok nmX1 hown hK hP hD hS 0 rfl rfl 2 (by decide) qf16 (fun _ h9 => h9) rfl (by decide +kernel) rfl rfl (Nat.le_of_ble_eq_true rfl) dX1_init_23 (fun H locs hP hD hS => ?_)
  have hP : va_P D vwCl [(h0, .inr (1, [.ref q1, .ref q2, .int (jI 0), .null, .int (jI 0), .null])), (q1, .inl (cI, 33, .inl (jA (fun _ => 0)))), (q2, .inl (cI, 198, .inl (jA (fun _ => 0))))] H := hP
  have hD : va_D A [(h0, .inr (1, [.ref q1, .ref q2, .int (jI 0), .null, .int (jI 0), .null])), (q1, .inl (cI, 33, .inl (jA (fun _ => 0)))), (q2, .inl (cI, 198, .inl (jA (fun _ => 0))))] := hD
  refine lv_aload_n hx hb dX1_init_26 rfl (lv_at hl 0 rfl) ?_
  refine lv_bipush (v := jI 60) hx hb dX1_init_27 (by decide) ?_
  refine x_newa hx hb qarr hK hP hD hS hA 60 rfl (by decide) (Nat.le_of_ble_eq_true rfl) (Nat.le_of_ble_eq_true rfl) dX1_init_29 (fun q3 H hP hD hS => ?_)
  have hP : va_P D vwCl [(h0, .inr (1, [.ref q1, .ref q2, .int (jI 0), .null, .int (jI 0), .null])), (q1, .inl (cI, 33, .inl (jA (fun _ => 0)))), (q2, .inl (cI, 198, .inl (jA (fun _ => 0)))), (q3, .inl (cI, 60, .inl (jA (fun _ => 0))))] H := hP
  have hD : va_D A [(h0, .inr (1, [.ref q1, .ref q2, .int (jI 0), .null, .int (jI 0), .null])), (q1, .inl (cI, 33, .inl (jA (fun _ => 0)))), (q2, .inl (cI, 198, .inl (jA (fun _ => 0)))), (q3, .inl (cI, 60, .inl (jA (fun _ => 0))))] := hD
  refine va_putF (D := D) (ci := 1) (v := .ref q3) (ty := tyX1 3) (C := RX1) (T := TX1) (N := 6) hx hb hts inRX1 tyX1 tyX1_ok nmX1 hown hK hP hD hS 0 rfl rfl 3 (by decide) qf20 (fun _ h9 => h9) rfl hin rfl (tyX1_ok 3 (by decide)) rfl rfl (Nat.le_of_ble_eq_true rfl) dX1_init_31 (fun H locs hP hD hS => ?_)
  have hP : va_P D vwCl [(h0, .inr (1, [.ref q1, .ref q2, .int (jI 0), .ref q3, .int (jI 0), .null])), (q1, .inl (cI, 33, .inl (jA (fun _ => 0)))), (q2, .inl (cI, 198, .inl (jA (fun _ => 0)))), (q3, .inl (cI, 60, .inl (jA (fun _ => 0))))] H := hP
  have hD : va_D A [(h0, .inr (1, [.ref q1, .ref q2, .int (jI 0), .ref q3, .int (jI 0), .null])), (q1, .inl (cI, 33, .inl (jA (fun _ => 0)))), (q2, .inl (cI, 198, .inl (jA (fun _ => 0)))), (q3, .inl (cI, 60, .inl (jA (fun _ => 0))))] := hD
  refine lv_aload_n hx hb dX1_init_34 rfl (lv_at hl 0 rfl) ?_
  refine lv_iconst (v := jI 0) hx hb dX1_init_35 rfl ?_
  refine va_put (D := D) (ci := 1) (v := .int (jI 0)) (ty := .int) (C := RX1) (T := TX1) (N := 6) hx hb hts inRX1 tyX1 tyX1_ok nmX1 hown hK hP hD hS 0 rfl rfl 4 (by decide) qf23 (fun _ h9 => h9) rfl (by decide +kernel) rfl rfl (Nat.le_of_ble_eq_true rfl) dX1_init_36 (fun H locs hP hD hS => ?_)
  have hP : va_P D vwCl [(h0, .inr (1, [.ref q1, .ref q2, .int (jI 0), .ref q3, .int (jI 0), .null])), (q1, .inl (cI, 33, .inl (jA (fun _ => 0)))), (q2, .inl (cI, 198, .inl (jA (fun _ => 0)))), (q3, .inl (cI, 60, .inl (jA (fun _ => 0))))] H := hP
  have hD : va_D A [(h0, .inr (1, [.ref q1, .ref q2, .int (jI 0), .ref q3, .int (jI 0), .null])), (q1, .inl (cI, 33, .inl (jA (fun _ => 0)))), (q2, .inl (cI, 198, .inl (jA (fun _ => 0)))), (q3, .inl (cI, 60, .inl (jA (fun _ => 0))))] := hD
  refine lv_aload_n hx hb dX1_init_39 rfl (lv_at hl 0 rfl) ?_
  refine va_new (ci := 0) (fs := [.null, .null, .null, .int (jI 0)]) (C := RX0) (T := TX0) (N := 4) hx hb hts inRX0 tyX0 tyX0_ok hown qc26 qi26 qn26 hK hP hD hS hA rfl (fun j hj => by rcases (show j = 0 ∨ j = 1 ∨ j = 2 ∨ j = 3 by omega) with rfl | rfl | rfl | rfl <;> rfl) (Nat.le_of_ble_eq_true rfl) (Nat.le_of_ble_eq_true rfl) dX1_init_40 (fun q4 H hP hD hS => ?_)
  have hP : va_P D vwCl [(h0, .inr (1, [.ref q1, .ref q2, .int (jI 0), .ref q3, .int (jI 0), .null])), (q1, .inl (cI, 33, .inl (jA (fun _ => 0)))), (q2, .inl (cI, 198, .inl (jA (fun _ => 0)))), (q3, .inl (cI, 60, .inl (jA (fun _ => 0)))), (q4, .inr (0, [.null, .null, .null, .int (jI 0)]))] H := hP
  have hD : va_D A [(h0, .inr (1, [.ref q1, .ref q2, .int (jI 0), .ref q3, .int (jI 0), .null])), (q1, .inl (cI, 33, .inl (jA (fun _ => 0)))), (q2, .inl (cI, 198, .inl (jA (fun _ => 0)))), (q3, .inl (cI, 60, .inl (jA (fun _ => 0)))), (q4, .inr (0, [.null, .null, .null, .int (jI 0)]))] := hD
  refine lv_dup hx hb dX1_init_43 rfl ?_
  have hPc := hP.sub (ws' := [(q4, .inr (0, [.null, .null, .null, .int (jI 0)]))]) [4] rfl
  have hDc := hD.sub (ws' := [(q4, .inr (0, [.null, .null, .null, .int (jI 0)]))]) [4] (by decide) rfl
  have hFc := va_free (wc := [(q4, .inr (0, [.null, .null, .null, .int (jI 0)]))]) hD hS hA [4] rfl
  refine va_callv (va_runIN (As := []) (rest := [.ref q4, .ref h0]) ⟨hx, hb, hml, hown, hts⟩ (m_X0_init l D cI q4 H.size) ⟨va_cnB 0 hts gX1_init_X0_init_n28 rfl rfl rfl hE.1 qn26 (by decide +kernel) ⟨Nat.le_of_ble_eq_true rfl, Nat.le_of_ble_eq_true rfl⟩, rfl, qyI⟩ ⟨xq_Nbl noenv_ok, fun U hU hW => ⟨rfl, by rw [hU], by rw [hU]; exact hPc, va_K.moved hW.alike hK, hDc.weaken (fun _ _ _ _ => trivial), trivial⟩⟩ rfl rfl hl.1 rfl (lv_room (Nat.le_of_ble_eq_true rfl)) dX1_init_44 ⟨Nat.le_of_ble_eq_true rfl, Nat.le_of_ble_eq_true rfl⟩) hS (fun q _ h => hFc q h) hFc (fun u t H1 locs ht hvm hw hB hz1 hk1 hS => ?_)
  obtain ⟨hP1, hD1⟩ := hB
  rw [ht] at hP1
  have hw : u 0 = q4 := hw
  subst hw
  obtain ⟨hP, hD⟩ := va_join (wr := [(h0, .inr (1, [.ref q1, .ref q2, .int (jI 0), .ref q3, .int (jI 0), .null])), (q1, .inl (cI, 33, .inl (jA (fun _ => 0)))), (q2, .inl (cI, 198, .inl (jA (fun _ => 0)))), (q3, .inl (cI, 60, .inl (jA (fun _ => 0))))]) (w1 := [(u 0, .inr (0, [.ref (u 1), .ref (u 2), .ref (u 3), .int (jI 0)])), (u 1, .inl (cI, 3, .inl (jA (fun _ => 0)))), (u 2, .inl (cI, 3, .inl (jA (fun _ => 0)))), (u 3, .inl (cI, 3, .inl (jA (fun _ => 0))))]) hP hD [4] [0, 1, 2, 3] rfl rfl (by decide) (by decide) hk1 hFc hP1 hD1
  generalize H1 = H at hP hS ⊢
  have hP : va_P D vwCl [(h0, .inr (1, [.ref q1, .ref q2, .int (jI 0), .ref q3, .int (jI 0), .null])), (q1, .inl (cI, 33, .inl (jA (fun _ => 0)))), (q2, .inl (cI, 198, .inl (jA (fun _ => 0)))), (q3, .inl (cI, 60, .inl (jA (fun _ => 0)))), (u 0, .inr (0, [.ref (u 1), .ref (u 2), .ref (u 3), .int (jI 0)])), (u 1, .inl (cI, 3, .inl (jA (fun _ => 0)))), (u 2, .inl (cI, 3, .inl (jA (fun _ => 0)))), (u 3, .inl (cI, 3, .inl (jA (fun _ => 0))))] H := hP
  have hD : va_D A [(h0, .inr (1, [.ref q1, .ref q2, .int (jI 0), .ref q3, .int (jI 0), .null])), (q1, .inl (cI, 33, .inl (jA (fun _ => 0)))), (q2, .inl (cI, 198, .inl (jA (fun _ => 0)))), (q3, .inl (cI, 60, .inl (jA (fun _ => 0)))), (u 0, .inr (0, [.ref (u 1), .ref (u 2), .ref (u 3), .int (jI 0)])), (u 1, .inl (cI, 3, .inl (jA (fun _ => 0)))), (u 2, .inl (cI, 3, .inl (jA (fun _ => 0)))), (u 3, .inl (cI, 3, .inl (jA (fun _ => 0))))] := hD
  refine va_putF (D := D) (ci := 1) (v := .ref (u 0)) (ty := tyX1 5) (C := RX1) (T := TX1) (N := 6) hx hb hts inRX1 tyX1 tyX1_ok nmX1 hown hK hP hD hS 0 rfl rfl 5 (by decide) qf29 (fun _ h9 => h9) rfl hin rfl (tyX1_ok 5 (by decide)) rfl rfl (Nat.le_of_ble_eq_true rfl) dX1_init_47 (fun H locs hP hD hS => ?_)
  have hP : va_P D vwCl [(h0, .inr (1, [.ref q1, .ref q2, .int (jI 0), .ref q3, .int (jI 0), .ref (u 0)])), (q1, .inl (cI, 33, .inl (jA (fun _ => 0)))), (q2, .inl (cI, 198, .inl (jA (fun _ => 0)))), (q3, .inl (cI, 60, .inl (jA (fun _ => 0)))), (u 0, .inr (0, [.ref (u 1), .ref (u 2), .ref (u 3), .int (jI 0)])), (u 1, .inl (cI, 3, .inl (jA (fun _ => 0)))), (u 2, .inl (cI, 3, .inl (jA (fun _ => 0)))), (u 3, .inl (cI, 3, .inl (jA (fun _ => 0))))] H := hP
  have hD : va_D A [(h0, .inr (1, [.ref q1, .ref q2, .int (jI 0), .ref q3, .int (jI 0), .ref (u 0)])), (q1, .inl (cI, 33, .inl (jA (fun _ => 0)))), (q2, .inl (cI, 198, .inl (jA (fun _ => 0)))), (q3, .inl (cI, 60, .inl (jA (fun _ => 0)))), (u 0, .inr (0, [.ref (u 1), .ref (u 2), .ref (u 3), .int (jI 0)])), (u 1, .inl (cI, 3, .inl (jA (fun _ => 0)))), (u 2, .inl (cI, 3, .inl (jA (fun _ => 0)))), (u 3, .inl (cI, 3, .inl (jA (fun _ => 0))))] := hD
  refine lv_aload_n hx hb dX1_init_50 rfl (lv_at hl 0 rfl) ?_
  refine va_get (D := D) (ci := 1) (v := .ref q1) (C := RX1) (T := TX1) (N := 6) hx hb hts inRX1 hown hK hP 0 rfl rfl 0 (by decide) qf9 (fun _ h9 => h9) rfl dX1_init_51 ?_
  refine lv_iconst (v := jI 2) hx hb dX1_init_54 rfl ?_
  refine lv_iconst (v := jI (-1)) hx hb dX1_init_55 rfl ?_
  refine x_iast (w1 := [(h0, .inr (1, [.ref q1, .ref q2, .int (jI 0), .ref q3, .int (jI 0), .ref (u 0)])), (q1, .inl (cI, 33, .inl (jA (upz (fun _ => 0) 2 (-1))))), (q2, .inl (cI, 198, .inl (jA (fun _ => 0)))), (q3, .inl (cI, 60, .inl (jA (fun _ => 0)))), (u 0, .inr (0, [.ref (u 1), .ref (u 2), .ref (u 3), .int (jI 0)])), (u 1, .inl (cI, 3, .inl (jA (fun _ => 0)))), (u 2, .inl (cI, 3, .inl (jA (fun _ => 0)))), (u 3, .inl (cI, 3, .inl (jA (fun _ => 0))))]) hx hb hK hP hD hS 1 0 rfl rfl 2 (by decide) (by decide) (by decide) dX1_init_56 rfl (fun H locs hP hD hS => ?_)
  refine lv_iconst (v := jI 0) hx hb dX1_init_57 rfl ?_
  refine lv_istore_n (lv' := [(1, .int (jI 0)), (0, .ref h0)]) hx hb dX1_init_58 rfl hl (by decide) rfl (fun ls hl => ?_)
  refine lv_iload_n hx hb dX1_init_59 rfl (lv_at hl 0 rfl) ?_
  refine lv_iconst (v := jI 3) hx hb dX1_init_60 rfl ?_
  refine x_icmp_ge (tgt := 84) hx hb dX1_init_61 (by decide) ⟨by decide, by decide⟩ (fun c9 => absurd c9 (by decide)) (fun _ => ?_)
  refine lv_aload_n hx hb dX1_init_64 rfl (lv_at hl 1 rfl) ?_
  refine va_get (D := D) (ci := 1) (v := .ref q1) (C := RX1) (T := TX1) (N := 6) hx hb hts inRX1 hown hK hP 0 rfl rfl 0 (by decide) qf9 (fun _ h9 => h9) rfl dX1_init_65 ?_
  refine lv_bipush (v := jI 11) hx hb dX1_init_68 (by decide) ?_
  refine lv_iload_n hx hb dX1_init_70 rfl (lv_at hl 0 rfl) ?_
  refine x_iadd hx hb dX1_init_71 ?_
  refine va_gets (v := .ref tl) hx hb hZ hS hown qf33 (fun _ h9 => h9) dX1_init_72 ?_
  refine lv_iload_n hx hb dX1_init_75 rfl (lv_at hl 0 rfl) ?_
  refine va_ti (v := .int (jI (xfirst 0))) hx hb hT hS (by rw [show jI 0 = nI 0 from jI_nat 0]; exact vp_in_nI (by decide) (by decide)) (by rw [show jI 0 = nI 0 from jI_nat 0, nI_clamp (by decide)]) dX1_init_76 ?_
  refine x_iast (w1 := [(h0, .inr (1, [.ref q1, .ref q2, .int (jI 0), .ref q3, .int (jI 0), .ref (u 0)])), (q1, .inl (cI, 33, .inl (jA (upz (upz (fun _ => 0) 2 (-1)) 11 (xfirst 0))))), (q2, .inl (cI, 198, .inl (jA (fun _ => 0)))), (q3, .inl (cI, 60, .inl (jA (fun _ => 0)))), (u 0, .inr (0, [.ref (u 1), .ref (u 2), .ref (u 3), .int (jI 0)])), (u 1, .inl (cI, 3, .inl (jA (fun _ => 0)))), (u 2, .inl (cI, 3, .inl (jA (fun _ => 0)))), (u 3, .inl (cI, 3, .inl (jA (fun _ => 0))))]) hx hb hK hP hD hS 1 0 rfl rfl 11 (by decide) (by decide) (by decide) dX1_init_77 rfl (fun H locs hP hD hS => ?_)
  refine lv_iinc (v := jI 1) (lv' := [(1, .int (jI 1)), (0, .ref h0)]) hx hb dX1_init_78 hl (k := 0) rfl (by decide) (by decide) rfl (fun ls hl => ?_)
  refine lv_goto (tgt := 59) hx hb dX1_init_81 (by decide) ?_
  refine lv_iload_n hx hb dX1_init_59 rfl (lv_at hl 0 rfl) ?_
  refine lv_iconst (v := jI 3) hx hb dX1_init_60 rfl ?_
  refine x_icmp_ge (tgt := 84) hx hb dX1_init_61 (by decide) ⟨by decide, by decide⟩ (fun c9 => absurd c9 (by decide)) (fun _ => ?_)
  refine lv_aload_n hx hb dX1_init_64 rfl (lv_at hl 1 rfl) ?_
  refine va_get (D := D) (ci := 1) (v := .ref q1) (C := RX1) (T := TX1) (N := 6) hx hb hts inRX1 hown hK hP 0 rfl rfl 0 (by decide) qf9 (fun _ h9 => h9) rfl dX1_init_65 ?_
  refine lv_bipush (v := jI 11) hx hb dX1_init_68 (by decide) ?_
  refine lv_iload_n hx hb dX1_init_70 rfl (lv_at hl 0 rfl) ?_
  refine x_iadd hx hb dX1_init_71 ?_
  refine va_gets (v := .ref tl) hx hb hZ hS hown qf33 (fun _ h9 => h9) dX1_init_72 ?_
  refine lv_iload_n hx hb dX1_init_75 rfl (lv_at hl 0 rfl) ?_
  refine va_ti (v := .int (jI (xfirst 1))) hx hb hT hS (by rw [show jI 1 = nI 1 from jI_nat 1]; exact vp_in_nI (by decide) (by decide)) (by rw [show jI 1 = nI 1 from jI_nat 1, nI_clamp (by decide)]) dX1_init_76 ?_
  refine x_iast (w1 := [(h0, .inr (1, [.ref q1, .ref q2, .int (jI 0), .ref q3, .int (jI 0), .ref (u 0)])), (q1, .inl (cI, 33, .inl (jA (upz (upz (upz (fun _ => 0) 2 (-1)) 11 (xfirst 0)) 12 (xfirst 1))))), (q2, .inl (cI, 198, .inl (jA (fun _ => 0)))), (q3, .inl (cI, 60, .inl (jA (fun _ => 0)))), (u 0, .inr (0, [.ref (u 1), .ref (u 2), .ref (u 3), .int (jI 0)])), (u 1, .inl (cI, 3, .inl (jA (fun _ => 0)))), (u 2, .inl (cI, 3, .inl (jA (fun _ => 0)))), (u 3, .inl (cI, 3, .inl (jA (fun _ => 0))))]) hx hb hK hP hD hS 1 0 rfl rfl 12 (by decide) (by decide) (by decide) dX1_init_77 rfl (fun H locs hP hD hS => ?_)
  refine lv_iinc (v := jI 2) (lv' := [(1, .int (jI 2)), (0, .ref h0)]) hx hb dX1_init_78 hl (k := 0) rfl (by decide) (by decide) rfl (fun ls hl => ?_)
  refine lv_goto (tgt := 59) hx hb dX1_init_81 (by decide) ?_
  refine lv_iload_n hx hb dX1_init_59 rfl (lv_at hl 0 rfl) ?_
  refine lv_iconst (v := jI 3) hx hb dX1_init_60 rfl ?_
  refine x_icmp_ge (tgt := 84) hx hb dX1_init_61 (by decide) ⟨by decide, by decide⟩ (fun c9 => absurd c9 (by decide)) (fun _ => ?_)
  refine lv_aload_n hx hb dX1_init_64 rfl (lv_at hl 1 rfl) ?_
  refine va_get (D := D) (ci := 1) (v := .ref q1) (C := RX1) (T := TX1) (N := 6) hx hb hts inRX1 hown hK hP 0 rfl rfl 0 (by decide) qf9 (fun _ h9 => h9) rfl dX1_init_65 ?_
  refine lv_bipush (v := jI 11) hx hb dX1_init_68 (by decide) ?_
  refine lv_iload_n hx hb dX1_init_70 rfl (lv_at hl 0 rfl) ?_
  refine x_iadd hx hb dX1_init_71 ?_
  refine va_gets (v := .ref tl) hx hb hZ hS hown qf33 (fun _ h9 => h9) dX1_init_72 ?_
  refine lv_iload_n hx hb dX1_init_75 rfl (lv_at hl 0 rfl) ?_
  refine va_ti (v := .int (jI (xfirst 2))) hx hb hT hS (by rw [show jI 2 = nI 2 from jI_nat 2]; exact vp_in_nI (by decide) (by decide)) (by rw [show jI 2 = nI 2 from jI_nat 2, nI_clamp (by decide)]) dX1_init_76 ?_
  refine x_iast (w1 := [(h0, .inr (1, [.ref q1, .ref q2, .int (jI 0), .ref q3, .int (jI 0), .ref (u 0)])), (q1, .inl (cI, 33, .inl (jA (upz (upz (upz (upz (fun _ => 0) 2 (-1)) 11 (xfirst 0)) 12 (xfirst 1)) 13 (xfirst 2))))), (q2, .inl (cI, 198, .inl (jA (fun _ => 0)))), (q3, .inl (cI, 60, .inl (jA (fun _ => 0)))), (u 0, .inr (0, [.ref (u 1), .ref (u 2), .ref (u 3), .int (jI 0)])), (u 1, .inl (cI, 3, .inl (jA (fun _ => 0)))), (u 2, .inl (cI, 3, .inl (jA (fun _ => 0)))), (u 3, .inl (cI, 3, .inl (jA (fun _ => 0))))]) hx hb hK hP hD hS 1 0 rfl rfl 13 (by decide) (by decide) (by decide) dX1_init_77 rfl (fun H locs hP hD hS => ?_)
  refine lv_iinc (v := jI 3) (lv' := [(1, .int (jI 3)), (0, .ref h0)]) hx hb dX1_init_78 hl (k := 0) rfl (by decide) (by decide) rfl (fun ls hl => ?_)
  refine lv_goto (tgt := 59) hx hb dX1_init_81 (by decide) ?_
  refine lv_iload_n hx hb dX1_init_59 rfl (lv_at hl 0 rfl) ?_
  refine lv_iconst (v := jI 3) hx hb dX1_init_60 rfl ?_
  refine x_icmp_ge (tgt := 84) hx hb dX1_init_61 (by decide) ⟨by decide, by decide⟩ (fun _ => ?_) (fun c9 => absurd c9 (by decide))
  refine lv_iconst (v := jI 0) hx hb dX1_init_84 rfl ?_
  refine lv_istore_n (lv' := [(1, .int (jI 0)), (0, .ref h0)]) hx hb dX1_init_85 rfl hl (by decide) rfl (fun ls hl => ?_)
  refine lv_iload_n hx hb dX1_init_86 rfl (lv_at hl 0 rfl) ?_
  refine lv_bipush (v := jI 7) hx hb dX1_init_87 (by decide) ?_
  refine x_icmp_ge (tgt := 118) hx hb dX1_init_89 (by decide) ⟨by decide, by decide⟩ (fun c9 => absurd c9 (by decide)) (fun _ => ?_)
  refine lv_aload_n hx hb dX1_init_92 rfl (lv_at hl 1 rfl) ?_
  refine va_get (D := D) (ci := 1) (v := .ref q1) (C := RX1) (T := TX1) (N := 6) hx hb hts inRX1 hown hK hP 0 rfl rfl 0 (by decide) qf9 (fun _ h9 => h9) rfl dX1_init_93 ?_
  refine lv_bipush (v := jI 14) hx hb dX1_init_96 (by decide) ?_
  refine lv_iload_n hx hb dX1_init_98 rfl (lv_at hl 0 rfl) ?_
  refine x_iadd hx hb dX1_init_99 ?_
  refine lv_iload_n hx hb dX1_init_100 rfl (lv_at hl 0 rfl) ?_
  refine lv_iconst (v := jI 5) hx hb dX1_init_101 rfl ?_
  refine x_icmp_ge (tgt := 110) hx hb dX1_init_102 (by decide) ⟨by decide, by decide⟩ (fun c9 => absurd c9 (by decide)) (fun _ => ?_)
  refine lv_bipush (v := jI 8) hx hb dX1_init_105 (by decide) ?_
  refine lv_goto (tgt := 111) hx hb dX1_init_107 (by decide) ?_
  refine x_iast (w1 := [(h0, .inr (1, [.ref q1, .ref q2, .int (jI 0), .ref q3, .int (jI 0), .ref (u 0)])), (q1, .inl (cI, 33, .inl (jA (upz (upz (upz (upz (upz (fun _ => 0) 2 (-1)) 11 (xfirst 0)) 12 (xfirst 1)) 13 (xfirst 2)) 14 8)))), (q2, .inl (cI, 198, .inl (jA (fun _ => 0)))), (q3, .inl (cI, 60, .inl (jA (fun _ => 0)))), (u 0, .inr (0, [.ref (u 1), .ref (u 2), .ref (u 3), .int (jI 0)])), (u 1, .inl (cI, 3, .inl (jA (fun _ => 0)))), (u 2, .inl (cI, 3, .inl (jA (fun _ => 0)))), (u 3, .inl (cI, 3, .inl (jA (fun _ => 0))))]) hx hb hK hP hD hS 1 0 rfl rfl 14 (by decide) (by decide) (by decide) dX1_init_111 rfl (fun H locs hP hD hS => ?_)
  refine lv_iinc (v := jI 1) (lv' := [(1, .int (jI 1)), (0, .ref h0)]) hx hb dX1_init_112 hl (k := 0) rfl (by decide) (by decide) rfl (fun ls hl => ?_)
  refine lv_goto (tgt := 86) hx hb dX1_init_115 (by decide) ?_
  refine lv_iload_n hx hb dX1_init_86 rfl (lv_at hl 0 rfl) ?_
  refine lv_bipush (v := jI 7) hx hb dX1_init_87 (by decide) ?_
  refine x_icmp_ge (tgt := 118) hx hb dX1_init_89 (by decide) ⟨by decide, by decide⟩ (fun c9 => absurd c9 (by decide)) (fun _ => ?_)
  refine lv_aload_n hx hb dX1_init_92 rfl (lv_at hl 1 rfl) ?_
  refine va_get (D := D) (ci := 1) (v := .ref q1) (C := RX1) (T := TX1) (N := 6) hx hb hts inRX1 hown hK hP 0 rfl rfl 0 (by decide) qf9 (fun _ h9 => h9) rfl dX1_init_93 ?_
  refine lv_bipush (v := jI 14) hx hb dX1_init_96 (by decide) ?_
  refine lv_iload_n hx hb dX1_init_98 rfl (lv_at hl 0 rfl) ?_
  refine x_iadd hx hb dX1_init_99 ?_
  refine lv_iload_n hx hb dX1_init_100 rfl (lv_at hl 0 rfl) ?_
  refine lv_iconst (v := jI 5) hx hb dX1_init_101 rfl ?_
  refine x_icmp_ge (tgt := 110) hx hb dX1_init_102 (by decide) ⟨by decide, by decide⟩ (fun c9 => absurd c9 (by decide)) (fun _ => ?_)
  refine lv_bipush (v := jI 8) hx hb dX1_init_105 (by decide) ?_
  refine lv_goto (tgt := 111) hx hb dX1_init_107 (by decide) ?_
  refine x_iast (w1 := [(h0, .inr (1, [.ref q1, .ref q2, .int (jI 0), .ref q3, .int (jI 0), .ref (u 0)])), (q1, .inl (cI, 33, .inl (jA (upz (upz (upz (upz (upz (upz (fun _ => 0) 2 (-1)) 11 (xfirst 0)) 12 (xfirst 1)) 13 (xfirst 2)) 14 8) 15 8)))), (q2, .inl (cI, 198, .inl (jA (fun _ => 0)))), (q3, .inl (cI, 60, .inl (jA (fun _ => 0)))), (u 0, .inr (0, [.ref (u 1), .ref (u 2), .ref (u 3), .int (jI 0)])), (u 1, .inl (cI, 3, .inl (jA (fun _ => 0)))), (u 2, .inl (cI, 3, .inl (jA (fun _ => 0)))), (u 3, .inl (cI, 3, .inl (jA (fun _ => 0))))]) hx hb hK hP hD hS 1 0 rfl rfl 15 (by decide) (by decide) (by decide) dX1_init_111 rfl (fun H locs hP hD hS => ?_)
  refine lv_iinc (v := jI 2) (lv' := [(1, .int (jI 2)), (0, .ref h0)]) hx hb dX1_init_112 hl (k := 0) rfl (by decide) (by decide) rfl (fun ls hl => ?_)
  refine lv_goto (tgt := 86) hx hb dX1_init_115 (by decide) ?_
  refine lv_iload_n hx hb dX1_init_86 rfl (lv_at hl 0 rfl) ?_
  refine lv_bipush (v := jI 7) hx hb dX1_init_87 (by decide) ?_
  refine x_icmp_ge (tgt := 118) hx hb dX1_init_89 (by decide) ⟨by decide, by decide⟩ (fun c9 => absurd c9 (by decide)) (fun _ => ?_)
  refine lv_aload_n hx hb dX1_init_92 rfl (lv_at hl 1 rfl) ?_
  refine va_get (D := D) (ci := 1) (v := .ref q1) (C := RX1) (T := TX1) (N := 6) hx hb hts inRX1 hown hK hP 0 rfl rfl 0 (by decide) qf9 (fun _ h9 => h9) rfl dX1_init_93 ?_
  refine lv_bipush (v := jI 14) hx hb dX1_init_96 (by decide) ?_
  refine lv_iload_n hx hb dX1_init_98 rfl (lv_at hl 0 rfl) ?_
  refine x_iadd hx hb dX1_init_99 ?_
  refine lv_iload_n hx hb dX1_init_100 rfl (lv_at hl 0 rfl) ?_
  refine lv_iconst (v := jI 5) hx hb dX1_init_101 rfl ?_
  refine x_icmp_ge (tgt := 110) hx hb dX1_init_102 (by decide) ⟨by decide, by decide⟩ (fun c9 => absurd c9 (by decide)) (fun _ => ?_)
  refine lv_bipush (v := jI 8) hx hb dX1_init_105 (by decide) ?_
  refine lv_goto (tgt := 111) hx hb dX1_init_107 (by decide) ?_
  refine x_iast (w1 := [(h0, .inr (1, [.ref q1, .ref q2, .int (jI 0), .ref q3, .int (jI 0), .ref (u 0)])), (q1, .inl (cI, 33, .inl (jA (upz (upz (upz (upz (upz (upz (upz (fun _ => 0) 2 (-1)) 11 (xfirst 0)) 12 (xfirst 1)) 13 (xfirst 2)) 14 8) 15 8) 16 8)))), (q2, .inl (cI, 198, .inl (jA (fun _ => 0)))), (q3, .inl (cI, 60, .inl (jA (fun _ => 0)))), (u 0, .inr (0, [.ref (u 1), .ref (u 2), .ref (u 3), .int (jI 0)])), (u 1, .inl (cI, 3, .inl (jA (fun _ => 0)))), (u 2, .inl (cI, 3, .inl (jA (fun _ => 0)))), (u 3, .inl (cI, 3, .inl (jA (fun _ => 0))))]) hx hb hK hP hD hS 1 0 rfl rfl 16 (by decide) (by decide) (by decide) dX1_init_111 rfl (fun H locs hP hD hS => ?_)
  refine lv_iinc (v := jI 3) (lv' := [(1, .int (jI 3)), (0, .ref h0)]) hx hb dX1_init_112 hl (k := 0) rfl (by decide) (by decide) rfl (fun ls hl => ?_)
  refine lv_goto (tgt := 86) hx hb dX1_init_115 (by decide) ?_
  refine lv_iload_n hx hb dX1_init_86 rfl (lv_at hl 0 rfl) ?_
  refine lv_bipush (v := jI 7) hx hb dX1_init_87 (by decide) ?_
  refine x_icmp_ge (tgt := 118) hx hb dX1_init_89 (by decide) ⟨by decide, by decide⟩ (fun c9 => absurd c9 (by decide)) (fun _ => ?_)
  refine lv_aload_n hx hb dX1_init_92 rfl (lv_at hl 1 rfl) ?_
  refine va_get (D := D) (ci := 1) (v := .ref q1) (C := RX1) (T := TX1) (N := 6) hx hb hts inRX1 hown hK hP 0 rfl rfl 0 (by decide) qf9 (fun _ h9 => h9) rfl dX1_init_93 ?_
  refine lv_bipush (v := jI 14) hx hb dX1_init_96 (by decide) ?_
  refine lv_iload_n hx hb dX1_init_98 rfl (lv_at hl 0 rfl) ?_
  refine x_iadd hx hb dX1_init_99 ?_
  refine lv_iload_n hx hb dX1_init_100 rfl (lv_at hl 0 rfl) ?_
  refine lv_iconst (v := jI 5) hx hb dX1_init_101 rfl ?_
  refine x_icmp_ge (tgt := 110) hx hb dX1_init_102 (by decide) ⟨by decide, by decide⟩ (fun c9 => absurd c9 (by decide)) (fun _ => ?_)
  refine lv_bipush (v := jI 8) hx hb dX1_init_105 (by decide) ?_
  refine lv_goto (tgt := 111) hx hb dX1_init_107 (by decide) ?_
  refine x_iast (w1 := [(h0, .inr (1, [.ref q1, .ref q2, .int (jI 0), .ref q3, .int (jI 0), .ref (u 0)])), (q1, .inl (cI, 33, .inl (jA (upz (upz (upz (upz (upz (upz (upz (upz (fun _ => 0) 2 (-1)) 11 (xfirst 0)) 12 (xfirst 1)) 13 (xfirst 2)) 14 8) 15 8) 16 8) 17 8)))), (q2, .inl (cI, 198, .inl (jA (fun _ => 0)))), (q3, .inl (cI, 60, .inl (jA (fun _ => 0)))), (u 0, .inr (0, [.ref (u 1), .ref (u 2), .ref (u 3), .int (jI 0)])), (u 1, .inl (cI, 3, .inl (jA (fun _ => 0)))), (u 2, .inl (cI, 3, .inl (jA (fun _ => 0)))), (u 3, .inl (cI, 3, .inl (jA (fun _ => 0))))]) hx hb hK hP hD hS 1 0 rfl rfl 17 (by decide) (by decide) (by decide) dX1_init_111 rfl (fun H locs hP hD hS => ?_)
  refine lv_iinc (v := jI 4) (lv' := [(1, .int (jI 4)), (0, .ref h0)]) hx hb dX1_init_112 hl (k := 0) rfl (by decide) (by decide) rfl (fun ls hl => ?_)
  refine lv_goto (tgt := 86) hx hb dX1_init_115 (by decide) ?_
  refine lv_iload_n hx hb dX1_init_86 rfl (lv_at hl 0 rfl) ?_
  refine lv_bipush (v := jI 7) hx hb dX1_init_87 (by decide) ?_
  refine x_icmp_ge (tgt := 118) hx hb dX1_init_89 (by decide) ⟨by decide, by decide⟩ (fun c9 => absurd c9 (by decide)) (fun _ => ?_)
  refine lv_aload_n hx hb dX1_init_92 rfl (lv_at hl 1 rfl) ?_
  refine va_get (D := D) (ci := 1) (v := .ref q1) (C := RX1) (T := TX1) (N := 6) hx hb hts inRX1 hown hK hP 0 rfl rfl 0 (by decide) qf9 (fun _ h9 => h9) rfl dX1_init_93 ?_
  refine lv_bipush (v := jI 14) hx hb dX1_init_96 (by decide) ?_
  refine lv_iload_n hx hb dX1_init_98 rfl (lv_at hl 0 rfl) ?_
  refine x_iadd hx hb dX1_init_99 ?_
  refine lv_iload_n hx hb dX1_init_100 rfl (lv_at hl 0 rfl) ?_
  refine lv_iconst (v := jI 5) hx hb dX1_init_101 rfl ?_
  refine x_icmp_ge (tgt := 110) hx hb dX1_init_102 (by decide) ⟨by decide, by decide⟩ (fun c9 => absurd c9 (by decide)) (fun _ => ?_)
  refine lv_bipush (v := jI 8) hx hb dX1_init_105 (by decide) ?_
  refine lv_goto (tgt := 111) hx hb dX1_init_107 (by decide) ?_
  refine x_iast (w1 := [(h0, .inr (1, [.ref q1, .ref q2, .int (jI 0), .ref q3, .int (jI 0), .ref (u 0)])), (q1, .inl (cI, 33, .inl (jA (upz (upz (upz (upz (upz (upz (upz (upz (upz (fun _ => 0) 2 (-1)) 11 (xfirst 0)) 12 (xfirst 1)) 13 (xfirst 2)) 14 8) 15 8) 16 8) 17 8) 18 8)))), (q2, .inl (cI, 198, .inl (jA (fun _ => 0)))), (q3, .inl (cI, 60, .inl (jA (fun _ => 0)))), (u 0, .inr (0, [.ref (u 1), .ref (u 2), .ref (u 3), .int (jI 0)])), (u 1, .inl (cI, 3, .inl (jA (fun _ => 0)))), (u 2, .inl (cI, 3, .inl (jA (fun _ => 0)))), (u 3, .inl (cI, 3, .inl (jA (fun _ => 0))))]) hx hb hK hP hD hS 1 0 rfl rfl 18 (by decide) (by decide) (by decide) dX1_init_111 rfl (fun H locs hP hD hS => ?_)
  refine lv_iinc (v := jI 5) (lv' := [(1, .int (jI 5)), (0, .ref h0)]) hx hb dX1_init_112 hl (k := 0) rfl (by decide) (by decide) rfl (fun ls hl => ?_)
  refine lv_goto (tgt := 86) hx hb dX1_init_115 (by decide) ?_
  refine lv_iload_n hx hb dX1_init_86 rfl (lv_at hl 0 rfl) ?_
  refine lv_bipush (v := jI 7) hx hb dX1_init_87 (by decide) ?_
  refine x_icmp_ge (tgt := 118) hx hb dX1_init_89 (by decide) ⟨by decide, by decide⟩ (fun c9 => absurd c9 (by decide)) (fun _ => ?_)
  refine lv_aload_n hx hb dX1_init_92 rfl (lv_at hl 1 rfl) ?_
  refine va_get (D := D) (ci := 1) (v := .ref q1) (C := RX1) (T := TX1) (N := 6) hx hb hts inRX1 hown hK hP 0 rfl rfl 0 (by decide) qf9 (fun _ h9 => h9) rfl dX1_init_93 ?_
  refine lv_bipush (v := jI 14) hx hb dX1_init_96 (by decide) ?_
  refine lv_iload_n hx hb dX1_init_98 rfl (lv_at hl 0 rfl) ?_
  refine x_iadd hx hb dX1_init_99 ?_
  refine lv_iload_n hx hb dX1_init_100 rfl (lv_at hl 0 rfl) ?_
  refine lv_iconst (v := jI 5) hx hb dX1_init_101 rfl ?_
  refine x_icmp_ge (tgt := 110) hx hb dX1_init_102 (by decide) ⟨by decide, by decide⟩ (fun _ => ?_) (fun c9 => absurd c9 (by decide))
  refine lv_iconst (v := jI (-1)) hx hb dX1_init_110 rfl ?_
  refine x_iast (w1 := [(h0, .inr (1, [.ref q1, .ref q2, .int (jI 0), .ref q3, .int (jI 0), .ref (u 0)])), (q1, .inl (cI, 33, .inl (jA (upz (upz (upz (upz (upz (upz (upz (upz (upz (upz (fun _ => 0) 2 (-1)) 11 (xfirst 0)) 12 (xfirst 1)) 13 (xfirst 2)) 14 8) 15 8) 16 8) 17 8) 18 8) 19 (-1))))), (q2, .inl (cI, 198, .inl (jA (fun _ => 0)))), (q3, .inl (cI, 60, .inl (jA (fun _ => 0)))), (u 0, .inr (0, [.ref (u 1), .ref (u 2), .ref (u 3), .int (jI 0)])), (u 1, .inl (cI, 3, .inl (jA (fun _ => 0)))), (u 2, .inl (cI, 3, .inl (jA (fun _ => 0)))), (u 3, .inl (cI, 3, .inl (jA (fun _ => 0))))]) hx hb hK hP hD hS 1 0 rfl rfl 19 (by decide) (by decide) (by decide) dX1_init_111 rfl (fun H locs hP hD hS => ?_)
  refine lv_iinc (v := jI 6) (lv' := [(1, .int (jI 6)), (0, .ref h0)]) hx hb dX1_init_112 hl (k := 0) rfl (by decide) (by decide) rfl (fun ls hl => ?_)
  refine lv_goto (tgt := 86) hx hb dX1_init_115 (by decide) ?_
  refine lv_iload_n hx hb dX1_init_86 rfl (lv_at hl 0 rfl) ?_
  refine lv_bipush (v := jI 7) hx hb dX1_init_87 (by decide) ?_
  refine x_icmp_ge (tgt := 118) hx hb dX1_init_89 (by decide) ⟨by decide, by decide⟩ (fun c9 => absurd c9 (by decide)) (fun _ => ?_)
  refine lv_aload_n hx hb dX1_init_92 rfl (lv_at hl 1 rfl) ?_
  refine va_get (D := D) (ci := 1) (v := .ref q1) (C := RX1) (T := TX1) (N := 6) hx hb hts inRX1 hown hK hP 0 rfl rfl 0 (by decide) qf9 (fun _ h9 => h9) rfl dX1_init_93 ?_
  refine lv_bipush (v := jI 14) hx hb dX1_init_96 (by decide) ?_
  refine lv_iload_n hx hb dX1_init_98 rfl (lv_at hl 0 rfl) ?_
  refine x_iadd hx hb dX1_init_99 ?_
  refine lv_iload_n hx hb dX1_init_100 rfl (lv_at hl 0 rfl) ?_
  refine lv_iconst (v := jI 5) hx hb dX1_init_101 rfl ?_
  refine x_icmp_ge (tgt := 110) hx hb dX1_init_102 (by decide) ⟨by decide, by decide⟩ (fun _ => ?_) (fun c9 => absurd c9 (by decide))
  refine lv_iconst (v := jI (-1)) hx hb dX1_init_110 rfl ?_
  refine x_iast (w1 := [(h0, .inr (1, [.ref q1, .ref q2, .int (jI 0), .ref q3, .int (jI 0), .ref (u 0)])), (q1, .inl (cI, 33, .inl (jA (upz (upz (upz (upz (upz (upz (upz (upz (upz (upz (upz (fun _ => 0) 2 (-1)) 11 (xfirst 0)) 12 (xfirst 1)) 13 (xfirst 2)) 14 8) 15 8) 16 8) 17 8) 18 8) 19 (-1)) 20 (-1))))), (q2, .inl (cI, 198, .inl (jA (fun _ => 0)))), (q3, .inl (cI, 60, .inl (jA (fun _ => 0)))), (u 0, .inr (0, [.ref (u 1), .ref (u 2), .ref (u 3), .int (jI 0)])), (u 1, .inl (cI, 3, .inl (jA (fun _ => 0)))), (u 2, .inl (cI, 3, .inl (jA (fun _ => 0)))), (u 3, .inl (cI, 3, .inl (jA (fun _ => 0))))]) hx hb hK hP hD hS 1 0 rfl rfl 20 (by decide) (by decide) (by decide) dX1_init_111 rfl (fun H locs hP hD hS => ?_)
  refine lv_iinc (v := jI 7) (lv' := [(1, .int (jI 7)), (0, .ref h0)]) hx hb dX1_init_112 hl (k := 0) rfl (by decide) (by decide) rfl (fun ls hl => ?_)
  refine lv_goto (tgt := 86) hx hb dX1_init_115 (by decide) ?_
  refine lv_iload_n hx hb dX1_init_86 rfl (lv_at hl 0 rfl) ?_
  refine lv_bipush (v := jI 7) hx hb dX1_init_87 (by decide) ?_
  refine x_icmp_ge (tgt := 118) hx hb dX1_init_89 (by decide) ⟨by decide, by decide⟩ (fun _ => ?_) (fun c9 => absurd c9 (by decide))
  refine lv_iconst (v := jI 0) hx hb dX1_init_118 rfl ?_
  refine lv_istore_n (lv' := [(1, .int (jI 0)), (0, .ref h0)]) hx hb dX1_init_119 rfl hl (by decide) rfl (fun ls hl => ?_)
  refine lv_iload_n hx hb dX1_init_120 rfl (lv_at hl 0 rfl) ?_
  refine lv_iconst (v := jI 3) hx hb dX1_init_121 rfl ?_
  refine x_icmp_ge (tgt := 145) hx hb dX1_init_122 (by decide) ⟨by decide, by decide⟩ (fun c9 => absurd c9 (by decide)) (fun _ => ?_)
  refine lv_aload_n hx hb dX1_init_125 rfl (lv_at hl 1 rfl) ?_
  refine va_get (D := D) (ci := 1) (v := .ref q1) (C := RX1) (T := TX1) (N := 6) hx hb hts inRX1 hown hK hP 0 rfl rfl 0 (by decide) qf9 (fun _ h9 => h9) rfl dX1_init_126 ?_
  refine lv_bipush (v := jI 21) hx hb dX1_init_129 (by decide) ?_
  refine lv_iload_n hx hb dX1_init_131 rfl (lv_at hl 0 rfl) ?_
  refine lv_iconst (v := jI 4) hx hb dX1_init_132 rfl ?_
  refine x_imul hx hb dX1_init_133 ?_
  refine x_iadd hx hb dX1_init_134 ?_
  refine lv_iconst (v := jI 1) hx hb dX1_init_135 rfl ?_
  refine x_iadd hx hb dX1_init_136 ?_
  refine lv_iconst (v := jI 1) hx hb dX1_init_137 rfl ?_
  refine x_iast (w1 := [(h0, .inr (1, [.ref q1, .ref q2, .int (jI 0), .ref q3, .int (jI 0), .ref (u 0)])), (q1, .inl (cI, 33, .inl (jA (upz (upz (upz (upz (upz (upz (upz (upz (upz (upz (upz (upz (fun _ => 0) 2 (-1)) 11 (xfirst 0)) 12 (xfirst 1)) 13 (xfirst 2)) 14 8) 15 8) 16 8) 17 8) 18 8) 19 (-1)) 20 (-1)) 22 1)))), (q2, .inl (cI, 198, .inl (jA (fun _ => 0)))), (q3, .inl (cI, 60, .inl (jA (fun _ => 0)))), (u 0, .inr (0, [.ref (u 1), .ref (u 2), .ref (u 3), .int (jI 0)])), (u 1, .inl (cI, 3, .inl (jA (fun _ => 0)))), (u 2, .inl (cI, 3, .inl (jA (fun _ => 0)))), (u 3, .inl (cI, 3, .inl (jA (fun _ => 0))))]) hx hb hK hP hD hS 1 0 rfl rfl 22 (by decide) (by decide) (by decide) dX1_init_138 rfl (fun H locs hP hD hS => ?_)
  refine lv_iinc (v := jI 1) (lv' := [(1, .int (jI 1)), (0, .ref h0)]) hx hb dX1_init_139 hl (k := 0) rfl (by decide) (by decide) rfl (fun ls hl => ?_)
  refine lv_goto (tgt := 120) hx hb dX1_init_142 (by decide) ?_
  refine lv_iload_n hx hb dX1_init_120 rfl (lv_at hl 0 rfl) ?_
  refine lv_iconst (v := jI 3) hx hb dX1_init_121 rfl ?_
  refine x_icmp_ge (tgt := 145) hx hb dX1_init_122 (by decide) ⟨by decide, by decide⟩ (fun c9 => absurd c9 (by decide)) (fun _ => ?_)
  refine lv_aload_n hx hb dX1_init_125 rfl (lv_at hl 1 rfl) ?_
  refine va_get (D := D) (ci := 1) (v := .ref q1) (C := RX1) (T := TX1) (N := 6) hx hb hts inRX1 hown hK hP 0 rfl rfl 0 (by decide) qf9 (fun _ h9 => h9) rfl dX1_init_126 ?_
  refine lv_bipush (v := jI 21) hx hb dX1_init_129 (by decide) ?_
  refine lv_iload_n hx hb dX1_init_131 rfl (lv_at hl 0 rfl) ?_
  refine lv_iconst (v := jI 4) hx hb dX1_init_132 rfl ?_
  refine x_imul hx hb dX1_init_133 ?_
  refine x_iadd hx hb dX1_init_134 ?_
  refine lv_iconst (v := jI 1) hx hb dX1_init_135 rfl ?_
  refine x_iadd hx hb dX1_init_136 ?_
  refine lv_iconst (v := jI 1) hx hb dX1_init_137 rfl ?_
  refine x_iast (w1 := [(h0, .inr (1, [.ref q1, .ref q2, .int (jI 0), .ref q3, .int (jI 0), .ref (u 0)])), (q1, .inl (cI, 33, .inl (jA (upz (upz (upz (upz (upz (upz (upz (upz (upz (upz (upz (upz (upz (fun _ => 0) 2 (-1)) 11 (xfirst 0)) 12 (xfirst 1)) 13 (xfirst 2)) 14 8) 15 8) 16 8) 17 8) 18 8) 19 (-1)) 20 (-1)) 22 1) 26 1)))), (q2, .inl (cI, 198, .inl (jA (fun _ => 0)))), (q3, .inl (cI, 60, .inl (jA (fun _ => 0)))), (u 0, .inr (0, [.ref (u 1), .ref (u 2), .ref (u 3), .int (jI 0)])), (u 1, .inl (cI, 3, .inl (jA (fun _ => 0)))), (u 2, .inl (cI, 3, .inl (jA (fun _ => 0)))), (u 3, .inl (cI, 3, .inl (jA (fun _ => 0))))]) hx hb hK hP hD hS 1 0 rfl rfl 26 (by decide) (by decide) (by decide) dX1_init_138 rfl (fun H locs hP hD hS => ?_)
  refine lv_iinc (v := jI 2) (lv' := [(1, .int (jI 2)), (0, .ref h0)]) hx hb dX1_init_139 hl (k := 0) rfl (by decide) (by decide) rfl (fun ls hl => ?_)
  refine lv_goto (tgt := 120) hx hb dX1_init_142 (by decide) ?_
  refine lv_iload_n hx hb dX1_init_120 rfl (lv_at hl 0 rfl) ?_
  refine lv_iconst (v := jI 3) hx hb dX1_init_121 rfl ?_
  refine x_icmp_ge (tgt := 145) hx hb dX1_init_122 (by decide) ⟨by decide, by decide⟩ (fun c9 => absurd c9 (by decide)) (fun _ => ?_)
  refine lv_aload_n hx hb dX1_init_125 rfl (lv_at hl 1 rfl) ?_
  refine va_get (D := D) (ci := 1) (v := .ref q1) (C := RX1) (T := TX1) (N := 6) hx hb hts inRX1 hown hK hP 0 rfl rfl 0 (by decide) qf9 (fun _ h9 => h9) rfl dX1_init_126 ?_
  refine lv_bipush (v := jI 21) hx hb dX1_init_129 (by decide) ?_
  refine lv_iload_n hx hb dX1_init_131 rfl (lv_at hl 0 rfl) ?_
  refine lv_iconst (v := jI 4) hx hb dX1_init_132 rfl ?_
  refine x_imul hx hb dX1_init_133 ?_
  refine x_iadd hx hb dX1_init_134 ?_
  refine lv_iconst (v := jI 1) hx hb dX1_init_135 rfl ?_
  refine x_iadd hx hb dX1_init_136 ?_
  refine lv_iconst (v := jI 1) hx hb dX1_init_137 rfl ?_
  refine x_iast (w1 := [(h0, .inr (1, [.ref q1, .ref q2, .int (jI 0), .ref q3, .int (jI 0), .ref (u 0)])), (q1, .inl (cI, 33, .inl (jA (upz (upz (upz (upz (upz (upz (upz (upz (upz (upz (upz (upz (upz (upz (fun _ => 0) 2 (-1)) 11 (xfirst 0)) 12 (xfirst 1)) 13 (xfirst 2)) 14 8) 15 8) 16 8) 17 8) 18 8) 19 (-1)) 20 (-1)) 22 1) 26 1) 30 1)))), (q2, .inl (cI, 198, .inl (jA (fun _ => 0)))), (q3, .inl (cI, 60, .inl (jA (fun _ => 0)))), (u 0, .inr (0, [.ref (u 1), .ref (u 2), .ref (u 3), .int (jI 0)])), (u 1, .inl (cI, 3, .inl (jA (fun _ => 0)))), (u 2, .inl (cI, 3, .inl (jA (fun _ => 0)))), (u 3, .inl (cI, 3, .inl (jA (fun _ => 0))))]) hx hb hK hP hD hS 1 0 rfl rfl 30 (by decide) (by decide) (by decide) dX1_init_138 rfl (fun H locs hP hD hS => ?_)
  refine lv_iinc (v := jI 3) (lv' := [(1, .int (jI 3)), (0, .ref h0)]) hx hb dX1_init_139 hl (k := 0) rfl (by decide) (by decide) rfl (fun ls hl => ?_)
  refine lv_goto (tgt := 120) hx hb dX1_init_142 (by decide) ?_
  refine lv_iload_n hx hb dX1_init_120 rfl (lv_at hl 0 rfl) ?_
  refine lv_iconst (v := jI 3) hx hb dX1_init_121 rfl ?_
  refine x_icmp_ge (tgt := 145) hx hb dX1_init_122 (by decide) ⟨by decide, by decide⟩ (fun _ => ?_) (fun c9 => absurd c9 (by decide))
  exact xn_v (fun k => [h0, q1, q2, q3, u 0, u 1, u 2, u 3].getD k 0) hx hb hr hlocks hP hD hS rfl rfl dX1_init_145
end
section
/-! what the class keeps, told of its numbers alone -/
def mv1 (B r g l a : Int) : Prop := (0 ≤ r ∧ r ≤ 200) ∧ (g = 0 ∨ g = 1) ∧ (0 ≤ l ∧ l ≤ 20) ∧ 0 ≤ a ∧ a ≤ B
def dy1 (x : Int) : Prop := -1 ≤ x ∧ x ≤ 23
def InvD (f : Nat → Int) : Prop := dy1 (f 14) ∧ dy1 (f 15) ∧ dy1 (f 16) ∧ dy1 (f 17) ∧ dy1 (f 18) ∧ dy1 (f 19) ∧ dy1 (f 20)
def InvM (f : Nat → Int) : Prop := mv1 (f 0) (f 21) (f 22) (f 23) (f 24) ∧ mv1 (f 0) (f 25) (f 26) (f 27) (f 28) ∧ mv1 (f 0) (f 29) (f 30) (f 31) (f 32)
/-- a movement's four numbers -/
theorem mv_at {f : Nat → Int} (h : InvM f) {j : Nat} (hj : j < 3) : mv1 (f 0) (f (21 + j * 4 + 0)) (f (21 + j * 4 + 1)) (f (21 + j * 4 + 2)) (f (21 + j * 4 + 3)) := by
  rcases (show j = 0 ∨ j = 1 ∨ j = 2 by omega) with rfl | rfl | rfl
  · exact h.1
  · exact h.2.1
  · exact h.2.2
theorem dy_at {f : Nat → Int} (h : InvD f) {k : Nat} (h1 : 14 ≤ k) (h2 : k < 21) : -1 ≤ f k ∧ f k ≤ 23 := by
  unfold InvD dy1 at h
  rcases (show k = 14 ∨ k = 15 ∨ k = 16 ∨ k = 17 ∨ k = 18 ∨ k = 19 ∨ k = 20 by omega) with rfl | rfl | rfl | rfl | rfl | rfl | rfl <;> omega
theorem mvB_of {f : Nat → Int} (h : InvM f) : mvB f (f 0) := fun j hj => mv_at h hj
def wk (f : Nat → Int) (T : Int) (a : Nat) : Int := f (14 + ((T / 24 + (a : Int)) % 7).toNat)
theorem wk_idx (T : Int) (a : Nat) : ((14 + (((T / 24) % 7 + (a : Int)) % 7))).toNat = 14 + ((T / 24 + (a : Int)) % 7).toNat := by omega
/-- what the days tell: none, or the first -/
def dOk (f : Nat → Int) (a : Nat) : Prop := wk f (f 0) a ≠ -1 ∧ 0 < (a : Int) * 24 + wk f (f 0) a - f 0 % 24
theorem dLoop (f : Nat → Int) : ∀ k i : Nat, i ≤ 8 → i + k = 9 → (s_X1_hoursToOpening_lp2 f k i = -1 ∧ ∀ a, i ≤ a → a ≤ 7 → ¬ dOk f a) ∨ ∃ a, i ≤ a ∧ a ≤ 7 ∧ dOk f a ∧ (∀ a', i ≤ a' → a' < a → ¬ dOk f a') ∧ s_X1_hoursToOpening_lp2 f k i = (a : Int) * 24 + wk f (f 0) a - f 0 % 24 := by
  intro k
  induction k with
  | zero =>
    intro i h9 h
    exact absurd h (by omega)
  | succ k ih =>
    intro i h9 h
    unfold s_X1_hoursToOpening_lp2
    rw [wk_idx]
    show (if 7 < (i : Int) then (-1) else if wk f (f 0) i = -1 then s_X1_hoursToOpening_lp2 f k (i + 1) else if (i : Int) * 24 + wk f (f 0) i - f 0 % 24 ≤ 0 then s_X1_hoursToOpening_lp2 f k (i + 1) else (i : Int) * 24 + wk f (f 0) i - f 0 % 24) = -1 ∧ _ ∨ ∃ a, _ ∧ _ ∧ _ ∧ _ ∧ (if 7 < (i : Int) then (-1) else if wk f (f 0) i = -1 then s_X1_hoursToOpening_lp2 f k (i + 1) else if (i : Int) * 24 + wk f (f 0) i - f 0 % 24 ≤ 0 then s_X1_hoursToOpening_lp2 f k (i + 1) else (i : Int) * 24 + wk f (f 0) i - f 0 % 24) = _
    by_cases h7 : 7 < (i : Int)
    · rw [if_pos h7]
      exact Or.inl ⟨rfl, fun a h1 h2 => by omega⟩
    · rw [if_neg h7]
      by_cases hok : dOk f i
      · rw [if_neg hok.1, if_neg (by have := hok.2; omega)]
        exact Or.inr ⟨i, Nat.le_refl _, by omega, hok, fun a' h1 h2 => by omega, rfl⟩
      · have e : (if wk f (f 0) i = -1 then s_X1_hoursToOpening_lp2 f k (i + 1) else if (i : Int) * 24 + wk f (f 0) i - f 0 % 24 ≤ 0 then s_X1_hoursToOpening_lp2 f k (i + 1) else (i : Int) * 24 + wk f (f 0) i - f 0 % 24) = s_X1_hoursToOpening_lp2 f k (i + 1) := by
          by_cases h1 : wk f (f 0) i = -1
          · rw [if_pos h1]
          · rw [if_neg h1]
            by_cases h2 : (i : Int) * 24 + wk f (f 0) i - f 0 % 24 ≤ 0
            · rw [if_pos h2]
            · exact absurd ⟨h1, by omega⟩ hok
        rw [e]
        rcases ih (i + 1) (by omega) (by omega) with ⟨h1, h2⟩ | ⟨a, h1, h2, h3, h4, h5⟩
        · refine Or.inl ⟨h1, fun a g1 g2 => ?_⟩
          by_cases ha : a = i
          · rw [ha]; exact hok
          · exact h2 a (by omega) g2
        · refine Or.inr ⟨a, by omega, h2, h3, fun a' g1 g2 => ?_, h5⟩
          by_cases ha : a' = i
          · rw [ha]; exact hok
          · exact h4 a' (by omega) g2
def dn (x g l a : Int) : Int := if x = 0 then 0 else if g = 0 then -1 else if l = 1 then -1 else if 0 < l then x + ((a % l + x) - 1) / (l - 1) else x
theorem dn_X1 (f : Nat → Int) (j : Nat) (g : Int) : s_X1_hoursToRunDown f j g = dn (f (21 + j * 4 + 0)) g (f (21 + j * 4 + 2)) (f (21 + j * 4 + 3)) := rfl
theorem loss_cases {l : Int} (h1 : 2 ≤ l) (h2 : l ≤ 20) : l = 2 ∨ l = 3 ∨ l = 4 ∨ l = 5 ∨ l = 6 ∨ l = 7 ∨ l = 8 ∨ l = 9 ∨ l = 10 ∨ l = 11 ∨ l = 12 ∨ l = 13 ∨ l = 14 ∨ l = 15 ∨ l = 16 ∨ l = 17 ∨ l = 18 ∨ l = 19 ∨ l = 20 := by omega
theorem dn_most {l a x : Int} (h1 : 2 ≤ l) (h2 : l ≤ 20) (ha : 0 ≤ a) (hx : 1 ≤ x) (hx2 : x ≤ 200) : x ≤ x + ((a % l + x) - 1) / (l - 1) ∧ x + ((a % l + x) - 1) / (l - 1) ≤ 402 := by
  rcases loss_cases h1 h2 with rfl | rfl | rfl | rfl | rfl | rfl | rfl | rfl | rfl | rfl | rfl | rfl | rfl | rfl | rfl | rfl | rfl | rfl | rfl <;> omega
/-- what a number of hours until run down can be -/
theorem dn_range {x g l a : Int} (hx0 : 0 ≤ x) (hx : x ≤ 200) (hl : 0 ≤ l ∧ l ≤ 20) (ha : 0 ≤ a) : dn x g l a = -1 ∨ (0 ≤ dn x g l a ∧ dn x g l a ≤ 402) := by
  unfold dn
  split
  · omega
  · split
    · omega
    · split
      · omega
      · split
        · have := dn_most (l := l) (a := a) (x := x) (by omega) (by omega) ha (by omega) hx
          omega
        · omega
def mn1 (v c : Int) : Int := if c = -1 then v else if v = -1 then c else if v ≤ c then v else c
def wt1 (f : Nat → Int) : Int := if f 4 - f 0 < 0 then 0 else f 4 - f 0
def c1o (f : Nat → Int) (x : Int) (i : Nat) : Int := s_X1_hoursToRunDown f i (if s_X1_goes f i = 0 then 0 else if (i : Int) = x then 0 else 1)
theorem lp13_step (f : Nat → Int) (x : Int) (k i : Nat) (v : Int) (hi : i < 3) : s_X1_hoursToOpen_lp13 f x (k + 1) i v = s_X1_hoursToOpen_lp13 f x k (i + 1) (mn1 v (c1o f x i)) := by
  rw [s_X1_hoursToOpen_lp13, if_neg (by omega)]
  unfold mn1 c1o
  by_cases hg : s_X1_goes f i = 0
  · simp only [if_pos hg]
    (repeat' split) <;> rfl
  · simp only [if_neg hg]
    by_cases hx : (i : Int) = x
    · simp only [if_pos hx]
      (repeat' split) <;> rfl
    · simp only [if_neg hx]
      (repeat' split) <;> rfl
theorem lp13_end (f : Nat → Int) (x : Int) (k : Nat) (v : Int) : s_X1_hoursToOpen_lp13 f x (k + 1) 3 v = (if v = -1 then -1 else if v < wt1 f then wt1 f else v) := by
  rw [s_X1_hoursToOpen_lp13, if_pos (by decide)]
  rfl
theorem lp13_all (f : Nat → Int) (x : Int) : s_X1_hoursToOpen_lp13 f x 4 0 (-1) = (if mn1 (mn1 (mn1 (-1) (c1o f x 0)) (c1o f x 1)) (c1o f x 2) = -1 then -1 else if mn1 (mn1 (mn1 (-1) (c1o f x 0)) (c1o f x 1)) (c1o f x 2) < wt1 f then wt1 f else mn1 (mn1 (mn1 (-1) (c1o f x 0)) (c1o f x 1)) (c1o f x 2)) := by
  rw [lp13_step _ _ _ _ _ (by decide), lp13_step _ _ _ _ _ (by decide), lp13_step _ _ _ _ _ (by decide)]
  exact lp13_end f x 0 _
theorem hoursToOpen_at (f : Nat → Int) (x : Int) : s_X1_hoursToOpen f x = if s_X1_isLocked f = 0 then -1 else (if mn1 (mn1 (mn1 (-1) (c1o f x 0)) (c1o f x 1)) (c1o f x 2) = -1 then -1 else if mn1 (mn1 (mn1 (-1) (c1o f x 0)) (c1o f x 1)) (c1o f x 2) < wt1 f then wt1 f else mn1 (mn1 (mn1 (-1) (c1o f x 0)) (c1o f x 1)) (c1o f x 2)) := by
  unfold s_X1_hoursToOpen
  rw [show 3 + 1 - 0 = 4 by rfl, lp13_all]
theorem locked_iff (f : Nat → Int) : s_X1_isLocked f = 0 ↔ f 1 = 0 := by unfold s_X1_isLocked; split <;> omega
theorem c1o_stopped {f : Nat → Int} {i : Nat} (hg : s_X1_goes f i = 0) (j : Nat) : c1o f (i : Int) j = c1o f (-1) j := by
  unfold c1o
  by_cases hj : j = i
  · subst hj
    rw [if_pos hg, if_pos hg]
  · rw [if_neg (show ¬ ((j : Int) = (i : Int)) by omega), if_neg (show ¬ ((j : Int) = -1) by omega)]
theorem hto_stopped {f : Nat → Int} {i : Nat} (hg : s_X1_goes f i = 0) : s_X1_hoursToOpen f (i : Int) = s_X1_hoursToOpen f (-1) := by
  rw [hoursToOpen_at, hoursToOpen_at, c1o_stopped hg, c1o_stopped hg, c1o_stopped hg]
theorem windH {x : Int} : (if s_X1_areWindingHours x = 0 then (-1 : Int) else x) = if 1 ≤ x ∧ x ≤ 200 then x else -1 := by
  unfold s_X1_areWindingHours
  (repeat' split) <;> omega
def blk (g : Nat → Int) (s : Nat) : Nat → Int := fun k => if k < 33 then g (33 * s + k) else 0
def cut (f : Nat → Int) : Nat → Int := fun k => if k < 33 then f k else 0
def nx (n : Nat) : Nat := if n < 6 then n + 1 else 6
theorem save1_n (f g : Nat → Int) {n : Nat} : (s_X1_save f g n).2 = nx n := by
  unfold s_X1_save nx
  by_cases h : n < 6
  · rw [if_pos (by omega), if_pos h]
  · rw [if_neg (by omega), if_neg h]
theorem save1_at (f g : Nat → Int) {n : Nat} (hn : n ≤ 6) {s : Nat} (hs : s < nx n) : blk (s_X1_save f g n).1 s = if s + 1 = nx n then cut f else blk g (if n < 6 then s else s + 1) := by
  unfold s_X1_save
  unfold nx at hs ⊢
  funext k
  by_cases h : n < 6
  · rw [if_pos (by omega)]
    simp only [if_pos h] at hs ⊢
    by_cases h1 : s + 1 = n + 1
    · rw [if_pos h1]
      unfold blk cut va_cpy
      by_cases hk : k < 33
      · rw [if_pos hk, if_pos hk, if_pos (by omega)]
        exact congrArg _ (by omega)
      · rw [if_neg hk, if_neg hk]
    · rw [if_neg h1]
      unfold blk va_cpy
      by_cases hk : k < 33
      · rw [if_pos hk, if_pos hk, if_neg (by omega)]
      · rw [if_neg hk, if_neg hk]
  · rw [if_neg (by omega)]
    simp only [if_neg h] at hs ⊢
    by_cases h1 : s + 1 = 6
    · rw [if_pos h1]
      unfold blk cut va_cpy
      by_cases hk : k < 33
      · rw [if_pos hk, if_pos hk, if_pos (by omega)]
        exact congrArg _ (by omega)
      · rw [if_neg hk, if_neg hk]
    · rw [if_neg h1]
      unfold blk va_cpy
      by_cases hk : k < 33
      · rw [if_pos hk, if_pos hk, if_neg (by omega), if_pos (by omega)]
        exact congrArg _ (by omega)
      · rw [if_neg hk, if_neg hk]
theorem nx_le {n : Nat} (hn : n ≤ 6) : nx n ≤ 6 := by unfold nx; split <;> omega
theorem InvD_c {f f' : Nat → Int} (h : InvD f) (e : ∀ k : Nat, 14 ≤ k → k < 21 → f' k = f k) : InvD f' := by
  unfold InvD at h ⊢
  rw [e 14 (by decide) (by decide), e 15 (by decide) (by decide), e 16 (by decide) (by decide), e 17 (by decide) (by decide), e 18 (by decide) (by decide), e 19 (by decide) (by decide), e 20 (by decide) (by decide)]
  exact h
theorem InvM_c {f f' : Nat → Int} (h : InvM f) (e0 : f' 0 = f 0) (e : ∀ k : Nat, 21 ≤ k → k < 33 → f' k = f k) : InvM f' := by
  unfold InvM at h ⊢
  rw [e0, e 21 (by decide) (by decide), e 22 (by decide) (by decide), e 23 (by decide) (by decide), e 24 (by decide) (by decide), e 25 (by decide) (by decide), e 26 (by decide) (by decide), e 27 (by decide) (by decide), e 28 (by decide) (by decide), e 29 (by decide) (by decide), e 30 (by decide) (by decide), e 31 (by decide) (by decide), e 32 (by decide) (by decide)]
  exact h
/-- one of a movement's four numbers -/
def mvOk (f : Nat → Int) (q : Nat) (v : Int) : Prop := if q = 0 then 0 ≤ v ∧ v ≤ 200 else if q = 1 then v = 0 ∨ v = 1 else if q = 2 then 0 ≤ v ∧ v ≤ 20 else 0 ≤ v ∧ v ≤ f 0
theorem isDay0 {x : Int} : s_X1_isDay x = 0 ↔ (x < 0 ∨ 7 ≤ x) := by unfold s_X1_isDay; (repeat' split) <;> omega
theorem isSetting0 {x : Int} : s_X1_isSetting x = 0 ↔ (x < 0 ∨ 3 ≤ x) := by unfold s_X1_isSetting; (repeat' split) <;> omega
theorem isMovement0 {x : Int} : s_X1_isMovement x = 0 ↔ (x < 0 ∨ 3 ≤ x) := by unfold s_X1_isMovement; (repeat' split) <;> omega
theorem areWinding0 {x : Int} : s_X1_areWindingHours x = 0 ↔ (x < 1 ∨ 200 < x) := by unfold s_X1_areWindingHours; (repeat' split) <;> omega
theorem locked0 {f : Nat → Int} : s_X1_isLocked f = 0 ↔ f 1 = 0 := locked_iff f
def rn1 (f : Nat → Int) (i : Nat) : Int := if s_X1_goes f i = 0 then 0 else if f (21 + i * 4 + 0) ≤ 0 then 0 else 1
theorem some_step (f : Nat → Int) (k i : Nat) (hi : i < 3) : s_X1_someMovementRuns_lp2 f (k + 1) i = if rn1 f i = 0 then s_X1_someMovementRuns_lp2 f k (i + 1) else 1 := by
  rw [s_X1_someMovementRuns_lp2, if_neg (by omega)]
  unfold rn1
  by_cases h1 : s_X1_goes f i = 0
  · rw [if_pos h1, if_pos h1, if_pos rfl]
  · rw [if_neg h1, if_neg h1]
    by_cases h2 : f (21 + i * 4 + 0) ≤ 0
    · rw [if_pos h2, if_pos h2, if_pos rfl]
    · rw [if_neg h2, if_neg h2, if_neg (by decide)]
theorem some_at (f : Nat → Int) : s_X1_someMovementRuns f = if rn1 f 0 = 0 then (if rn1 f 1 = 0 then (if rn1 f 2 = 0 then 0 else 1) else 1) else 1 := by
  unfold s_X1_someMovementRuns
  rw [show 3 + 1 - 0 = 4 by rfl, some_step _ _ _ (by decide), some_step _ _ _ (by decide), some_step _ _ _ (by decide)]
  rfl
def dr1 (f : Nat → Int) (i : Nat) : Nat → Int := upz (upz f (21 + i * 4 + 0) 0) (21 + i * 4 + 1) 0
theorem dr1_low (f : Nat → Int) (i : Nat) {k : Nat} (hk : k < 21) : dr1 f i k = f k := by
  unfold dr1
  rw [upz_n (by omega), upz_n (by omega)]
theorem drill1_at (f1 g1 : Nat → Int) (n : Nat) : s_X1_drill_lp23 f1 g1 n 4 0 f1 = (0, (((s_X1_leaveOpen (dr1 (dr1 (dr1 f1 0) 1) 2)) 10) + 1), (upz (s_X1_leaveOpen (dr1 (dr1 (dr1 f1 0) 1) 2)) 10 (((s_X1_leaveOpen (dr1 (dr1 (dr1 f1 0) 1) 2)) 10) + 1)), (s_X1_save f1 g1 n).1, (s_X1_save f1 g1 n).2) := by
  have s : ∀ (k i : Nat) (f9 : Nat → Int), i < 3 → s_X1_drill_lp23 f1 g1 n (k + 1) i f9 = s_X1_drill_lp23 f1 g1 n k (i + 1) (dr1 f9 i) := fun k i f9 hi => by
    rw [s_X1_drill_lp23, if_neg (by omega)]
    rfl
  have e : ∀ (k : Nat) (f9 : Nat → Int), s_X1_drill_lp23 f1 g1 n (k + 1) 3 f9 = (0, (((s_X1_leaveOpen f9) 10) + 1), (upz (s_X1_leaveOpen f9) 10 (((s_X1_leaveOpen f9) 10) + 1)), (s_X1_save f1 g1 n).1, (s_X1_save f1 g1 n).2) := fun k f9 => by
    rw [s_X1_drill_lp23, if_pos (by decide)]
  rw [s 3 0 f1 (by decide), s 2 1 _ (by decide), s 1 2 _ (by decide), e 0]
theorem run1_low (f : Nat → Int) (j : Nat) {k : Nat} (hk : k < 21) : s_X1_runHour f j k = f k := by
  unfold s_X1_runHour
  (repeat' split) <;> first | rfl | rw [upz_n (by omega), upz_n (by omega)] | rw [upz_n (by omega)]
theorem run1_other (f : Nat → Int) {j j' : Nat} (hj : j < 3) (hne : j' ≠ j) : s_X1_runHour f j (21 + j' * 4 + 3) = f (21 + j' * 4 + 3) := by
  unfold s_X1_runHour
  (repeat' split) <;> first | rfl | rw [upz_n (by omega), upz_n (by omega)] | rw [upz_n (by omega)]
theorem pass_step (k i : Nat) (f : Nat → Int) (hi : i < 3) : s_X1_passHour_lp19 (k + 1) i f = s_X1_passHour_lp19 k (i + 1) (s_X1_runHour f i) := by
  rw [s_X1_passHour_lp19, if_neg (by omega)]
theorem pass_end (k : Nat) (f : Nat → Int) : s_X1_passHour_lp19 (k + 1) 3 f = f := by
  rw [s_X1_passHour_lp19, if_pos (by decide)]
end
section
/-! what holds of the state after c turns -/
def VA (c : Nat) (f : Nat → Int) : Prop := (0 ≤ f 0 ∧ f 0 ≤ 30 * (c : Int)) ∧ (f 1 = 0 ∨ f 1 = 1) ∧ (-1 ≤ f 2 ∧ f 2 ≤ 30 * (c : Int) + 300) ∧ (0 ≤ f 3 ∧ f 3 ≤ 8) ∧ (0 ≤ f 4 ∧ f 4 ≤ f 0 + 24) ∧ (f 1 = 0 → f 2 = -1 ∧ f 3 = 0 ∧ f 4 = 0) ∧ (f 3 ≤ f 5 ∧ f 5 ≤ (c : Int)) ∧ f 6 = f 7 + f 8 + f 9 ∧ (0 ≤ f 7 ∧ 0 ≤ f 8 ∧ 0 ≤ f 9) ∧ (0 ≤ f 10 ∧ f 6 + f 10 ≤ (c : Int)) ∧ (1 ≤ f 11 ∧ f 11 ≤ 9) ∧ (1 ≤ f 12 ∧ f 12 ≤ 24) ∧ (10 ≤ f 13 ∧ f 13 ≤ 5000)
def VT (f : Nat → Int) : Prop := ∀ k : Nat, 33 ≤ k → f k = 0
def VI (c : Nat) (f : Nat → Int) : Prop := (VA c f ∧ InvD f ∧ InvM f) ∧ VT f
def VG (c n : Nat) (g : Nat → Int) : Prop := ∀ s : Nat, s < n → VI c (blk g s)
theorem VI_more {c : Nat} {f : Nat → Int} (h : VI c f) : VI (c + 1) f := by
  refine ⟨⟨?_, h.1.2⟩, h.2⟩
  have hA := h.1.1
  unfold VA at hA ⊢
  omega
theorem VG_more {c n : Nat} {g : Nat → Int} (h : VG c n g) : VG (c + 1) n g := fun s hs => VI_more (h s hs)
theorem V_rng {c : Nat} (hc : c ≤ 100) {f : Nat → Int} (h : VI c f) : rng f := fun k => by
  obtain ⟨⟨hA, hD, hM⟩, hT⟩ := h
  by_cases h33 : 33 ≤ k
  · have := hT k h33
    omega
  · unfold VA at hA
    unfold InvD dy1 at hD
    unfold InvM mv1 at hM
    rcases (show k = 0 ∨ k = 1 ∨ k = 2 ∨ k = 3 ∨ k = 4 ∨ k = 5 ∨ k = 6 ∨ k = 7 ∨ k = 8 ∨ k = 9 ∨ k = 10 ∨ k = 11 ∨ k = 12 ∨ k = 13 ∨ k = 14 ∨ k = 15 ∨ k = 16 ∨ k = 17 ∨ k = 18 ∨ k = 19 ∨ k = 20 ∨ k = 21 ∨ k = 22 ∨ k = 23 ∨ k = 24 ∨ k = 25 ∨ k = 26 ∨ k = 27 ∨ k = 28 ∨ k = 29 ∨ k = 30 ∨ k = 31 ∨ k = 32 by omega) with rfl | rfl | rfl | rfl | rfl | rfl | rfl | rfl | rfl | rfl | rfl | rfl | rfl | rfl | rfl | rfl | rfl | rfl | rfl | rfl | rfl | rfl | rfl | rfl | rfl | rfl | rfl | rfl | rfl | rfl | rfl | rfl | rfl <;> omega
theorem V_mvB {c : Nat} {f : Nat → Int} (h : VI c f) : mvB f (30 * (c : Int)) := fun j hj => by
  have h1 := mv_at h.1.2.2 hj
  have hA := h.1.1
  unfold mv1 at h1
  unfold VA at hA
  exact ⟨h1.1, h1.2.1, h1.2.2.1, h1.2.2.2.1, by omega⟩
theorem V_mvs {c : Nat} (hc : c ≤ 100) {f : Nat → Int} (h : VI c f) : mvs f := mvB_mono (V_mvB h) (by omega)
theorem V_d {c : Nat} {f : Nat → Int} (h : VI c f) : ∀ k : Nat, 14 ≤ k → k < 21 → -1 ≤ f k ∧ f k ≤ 23 := fun k h1 h2 => dy_at h.1.2.1 h1 h2
theorem V_cut {c : Nat} {f : Nat → Int} (h : VI c f) : cut f = f := by
  funext k
  unfold cut
  by_cases hk : k < 33
  · rw [if_pos hk]
  · rw [if_neg hk, h.2 k (by omega)]
theorem VG_save {c n : Nat} {f g : Nat → Int} (h : VI c f) (hg : VG c n g) (hn : n ≤ 6) : VG c (nx n) (s_X1_save f g n).1 := fun s hs => by
  rw [save1_at _ _ hn hs]
  by_cases h1 : s + 1 = nx n
  · rw [if_pos h1, V_cut h]
    exact h
  · rw [if_neg h1]
    refine hg _ ?_
    unfold nx at hs h1
    by_cases h6 : n < 6
    · rw [if_pos h6]
      rw [if_pos h6] at hs h1
      omega
    · rw [if_neg h6]
      rw [if_neg h6] at hs h1
      omega
theorem V_undo {c : Nat} {f : Nat → Int} (h : VI c f) (g : Nat → Int) (n : Nat) : va_cpy g f ((n - 1) * 33) 0 33 = blk g (n - 1) := by
  funext k
  unfold va_cpy blk
  by_cases hk : k < 33
  · rw [if_pos hk, if_pos (by omega)]
    exact congrArg _ (by omega)
  · rw [if_neg hk, if_neg (by omega), h.2 k (by omega)]
theorem VA_c {c : Nat} {f f' : Nat → Int} (h : VA c f) (e : ∀ k : Nat, k < 14 → f' k = f k) : VA c f' := by
  unfold VA at h ⊢
  rw [e 0 (by decide), e 1 (by decide), e 2 (by decide), e 3 (by decide), e 4 (by decide), e 5 (by decide), e 6 (by decide), e 7 (by decide), e 8 (by decide), e 9 (by decide), e 10 (by decide), e 11 (by decide), e 12 (by decide), e 13 (by decide)]
  exact h
theorem VT_up {f : Nat → Int} (h : VT f) {p : Nat} (hp : p < 33) (v : Int) : VT (upz f p v) := fun k hk => by
  rw [upz_n (by omega)]
  exact h k hk
theorem VI_day {c : Nat} {f : Nat → Int} (h : VI c f) {d : Nat} (hd : d < 7) {v : Int} (hv : dy1 v) : VI c (upz f (14 + d) v) := by
  obtain ⟨⟨hA, hD, hM⟩, hT⟩ := h
  refine ⟨⟨VA_c hA (fun k hk => upz_n (by omega)), ?_, InvM_c hM (upz_n (by omega)) (fun k h1 h2 => upz_n (by omega))⟩, VT_up hT (by omega) _⟩
  unfold InvD dy1 at *
  rcases (show d = 0 ∨ d = 1 ∨ d = 2 ∨ d = 3 ∨ d = 4 ∨ d = 5 ∨ d = 6 by omega) with rfl | rfl | rfl | rfl | rfl | rfl | rfl <;> simp [upz] <;> omega
theorem VI_set {c : Nat} {f : Nat → Int} (h : VI c f) {d : Nat} (hd : d < 3) {v : Int} (hv : xleast d ≤ v ∧ v ≤ xmost d) : VI c (upz f (11 + d) v) := by
  obtain ⟨⟨hA, hD, hM⟩, hT⟩ := h
  refine ⟨⟨?_, InvD_c hD (fun k h1 h2 => upz_n (by omega)), InvM_c hM (upz_n (by omega)) (fun k h1 h2 => upz_n (by omega))⟩, VT_up hT (by omega) _⟩
  unfold VA xleast xmost at *
  rcases (show d = 0 ∨ d = 1 ∨ d = 2 by omega) with rfl | rfl | rfl <;> simp [upz] at hv ⊢ <;> omega
theorem VI_mv {c : Nat} {f : Nat → Int} (h : VI c f) {j q : Nat} (hj : j < 3) (hq : q < 4) {v : Int} (hv : mvOk f q v) {p1 : Nat} (e1 : p1 = 21 + j * 4 + q) : VI c (upz f p1 v) := by
  subst e1
  obtain ⟨⟨hA, hD, hM⟩, hT⟩ := h
  refine ⟨⟨VA_c hA (fun k hk => upz_n (by omega)), InvD_c hD (fun k h1 h2 => upz_n (by omega)), ?_⟩, VT_up hT (by omega) _⟩
  unfold InvM mv1 mvOk at *
  rcases (show j = 0 ∨ j = 1 ∨ j = 2 by omega) with rfl | rfl | rfl <;> rcases (show q = 0 ∨ q = 1 ∨ q = 2 ∨ q = 3 by omega) with rfl | rfl | rfl | rfl <;> simp [upz] at hv ⊢ <;> omega
/-- the numbers of the door -/
theorem VI_door {c : Nat} {f f' : Nat → Int} (h : VI c f) {c' : Nat} (hA : VA c' f') (e0 : f' 0 = f 0) (e1 : ∀ k : Nat, 14 ≤ k → f' k = f k) : VI c' f' :=
  ⟨⟨hA, InvD_c h.1.2.1 (fun k h1 _ => e1 k h1), InvM_c h.1.2.2 e0 (fun k h1 _ => e1 k (by omega))⟩, fun k hk => by rw [e1 k (by omega)]; exact h.2 k hk⟩
theorem VI_dr {c : Nat} {f : Nat → Int} (h : VI c f) {i : Nat} (hi : i < 3) : VI c (dr1 f i) :=
  VI_mv (VI_mv h (j := i) (q := 0) hi (by decide) ⟨by decide, by decide⟩ rfl) (j := i) (q := 1) hi (by decide) (Or.inl rfl) rfl
/-- hours that go by -/
theorem run_gen {f : Nat → Int} (hM : InvM f) {j : Nat} (hj : j < 3) (hs : f (21 + j * 4 + 3) < f 0) : InvM (s_X1_runHour f j) := by
  have hm := mv_at hM hj
  unfold mv1 at hm
  have hmv : ∀ (f' : Nat → Int) (q : Nat) (v : Int), InvM f' → q < 4 → mvOk f' q v → InvM (upz f' (21 + j * 4 + q) v) := fun f' q v h hq hv => by
    unfold InvM mv1 mvOk at *
    rcases (show j = 0 ∨ j = 1 ∨ j = 2 by omega) with rfl | rfl | rfl <;> rcases (show q = 0 ∨ q = 1 ∨ q = 2 ∨ q = 3 by omega) with rfl | rfl | rfl | rfl <;> simp [upz] at hv ⊢ <;> omega
  have h3 : InvM (upz f (21 + j * 4 + 3) (f (21 + j * 4 + 3) + 1)) := hmv f 3 _ hM (by decide) ⟨by omega, by omega⟩
  unfold s_X1_runHour
  by_cases hg : s_X1_goes f j = 0
  · rw [if_pos hg]
    exact hM
  · rw [if_neg hg]
    by_cases hz : f (21 + j * 4 + 0) = 0
    · rw [if_pos hz]
      exact hM
    · rw [if_neg hz]
      split
      · exact hmv _ 0 _ h3 (by decide) ⟨by omega, by omega⟩
      · exact h3
theorem VI_hour0 {c : Nat} {f : Nat → Int} (h : VI c f) (h0 : f 0 + 1 ≤ 30 * (c : Int)) : VI c (upz f 0 (f 0 + 1)) := by
  obtain ⟨⟨hA, hD, hM⟩, hT⟩ := h
  refine ⟨⟨?_, InvD_c hD (fun k h1 h2 => upz_n (by omega)), ?_⟩, VT_up hT (by omega) _⟩
  · unfold VA at *
    simp [upz]
    omega
  · unfold InvM mv1 at *
    simp [upz]
    omega
theorem VI_run {c : Nat} {f : Nat → Int} (h : VI c f) {j : Nat} (hj : j < 3) (hs : f (21 + j * 4 + 3) < f 0) : VI c (s_X1_runHour f j) := by
  refine ⟨⟨VA_c h.1.1 (fun k hk => run1_low f j (by omega)), InvD_c h.1.2.1 (fun k h1 h2 => run1_low f j (by omega)), run_gen h.1.2.2 hj hs⟩, fun k hk => ?_⟩
  have e : s_X1_runHour f j k = f k := by
    unfold s_X1_runHour
    (repeat' split) <;> first | rfl | rw [upz_n (by omega), upz_n (by omega)] | rw [upz_n (by omega)]
  rw [e]
  exact h.2 k hk
theorem VI_hour {c : Nat} {f : Nat → Int} (h : VI c f) (h0 : f 0 + 1 ≤ 30 * (c : Int)) : VI c (s_X1_passHour f) ∧ s_X1_passHour f 0 = f 0 + 1 := by
  have hz := VI_hour0 h h0
  unfold s_X1_passHour
  simp only [locked0]
  have e1 : upz f 0 (f 0 + 1) 1 = f 1 := upz_n (by decide)
  rw [e1]
  by_cases hk : f 1 = 0
  · rw [if_pos hk]
    exact ⟨hz, upz_s⟩
  · rw [if_neg hk, show 3 + 1 - 0 = 4 by rfl, pass_step _ _ _ (by decide), pass_step _ _ _ (by decide), pass_step _ _ _ (by decide), pass_end]
    have hm : ∀ j : Nat, j < 3 → f (21 + j * 4 + 3) ≤ f 0 := fun j hj => by
      have := mv_at h.1.2.2 hj
      unfold mv1 at this
      omega
    have a0 := VI_run hz (j := 0) (by decide) (by rw [upz_n (by decide), upz_s]; have := hm 0 (by decide); omega)
    have a1 := VI_run a0 (j := 1) (by decide) (by rw [run1_other _ (j := 0) (j' := 1) (by decide) (by decide), upz_n (by decide), run1_low _ _ (by decide), upz_s]; have := hm 1 (by decide); omega)
    have a2 := VI_run a1 (j := 2) (by decide) (by rw [run1_other _ (j := 1) (j' := 2) (by decide) (by decide), run1_other _ (j := 0) (j' := 2) (by decide) (by decide), upz_n (by decide), run1_low _ _ (by decide), run1_low _ _ (by decide), upz_s]; have := hm 2 (by decide); omega)
    refine ⟨a2, ?_⟩
    rw [run1_low _ _ (by decide), run1_low _ _ (by decide), run1_low _ _ (by decide), upz_s]
end
section
/-! each method that changes: its answer, and what holds behind it -/
def Good (lo : Int) (c n : Nat) (f : Nat → Int) (A : Int × Int × (Nat → Int) × (Nat → Int) × Nat) : Prop := (A.1 = 0 → lo ≤ A.2.1 ∧ A.2.1 ≤ 100000) ∧ (A.1 ≠ 0 → A.2.2.2.2 = n ∧ A.2.2.1 0 = f 0) ∧ VI (c + 1) A.2.2.1 ∧ VG (c + 1) A.2.2.2.2 A.2.2.2.1 ∧ A.2.2.2.2 ≤ 6
theorem good_no {lo : Int} {c n : Nat} {f g : Nat → Int} (h : VI c f) (hg : VG c n g) (hn : n ≤ 6) {a r : Int} (ha : a ≠ 0) : Good lo c n f (a, r, f, g, n) :=
  ⟨fun z => absurd z ha, fun _ => ⟨rfl, rfl⟩, VI_more h, VG_more hg, hn⟩
theorem good_yes {lo : Int} {c n : Nat} {f f' g : Nat → Int} (h : VI c f) (hg : VG c n g) (hn : n ≤ 6) {r : Int} (hr : lo ≤ r ∧ r ≤ 100000) (hf : VI (c + 1) f') : Good lo c n f (0, r, f', (s_X1_save f g n).1, (s_X1_save f g n).2) := by
  refine ⟨fun _ => hr, fun z => absurd rfl z, hf, ?_, ?_⟩
  · show VG (c + 1) (s_X1_save f g n).2 (s_X1_save f g n).1
    rw [save1_n]
    exact VG_more (VG_save h hg hn)
  · show (s_X1_save f g n).2 ≤ 6
    rw [save1_n]
    exact nx_le hn
section OPS
variable {c n : Nat} {f g : Nat → Int}
theorem vb_day (h : VI c f) {d : Nat} (hd : d < 7) : -1 ≤ f (14 + d) ∧ f (14 + d) ≤ 100000 := by
  have := V_d h (14 + d) (by omega) (by omega)
  omega
theorem vb_set (h : VI c f) {d : Nat} (hd : d < 3) : 0 ≤ f (11 + d) ∧ f (11 + d) ≤ 100000 := by
  have hA := h.1.1
  unfold VA at hA
  rcases (show d = 0 ∨ d = 1 ∨ d = 2 by omega) with rfl | rfl | rfl <;> simp only [Nat.reduceAdd] <;> omega
theorem vb_mv (hc : c ≤ 100) (h : VI c f) {j q p : Nat} (hj : j < 3) (hq : q < 4) (e : p = 21 + j * 4 + q) : 0 ≤ f p ∧ f p ≤ 100000 := by
  subst e
  have hm := V_mvB h j hj
  rcases (show q = 0 ∨ q = 1 ∨ q = 2 ∨ q = 3 by omega) with rfl | rfl | rfl | rfl <;> omega
theorem o_opening (h : VI c f) (hg : VG c n g) (hn : n ≤ 6) (x0 x1 : Int) : Good (-1) c n f (s_X1_opening f g n x0 x1) := by
  unfold s_X1_opening
  simp only [isDay0]
  by_cases hx : x0 < 0 ∨ 7 ≤ x0
  · rw [if_pos hx]
    exact good_no h hg hn (by decide)
  · rw [if_neg hx]
    (repeat' split) <;> first | exact good_no h hg hn (by decide) | exact good_yes h hg hn (vb_day h (d := x0.toNat) (by omega)) (VI_day (d := x0.toNat) (VI_more h) (by omega) ⟨by omega, by omega⟩)
theorem o_set (h : VI c f) (hg : VG c n g) (hn : n ≤ 6) (x0 x1 : Int) : Good 0 c n f (s_X1_set f g n x0 x1) := by
  unfold s_X1_set
  simp only [isSetting0]
  by_cases hx : x0 < 0 ∨ 3 ≤ x0
  · rw [if_pos hx]
    exact good_no h hg hn (by decide)
  · rw [if_neg hx]
    (repeat' split) <;> first | exact good_no h hg hn (by decide) | exact good_yes h hg hn (vb_set h (d := x0.toNat) (by omega)) (VI_set (d := x0.toNat) (VI_more h) (by omega) ⟨by omega, by omega⟩)
theorem o_wind (hc : c ≤ 100) (h : VI c f) (hg : VG c n g) (hn : n ≤ 6) (x0 x1 : Int) : Good 0 c n f (s_X1_wind f g n x0 x1) := by
  unfold s_X1_wind
  simp only [isMovement0, areWinding0]
  by_cases hx : x0 < 0 ∨ 3 ≤ x0
  · rw [if_pos hx]
    exact good_no h hg hn (by decide)
  · rw [if_neg hx]
    (repeat' split) <;> first | exact good_no h hg hn (by decide) | exact good_yes h hg hn (vb_mv hc h (j := x0.toNat) (q := 0) (by omega) (by decide) rfl) (VI_mv (VI_more h) (j := x0.toNat) (q := 0) (by omega) (by decide) ⟨by omega, by omega⟩ rfl)
theorem o_fault (hc : c ≤ 100) (h : VI c f) (hg : VG c n g) (hn : n ≤ 6) (x0 x1 : Int) : Good 0 c n f (s_X1_fault f g n x0 x1) := by
  unfold s_X1_fault
  simp only [isMovement0]
  by_cases hx : x0 < 0 ∨ 3 ≤ x0
  · rw [if_pos hx]
    exact good_no h hg hn (by decide)
  · rw [if_neg hx]
    split
    · exact good_yes h hg hn (vb_mv hc h (j := x0.toNat) (q := 1) (by omega) (by decide) rfl) (VI_mv (VI_more h) (j := x0.toNat) (q := 1) (by omega) (by decide) (Or.inl rfl) rfl)
    · exact good_yes h hg hn (vb_mv hc h (j := x0.toNat) (q := 1) (by omega) (by decide) rfl) (VI_mv (VI_more h) (j := x0.toNat) (q := 1) (by omega) (by decide) (Or.inr rfl) rfl)
theorem o_loss (hc : c ≤ 100) (h : VI c f) (hg : VG c n g) (hn : n ≤ 6) (x0 x1 : Int) : Good 0 c n f (s_X1_loss f g n x0 x1) := by
  unfold s_X1_loss
  simp only [isMovement0]
  by_cases hx : x0 < 0 ∨ 3 ≤ x0
  · rw [if_pos hx]
    exact good_no h hg hn (by decide)
  · rw [if_neg hx]
    (repeat' split) <;> first | exact good_no h hg hn (by decide) | exact good_yes h hg hn (vb_mv hc h (j := x0.toNat) (q := 2) (by omega) (by decide) rfl) (VI_mv (VI_more h) (j := x0.toNat) (q := 2) (by omega) (by decide) ⟨by omega, by omega⟩ rfl)
theorem o_service (hc : c ≤ 100) (h : VI c f) (hg : VG c n g) (hn : n ≤ 6) (x0 : Int) : Good 0 c n f (s_X1_service f g n x0) := by
  unfold s_X1_service
  simp only [isMovement0, locked0]
  by_cases hx : x0 < 0 ∨ 3 ≤ x0
  · rw [if_pos hx]
    exact good_no h hg hn (by decide)
  · rw [if_neg hx]
    have hA := h.1.1
    unfold VA at hA
    have hj : x0.toNat < 3 := by omega
    by_cases hlk : f 1 = 0
    · rw [if_pos hlk]
      refine good_yes h hg hn (vb_mv hc h (j := x0.toNat) (q := 3) hj (by decide) rfl) ?_
      have e : upz (upz (upz f (21 + x0.toNat * 4 + 3) 0) (21 + x0.toNat * 4 + 1) 1) (21 + x0.toNat * 4 + 2) 0 = upz (upz (upz f (21 + x0.toNat * 4 + 1) 1) (21 + x0.toNat * 4 + 2) 0) (21 + x0.toNat * 4 + 3) 0 := by
        funext k
        unfold upz
        (repeat' split) <;> first | rfl | omega
      show VI (c + 1) (upz (upz (upz f (21 + x0.toNat * 4 + 3) 0) (21 + x0.toNat * 4 + 1) 1) (21 + x0.toNat * 4 + 2) 0)
      rw [e]
      refine VI_mv (VI_mv (VI_mv (VI_more h) (j := x0.toNat) (q := 1) hj (by decide) (Or.inr rfl) rfl) (j := x0.toNat) (q := 2) hj (by decide) ⟨by decide, by decide⟩ rfl) (j := x0.toNat) (q := 3) hj (by decide) ⟨by decide, ?_⟩ rfl
      rw [upz_n (by omega), upz_n (by omega)]
      exact hA.1.1
    · rw [if_neg hlk]
      exact good_no h hg hn (by decide)
theorem o_undo (h : VI c f) (hg : VG c n g) (hn : n ≤ 6) : Good 0 c n f (s_X1_undo f g n) := by
  unfold s_X1_undo
  by_cases h0 : 0 < (n : Int)
  · rw [if_pos h0, V_undo h]
    exact ⟨fun _ => ⟨by show (0 : Int) ≤ ((n - 1 : Nat) : Int); omega, by show ((n - 1 : Nat) : Int) ≤ 100000; omega⟩, fun z => absurd rfl z, VI_more (hg _ (by omega)), fun s hs => VI_more (hg s (by have : s < n - 1 := hs; omega)), by show n - 1 ≤ 6; omega⟩
  · rw [if_neg h0]
    exact good_no h hg hn (by decide)
theorem o_lock (hc : c ≤ 100) (h : VI c f) (hg : VG c n g) (hn : n ≤ 6) : Good (-1) c n f (s_X1_lock f g n) := by
  have hA := h.1.1
  unfold VA at hA
  have rt := r_X1_hoursToOpening f (by omega) (V_d h)
  unfold s_X1_lock
  simp only [locked0]
  have hT : ∀ T : Int, -1 ≤ T → T ≤ 30 * (c : Int) + 300 → f 1 = 0 → VI (c + 1) (upz (upz f 1 1) 2 T) := fun T h1 h2 h0 => by
    refine VI_door h ?_ (by simp [upz]) (fun k hk => by rw [upz_n (by omega), upz_n (by omega)])
    unfold VA
    simp [upz]
    omega
  by_cases hl : f 1 = 0
  · rw [if_pos hl]
    (repeat' split) <;> first | exact good_no h hg hn (by decide) | exact good_yes h hg hn ⟨by omega, by omega⟩ (hT _ (by omega) (by omega) hl)
  · rw [if_neg hl]
    exact good_no h hg hn (by decide)
theorem o_open (hc : c ≤ 100) (h : VI c f) (hg : VG c n g) (hn : n ≤ 6) : Good 0 c n f (s_X1_open f g n) := by
  have hA := h.1.1
  unfold VA at hA
  unfold s_X1_open
  simp only [locked0]
  by_cases hl : f 1 = 0
  · rw [if_pos hl]
    exact good_no h hg hn (by decide)
  · rw [if_neg hl]
    by_cases ho : s_X1_hoursToOpen f (-1) = 0
    · rw [if_pos ho]
      unfold s_X1_leaveOpen s_X1_countOpening s_X1_latenessAfter
      have hcase : ∀ p : Nat, (p = 7 ∨ p = 8 ∨ p = 9) → VI (c + 1) (upz (upz (upz (upz (upz (upz f 6 ((f 6) + 1)) p ((f p) + 1)) 1 0) 2 (-1)) 3 0) 4 0) := fun p hp => by
        refine VI_door h ?_ ?_ (fun k hk => by rw [upz_n (by omega), upz_n (by omega), upz_n (by omega), upz_n (by omega), upz_n (by omega), upz_n (by omega)])
        · rcases hp with rfl | rfl | rfl <;> unfold VA <;> simp [upz] <;> omega
        · rw [upz_n (by omega), upz_n (by omega), upz_n (by omega), upz_n (by omega), upz_n (by omega), upz_n (by omega)]
      (repeat' split) <;> first | omega | exact good_yes h hg hn (by decide) (hcase 7 (by decide)) | exact good_yes h hg hn (by decide) (hcase 8 (by decide)) | exact good_yes h hg hn (by decide) (hcase 9 (by decide))
    · rw [if_neg ho]
      unfold s_X1_countEarlyTry
      by_cases ht : f 3 + 1 < f 11
      · rw [if_pos ht]
        refine good_yes h hg hn (by decide) (VI_door h ?_ ?_ (fun k hk => by rw [upz_n (by omega), upz_n (by omega)]))
        · unfold VA
          simp [upz]
          omega
        · rw [upz_n (by omega), upz_n (by omega)]
      · rw [if_neg ht]
        refine good_yes h hg hn (by decide) (VI_door h ?_ ?_ (fun k hk => by rw [upz_n (by omega), upz_n (by omega), upz_n (by omega), upz_n (by omega)]))
        · unfold VA
          simp [upz]
          omega
        · rw [upz_n (by omega), upz_n (by omega), upz_n (by omega), upz_n (by omega)]
theorem o_drill (hc : c ≤ 100) (h : VI c f) (hg : VG c n g) (hn : n ≤ 6) : Good 0 c n f (s_X1_drill f g n) := by
  have hA := h.1.1
  unfold VA at hA
  unfold s_X1_drill
  simp only [locked0]
  by_cases hl : f 1 = 0
  · rw [if_pos hl]
    exact good_no h hg hn (by decide)
  · rw [if_neg hl, show 3 + 1 - 0 = 4 by rfl, drill1_at]
    have hd : VI c (dr1 (dr1 (dr1 f 0) 1) 2) := VI_dr (VI_dr (VI_dr h (by decide)) (by decide)) (by decide)
    have lo1 : ∀ k : Nat, k < 21 → dr1 (dr1 (dr1 f 0) 1) 2 k = f k := fun k hk => by rw [dr1_low _ _ hk, dr1_low _ _ hk, dr1_low _ _ hk]
    have e10 : s_X1_leaveOpen (dr1 (dr1 (dr1 f 0) 1) 2) 10 = f 10 := by
      unfold s_X1_leaveOpen
      rw [upz_n (by decide), upz_n (by decide), upz_n (by decide), upz_n (by decide), lo1 10 (by decide)]
    rw [e10]
    refine good_yes h hg hn ⟨by omega, by omega⟩ (VI_door hd ?_ ?_ (fun k hk => ?_))
    · unfold VA s_X1_leaveOpen
      simp [upz, lo1]
      omega
    · unfold s_X1_leaveOpen
      rw [upz_n (by decide), upz_n (by decide), upz_n (by decide), upz_n (by decide), upz_n (by decide)]
    · unfold s_X1_leaveOpen
      rw [upz_n (by omega), upz_n (by omega), upz_n (by omega), upz_n (by omega), upz_n (by omega)]
theorem down_b (f : Nat → Int) : ∀ (k i : Nat) (v : Int), 0 ≤ v → v ≤ (i : Int) → i + k ≤ 4 → 0 ≤ s_X1_movementsRunDown_lp4 f k i v ∧ s_X1_movementsRunDown_lp4 f k i v ≤ 4 := by
  intro k
  induction k with
  | zero =>
    intro i v h1 h2 h3
    unfold s_X1_movementsRunDown_lp4
    decide
  | succ k ih =>
    intro i v h1 h2 h3
    rw [s_X1_movementsRunDown_lp4]
    split
    · omega
    · split
      · exact ih _ _ (by omega) (by omega) (by omega)
      · exact ih _ _ (by omega) (by omega) (by omega)
theorem pass_good (h : VI c f) (hg : VG c n g) (hn : n ≤ 6) {x0 : Int} (hx : 1 ≤ x0) (hx2 : x0 ≤ 30) : ∀ (k i : Nat) (f9 : Nat → Int), i + k = x0.toNat + 1 → i ≤ x0.toNat → VI (c + 1) f9 → f9 0 = f 0 + (i : Int) → Good 0 c n f (s_X1_pass_lp51 f g n x0 k i f9) := by
  have hA := h.1.1
  unfold VA at hA
  intro k
  induction k with
  | zero => intro i f9 h1 h2; exact absurd h1 (by omega)
  | succ k ih =>
    intro i f9 h1 h2 hr he
    rw [s_X1_pass_lp51]
    by_cases h3 : x0 ≤ (i : Int)
    · rw [if_pos h3]
      have hb := down_b f9 (3 + 1 - 0) 0 0 (by decide) (by decide) (by decide)
      exact good_yes h hg hn (r := s_X1_movementsRunDown f9) ⟨hb.1, Int.le_trans hb.2 (by decide)⟩ hr
    · rw [if_neg h3]
      obtain ⟨a, b⟩ := VI_hour hr (by omega)
      exact ih (i + 1) _ (by omega) (by omega) a (by rw [b, he]; omega)
theorem o_pass (hc : c ≤ 100) (h : VI c f) (hg : VG c n g) (hn : n ≤ 6) (x0 : Int) (hx : 1 ≤ x0) (hx2 : x0 ≤ 30) : Good 0 c n f (s_X1_pass f g n x0) ∧ (s_X1_pass f g n x0).1 = 0 := by
  have hA := h.1.1
  unfold VA at hA
  have e : s_X1_pass f g n x0 = s_X1_pass_lp51 f g n x0 (x0.toNat + 1 - 0) 0 f := by
    unfold s_X1_pass
    rw [if_neg (show ¬ x0 < 1 by omega), if_pos (show x0 ≤ 200 by omega), if_pos (show f 0 + x0 ≤ 99999 by omega)]
  rw [e]
  refine ⟨pass_good h hg hn hx hx2 _ _ _ (by omega) (by omega) (VI_more h) (by omega), ?_⟩
  have z : ∀ (k i : Nat) (f9 : Nat → Int), (s_X1_pass_lp51 f g n x0 k i f9).1 = 0 := by
    intro k
    induction k with
    | zero => intro i f9; rfl
    | succ k ih =>
      intro i f9
      unfold s_X1_pass_lp51
      split
      · rfl
      · exact ih _ _
  exact z _ _ _
/-! where nothing is refused -/
theorem z_opening (x0 x1 : Int) (h0 : 0 ≤ x0 ∧ x0 < 7) (h1 : -1 ≤ x1 ∧ x1 ≤ 23) : (s_X1_opening f g n x0 x1).1 = 0 := by
  unfold s_X1_opening
  simp only [isDay0]
  (repeat' split) <;> first | rfl | (exfalso; omega)
theorem z_set (x0 x1 : Int) (h0 : 0 ≤ x0 ∧ x0 < 3) (h1 : xleast x0.toNat ≤ x1 ∧ x1 ≤ xmost x0.toNat) : (s_X1_set f g n x0 x1).1 = 0 := by
  unfold s_X1_set
  simp only [isSetting0]
  (repeat' split) <;> first | rfl | (exfalso; omega)
theorem z_fault (x0 x1 : Int) (h0 : 0 ≤ x0 ∧ x0 < 3) : (s_X1_fault f g n x0 x1).1 = 0 := by
  unfold s_X1_fault
  simp only [isMovement0]
  (repeat' split) <;> first | rfl | (exfalso; omega)
theorem z_loss (x0 x1 : Int) (h0 : 0 ≤ x0 ∧ x0 < 3) (h1 : 0 ≤ x1 ∧ x1 ≤ 20) : (s_X1_loss f g n x0 x1).1 = 0 := by
  unfold s_X1_loss
  simp only [isMovement0]
  (repeat' split) <;> first | rfl | (exfalso; omega)
theorem z_wind (x0 x1 : Int) (h0 : 0 ≤ x0 ∧ x0 < 3) (h1 : 1 ≤ x1 ∧ x1 ≤ 200) : (s_X1_wind f g n x0 x1).1 = 0 ∨ (s_X1_wind f g n x0 x1).1 = 3 := by
  unfold s_X1_wind
  simp only [isMovement0, areWinding0]
  (repeat' split) <;> first | exact Or.inl rfl | exact Or.inr rfl | (exfalso; omega)
theorem z_service (x0 : Int) (h0 : 0 ≤ x0 ∧ x0 < 3) : (s_X1_service f g n x0).1 = 0 ∨ (s_X1_service f g n x0).1 = 3 := by
  unfold s_X1_service
  simp only [isMovement0]
  (repeat' split) <;> first | exact Or.inl rfl | exact Or.inr rfl | (exfalso; omega)
theorem z_lock : (s_X1_lock f g n).1 = 0 ∨ (s_X1_lock f g n).1 = 3 := by
  unfold s_X1_lock
  (repeat' split) <;> first | exact Or.inl rfl | exact Or.inr rfl
theorem z_open : (s_X1_open f g n).1 = 0 ∨ (s_X1_open f g n).1 = 3 := by
  unfold s_X1_open
  (repeat' split) <;> first | exact Or.inl rfl | exact Or.inr rfl
theorem z_undo : (s_X1_undo f g n).1 = 0 ∨ (s_X1_undo f g n).1 = 3 := by
  unfold s_X1_undo
  (repeat' split) <;> first | exact Or.inl rfl | exact Or.inr rfl
theorem z_drill : (s_X1_drill f g n).1 = 0 ∨ (s_X1_drill f g n).1 = 3 := by
  unfold s_X1_drill
  split
  · exact Or.inr rfl
  · rw [show 3 + 1 - 0 = 4 by rfl, drill1_at]
    exact Or.inl rfl
end OPS
end
section
/-! what the law asks behind each turn, of the looks' answers alone -/
def zr (M : Nat → Nat → Int) : Nat → Int
  | 0 => 0
  | j + 1 => if zr M j = 0 then (if M j 0 = 0 then 1 else 0) else 1
def nr (Dy : Nat → Int) : Nat → Int
  | 0 => 1
  | d + 1 => if nr Dy d = 0 then 0 else if Dy d = -1 then 1 else 0
theorem zr_01 (M : Nat → Nat → Int) : ∀ j : Nat, zr M j = 0 ∨ zr M j = 1 := by
  intro j
  cases j with
  | zero => exact Or.inl rfl
  | succ j =>
    unfold zr
    (repeat' split) <;> first | exact Or.inl rfl | exact Or.inr rfl
theorem nr_01 (Dy : Nat → Int) : ∀ j : Nat, nr Dy j = 0 ∨ nr Dy j = 1 := by
  intro j
  cases j with
  | zero => exact Or.inr rfl
  | succ j =>
    unfold nr
    (repeat' split) <;> first | exact Or.inl rfl | exact Or.inr rfl
theorem nr_none (Dy : Nat → Int) : ∀ k : Nat, (∀ d : Nat, d < k → Dy d = -1) → nr Dy k = 1 := by
  intro k
  induction k with
  | zero => intro _; rfl
  | succ k ih =>
    intro h
    unfold nr
    rw [ih (fun d hd => h d (by omega)), if_neg (by decide), if_pos (h k (by omega))]
theorem nr_all (Dy : Nat → Int) : ∀ k : Nat, nr Dy k ≠ 0 → ∀ d : Nat, d < k → Dy d = -1 := by
  intro k
  induction k with
  | zero => intro _ d hd; exact absurd hd (Nat.not_lt_zero d)
  | succ k ih =>
    intro h d hd
    unfold nr at h
    by_cases h0 : nr Dy k = 0
    · rw [if_pos h0] at h
      exact absurd rfl h
    · rw [if_neg h0] at h
      by_cases h1 : Dy k = -1
      · by_cases he : d = k
        · rw [he]; exact h1
        · exact ih h0 d (by omega)
      · rw [if_neg h1] at h
        exact absurd rfl h
theorem zr_3 (M : Nat → Nat → Int) : zr M 3 ≠ 0 ↔ (M 0 0 = 0 ∨ M 1 0 = 0 ∨ M 2 0 = 0) := by
  unfold zr zr zr zr
  (repeat' split) <;> omega
def CFc (C : Nat → Int) : Prop := (0 ≤ C 0 ∧ C 0 ≤ 99999) ∧ C 1 = C 0 / 24 % 7 ∧ C 2 = C 0 % 24 ∧ (C 3 = 0 ∨ C 3 = 1) ∧ (-1 ≤ C 5 ∧ C 5 ≤ 100300) ∧ (0 ≤ C 6 ∧ C 6 ≤ C 8) ∧ (0 ≤ C 7 ∧ C 7 ≤ 24) ∧ C 8 ≤ 1000 ∧ C 9 = C 10 + C 11 + C 12 ∧ (0 ≤ C 10 ∧ 0 ≤ C 11 ∧ 0 ≤ C 12) ∧ (0 ≤ C 13 ∧ C 9 + C 13 ≤ 1000)
def CFn (C : Nat → Int) (nn : Int) : Prop := (nn = 0 → 1 ≤ C 4 ∧ C 4 ≤ 168) ∧ (nn ≠ 0 → C 4 = -1)
def CFm (M : Nat → Nat → Int) (S RW : Nat → Int) (i : Nat) : Prop := (0 ≤ M i 0 ∧ M i 0 ≤ 200) ∧ (M i 1 = 0 ∨ M i 1 = 1) ∧ (0 ≤ M i 3 ∧ M i 3 ≤ 100000) ∧ (-1 ≤ M i 5 ∧ M i 5 ≤ 1000) ∧ (M i 5 = -1 ∨ M i 0 ≤ M i 5) ∧ (M i 5 = 0 → M i 0 = 0) ∧ (M i 0 = 0 → M i 5 = 0) ∧ (S 2 ≤ M i 3 → M i 4 = 1) ∧ (¬ S 2 ≤ M i 3 → M i 4 = 0) ∧ (M i 1 = 0 → M i 5 ≤ 0 ∧ RW i = -1)
def CFd (C : Nat → Int) (OI LA KM zz : Int) : Prop := (-1 ≤ OI ∧ OI ≤ 200000) ∧ (-200000 ≤ LA ∧ LA ≤ 300000) ∧ (-1 ≤ KM ∧ KM ≤ 2) ∧ (C 3 = 0 → C 5 = -1 ∧ C 6 = 0 ∧ C 7 = 0 ∧ OI = -1 ∧ LA = 0 ∧ KM = -1) ∧ (C 3 ≠ 0 → ((OI = 0 → zz ≠ 0 ∧ C 7 = 0) ∧ (zz ≠ 0 → C 7 = 0 → OI = 0)) ∧ (OI = -1 → LA = 1000) ∧ (OI = -1 ∨ C 7 ≤ OI))
def CFk (M : Nat → Nat → Int) (KM : Int) : Prop := KM = -1 ∨ M KM.toNat 1 = 1
def CFp (C : Nat → Int) (PU : UInt64) : Prop := (C 9 + C 13 ≤ 0 → Op.cmpValue (FP.dcmp PU FP.dconst1) .l = 0) ∧ ¬ Op.cmpValue (FP.dcmp PU FP.dconst0) .l < 0 ∧ ¬ 0 < Op.cmpValue (FP.dcmp PU FP.dconst1) .g
/-! the looks of the class have all of that -/
theorem nm_at (f : Nat → Int) (n : Nat) : s_X1_number f n 0 = f 0 ∧ s_X1_number f n 1 = f 0 / 24 % 7 ∧ s_X1_number f n 2 = f 0 % 24 ∧ s_X1_number f n 3 = f 1 ∧ s_X1_number f n 4 = s_X1_hoursToOpening f ∧ s_X1_number f n 5 = f 2 ∧ s_X1_number f n 6 = f 3 ∧ s_X1_number f n 7 = (if f 4 - f 0 < 0 then 0 else f 4 - f 0) ∧ s_X1_number f n 8 = f 5 ∧ s_X1_number f n 9 = f 6 ∧ s_X1_number f n 10 = f 7 ∧ s_X1_number f n 11 = f 8 ∧ s_X1_number f n 12 = f 9 ∧ s_X1_number f n 13 = f 10 ∧ s_X1_number f n 14 = (n : Int) := by
  refine ⟨?_, ?_, ?_, ?_, ?_, ?_, ?_, ?_, ?_, ?_, ?_, ?_, ?_, ?_, ?_⟩ <;> simp [s_X1_number]
theorem pr_at (f : Nat → Int) (j : Nat) : s_X1_property f j 0 = f (21 + j * 4 + 0) ∧ s_X1_property f j 1 = f (21 + j * 4 + 1) ∧ s_X1_property f j 3 = f (21 + j * 4 + 3) ∧ s_X1_property f j 4 = (if f (21 + j * 4 + 3) < f 13 then 0 else 1) ∧ s_X1_property f j 5 = s_X1_hoursToRunDown f j (s_X1_goes f j) := by
  refine ⟨?_, ?_, ?_, ?_, ?_⟩ <;> simp [s_X1_property]
section CF
variable {c n : Nat} {f : Nat → Int}
theorem cf_c (hc : c ≤ 100) (h : VI c f) : CFc (s_X1_number f n) := by
  obtain ⟨e0, e1, e2, e3, e4, e5, e6, e7, e8, e9, e10, e11, e12, e13, e14⟩ := nm_at f n
  have hA := h.1.1
  unfold VA at hA
  unfold CFc
  rw [e0, e1, e2, e3, e5, e6, e7, e8, e9, e10, e11, e12, e13]
  (repeat' split) <;> omega
theorem open_at (hc : c ≤ 100) (h : VI c f) : CFn (s_X1_number f n) (nr (fun d => f (14 + d)) 7) := by
  have hA := h.1.1
  unfold VA at hA
  have e4 := (nm_at f n).2.2.2.2.1
  unfold CFn
  rw [e4]
  have hr : ∀ a : Nat, -1 ≤ wk f (f 0) a ∧ wk f (f 0) a ≤ 23 := fun a => V_d h _ (by omega) (by omega)
  rcases dLoop f (8 + 1 - 0) 0 (by omega) (by omega) with ⟨g1, g2⟩ | ⟨a, ga, g2, g3, g4, g5⟩
  · have hv : s_X1_hoursToOpening f = -1 := g1
    rw [hv]
    have hn : nr (fun d => f (14 + d)) 7 = 1 := nr_none _ 7 (fun d hd => by
      show f (14 + d) = -1
      have hx : ¬ dOk f (((((d : Int) - f 0 / 24) % 7 + 6) % 7 + 1).toNat) := g2 _ (Nat.zero_le _) (by omega)
      have ea : ((((((d : Int) - f 0 / 24) % 7 + 6) % 7 + 1).toNat : Nat) : Int) = (((d : Int) - f 0 / 24) % 7 + 6) % 7 + 1 := by omega
      have ew : wk f (f 0) (((((d : Int) - f 0 / 24) % 7 + 6) % 7 + 1).toNat) = f (14 + d) := by
        unfold wk
        rw [ea]
        exact congrArg f (by omega)
      have hd1 := V_d h (14 + d) (by omega) (by omega)
      unfold dOk at hx
      rw [ew, ea] at hx
      omega)
    rw [hn]
    exact ⟨fun z => absurd z (by decide), fun _ => rfl⟩
  · have hv : s_X1_hoursToOpening f = (a : Int) * 24 + wk f (f 0) a - f 0 % 24 := g5
    rw [hv]
    have hra := hr a
    have hd := g3
    unfold dOk at hd
    have h168 : (a : Int) * 24 + wk f (f 0) a - f 0 % 24 ≤ 168 := by
      by_cases ha : a = 7
      · subst ha
        have e7 : wk f (f 0) 7 = wk f (f 0) 0 := by
          unfold wk
          rw [show (f 0 / 24 + ((7 : Nat) : Int)) % 7 = (f 0 / 24 + ((0 : Nat) : Int)) % 7 by omega]
        have hn := g4 0 (Nat.le_refl _) (by decide)
        unfold dOk at hn
        rw [e7] at hd hra ⊢
        omega
      · omega
    have hn : nr (fun d => f (14 + d)) 7 = 0 := by
      rcases nr_01 (fun d => f (14 + d)) 7 with e | e
      · exact e
      · have := nr_all (fun d => f (14 + d)) 7 (by rw [e]; decide) (((f 0 / 24 + (a : Int)) % 7).toNat) (by omega)
        exact absurd this hd.1
    exact ⟨fun _ => ⟨by omega, h168⟩, fun z => absurd hn z⟩
theorem cf_m (hc : c ≤ 100) (h : VI c f) {i : Nat} (hi : i < 3) : CFm (s_X1_property f) (fun i => f (11 + i)) (s_X1_hoursToWind f) i := by
  obtain ⟨e0, e1, e3, e4, e5⟩ := pr_at f i
  have hA := h.1.1
  unfold VA at hA
  have hm := mv_at h.1.2.2 hi
  unfold mv1 at hm
  unfold CFm
  rw [e0, e1, e3, e4, e5]
  have hw : s_X1_goes f i = 0 → s_X1_hoursToWind f i = -1 := fun hg => by
    unfold s_X1_hoursToWind
    by_cases ho : s_X1_hoursToOpening f = -1
    · rw [if_pos ho]
    · rw [if_neg ho, if_pos hg]
  have hg0 : f (21 + i * 4 + 1) = 0 → s_X1_goes f i = 0 := fun e => by unfold s_X1_goes; rw [if_pos e]
  have hd : (-1 ≤ s_X1_hoursToRunDown f i (s_X1_goes f i) ∧ s_X1_hoursToRunDown f i (s_X1_goes f i) ≤ 1000) ∧ (s_X1_hoursToRunDown f i (s_X1_goes f i) = -1 ∨ f (21 + i * 4 + 0) ≤ s_X1_hoursToRunDown f i (s_X1_goes f i)) ∧ (s_X1_hoursToRunDown f i (s_X1_goes f i) = 0 → f (21 + i * 4 + 0) = 0) ∧ (f (21 + i * 4 + 0) = 0 → s_X1_hoursToRunDown f i (s_X1_goes f i) = 0) ∧ (s_X1_goes f i = 0 → s_X1_hoursToRunDown f i (s_X1_goes f i) ≤ 0) := by
    rw [dn_X1]
    unfold dn
    by_cases hx : f (21 + i * 4 + 0) = 0
    · rw [if_pos hx]
      omega
    · rw [if_neg hx]
      by_cases hg : s_X1_goes f i = 0
      · rw [if_pos hg]
        omega
      · rw [if_neg hg]
        by_cases h1 : f (21 + i * 4 + 2) = 1
        · rw [if_pos h1]
          omega
        · rw [if_neg h1]
          by_cases h2 : 0 < f (21 + i * 4 + 2)
          · rw [if_pos h2]
            have hq := dn_most (l := f (21 + i * 4 + 2)) (a := f (21 + i * 4 + 3)) (x := f (21 + i * 4 + 0)) (by omega) (by omega) (by omega) (by omega) (by omega)
            omega
          · rw [if_neg h2]
            omega
  refine ⟨by omega, by omega, by omega, hd.1, hd.2.1, hd.2.2.1, hd.2.2.2.1, fun h9 => ?_, fun h9 => ?_, fun h9 => ⟨hd.2.2.2.2 (hg0 h9), hw (hg0 h9)⟩⟩
  · have h9 : f 13 ≤ f (21 + i * 4 + 3) := h9
    rw [if_neg (by omega)]
  · have h9 : ¬ f 13 ≤ f (21 + i * 4 + 3) := h9
    rw [if_pos (by omega)]
theorem c1o_m (f : Nat → Int) (i : Nat) : c1o f (-1) i = s_X1_property f i 5 := by
  rw [(pr_at f i).2.2.2.2]
  unfold c1o
  congr 1
  rcases b_X1_goes f i with e | e
  · rw [e, if_pos rfl]
  · rw [e, if_neg (by decide), if_neg (by omega)]
theorem key_lp (f : Nat → Int) (v : Int) : ∀ (k i : Nat), i + k = 4 → i ≤ 3 → s_X1_keyMovement_lp8 f k i v = -1 ∨ ∃ j : Nat, j < 3 ∧ s_X1_keyMovement_lp8 f k i v = (j : Int) ∧ s_X1_hoursToOpen f (j : Int) ≠ v := by
  intro k
  induction k with
  | zero => intro i h1 h2; exact absurd h1 (by omega)
  | succ k ih =>
    intro i h1 h2
    rw [s_X1_keyMovement_lp8]
    by_cases h3 : 3 ≤ (i : Int)
    · rw [if_pos h3]
      exact Or.inl rfl
    · rw [if_neg h3]
      by_cases h4 : s_X1_hoursToOpen f (i : Int) = v
      · rw [if_pos h4]
        exact ih _ (by omega) (by omega)
      · rw [if_neg h4]
        exact Or.inr ⟨i, by omega, rfl, h4⟩
theorem cf_k (hc : c ≤ 100) (h : VI c f) : CFk (s_X1_property f) (s_X1_keyMovement f) ∧ (-1 ≤ s_X1_keyMovement f ∧ s_X1_keyMovement f ≤ 2) ∧ (f 1 = 0 → s_X1_keyMovement f = -1) := by
  have hk := key_lp f (s_X1_hoursToOpen f (-1)) (3 + 1 - 0) 0 (by decide) (by decide)
  have e : s_X1_keyMovement f = s_X1_keyMovement_lp8 f (3 + 1 - 0) 0 (s_X1_hoursToOpen f (-1)) := rfl
  rw [← e] at hk
  unfold CFk
  rcases hk with hk | ⟨j, hj, hk, hne⟩
  · rw [hk]
    exact ⟨Or.inl rfl, by decide, fun _ => rfl⟩
  · rw [hk]
    refine ⟨Or.inr ?_, by omega, fun h0 => ?_⟩
    · rw [show ((j : Int)).toNat = j from rfl, (pr_at f j).2.1]
      have hm := mv_at h.1.2.2 hj
      unfold mv1 at hm
      rcases hm.2.1 with e0 | e0
      · exact absurd (hto_stopped (f := f) (i := j) (by unfold s_X1_goes; rw [if_pos e0])) hne
      · exact e0
    · exfalso
      apply hne
      unfold s_X1_hoursToOpen
      rw [if_pos (locked0.mpr h0), if_pos (locked0.mpr h0)]
theorem cf_d (hc : c ≤ 100) (h : VI c f) : CFd (s_X1_number f n) (s_X1_hoursToOpen f (-1)) (s_X1_lateness f) (s_X1_keyMovement f) (zr (s_X1_property f) 3) := by
  obtain ⟨e0, e1, e2, e3, e4, e5, e6, e7, e8, e9, e10, e11, e12, e13, e14⟩ := nm_at f n
  have hA := h.1.1
  unfold VA at hA
  have hk := cf_k hc h
  have m0 := cf_m hc h (i := 0) (by decide)
  have m1 := cf_m hc h (i := 1) (by decide)
  have m2 := cf_m hc h (i := 2) (by decide)
  unfold CFm at m0 m1 m2
  have z3 := zr_3 (s_X1_property f)
  have ho : s_X1_hoursToOpen f (-1) = if s_X1_isLocked f = 0 then -1 else (if mn1 (mn1 (mn1 (-1) (s_X1_property f 0 5)) (s_X1_property f 1 5)) (s_X1_property f 2 5) = -1 then -1 else if mn1 (mn1 (mn1 (-1) (s_X1_property f 0 5)) (s_X1_property f 1 5)) (s_X1_property f 2 5) < wt1 f then wt1 f else mn1 (mn1 (mn1 (-1) (s_X1_property f 0 5)) (s_X1_property f 1 5)) (s_X1_property f 2 5)) := by
    rw [hoursToOpen_at, c1o_m, c1o_m, c1o_m]
  have hla : s_X1_lateness f = if f 1 = 0 then 0 else if s_X1_hoursToOpen f (-1) = -1 then 1000 else if f 2 = -1 then 0 else f 0 + (if s_X1_hoursToOpen f (-1) < 1 then 1 else s_X1_hoursToOpen f (-1)) - f 2 := by
    unfold s_X1_lateness s_X1_latenessAfter
    simp only [locked0]
  simp only [locked0] at ho
  generalize hM : mn1 (mn1 (mn1 (-1) (s_X1_property f 0 5)) (s_X1_property f 1 5)) (s_X1_property f 2 5) = mm at ho
  have hmm : (-1 ≤ mm ∧ mm ≤ 1000) ∧ (mm = 0 → s_X1_property f 0 5 = 0 ∨ s_X1_property f 1 5 = 0 ∨ s_X1_property f 2 5 = 0) ∧ ((s_X1_property f 0 5 = 0 ∨ s_X1_property f 1 5 = 0 ∨ s_X1_property f 2 5 = 0) → mm = 0) := by
    rw [← hM]
    unfold mn1
    (repeat' split) <;> omega
  have hwt : wt1 f = if f 4 - f 0 < 0 then 0 else f 4 - f 0 := rfl
  have hoR : -1 ≤ s_X1_hoursToOpen f (-1) ∧ s_X1_hoursToOpen f (-1) ≤ 2000 := by
    rw [ho, hwt]
    (repeat' split) <;> omega
  unfold CFd
  rw [e3, e5, e6, e7]
  refine ⟨⟨hoR.1, by omega⟩, ?_, hk.2.1, fun h0 => ?_, fun h0 => ?_⟩
  · rw [hla]
    (repeat' split) <;> omega
  · refine ⟨by omega, by omega, ?_, ?_, ?_, hk.2.2 h0⟩
    · rw [if_pos (by omega)]
    · rw [ho, if_pos h0]
    · rw [hla, if_pos h0]
  · refine ⟨⟨fun h1 => ?_, fun h1 h2 => ?_⟩, fun h1 => ?_, ?_⟩
    · rw [ho, if_neg h0, hwt] at h1
      rw [z3]
      (repeat' split at h1) <;> (repeat' split) <;> omega
    · rw [z3] at h1
      rw [ho, if_neg h0, hwt, h2]
      (repeat' split) <;> omega
    · rw [hla, if_neg h0, if_pos h1]
    · rw [ho, if_neg h0, hwt]
      (repeat' split) <;> omega
end CF
end
section
/-! the share of the doors, held against 0 and 1 -/
def shB (a b : Nat) : Bool := decide (¬ Op.cmpValue (FP.dcmp (FP.ddiv (FP.i2d (jI (a : Int))) (FP.i2d (jI (b : Int)))) FP.dconst0) .l < 0) && decide (¬ 0 < Op.cmpValue (FP.dcmp (FP.ddiv (FP.i2d (jI (a : Int))) (FP.i2d (jI (b : Int)))) FP.dconst1) .g)
theorem shB_all : ∀ b : Nat, b < 42 → ∀ a : Nat, a < b + 1 → 0 < b → shB a b = true := by decide +kernel
theorem cf_p {c n : Nat} {f : Nat → Int} (hc : c ≤ 41) (h : VI c f) : CFp (s_X1_number f n) (s_X1_punctuality f) := by
  obtain ⟨e0, e1, e2, e3, e4, e5, e6, e7, e8, e9, e10, e11, e12, e13, e14⟩ := nm_at f n
  have hA := h.1.1
  unfold VA at hA
  unfold CFp
  rw [e9, e13]
  unfold s_X1_punctuality
  by_cases h0 : f 6 + f 10 = 0
  · rw [if_pos h0]
    exact ⟨fun _ => by decide, by decide, by decide⟩
  · rw [if_neg h0]
    have hs := shB_all (f 6 + f 10).toNat (by omega) (f 7).toNat (by omega) (by omega)
    unfold shB at hs
    rw [show (((f 7).toNat : Nat) : Int) = f 7 by omega, show (((f 6 + f 10).toNat : Nat) : Int) = f 6 + f 10 by omega] at hs
    have hs2 := (Bool.and_eq_true _ _).mp hs
    exact ⟨fun z => by omega, of_decide_eq_true hs2.1, of_decide_eq_true hs2.2⟩
end
