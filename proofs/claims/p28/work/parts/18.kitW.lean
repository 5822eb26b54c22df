/-! worlds side by side; the law's own methods, that call and catch -/
theorem va_D_iff {A : Nat → Prop} {ws : va_W} : va_D A ws ↔ (ws.map Prod.fst).Nodup ∧ ∀ a ∈ ws.map Prod.fst, A a := by
  constructor
  · intro h
    refine ⟨?_, ?_⟩
    · rw [List.nodup_iff_pairwise_ne, List.pairwise_iff_getElem]
      intro i j hi hj hij he
      rw [List.length_map] at hi hj
      have h1 : ws[i]? = some ws[i] := List.getElem?_eq_getElem hi
      have h2 : ws[j]? = some ws[j] := List.getElem?_eq_getElem hj
      rw [List.getElem_map, List.getElem_map] at he
      exact absurd (h.1 i j _ _ h1 h2 he) (by omega)
    · intro a ha
      obtain ⟨q, hq, rfl⟩ := List.mem_map.mp ha
      obtain ⟨k, hk⟩ := List.getElem?_of_mem hq
      exact h.2 k q hk
  · rintro ⟨hn, hA⟩
    refine ⟨?_, ?_⟩
    · intro i j p q hp hq he
      have hi : i < ws.length := (List.getElem?_eq_some_iff.mp hp).1
      have hj : j < ws.length := (List.getElem?_eq_some_iff.mp hq).1
      have e1 := (List.getElem?_eq_some_iff.mp hp).2
      have e2 := (List.getElem?_eq_some_iff.mp hq).2
      have hn2 := List.pairwise_iff_getElem.mp (List.nodup_iff_pairwise_ne.mp hn)
      rcases Nat.lt_trichotomy i j with h | h | h
      · refine absurd ?_ (hn2 i j (by rw [List.length_map]; exact hi) (by rw [List.length_map]; exact hj) h)
        rw [List.getElem_map, List.getElem_map, e1, e2]
        exact he
      · exact h
      · refine absurd ?_ (hn2 j i (by rw [List.length_map]; exact hj) (by rw [List.length_map]; exact hi) h)
        rw [List.getElem_map, List.getElem_map, e1, e2]
        exact he.symm
    · intro k q hq
      exact hA _ (List.mem_map_of_mem (List.mem_of_getElem? hq))
theorem va_D_perm {A : Nat → Prop} {ws ws' : va_W} (h : va_D A ws) (hp : (ws.map Prod.fst).Perm (ws'.map Prod.fst)) : va_D A ws' := by
  rw [va_D_iff] at h ⊢
  exact ⟨hp.nodup h.1, fun a ha => h.2 a (hp.mem_iff.mpr ha)⟩
theorem va_D_left {A : Nat → Prop} {x y : va_W} (h : va_D A (x ++ y)) : va_D A x := by
  rw [va_D_iff] at h ⊢
  rw [List.map_append] at h
  exact ⟨(List.nodup_append.mp h.1).1, fun a ha => h.2 a (List.mem_append_left _ ha)⟩
theorem va_D_swap {A : Nat → Prop} {x y : va_W} (h : va_D A (x ++ y)) : va_D A (y ++ x) := va_D_perm h (by rw [List.map_append, List.map_append]; exact List.perm_append_comm)
theorem va_keep {D : va_G} {A : Nat → Prop} {x y : va_W} {H H1 : Heap} (hD : va_D A (x ++ y)) (hP : va_P D vwCl y H) (hk : ∀ q : Nat, q < H.size → ¬ va_A x H.size q → H1[q]? = H[q]?) : va_P D vwCl y H1 := by
  refine hP.kept (fun k q hq => ?_)
  have hlt := (hP k q hq).lt
  refine hk _ hlt ?_
  rintro (⟨i, e, hi⟩ | h)
  · have h1 : (x ++ y)[i]? = some (q.1, e) := by
      rw [List.getElem?_append_left (List.getElem?_eq_some_iff.mp hi).1]
      exact hi
    have h2 : (x ++ y)[x.length + k]? = some q := by
      rw [List.getElem?_append_right (by omega), Nat.add_sub_cancel_left]
      exact hq
    have h3 := hD.1 _ _ _ _ h1 h2 rfl
    have h4 := (List.getElem?_eq_some_iff.mp hi).1
    omega
  · omega
theorem va_Asub {A : Nat → Prop} {x y : va_W} {H0 H : Heap} {locs : List Loc} (hD : va_D A (x ++ y)) (hS : va_S A H0 H locs) (hA : ∀ q, H0.size ≤ q → A q) : ∀ q, va_A x H.size q → A q := fun q h => by
  rcases h with ⟨k, e, h⟩ | h
  · exact (va_D_left hD).2 k (q, e) h
  · exact hA q (Nat.le_trans hS.1 h)
/-- the law's array of one long -/
abbrev wO (cL : ClassId) (o : Nat) (u : Nat → Int64) : va_W := [(o, .inl (cL, 1, .inr (.inl u)))]
abbrev kO (cI cL : ClassId) : List (ClassId × FieldType) := [(cI, .int), (cL, .long)]
abbrev xq_L (D : va_G) (cI cL : ClassId) (av : List Value) (w : va_W) (sz : Nat) : Array Value → State → Prop := va_Pc av (fun U => U.heap.size = sz ∧ va_P D vwCl w U.heap ∧ va_K D vwCl (kO cI cL) U ∧ va_D (fun _ => True) w ∧ xenv (va_A w sz) U)
theorem xq_Lbl {D : va_G} {cI cL : ClassId} {av : List Value} {w : va_W} {sz : Nat} : FrameBlind (xq_L D cI cL av w sz) := fun a U g mk q => ⟨q.1, q.2.1, q.2.2.1, va_K.moved (u := U) (U := U.calling g mk a) (Vm.Alike.refl U.vm) q.2.2.2.1, q.2.2.2.2.1, xenv.to (s := U) (U := U.calling g mk a) (locs := []) q.2.2.2.2.2 va_S.rf rfl (State.WarmedH.refl U) (fun _ h => h)⟩
/-- a call of the law's: the answer is km of the code; where that is 0, the long is the answer -/
def MetL (l : Launch) (y : MethodName) (ws : List Cond) (rm : Room) (D : va_G) (cI cL : ClassId) (av : List Value) (w w1 : va_W) (o : Nat) (ou : Nat → Int64) (code r : Int) (km : Int → Int) : Prop := ∀ sz : Nat, Met l y ws rm (xq_L D cI cL av (w ++ wO cL o ou) sz) (va_Qi (fun x (u : Nat → Int64) => x = jI (km code) ∧ (code = 0 → u 0 = (jI r).toInt64)) (fun u t => va_P D vwCl (w1 ++ wO cL o u) t.heap) (va_A (w ++ wO cL o ou) sz)) 1 6 (va_A (w ++ wO cL o ou) sz)
section XLM
variable {l : Launch} {y : MethodName} {ws ws' : List Cond} {rm : Room} {D : va_G} {cI cL : ClassId} {av : List Value} {w w1 : va_W} {o : Nat} {ou : Nat → Int64} {code r : Int} {km : Int → Int} {cc : ByteArray} {maxL : Nat} {ret : Option FieldType} {hh : List (Nat × Nat × Nat × Nat)}
theorem xe_L (hy : plainName y.cls = true) (hw : ws = Cond.codeWith y cc maxL ret hh :: ws') (hlen : (lg_sl av).length ≤ maxL)
    (body : ∀ (p : Program) (e : Env) (s : State) (m : MethodId) (below : List Frame) (meth : Method) (c : Code), p.tables.exec = Jvm.exec → c.code = cc → meth.sig.returnType = ret → c.maxLocals = maxL → (∀ z ∈ ws, z.before av.toArray s = true) → s.vm.findClass y.cls = some m.cls → meth.locks = false → c.exceptionTable.toList = tableOf hh →
      va_P D vwCl (w ++ wO cL o ou) s.heap → va_K D vwCl (kO cI cL) s → ∀ A : Nat → Prop, (∀ q, s.heap.size ≤ q → A q) → va_D A (w ++ wO cL o ou) → va_S A s.heap s.heap [] → xenv A s → ∀ ls : Array Slot, lv_has ls maxL (lv_args 0 av) →
      W p l e rm s m av.toArray below meth c s.heap [] 0 0 (MQ below (va_Qi (fun x (u : Nat → Int64) => x = jI (km code) ∧ (code = 0 → u 0 = (jI r).toInt64)) (fun u t => va_P D vwCl (w1 ++ wO cL o u) t.heap) A) av.toArray s 1 6 A) (F0 m 0 ls [])) : MetL l y ws rm D cI cL av w w1 o ou code r km := by
  intro sz
  refine va_MetW (hh := hh) hy hw ?_
  intro p e s m args below meth c s₁ B hml hv
  obtain ⟨rfl, hsz, hP, hK, hD0, hE⟩ := hv
  subst hsz
  have hl := lv_entry av (n := maxL) hlen
  rw [lg_entry_eq]
  have hts := atoms_spec (ws := ws) B.pre
  exact body p e s m below meth c B.exec B.bytes B.returns hml hts (findClass_of_methodNamed B.named) B.notSynchronized (vx_table (x := y) B (hts _ (by rw [hw]; exact List.mem_cons_self))) hP hK (va_A (w ++ wO cL o ou) s.heap.size) (fun q h => Or.inr h) hD0.self va_S.rf hE _ hl
end XLM
section XWC
variable {p : Program} {l : Launch} {e : Env} {R : Room} {s : State} {m : MethodId} {args : Array Value} {below : List Frame} {meth : Method} {c : Code} {H : Heap} {locs : List Loc} {cells slots : Nat} {Q : State → Prop}
variable {cc : ByteArray} {pc : Nat} {ls : Array Slot} {rest st0 : List Value} {D : va_G} {cI cL : ClassId} {A : Nat → Prop} {w w1 wr : va_W} {tys : List (ClassId × FieldType)}
variable {y : MethodName} {bytes : ByteArray} {maxL nL n index : Nat} {ret : Option FieldType} {ws : List Cond} {rm : Room} {Ts : List Cond} {own C : String} {b : Addr} {As : List Value} {code r : Int}
/-- a call of a method that may throw, beside other cells -/
theorem xw_T (S : CallFix p m c cc nL s args Ts own) (hM : MetT l y ws rm D cI (.ref b :: As) w w1 code r) (cw : CallW R s args own C index y bytes maxL ret ws rm 1 6 n) (hP : va_P D vwCl w H) (hR : va_P D vwCl wr H) (hD : va_D A (w ++ wr)) (hS : va_S A s.heap H locs) (hA : ∀ q, s.heap.size ≤ q → A q) (hK : va_K D vwCl [(cI, .int)] s) (hE : xenv A s) (q0 : Nat) {ci : Nat} {fs : List Value} {q : vw_C} (he : w[q0]? = some (b, .inr (ci, fs))) (hc : vwCl[ci]? = some q) (hC : q.1 = C) (hn : As.length = n) (hl : ls.size = nL) (hst : st0 = As.reverse ++ .ref b :: rest) (hsum : (rest.map fun v => v.category).sum ≤ 8) (hdg : decode cc pc = .ok (.invokevirtual index, 3)) (hf : cells + 1 ≤ R.cells ∧ slots + 6 ≤ R.slots)
    (kx : ∀ (E : String) (ce : Cell) (q9 : Addr) (H1 : Heap) (locs1 : List Loc), code ≠ 0 → E = xex code → va_P D vwCl w1 H1 → va_P D vwCl wr H1 → va_S A s.heap H1 locs1 → H1[q9]? = some ce → ce.vm = .none → s.vm.findClass E = some ce.cls → vx_W p l e R s m args below meth c H1 locs1 (cells + 1) (slots + 6) Q (F0 m pc ls rest) q9)
    (kk : ∀ (H1 : Heap) (locs1 : List Loc), code = 0 → va_P D vwCl w1 H1 → va_P D vwCl wr H1 → va_S A s.heap H1 locs1 → W p l e R s m args below meth c H1 locs1 (cells + 1) (slots + 6) Q (F0 m (pc + 3) ls (.int (jI r) :: rest))) : W p l e R s m args below meth c H locs cells slots Q (F0 m pc ls st0) := by
  subst hC
  have hF := va_Asub hD hS hA
  refine vx_calli (vx_runV (As := As) (rest := rest) S (hM H.size) cw ⟨xq_Tbl, va_recv hK hP hc he, fun U hU hW => ⟨rfl, by rw [hU], by rw [hU]; exact hP, va_K.moved hW.alike hK, (va_D_left hD).weaken (fun _ _ _ _ => trivial), hE.to hS hU hW hF⟩⟩ rfl hn hl hst (lv_room hsum) hdg hf) hS (fun q _ h => hF q h) hF (fun q _ h => hF q h) (fun E ce q9 u t H1 locs1 ht hvm hpx hB hz1 hk1 hS1 hce hcv hcl => ?_) (fun x u t H1 locs1 ht hvm hw hB hz1 hk1 hS1 => ?_)
  · obtain ⟨hEx, hP1, -, -⟩ := hB
    rw [ht] at hP1
    exact kx E ce q9 H1 locs1 hpx hEx hP1 (va_keep hD hR hk1) hS1 hce hcv hcl
  · obtain ⟨hP1, -, -⟩ := hB
    rw [ht] at hP1
    rw [hw.2]
    exact kk H1 locs1 hw.1 hP1 (va_keep hD hR hk1) hS1
/-- a law's method at its end -/
theorem xl_end {k : Int} {u : Nat → Int64} {o : Nat} {km : Int → Int} (hx : p.tables.exec = Jvm.exec) (hb : c.code = cc) (hr : meth.sig.returnType = some .int) (hlocks : meth.locks = false) (hP : va_P D vwCl (w1 ++ wO cL o u) H) (hS : va_S A s.heap H locs) (hk : k = km code) (hu : code = 0 → u 0 = (jI r).toInt64) (hdg : decode cc pc = .ok (.ireturn, 1)) : W p l e R s m args below meth c H locs 1 6 (MQ below (va_Qi (fun x (u : Nat → Int64) => x = jI (km code) ∧ (code = 0 → u 0 = (jI r).toInt64)) (fun u t => va_P D vwCl (w1 ++ wO cL o u) t.heap) A) args s 1 6 A) (F0 m pc ls [.int (jI k)]) :=
  W.iret hx hb hr (fun t ht hW => ⟨⟨_, u, rfl, ⟨congrArg jI hk, hu⟩, by show va_P D vwCl (w1 ++ wO cL o u) t.heap; rw [ht]; exact hP⟩, hS.F ht⟩) hS.2.2 hdg hlocks
theorem va_P_left {x y : va_W} (h : va_P D vwCl (x ++ y) H) : va_P D vwCl x H := fun k q hq => h k q (by rw [List.getElem?_append_left (List.getElem?_eq_some_iff.mp hq).1]; exact hq)
theorem va_P_right {x y : va_W} (h : va_P D vwCl (x ++ y) H) : va_P D vwCl y H := fun k q hq => h (x.length + k) q (by rw [List.getElem?_append_right (by omega), Nat.add_sub_cancel_left]; exact hq)
/-- the answer into the law's long -/
theorem xl_put {o : Nat} {u : Nat → Int64} {x : Int64} (hx : p.tables.exec = Jvm.exec) (hb : c.code = cc) (hK : va_K D vwCl (kO cI cL) s) (hP : va_P D vwCl w1 H) (hR : va_P D vwCl (wO cL o u) H) (hD : va_D A (w1 ++ wO cL o u)) {H0 : Heap} (hS : va_S A H0 H locs) (hdg : decode cc pc = .ok (.lastore, 1))
    (kk : ∀ (H1 : Heap) (locs1 : List Loc), va_P D vwCl (w1 ++ wO cL o (vp_updL u 0 x)) H1 → va_S A H0 H1 locs1 → W p l e R s m args below meth c H1 locs1 cells slots Q (F0 m (pc + 1) ls rest)) : W p l e R s m args below meth c H locs cells slots Q (F0 m pc ls (.long x :: .int (jI 0) :: .ref o :: rest)) := by
  have hin : vp_in (jI 0) 1 := by
    have e : jI 0 = nI 0 := jI_nat 0
    rw [e]
    exact vp_in_nI (by decide) (by decide)
  refine va_last hx hb hK (hP.app hR) hD hS w1.length 1 (by rw [List.getElem?_append_right (Nat.le_refl _), Nat.sub_self]; rfl) rfl hin hdg (fun H1 locs1 hP1 hD1 hS1 => kk H1 locs1 ?_ hS1)
  have e0 : (jI 0).toNatClampNeg = 0 := by decide
  rw [e0, List.set_append_right _ _ (Nat.le_refl _), Nat.sub_self] at hP1
  exact hP1
end XWC
