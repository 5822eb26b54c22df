/-! what the start gives -/
theorem xB_in : ∀ w ∈ xB, w ∈ lw_tbl := by decide +kernel
theorem st_in : ∀ q ∈ xtexts, Cond.stringRef RX1 q.1 q.2 ∈ lw_tbl := by decide +kernel
section ENVS
variable {s : State} {b : Addr}
theorem tab_of {C n : String} {N : Nat} {f : Nat → Int} (hts : ∀ w ∈ lw_tbl, w.before #[Value.ref b] s = true) (hl : Cond.laysStatic C n "[I" ∈ lw_tbl) (hini : Cond.initialized C ∈ lw_tbl) (hN : N < 2 ^ 31) (harr : (Cond.arrayOf (.static C n "[I") .int).before #[Value.ref b] s = true) (hlen : (Cond.eq (.length (.static C n "[I")) (.int (Int32.ofNat N))).before #[Value.ref b] s = true)
    (hel : ∀ j : Nat, j < N → (Cond.eq (.elem (.static C n "[I") (.int (Int32.ofNat j))) (.int (jI (f j)))).before #[Value.ref b] s = true) : ∃ t : Nat, va_Z C n "[I" (.ref t) (fun q => s.heap.size ≤ q) s s.heap ∧ va_T .int t N (fun j => .int (jI (f j))) (fun q => s.heap.size ≤ q) s s.heap := by
  have hA : ∀ a : Nat, a < s.heap.size → ¬ (fun q : Nat => s.heap.size ≤ q) a := fun a h => Nat.not_le.mpr h
  obtain ⟨t, h1, h2⟩ := va_Tof (A := fun q => s.heap.size ≤ q) hN harr (va_eqt hlen) (fun j hj => va_eqt (hel j hj)) hA
  exact ⟨t, va_Zref (hts _ hl) (hts _ hini) h1 hA, h2⟩
theorem env_x (hts : ∀ w ∈ lw_tbl, w.before #[Value.ref b] s = true) (hgv : (Jvm.Cond.and given_1 narrow_1).before #[Value.ref b] s = true) {c1 : ClassId} (hc1 : s.vm.findClass RX1 = some c1) : xenv (fun q => s.heap.size ≤ q) s := by
  have hA : ∀ a : Nat, a < s.heap.size → ¬ (fun q : Nat => s.heap.size ≤ q) a := fun a h => Nat.not_le.mpr h
  have hs := flat_of_before _ hgv
  refine ⟨vx_Zqof (hts _ (by decide +kernel)) (hts _ (by decide +kernel)) (hs _ (by decide +kernel)) hA, vx_Zqof (hts _ (by decide +kernel)) (hts _ (by decide +kernel)) (hs _ (by decide +kernel)) hA, fun q hq => ?_, fun w hw => va_Nw.of (xB_face w hw).1 (hts w (xB_in w hw)), ⟨va_Nc.of (hs (.not (.castable xA xS)) (by decide +kernel)), va_Nc.of (hs (.not (.castable xI xS)) (by decide +kernel)), va_Nc.of (hs (.not (.castable xI xS)) (by decide +kernel))⟩, ?_, ?_⟩
  · have h1 := hts _ (st_in q hq)
    obtain ⟨k, cf, i, a, -, -, -, -, -, h2⟩ := Cond.stringRef_spec (args := #[Value.ref b]) (first := s) (o := none) (s := s) (idx := []) hc1 h1
    exact ⟨a, vk_R.of h1 h2⟩
  · refine tab_of hts (by decide +kernel) (by decide +kernel) (by decide) (hs _ (by decide +kernel)) (hs _ (by decide +kernel)) (fun j hj => ?_)
    rcases (show j = 0 ∨ j = 1 ∨ j = 2 by omega) with rfl | rfl | rfl
    · exact hs (.eq (.elem (.static "VaultMovements" "SETTING_LEAST" "[I") (.int 0)) (.int 1)) (by decide +kernel)
    · exact hs (.eq (.elem (.static "VaultMovements" "SETTING_LEAST" "[I") (.int 1)) (.int 1)) (by decide +kernel)
    · exact hs (.eq (.elem (.static "VaultMovements" "SETTING_LEAST" "[I") (.int 2)) (.int 10)) (by decide +kernel)
  · refine tab_of hts (by decide +kernel) (by decide +kernel) (by decide) (hs _ (by decide +kernel)) (hs _ (by decide +kernel)) (fun j hj => ?_)
    rcases (show j = 0 ∨ j = 1 ∨ j = 2 by omega) with rfl | rfl | rfl
    · exact hs (.eq (.elem (.static "VaultMovements" "SETTING_MOST" "[I") (.int 0)) (.int 9)) (by decide +kernel)
    · exact hs (.eq (.elem (.static "VaultMovements" "SETTING_MOST" "[I") (.int 1)) (.int 24)) (by decide +kernel)
    · exact hs (.eq (.elem (.static "VaultMovements" "SETTING_MOST" "[I") (.int 2)) (.int 5000)) (by decide +kernel)
theorem env_y (hts : ∀ w ∈ lw_tbl, w.before #[Value.ref b] s = true) (hgv : (Jvm.Cond.and given_1 narrow_1).before #[Value.ref b] s = true) : yenv (fun q => s.heap.size ≤ q) s := by
  have hs := flat_of_before _ hgv
  refine ⟨va_Nw.of rfl (hts (.methodLinkNest RX1 28 yX0_init RX1) (by decide +kernel)), ?_⟩
  refine tab_of hts (by decide +kernel) (by decide +kernel) (by decide) (hs _ (by decide +kernel)) (hs _ (by decide +kernel)) (fun j hj => ?_)
  rcases (show j = 0 ∨ j = 1 ∨ j = 2 by omega) with rfl | rfl | rfl
  · exact hs (.eq (.elem (.static "VaultMovements" "SETTING_AT_FIRST" "[I") (.int 0)) (.int 3)) (by decide +kernel)
  · exact hs (.eq (.elem (.static "VaultMovements" "SETTING_AT_FIRST" "[I") (.int 1)) (.int 2)) (by decide +kernel)
  · exact hs (.eq (.elem (.static "VaultMovements" "SETTING_AT_FIRST" "[I") (.int 2)) (.int 500)) (by decide +kernel)
/-- the class of the arrays of ints -/
theorem cI_of (harr : (Cond.arrayClass .int).before #[Value.ref b] s = true) : ∃ cI : ClassId, ArrOfT s cI .int ∧ va_RA s cI .int := by
  obtain ⟨cA, kA, comp, h1, h2, h3⟩ := Cond.arrayClass_spec harr
  exact ⟨cA, fun n z => ⟨fun k h => (by cases h), kA, h2, comp, h3⟩, h1⟩
end ENVS
/-- the state at the beginning -/
theorem VI_0 : VI 0 F1_0 := by
  refine ⟨⟨?_, ?_, ?_⟩, fun k hk => ?_⟩
  · unfold VA
    simp [upz, xfirst]
  · unfold InvD dy1
    simp [upz, xfirst]
  · unfold InvM mv1
    simp [upz, xfirst]
  · unfold F1_0 upz
    simp only []
    omega
