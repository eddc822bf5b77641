/-! the start: what the tables' words say of the classes and arrays -/
theorem st_in0 : ∀ w ∈ wsX00, w ∈ lw_tbl := by decide +kernel
theorem st_in2 : ∀ w ∈ wsX20, w ∈ lw_tbl := by decide +kernel
theorem st_I {args : Array Value} {s : State} (h : (Cond.arrayClass .int).before args s = true) : ∃ c, ArrOfT s c .int ∧ va_RA s c .int := by
  obtain ⟨c, k, comp, h1, h2, h3⟩ := Cond.arrayClass_spec h
  exact ⟨c, fun n z => ⟨fun k h => (by cases h), k, h2, comp, h3⟩, h1⟩
theorem st_in1 : ∀ w ∈ wsX10, w ∈ lw_tbl := by decide +kernel
theorem st_in3 : ∀ w ∈ wsX30, w ∈ lw_tbl := by decide +kernel
theorem st_ci : Cond.instantiable RX0 10 ∈ lw_tbl ∧ Cond.instantiable RX1 10 ∈ lw_tbl ∧ Cond.instantiable RX2 2 ∈ lw_tbl ∧ Cond.instantiable RX3 7 ∈ lw_tbl := by decide +kernel
theorem st_ca : Cond.arrayClass .int ∈ lw_tbl ∧ Cond.arrayOver (.array .int) ∈ lw_tbl := by decide +kernel
theorem st_nest : Cond.methodLinkNest RX3 11 yX2_init "FridgeGossip" ∈ lw_tbl ∧ Cond.methodLinkNest RX3 18 yX0_init "FridgeGossip" ∈ lw_tbl := by decide +kernel
/-- the classes' own facts, at some numbers -/
theorem st_C {args : Array Value} {s : State} (hts : ∀ w ∈ lw_tbl, w.before args s = true) : ∃ D : va_G, ∀ (c : Nat) (q : vw_C), vwCl[c]? = some q → u_Kn s q.1 q.2.1 q.2.2 (D.1 c) (D.2 c) := by
  obtain ⟨c0, i0, k0⟩ := u_known (n := 10) hts st_in0 (hts _ st_ci.1)
  obtain ⟨c1, i1, k1⟩ := u_known (n := 10) hts st_in1 (hts _ st_ci.2.1)
  obtain ⟨c2, i2, k2⟩ := u_known (n := 2) hts st_in2 (hts _ st_ci.2.2.1)
  obtain ⟨c3, i3, k3⟩ := u_known (n := 7) hts st_in3 (hts _ st_ci.2.2.2)
  refine ⟨(fun c => [c0, c1, c2, c3].getD c c0, fun c => [i0, i1, i2, i3].getD c i0), fun c q hq => ?_⟩
  match c, hq with
  | 0, hq => cases hq; exact k0
  | 1, hq => cases hq; exact k1
  | 2, hq => cases hq; exact k2
  | 3, hq => cases hq; exact k3
  | n + 4, hq => cases hq
/-- the array of arrays' class -/
theorem st_A {args : Array Value} {s : State} (h : (Cond.arrayOver (.array .int)).before args s = true) : ∃ c, ArrOfT s c (.array .int) ∧ va_RA s c (.array .int) := by
  obtain ⟨comp, c, k, h1, h2, h3, h4, h5⟩ := Stand.arrayOver_specB (t := .int) h
  exact ⟨c, fun n z => ⟨fun k h => (by cases h), k, h3, comp, h4⟩, h5⟩
/-- the machine's own facts at the start: the classes, the two arrays -/
theorem st_K {args : Array Value} {s : State} (hts : ∀ w ∈ lw_tbl, w.before args s = true) : ∃ (D : va_G) (cI cII : ClassId), va_K D vwCl (cT cI cII) s := by
  obtain ⟨D, hC⟩ := st_C hts
  obtain ⟨cI, hI⟩ := st_I (hts _ st_ca.1)
  obtain ⟨cII, hA⟩ := st_A (hts _ st_ca.2)
  refine ⟨D, cI, cII, hC, fun k q hq => ?_⟩
  match k, hq with
  | 0, hq => cases hq; exact hI
  | 1, hq => cases hq; exact hA
  | n + 2, hq => cases hq
theorem st_N {args : Array Value} {s : State} (hts : ∀ w ∈ lw_tbl, w.before args s = true) (hg : (Jvm.Cond.and given_1 narrow_1).before args s = true) : wzN s ∧ va_AOA .int s ∧ va_Nw (.methodLinkNest RX3 11 yX2_init "FridgeGossip") s ∧ va_Nw (.methodLinkNest RX3 18 yX0_init "FridgeGossip") s :=
  ⟨⟨va_Nc.of (flat_of_before _ hg (.not (.castable "java/lang/IllegalArgumentException" "java/lang/IndexOutOfBoundsException")) (by decide +kernel)), va_Nc.of (flat_of_before _ hg (.not (.castable "java/lang/IllegalStateException" "java/lang/IndexOutOfBoundsException")) (by decide +kernel)), va_Nc.of (flat_of_before _ hg (.not (.castable "java/lang/IllegalStateException" "java/lang/IllegalArgumentException")) (by decide +kernel))⟩,
    va_AOA.use (args := #[]) (by have z := hts _ st_ca.2; simpa only [va_AOA, Cond.before, Cond.holds, Cond.value] using z), va_Nw.of rfl (hts _ st_nest.1), va_Nw.of rfl (hts _ st_nest.2)⟩
theorem st_xWd : ∀ w ∈ xWd, w ∈ lw_tbl := by decide +kernel
theorem st_xL : Cond.laysStatic Bundle.tN "UNASSIGNED_STACK" Bundle.steD ∈ lw_tbl ∧ Cond.initialized Bundle.tN ∈ lw_tbl ∧ Cond.laysStatic Bundle.tN "SUPPRESSED_SENTINEL" Bundle.listD ∈ lw_tbl := by decide +kernel
theorem st_xZ {args : Array Value} {s : State} {A : Nat → Prop} (hts : ∀ w ∈ lw_tbl, w.before args s = true) (hg : (Jvm.Cond.and given_1 narrow_1).before args s = true) (hA : ∀ a : Nat, a < s.heap.size → ¬ A a) : vx_Zq Bundle.tN "UNASSIGNED_STACK" Bundle.steD A s s.heap ∧ vx_Zq Bundle.tN "SUPPRESSED_SENTINEL" Bundle.listD A s s.heap :=
  ⟨vx_Zqof (hts _ st_xL.1) (hts _ st_xL.2.1) (flat_of_before _ hg (.isRef (.static Bundle.tN "UNASSIGNED_STACK" Bundle.steD)) (by decide +kernel)) hA, vx_Zqof (hts _ st_xL.2.2) (hts _ st_xL.2.1) (flat_of_before _ hg (.isRef (.static Bundle.tN "SUPPRESSED_SENTINEL" Bundle.listD)) (by decide +kernel)) hA⟩
theorem st_xT : ∀ q ∈ xTx, Cond.stringRef RX3 q.1 q.2 ∈ lw_tbl := by decide +kernel
theorem st_T {args : Array Value} {s : State} (hts : ∀ w ∈ lw_tbl, w.before args s = true) : ∃ sa : Nat → Nat, ∀ (i : Nat) (q : Nat × String), xTx[i]? = some q → vk_R RX3 q.1 q.2 (sa i) s := by
  obtain ⟨cur, kC, hfc, -⟩ := Cond.instantiable_spec (hts _ st_ci.2.2.2)
  have h : ∀ i : Nat, ∃ a : Nat, ∀ q : Nat × String, xTx[i]? = some q → vk_R RX3 q.1 q.2 a s := by
    intro i
    cases hi : xTx[i]? with
    | none => exact ⟨0, fun q hq => nomatch hq⟩
    | some x =>
      have hm := hts _ (st_xT x (List.mem_of_getElem? hi))
      obtain ⟨k, cf, j, a, -, -, -, -, -, ha⟩ := Cond.stringRef_spec hfc hm
      exact ⟨a, fun q hq => by cases hq; exact vk_R.of hm ha⟩
  exact ⟨fun i => Classical.choose (h i), fun i => Classical.choose_spec (h i)⟩
/-- what a throw reads, at the start, for any set of addresses that holds none of the start's -/
theorem st_F {args : Array Value} {s : State} (hts : ∀ w ∈ lw_tbl, w.before args s = true) (hg : (Jvm.Cond.and given_1 narrow_1).before args s = true) : ∃ sa : Nat → Nat, ∀ A : Nat → Prop, (∀ a : Nat, a < s.heap.size → ¬ A a) → xF A sa s := by
  obtain ⟨sa, h⟩ := st_T hts
  exact ⟨sa, fun A hA => ⟨fun w hw => va_Nw.of (xWd_on w hw) (hts w (st_xWd w hw)), st_xZ hts hg hA, h⟩⟩
