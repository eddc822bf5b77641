/-! the checks -/
def eIX : String := "java/lang/IndexOutOfBoundsException"
def eIA : String := "java/lang/IllegalArgumentException"
def eIS : String := "java/lang/IllegalStateException"
def eName (k : Nat) : String := if k = 1 then eIX else if k = 2 then eIA else eIS
theorem cw_retz {p : Program} {l : Launch} {e9 : Env} {R : Room} {s : State} {m : MethodId} {args : Array Value} {below : List Frame} {meth : Method} {c : Code} {H : Heap} {locs : List Loc} {cells slots : Nat} {cc : ByteArray} {pc nL mc ms : Nat} {ls : Array Slot} {Ts : List Cond} {own : String} {D : va_G} {u : Nat → Nat} {cI cII : ClassId} {V : Nat → Nat → Int32} {pq sp : Int32} {cn : Nat} {e : Option Nat} {sz : Nat} {b : Nat → Nat → Int32} {L L0 : List Nat} {w : Nat → Nat → Int32} {nx : Nat → Option Nat} {z0 : Nat} {Post : PostC} {v : Int32} (bb : Bool) (hv : v = bI bb) (F : CallFix p m c cc nL s args Ts own) (hr : meth.sig.returnType = some .boolean) (hlocks : meth.locks = false) (hP : va_P D vwCl (cW u cI cII V pq sp cn e sz b L w nx) H) (hS : va_S (cG u L0 z0) s.heap H locs) (hpost : Post v 0 V pq sp cn e sz b L w nx) (hc : cells ≤ mc) (hs : slots ≤ ms) (hdg : decode cc pc = .ok (.ireturn, 1)) :
    W p l e9 R s m args below meth c H locs cells slots (MQ below (cw_Q D u cI cII z0 L0 kI Post) args s mc ms (cG u L0 z0)) (F0 m pc ls [.int v]) :=
  W.widen hc hs (W.zret F.1 F.2.1 hr (by rw [hv]; exact bI_nar bb) (fun t ht hW => ⟨⟨v, 0, V, pq, sp, cn, e, sz, b, L, w, nx, rfl, hpost, by rw [ht]; exact hP⟩, hS.F ht⟩) hS.2.2 hdg hlocks)
def nOk (n bd : Int32) : Bool := !decide (n < 0) && decide (n < bd)
def roomOk (sz : Nat) (more : Int32) : Bool := decide (nI sz + more ≤ 240)
def opnOk (V : Nat → Nat → Int32) (k : Nat) : Bool := decide (V 6 k = 1)
def rOk (x lo hi : Int32) : Bool := !decide (x < lo) && decide (x ≤ hi)
set_option maxHeartbeats 4000000 in
set_option maxRecDepth 100000 in
theorem cc_X3_checkNumber {l : Launch} (hfl : l.stackTraces = false) {D : va_G} {cI cII : ClassId} {sa : Nat → Nat} {u : Nat → Nat} {V : Nat → Nat → Int32} {pq sp : Int32} {cn : Nat} {e : Option Nat} {sz : Nat} {b : Nat → Nat → Int32} {L : List Nat} {w : Nat → Nat → Int32} {nx : Nat → Option Nat} {z0 : Nat} (hN : (cAd u ++ L).Nodup) (n : Int32) (bd : Int32)  : xc_Met l yX3_checkNumber wsX3_checkNumber 6 1 6 90 D u cI cII sa z0 L (cW u cI cII V pq sp cn e sz b L w nx) [.int n, .int bd] kV (fun r ra V9 pq9 sp9 cn9 e9 sz9 b9 L9 w9 nx9 => nOk n bd = true ∧ cEq 0 V pq sp cn e sz b L w nx r ra V9 pq9 sp9 cn9 e9 sz9 b9 L9 w9 nx9) (fun E r ra V9 pq9 sp9 cn9 e9 sz9 b9 L9 w9 nx9 => E = eIX ∧ nOk n bd = false ∧ cEq 0 V pq sp cn e sz b L w nx r ra V9 pq9 sp9 cn9 e9 sz9 b9 L9 w9 nx9) := by
  suffices h9 : ∀ L0, L0 = L → xc_Met l yX3_checkNumber wsX3_checkNumber 6 1 6 90 D u cI cII sa z0 L0 (cW u cI cII V pq sp cn e sz b L w nx) [.int n, .int bd] kV (fun r ra V9 pq9 sp9 cn9 e9 sz9 b9 L9 w9 nx9 => nOk n bd = true ∧ cEq 0 V pq sp cn e sz b L w nx r ra V9 pq9 sp9 cn9 e9 sz9 b9 L9 w9 nx9) (fun E r ra V9 pq9 sp9 cn9 e9 sz9 b9 L9 w9 nx9 => E = eIX ∧ nOk n bd = false ∧ cEq 0 V pq sp cn e sz b L w nx r ra V9 pq9 sp9 cn9 e9 sz9 b9 L9 w9 nx9) by exact h9 _ rfl
  intro L0 hL0
  have hLz : ∀ a, a ∈ L → a ∈ L0 ∨ z0 ≤ a := fun a z => Or.inl (by rw [hL0]; exact z)
  refine xc_start rfl (by decide +kernel) (Nat.le_of_ble_eq_true rfl) (fun p e9 s m below meth c F hr hlocks hK hz H locs hP hS hz9 hX hout ls hl => ?_)
  have hl : lv_has ls 2 [(0, .int n), (1, .int bd)] := hl
  have hx := F.1
  have hb := F.2.1
  refine lv_iload_n hx hb dX3_checkNumber_0 rfl (lv_at hl 0 rfl) ?_
  refine lv_if_lt (tgt := 9) hx hb dX3_checkNumber_1 (by decide) (fun c_1 => ?_) (fun c_1 => ?_)
  · skip
    exact xt_throw F hfl hP hS hX hout hlocks hl.1 "java/lang/IndexOutOfBoundsException" 154 156 158 0 "there is none of this number" rfl (by decide +kernel) rfl (by decide +kernel) (by decide +kernel) (by decide +kernel) xn_IX xg_IX dX3_checkNumber_9 dX3_checkNumber_12 dX3_checkNumber_13 dX3_checkNumber_15 dX3_checkNumber_18 ⟨(Nat.le_of_ble_eq_true rfl), (Nat.le_of_ble_eq_true rfl), (Nat.le_of_ble_eq_true rfl), (Nat.le_of_ble_eq_true rfl)⟩ (⟨rfl, by simp [nOk, c_1], ⟨rfl, rfl, rfl, rfl, rfl, rfl, rfl, rfl, rfl, rfl, rfl⟩⟩) (Nat.le_of_ble_eq_true rfl) (Nat.le_of_ble_eq_true rfl)
  · skip
    refine lv_iload_n hx hb dX3_checkNumber_4 rfl (lv_at hl 0 rfl) ?_
    refine lv_iload_n hx hb dX3_checkNumber_5 rfl (lv_at hl 1 rfl) ?_
    refine lv_icmp_lt (tgt := 19) hx hb dX3_checkNumber_6 (by decide) (fun c_2 => ?_) (fun c_2 => ?_)
    · skip
      refine vx_ret ?_
      exact cw_retv F hr hlocks hP hS (⟨by simp [nOk, c_1, c_2], ⟨rfl, rfl, rfl, rfl, rfl, rfl, rfl, rfl, rfl, rfl, rfl⟩⟩) (by omega) (by omega) dX3_checkNumber_19
    · skip
      exact xt_throw F hfl hP hS hX hout hlocks hl.1 "java/lang/IndexOutOfBoundsException" 154 156 158 0 "there is none of this number" rfl (by decide +kernel) rfl (by decide +kernel) (by decide +kernel) (by decide +kernel) xn_IX xg_IX dX3_checkNumber_9 dX3_checkNumber_12 dX3_checkNumber_13 dX3_checkNumber_15 dX3_checkNumber_18 ⟨(Nat.le_of_ble_eq_true rfl), (Nat.le_of_ble_eq_true rfl), (Nat.le_of_ble_eq_true rfl), (Nat.le_of_ble_eq_true rfl)⟩ (⟨rfl, by simp [nOk, c_1, c_2], ⟨rfl, rfl, rfl, rfl, rfl, rfl, rfl, rfl, rfl, rfl, rfl⟩⟩) (Nat.le_of_ble_eq_true rfl) (Nat.le_of_ble_eq_true rfl)
set_option maxHeartbeats 4000000 in
set_option maxRecDepth 100000 in
theorem cc_X3_checkRange {l : Launch} (hfl : l.stackTraces = false) {D : va_G} {cI cII : ClassId} {sa : Nat → Nat} {u : Nat → Nat} {V : Nat → Nat → Int32} {pq sp : Int32} {cn : Nat} {e : Option Nat} {sz : Nat} {b : Nat → Nat → Int32} {L : List Nat} {w : Nat → Nat → Int32} {nx : Nat → Option Nat} {z0 : Nat} (hN : (cAd u ++ L).Nodup) (x : Int32) (lo : Int32) (hi : Int32)  : xc_Met l yX3_checkRange wsX3_checkRange 6 1 6 90 D u cI cII sa z0 L (cW u cI cII V pq sp cn e sz b L w nx) [.int x, .int lo, .int hi] kV (fun r ra V9 pq9 sp9 cn9 e9 sz9 b9 L9 w9 nx9 => rOk x lo hi = true ∧ cEq 0 V pq sp cn e sz b L w nx r ra V9 pq9 sp9 cn9 e9 sz9 b9 L9 w9 nx9) (fun E r ra V9 pq9 sp9 cn9 e9 sz9 b9 L9 w9 nx9 => E = eIA ∧ rOk x lo hi = false ∧ cEq 0 V pq sp cn e sz b L w nx r ra V9 pq9 sp9 cn9 e9 sz9 b9 L9 w9 nx9) := by
  suffices h9 : ∀ L0, L0 = L → xc_Met l yX3_checkRange wsX3_checkRange 6 1 6 90 D u cI cII sa z0 L0 (cW u cI cII V pq sp cn e sz b L w nx) [.int x, .int lo, .int hi] kV (fun r ra V9 pq9 sp9 cn9 e9 sz9 b9 L9 w9 nx9 => rOk x lo hi = true ∧ cEq 0 V pq sp cn e sz b L w nx r ra V9 pq9 sp9 cn9 e9 sz9 b9 L9 w9 nx9) (fun E r ra V9 pq9 sp9 cn9 e9 sz9 b9 L9 w9 nx9 => E = eIA ∧ rOk x lo hi = false ∧ cEq 0 V pq sp cn e sz b L w nx r ra V9 pq9 sp9 cn9 e9 sz9 b9 L9 w9 nx9) by exact h9 _ rfl
  intro L0 hL0
  have hLz : ∀ a, a ∈ L → a ∈ L0 ∨ z0 ≤ a := fun a z => Or.inl (by rw [hL0]; exact z)
  refine xc_start rfl (by decide +kernel) (Nat.le_of_ble_eq_true rfl) (fun p e9 s m below meth c F hr hlocks hK hz H locs hP hS hz9 hX hout ls hl => ?_)
  have hl : lv_has ls 3 [(0, .int x), (1, .int lo), (2, .int hi)] := hl
  have hx := F.1
  have hb := F.2.1
  refine lv_iload_n hx hb dX3_checkRange_0 rfl (lv_at hl 0 rfl) ?_
  refine lv_iload_n hx hb dX3_checkRange_1 rfl (lv_at hl 1 rfl) ?_
  refine lv_icmp_lt (tgt := 10) hx hb dX3_checkRange_2 (by decide) (fun c_1 => ?_) (fun c_1 => ?_)
  · skip
    exact xt_throw F hfl hP hS hX hout hlocks hl.1 "java/lang/IllegalArgumentException" 84 159 88 1 "an argument is out of its range" rfl (by decide +kernel) rfl (by decide +kernel) (by decide +kernel) (by decide +kernel) xn_IA xg_IA dX3_checkRange_10 dX3_checkRange_13 dX3_checkRange_14 dX3_checkRange_16 dX3_checkRange_19 ⟨(Nat.le_of_ble_eq_true rfl), (Nat.le_of_ble_eq_true rfl), (Nat.le_of_ble_eq_true rfl), (Nat.le_of_ble_eq_true rfl)⟩ (⟨rfl, by simp [rOk, c_1], ⟨rfl, rfl, rfl, rfl, rfl, rfl, rfl, rfl, rfl, rfl, rfl⟩⟩) (Nat.le_of_ble_eq_true rfl) (Nat.le_of_ble_eq_true rfl)
  · skip
    refine lv_iload_n hx hb dX3_checkRange_5 rfl (lv_at hl 0 rfl) ?_
    refine lv_iload_n hx hb dX3_checkRange_6 rfl (lv_at hl 2 rfl) ?_
    refine lv_icmp_le (tgt := 20) hx hb dX3_checkRange_7 (by decide) (fun c_2 => ?_) (fun c_2 => ?_)
    · skip
      refine vx_ret ?_
      exact cw_retv F hr hlocks hP hS (⟨by simp [rOk, c_1, c_2], ⟨rfl, rfl, rfl, rfl, rfl, rfl, rfl, rfl, rfl, rfl, rfl⟩⟩) (by omega) (by omega) dX3_checkRange_20
    · skip
      exact xt_throw F hfl hP hS hX hout hlocks hl.1 "java/lang/IllegalArgumentException" 84 159 88 1 "an argument is out of its range" rfl (by decide +kernel) rfl (by decide +kernel) (by decide +kernel) (by decide +kernel) xn_IA xg_IA dX3_checkRange_10 dX3_checkRange_13 dX3_checkRange_14 dX3_checkRange_16 dX3_checkRange_19 ⟨(Nat.le_of_ble_eq_true rfl), (Nat.le_of_ble_eq_true rfl), (Nat.le_of_ble_eq_true rfl), (Nat.le_of_ble_eq_true rfl)⟩ (⟨rfl, by simp [rOk, c_1, c_2], ⟨rfl, rfl, rfl, rfl, rfl, rfl, rfl, rfl, rfl, rfl, rfl⟩⟩) (Nat.le_of_ble_eq_true rfl) (Nat.le_of_ble_eq_true rfl)
set_option maxHeartbeats 4000000 in
set_option maxRecDepth 100000 in
theorem cc_X3_checkRoomFor {l : Launch} (hfl : l.stackTraces = false) {D : va_G} {cI cII : ClassId} {sa : Nat → Nat} {u : Nat → Nat} {V : Nat → Nat → Int32} {pq sp : Int32} {cn : Nat} {e : Option Nat} {sz : Nat} {b : Nat → Nat → Int32} {L : List Nat} {w : Nat → Nat → Int32} {nx : Nat → Option Nat} {z0 : Nat} (hN : (cAd u ++ L).Nodup) (more : Int32)  : xc_Met l yX3_checkRoomFor wsX3_checkRoomFor 6 1 6 90 D u cI cII sa z0 L (cW u cI cII V pq sp cn e sz b L w nx) [.ref (u 30), .int more] kV (fun r ra V9 pq9 sp9 cn9 e9 sz9 b9 L9 w9 nx9 => roomOk sz more = true ∧ cEq 0 V pq sp cn e sz b L w nx r ra V9 pq9 sp9 cn9 e9 sz9 b9 L9 w9 nx9) (fun E r ra V9 pq9 sp9 cn9 e9 sz9 b9 L9 w9 nx9 => E = eIS ∧ roomOk sz more = false ∧ cEq 0 V pq sp cn e sz b L w nx r ra V9 pq9 sp9 cn9 e9 sz9 b9 L9 w9 nx9) := by
  suffices h9 : ∀ L0, L0 = L → xc_Met l yX3_checkRoomFor wsX3_checkRoomFor 6 1 6 90 D u cI cII sa z0 L0 (cW u cI cII V pq sp cn e sz b L w nx) [.ref (u 30), .int more] kV (fun r ra V9 pq9 sp9 cn9 e9 sz9 b9 L9 w9 nx9 => roomOk sz more = true ∧ cEq 0 V pq sp cn e sz b L w nx r ra V9 pq9 sp9 cn9 e9 sz9 b9 L9 w9 nx9) (fun E r ra V9 pq9 sp9 cn9 e9 sz9 b9 L9 w9 nx9 => E = eIS ∧ roomOk sz more = false ∧ cEq 0 V pq sp cn e sz b L w nx r ra V9 pq9 sp9 cn9 e9 sz9 b9 L9 w9 nx9) by exact h9 _ rfl
  intro L0 hL0
  have hLz : ∀ a, a ∈ L → a ∈ L0 ∨ z0 ≤ a := fun a z => Or.inl (by rw [hL0]; exact z)
  refine xc_start rfl (by decide +kernel) (Nat.le_of_ble_eq_true rfl) (fun p e9 s m below meth c F hr hlocks hK hz H locs hP hS hz9 hX hout ls hl => ?_)
  have hl : lv_has ls 2 [(0, .ref (u 30)), (1, .int more)] := hl
  have hx := F.1
  have hb := F.2.1
  have hinO : ∀ w ∈ wsX30, w ∈ wsX3_checkRoomFor := by decide +kernel
  have hinK : ∀ w ∈ wsX20, w ∈ wsX3_checkRoomFor := by decide +kernel
  refine lv_aload_n hx hb dX3_checkRoomFor_0 rfl (lv_at hl 0 rfl) ?_
  refine og_get F hK hinO (cPc hP) 0 (by decide) (by decide +kernel) rfl dX3_checkRoomFor_1 ?_
  refine kg_get F hK hinK (cPc hP) 1 (by decide) (by decide +kernel) rfl dX3_checkRoomFor_4 ?_
  refine lv_iload_n hx hb dX3_checkRoomFor_7 rfl (lv_at hl 1 rfl) ?_
  refine lv_iadd hx hb dX3_checkRoomFor_8 ?_
  refine lv_sipush (v := 240) hx hb dX3_checkRoomFor_9 (by decide) ?_
  refine lv_icmp_le (tgt := 25) hx hb dX3_checkRoomFor_12 (by decide) (fun c_1 => ?_) (fun c_1 => ?_)
  · skip
    refine vx_ret ?_
    exact cw_retv F hr hlocks hP hS (⟨by simp [roomOk, c_1], ⟨rfl, rfl, rfl, rfl, rfl, rfl, rfl, rfl, rfl, rfl, rfl⟩⟩) (by omega) (by omega) dX3_checkRoomFor_25
  · skip
    exact xt_throw F hfl hP hS hX hout hlocks hl.1 "java/lang/IllegalStateException" 53 161 57 2 "there would be more words than there can be" rfl (by decide +kernel) rfl (by decide +kernel) (by decide +kernel) (by decide +kernel) xn_IS xg_IS dX3_checkRoomFor_15 dX3_checkRoomFor_18 dX3_checkRoomFor_19 dX3_checkRoomFor_21 dX3_checkRoomFor_24 ⟨(Nat.le_of_ble_eq_true rfl), (Nat.le_of_ble_eq_true rfl), (Nat.le_of_ble_eq_true rfl), (Nat.le_of_ble_eq_true rfl)⟩ (⟨rfl, by simp [roomOk, c_1], ⟨rfl, rfl, rfl, rfl, rfl, rfl, rfl, rfl, rfl, rfl, rfl⟩⟩) (Nat.le_of_ble_eq_true rfl) (Nat.le_of_ble_eq_true rfl)
set_option maxHeartbeats 4000000 in
set_option maxRecDepth 100000 in
theorem cc_X3_checkOpen {l : Launch} (hfl : l.stackTraces = false) {D : va_G} {cI cII : ClassId} {sa : Nat → Nat} {u : Nat → Nat} {V : Nat → Nat → Int32} {pq sp : Int32} {cn : Nat} {e : Option Nat} {sz : Nat} {b : Nat → Nat → Int32} {L : List Nat} {w : Nat → Nat → Int32} {nx : Nat → Option Nat} {z0 : Nat} (hN : (cAd u ++ L).Nodup) (k : Nat) (hk : k < 20) : xc_Met l yX3_checkOpen wsX3_checkOpen 6 1 6 90 D u cI cII sa z0 L (cW u cI cII V pq sp cn e sz b L w nx) [.ref (u 30), .int (nI k)] kV (fun r ra V9 pq9 sp9 cn9 e9 sz9 b9 L9 w9 nx9 => opnOk V k = true ∧ cEq 0 V pq sp cn e sz b L w nx r ra V9 pq9 sp9 cn9 e9 sz9 b9 L9 w9 nx9) (fun E r ra V9 pq9 sp9 cn9 e9 sz9 b9 L9 w9 nx9 => E = eIS ∧ opnOk V k = false ∧ cEq 0 V pq sp cn e sz b L w nx r ra V9 pq9 sp9 cn9 e9 sz9 b9 L9 w9 nx9) := by
  suffices h9 : ∀ L0, L0 = L → xc_Met l yX3_checkOpen wsX3_checkOpen 6 1 6 90 D u cI cII sa z0 L0 (cW u cI cII V pq sp cn e sz b L w nx) [.ref (u 30), .int (nI k)] kV (fun r ra V9 pq9 sp9 cn9 e9 sz9 b9 L9 w9 nx9 => opnOk V k = true ∧ cEq 0 V pq sp cn e sz b L w nx r ra V9 pq9 sp9 cn9 e9 sz9 b9 L9 w9 nx9) (fun E r ra V9 pq9 sp9 cn9 e9 sz9 b9 L9 w9 nx9 => E = eIS ∧ opnOk V k = false ∧ cEq 0 V pq sp cn e sz b L w nx r ra V9 pq9 sp9 cn9 e9 sz9 b9 L9 w9 nx9) by exact h9 _ rfl
  intro L0 hL0
  have hLz : ∀ a, a ∈ L → a ∈ L0 ∨ z0 ≤ a := fun a z => Or.inl (by rw [hL0]; exact z)
  refine xc_start rfl (by decide +kernel) (Nat.le_of_ble_eq_true rfl) (fun p e9 s m below meth c F hr hlocks hK hz H locs hP hS hz9 hX hout ls hl => ?_)
  have hl : lv_has ls 2 [(0, .ref (u 30)), (1, .int (nI k))] := hl
  have hx := F.1
  have hb := F.2.1
  have hinV : ∀ w ∈ wsX00, w ∈ wsX3_checkOpen := by decide +kernel
  have hinO : ∀ w ∈ wsX30, w ∈ wsX3_checkOpen := by decide +kernel
  refine lv_aload_n hx hb dX3_checkOpen_0 rfl (lv_at hl 0 rfl) ?_
  refine og_get F hK hinO (cPc hP) 1 (by decide) (by decide +kernel) rfl dX3_checkOpen_1 ?_
  refine vg_get F hK hinV (cPv hP) 6 (by decide) (by decide +kernel) rfl dX3_checkOpen_4 ?_
  refine lv_iload_n hx hb dX3_checkOpen_7 rfl (lv_at hl 1 rfl) ?_
  refine cg_ald F hK (cPv hP) 7 20 rfl k rfl (by omega) (by decide) dX3_checkOpen_8 ?_
  refine lv_iconst (v := 1) hx hb dX3_checkOpen_9 (by decide) ?_
  refine lv_icmp_eq (tgt := 23) hx hb dX3_checkOpen_10 (by decide) (fun c_1 => ?_) (fun c_1 => ?_)
  · skip
    refine vx_ret ?_
    exact cw_retv F hr hlocks hP hS (⟨by simp [opnOk, c_1], ⟨rfl, rfl, rfl, rfl, rfl, rfl, rfl, rfl, rfl, rfl, rfl⟩⟩) (by omega) (by omega) dX3_checkOpen_23
  · skip
    exact xt_throw F hfl hP hS hX hout hlocks hl.1 "java/lang/IllegalStateException" 53 163 57 3 "the fridge does not see the cake open" rfl (by decide +kernel) rfl (by decide +kernel) (by decide +kernel) (by decide +kernel) xn_IS xg_IS dX3_checkOpen_13 dX3_checkOpen_16 dX3_checkOpen_17 dX3_checkOpen_19 dX3_checkOpen_22 ⟨(Nat.le_of_ble_eq_true rfl), (Nat.le_of_ble_eq_true rfl), (Nat.le_of_ble_eq_true rfl), (Nat.le_of_ble_eq_true rfl)⟩ (⟨rfl, by simp [opnOk, c_1], ⟨rfl, rfl, rfl, rfl, rfl, rfl, rfl, rfl, rfl, rfl, rfl⟩⟩) (Nat.le_of_ble_eq_true rfl) (Nat.le_of_ble_eq_true rfl)
