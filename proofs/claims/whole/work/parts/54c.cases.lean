/-! the law's rounds, a call each -/
set_option maxHeartbeats 4000000 in
theorem lq_words {p : Program} {l : Launch} {e9 : Env} {s : State} {m : MethodId} {below : List Frame} {meth : Method} {c : Code} {H : Heap} {locs : List Loc} {cells slots : Nat} {Q : State → Prop} {b9 L9 : Nat} {xs : Nat → Int32} {D : va_G} {cI cII cZ cJ : ClassId} {sa : Nat → Nat} {u : Nat → Nat} {h : Nat} {q : Nat → Nat} {o : Nat} {ls : Array Slot} {i : Nat} (hfl : l.stackTraces = false) (F : CallFix p m c cL_law 7 s #[Value.ref b9] lw_tbl RL) (hK : va_K D vwCl (cT cI cII) s) (hZ : va_K D vwCl (mT cI cZ) s) (hJ : va_K D vwCl [(cJ, .long)] s) (hN : wzN s) (hX : ∀ A : Nat → Prop, (∀ a : Nat, a < s.heap.size → ¬ A a) → xF A sa s) (hsx : va_X b9 L9 xs s s.heap) (hb9 : b9 < s.heap.size) (hL : L9 ≤ 3072) (I : lwI s.heap D cI cII cZ cJ u h q o H locs) (hi : i + 6 ≤ L9) (hc : cells + 46 ≤ 601024) (hs : slots + 440 ≤ 7293034) (hl : lv_has ls 7 [(0, .ref b9), (1, .ref (u 30)), (2, .ref h), (3, .ref o), (4, .int (nI i))])
    (kk : ∀ (H1 : Heap) (locs1 : List Loc) (ls1 : Array Slot), lwI s.heap D cI cII cZ cJ u h q o H1 locs1 → lv_has ls1 7 [(0, .ref b9), (1, .ref (u 30)), (2, .ref h), (3, .ref o), (4, .int (nI i))] → W p l e9 room_1 s m #[Value.ref b9] below meth c H1 locs1 (cells + 46) (slots + 440) Q (F0 m 1844 ls1 [])) : W p l e9 room_1 s m #[Value.ref b9] below meth c H locs cells slots Q (F0 m 680 ls []) := by
  obtain ⟨n, cm, a, kn, th, lm, V, pq, sp, cn, e, sz, b, L, w, nx, g, R, CC, he, hsz, hch, hP, hM, hO, hS⟩ := I
  have hx := F.1
  have hb := F.2.1
  have hok := rel_ok R
  have hcn := rel_cn R
  have hrc := rel_rc R
  have hmz := mP_lt hM
  have hS0 := hS
  have hoz : o < H.size := vx_lt hO (k := 0) rfl
  have hop := oz_words R
  refine lv_aload_n hx hb dL_law_680 rfl (lv_at hl 1 rfl) ?_
  refine lz_callV (nn := 0) F hK hX CC [] (cc_X3_words hfl CC.1 hch he hsz hok hcn hrc) (fun E V pq sp cn e sz b L1 w nx z => absurd rfl z.1) (cwV 0 F.2.2.2.2 gL_X3_words rfl rfl rfl (by decide +kernel) ⟨(Nat.le_of_ble_eq_true rfl), (Nat.le_of_ble_eq_true rfl)⟩) (og_rc hK (cPc hP)) hP hO hM (mW_ad CC.2.2.2.2.2) hS rfl hl.1 rfl (lv_room (Nat.le_of_ble_eq_true rfl)) ⟨by show cells + 0 ≤ 601024; omega, by show slots + 0 ≤ 7293034; omega⟩ dL_law_681 (fun r ra V1 pq1 sp1 cn1 e1 sz1 b1 L1 w1 nx1 H1 locs1 hp hP hO hM hz1 hS => ?_)
  obtain ⟨-, hr, hA⟩ := hp
  have CC1 := CC.next hA.2.2.2.2.2.2.1 hS0.1 hA.2.2.2.2.2.2.2 hmz hoz
  refine lv_aload_n hx hb dL_law_684 rfl (lv_at hl 2 rfl) ?_
  refine wr_callV (A := fun x => s.heap.size ≤ x) F hZ [] (mc_words CC.2.2.2.2.2 R.inv.mi) (cwV 0 F.2.2.2.2 gL_X4_words rfl rfl rfl (by decide +kernel) ⟨(Nat.le_of_ble_eq_true rfl), (Nat.le_of_ble_eq_true rfl)⟩) (mg_rc hZ hM) hM hS (fun x hx => (CC.2.2.1 x hx).1) rfl hl.1 rfl (lv_room (Nat.le_of_ble_eq_true rfl)) ⟨by show cells + 0 ≤ 601024; omega, by show slots + 0 ≤ 7293034; omega⟩ dL_law_685 (fun r1 n1 cm1 th1 lm1 a1 kn1 H2 locs2 hpost hM hz2 hf2 hS => ?_)
  obtain ⟨hP, hO⟩ := lw_keepC CC1 hP hO hf2
  have hpost : (th1, r1, n1, cm1, a1, kn1) = mWords n cm a kn := hpost
  rw [← hpost] at hop
  have hI := lw_next hop.2.2 hA CC1 hP hM hO hS
  have hth : th1 = 0 := hop.1.symm
  have hrr : r = r1 := hr.symm.trans (hop.2.1 hth).2
  exact lv_icmp_eq (tgt := 1844) hx hb dL_law_688 (by decide) (fun _ => W.widen (by omega) (by omega) (kk H2 locs2 ls hI hl)) (fun q9 => absurd hrr q9)
set_option maxHeartbeats 4000000 in
theorem lq_known {p : Program} {l : Launch} {e9 : Env} {s : State} {m : MethodId} {below : List Frame} {meth : Method} {c : Code} {H : Heap} {locs : List Loc} {cells slots : Nat} {Q : State → Prop} {b9 L9 : Nat} {xs : Nat → Int32} {D : va_G} {cI cII cZ cJ : ClassId} {sa : Nat → Nat} {u : Nat → Nat} {h : Nat} {q : Nat → Nat} {o : Nat} {ls : Array Slot} {i : Nat} (hfl : l.stackTraces = false) (F : CallFix p m c cL_law 7 s #[Value.ref b9] lw_tbl RL) (hK : va_K D vwCl (cT cI cII) s) (hZ : va_K D vwCl (mT cI cZ) s) (hJ : va_K D vwCl [(cJ, .long)] s) (hN : wzN s) (hX : ∀ A : Nat → Prop, (∀ a : Nat, a < s.heap.size → ¬ A a) → xF A sa s) (hsx : va_X b9 L9 xs s s.heap) (hb9 : b9 < s.heap.size) (hL : L9 ≤ 3072) (I : lwI s.heap D cI cII cZ cJ u h q o H locs) (hi : i + 6 ≤ L9) (hc : cells + 46 ≤ 601024) (hs : slots + 440 ≤ 7293034) (hl : lv_has ls 7 [(0, .ref b9), (1, .ref (u 30)), (2, .ref h), (3, .ref o), (4, .int (nI i))])
    (kk : ∀ (H1 : Heap) (locs1 : List Loc) (ls1 : Array Slot), lwI s.heap D cI cII cZ cJ u h q o H1 locs1 → lv_has ls1 7 [(0, .ref b9), (1, .ref (u 30)), (2, .ref h), (3, .ref o), (4, .int (nI i))] → W p l e9 room_1 s m #[Value.ref b9] below meth c H1 locs1 (cells + 46) (slots + 440) Q (F0 m 1844 ls1 [])) : W p l e9 room_1 s m #[Value.ref b9] below meth c H locs cells slots Q (F0 m 693 ls []) := by
  obtain ⟨n, cm, a, kn, th, lm, V, pq, sp, cn, e, sz, b, L, w, nx, g, R, CC, he, hsz, hch, hP, hM, hO, hS⟩ := I
  have hx := F.1
  have hb := F.2.1
  have hok := rel_ok R
  have hcn := rel_cn R
  have hrc := rel_rc R
  have hmz := mP_lt hM
  have hS0 := hS
  have hoz : o < H.size := vx_lt hO (k := 0) rfl
  refine lv_aload_n hx hb dL_law_693 rfl (lv_at hl 1 rfl) ?_
  refine lv_aload_n hx hb dL_law_694 rfl (lv_at hl 0 rfl) ?_
  refine lv_iload hx hb dL_law_695 (lv_at hl 4 rfl) ?_
  refine lv_iconst (v := 1) hx hb dL_law_697 (by decide) ?_
  refine lv_iadd hx hb dL_law_698 ?_
  refine lw_E (nI (i + 1)) (nI_add i 1) ?_
  refine va_sld (A := fun x => s.heap.size ≤ x) hx hb hsx hb9 (Nat.not_le.mpr hb9) hS (vp_in_nI (n := i + 1) (by omega) (by omega)) dL_law_699 ?_
  refine lw_E (xs (i + 1)) (by rw [nI_clamp (by omega)]) ?_
  refine lv_aload_n hx hb dL_law_700 rfl (lv_at hl 3 rfl) ?_
  have hop := oz_known R (xs (i + 1))
  refine lz_call (nn := 3) F hK hJ hN hX CC [.ref (u 30), .int (xs (i + 1)), .ref o] (lwc_known hfl CC.1 (xs (i + 1)) hch he hsz hok hcn hrc CC.2.2.2.2.1 hoz) (vx_cwSW 3 F.2.2.2.2 gL_L_known rfl rfl rfl (by decide +kernel) ⟨(Nat.le_of_ble_eq_true rfl), (Nat.le_of_ble_eq_true rfl)⟩) hP hO hM (mW_ad CC.2.2.2.2.2) hS rfl hl.1 rfl (lv_room (Nat.le_of_ble_eq_true rfl)) ⟨by show cells + 1 ≤ 601024; omega, by show slots + 6 ≤ 7293034; omega⟩ dL_law_701 (fun V1 pq1 sp1 cn1 e1 sz1 b1 L1 w1 nx1 g1 H1 locs1 hA hg hP hO hM hz1 hS => ?_)
  have CC1 := CC.next hA.2.2.2.2.2.2.1 hS0.1 hA.2.2.2.2.2.2.2 hmz hoz
  refine lv_istore (lv' := [(5, .int (wzcode [1] (cKnown (b, cn, List.map w L) (xs (i + 1))).1)), (0, .ref b9), (1, .ref (u 30)), (2, .ref h), (3, .ref o), (4, .int (nI i))]) hx hb dL_law_704 hl (by decide) rfl (fun ls hl => ?_)
  refine lv_aload_n hx hb dL_law_706 rfl (lv_at hl 3 rfl) ?_
  refine lv_aload_n hx hb dL_law_707 rfl (lv_at hl 1 rfl) ?_
  refine lv_iload hx hb dL_law_708 (lv_at hl 5 rfl) ?_
  refine lv_iconst (v := 1) hx hb dL_law_710 (by decide) ?_
  refine lv_iadd hx hb dL_law_711 ?_
  refine lw_E (nI (i + 1)) (nI_add i 1) ?_
  refine va_sld (A := fun x => s.heap.size ≤ x) hx hb hsx hb9 (Nat.not_le.mpr hb9) hS (vp_in_nI (n := i + 1) (by omega) (by omega)) dL_law_712 ?_
  refine lw_E (xs (i + 1)) (by rw [nI_clamp (by omega)]) ?_
  refine wr_callV (A := fun x => s.heap.size ≤ x) F hZ [.int (xs (i + 1))] (mc_known CC.2.2.2.2.2 (xs (i + 1)) R.inv.mi) (cwV 1 F.2.2.2.2 gL_X4_known rfl rfl rfl (by decide +kernel) ⟨(Nat.le_of_ble_eq_true rfl), (Nat.le_of_ble_eq_true rfl)⟩) (mg_rc hZ hM) hM hS (fun x hx => (CC.2.2.1 x hx).1) rfl hl.1 rfl (lv_room (Nat.le_of_ble_eq_true rfl)) ⟨by show cells + 1 ≤ 601024; omega, by show slots + 6 ≤ 7293034; omega⟩ dL_law_713 (fun r1 n1 cm1 th1 lm1 a1 kn1 H2 locs2 hpost hM hz2 hf2 hS => ?_)
  obtain ⟨hP, hO⟩ := lw_keepC CC1 hP hO hf2
  have hpost : (th1, r1, n1, cm1, a1, kn1) = mKnown n cm a kn (xs (i + 1)) := hpost
  rw [← hpost] at hop
  refine lv_istore (lv' := [(6, .int r1), (5, .int (wzcode [1] (cKnown (b, cn, List.map w L) (xs (i + 1))).1)), (0, .ref b9), (1, .ref (u 30)), (2, .ref h), (3, .ref o), (4, .int (nI i))]) hx hb dL_law_716 hl (by decide) rfl (fun ls hl => ?_)
  refine lv_aload_n hx hb dL_law_718 rfl (lv_at hl 4 rfl) ?_
  refine ro_callV F hZ [] (mc_thrown hM) (cwV 0 F.2.2.2.2 gL_X4_thrown rfl rfl rfl (by decide +kernel) ⟨(Nat.le_of_ble_eq_true rfl), (Nat.le_of_ble_eq_true rfl)⟩) (mg_rc hZ hM) rfl hl.1 rfl (lv_room (Nat.le_of_ble_eq_true rfl)) ⟨by show cells + 1 ≤ 601024; omega, by show slots + 6 ≤ 7293034; omega⟩ dL_law_719 ?_
  refine lv_iload hx hb dL_law_722 (lv_at hl 1 rfl) ?_
  refine lv_icmp_eq (tgt := 729) hx hb dL_law_724 (by decide) (fun q9 => ?_) (fun q9 => absurd hop.1.symm q9)
  refine lv_iload hx hb dL_law_729 (lv_at hl 1 rfl) ?_
  have hI := lw_next hop.2.2 hA CC1 hP hM hO hS
  have fin : ∀ ls : Array Slot, lv_has ls 7 [(6, .int r1), (5, .int (wzcode [1] (cKnown (b, cn, List.map w L) (xs (i + 1))).1)), (0, .ref b9), (1, .ref (u 30)), (2, .ref h), (3, .ref o), (4, .int (nI i))] → W p l e9 room_1 s m #[Value.ref b9] below meth c H2 locs2 (cells + 1) (slots + 6) Q (F0 m 746 ls []) := by
    intro ls hl
    refine lv_goto (tgt := 1844) hx hb dL_law_746 (by decide) ?_
    exact W.widen (by omega) (by omega) (kk H2 locs2 ls hI (lv_sub hl [2, 3, 4, 5, 6] rfl))
  refine lv_if_ne (tgt := 746) hx hb dL_law_731 (by decide) (fun q8 => fin ls hl) (fun q8 => ?_)
  obtain ⟨g2, g3⟩ := hop.2.1 (hop.1.symm.trans q8)
  have hg0 : g1 0 = r1.toInt64 := (hg g2).trans (congrArg Int32.toInt64 g3)
  refine lv_aload_n hx hb dL_law_734 rfl (lv_at hl 5 rfl) ?_
  refine lv_iconst (v := 0) hx hb dL_law_735 (by decide) ?_
  refine va_lald hx hb hJ hO 0 0 rfl rfl (by unfold vp_in; decide) dL_law_736 ?_
  rw [show Int32.toNatClampNeg 0 = 0 from by decide, hg0]
  refine lv_iload hx hb dL_law_737 (lv_at hl 0 rfl) ?_
  refine lv_i2l (v := r1.toInt64) hx hb dL_law_739 rfl ?_
  refine W.lcmp hx hb dL_law_740 ?_
  refine lw_E 0 (lg_self _) ?_
  exact lv_if_eq (tgt := 746) hx hb dL_law_741 (by decide) (fun _ => fin ls hl) (fun q7 => absurd rfl q7)
set_option maxHeartbeats 4000000 in
theorem lq_clock {p : Program} {l : Launch} {e9 : Env} {s : State} {m : MethodId} {below : List Frame} {meth : Method} {c : Code} {H : Heap} {locs : List Loc} {cells slots : Nat} {Q : State → Prop} {b9 L9 : Nat} {xs : Nat → Int32} {D : va_G} {cI cII cZ cJ : ClassId} {sa : Nat → Nat} {u : Nat → Nat} {h : Nat} {q : Nat → Nat} {o : Nat} {ls : Array Slot} {i : Nat} (hfl : l.stackTraces = false) (F : CallFix p m c cL_law 7 s #[Value.ref b9] lw_tbl RL) (hK : va_K D vwCl (cT cI cII) s) (hZ : va_K D vwCl (mT cI cZ) s) (hJ : va_K D vwCl [(cJ, .long)] s) (hN : wzN s) (hX : ∀ A : Nat → Prop, (∀ a : Nat, a < s.heap.size → ¬ A a) → xF A sa s) (hsx : va_X b9 L9 xs s s.heap) (hb9 : b9 < s.heap.size) (hL : L9 ≤ 3072) (I : lwI s.heap D cI cII cZ cJ u h q o H locs) (hi : i + 6 ≤ L9) (hc : cells + 46 ≤ 601024) (hs : slots + 440 ≤ 7293034) (hl : lv_has ls 7 [(0, .ref b9), (1, .ref (u 30)), (2, .ref h), (3, .ref o), (4, .int (nI i))])
    (kk : ∀ (H1 : Heap) (locs1 : List Loc) (ls1 : Array Slot), lwI s.heap D cI cII cZ cJ u h q o H1 locs1 → lv_has ls1 7 [(0, .ref b9), (1, .ref (u 30)), (2, .ref h), (3, .ref o), (4, .int (nI i))] → W p l e9 room_1 s m #[Value.ref b9] below meth c H1 locs1 (cells + 46) (slots + 440) Q (F0 m 1844 ls1 [])) : W p l e9 room_1 s m #[Value.ref b9] below meth c H locs cells slots Q (F0 m 749 ls []) := by
  obtain ⟨n, cm, a, kn, th, lm, V, pq, sp, cn, e, sz, b, L, w, nx, g, R, CC, he, hsz, hch, hP, hM, hO, hS⟩ := I
  have hx := F.1
  have hb := F.2.1
  have hok := rel_ok R
  have hcn := rel_cn R
  have hrc := rel_rc R
  have hmz := mP_lt hM
  have hS0 := hS
  have hoz : o < H.size := vx_lt hO (k := 0) rfl
  refine lv_aload_n hx hb dL_law_749 rfl (lv_at hl 1 rfl) ?_
  refine lv_aload_n hx hb dL_law_750 rfl (lv_at hl 0 rfl) ?_
  refine lv_iload hx hb dL_law_751 (lv_at hl 4 rfl) ?_
  refine lv_iconst (v := 1) hx hb dL_law_753 (by decide) ?_
  refine lv_iadd hx hb dL_law_754 ?_
  refine lw_E (nI (i + 1)) (nI_add i 1) ?_
  refine va_sld (A := fun x => s.heap.size ≤ x) hx hb hsx hb9 (Nat.not_le.mpr hb9) hS (vp_in_nI (n := i + 1) (by omega) (by omega)) dL_law_755 ?_
  refine lw_E (xs (i + 1)) (by rw [nI_clamp (by omega)]) ?_
  refine lv_aload_n hx hb dL_law_756 rfl (lv_at hl 3 rfl) ?_
  have hop := oz_clock R (xs (i + 1))
  refine lz_call (nn := 3) F hK hJ hN hX CC [.ref (u 30), .int (xs (i + 1)), .ref o] (lwc_clock hfl CC.1 (xs (i + 1)) hch he hsz hok hcn hrc CC.2.2.2.2.1 hoz) (vx_cwSW 3 F.2.2.2.2 gL_L_clock rfl rfl rfl (by decide +kernel) ⟨(Nat.le_of_ble_eq_true rfl), (Nat.le_of_ble_eq_true rfl)⟩) hP hO hM (mW_ad CC.2.2.2.2.2) hS rfl hl.1 rfl (lv_room (Nat.le_of_ble_eq_true rfl)) ⟨by show cells + 1 ≤ 601024; omega, by show slots + 6 ≤ 7293034; omega⟩ dL_law_757 (fun V1 pq1 sp1 cn1 e1 sz1 b1 L1 w1 nx1 g1 H1 locs1 hA hg hP hO hM hz1 hS => ?_)
  have CC1 := CC.next hA.2.2.2.2.2.2.1 hS0.1 hA.2.2.2.2.2.2.2 hmz hoz
  refine lv_istore (lv' := [(5, .int (wzcode [1] (cClock (b, cn, List.map w L) (xs (i + 1))).1)), (0, .ref b9), (1, .ref (u 30)), (2, .ref h), (3, .ref o), (4, .int (nI i))]) hx hb dL_law_760 hl (by decide) rfl (fun ls hl => ?_)
  refine lv_aload_n hx hb dL_law_762 rfl (lv_at hl 3 rfl) ?_
  refine lv_aload_n hx hb dL_law_763 rfl (lv_at hl 1 rfl) ?_
  refine lv_iload hx hb dL_law_764 (lv_at hl 5 rfl) ?_
  refine lv_iconst (v := 1) hx hb dL_law_766 (by decide) ?_
  refine lv_iadd hx hb dL_law_767 ?_
  refine lw_E (nI (i + 1)) (nI_add i 1) ?_
  refine va_sld (A := fun x => s.heap.size ≤ x) hx hb hsx hb9 (Nat.not_le.mpr hb9) hS (vp_in_nI (n := i + 1) (by omega) (by omega)) dL_law_768 ?_
  refine lw_E (xs (i + 1)) (by rw [nI_clamp (by omega)]) ?_
  refine wr_callV (A := fun x => s.heap.size ≤ x) F hZ [.int (xs (i + 1))] (mc_clock CC.2.2.2.2.2 (xs (i + 1)) R.inv.mi) (cwV 1 F.2.2.2.2 gL_X4_clock rfl rfl rfl (by decide +kernel) ⟨(Nat.le_of_ble_eq_true rfl), (Nat.le_of_ble_eq_true rfl)⟩) (mg_rc hZ hM) hM hS (fun x hx => (CC.2.2.1 x hx).1) rfl hl.1 rfl (lv_room (Nat.le_of_ble_eq_true rfl)) ⟨by show cells + 1 ≤ 601024; omega, by show slots + 6 ≤ 7293034; omega⟩ dL_law_769 (fun r1 n1 cm1 th1 lm1 a1 kn1 H2 locs2 hpost hM hz2 hf2 hS => ?_)
  obtain ⟨hP, hO⟩ := lw_keepC CC1 hP hO hf2
  have hpost : (th1, r1, n1, cm1, a1, kn1) = mClock n cm a kn (xs (i + 1)) := hpost
  rw [← hpost] at hop
  refine lv_istore (lv' := [(6, .int r1), (5, .int (wzcode [1] (cClock (b, cn, List.map w L) (xs (i + 1))).1)), (0, .ref b9), (1, .ref (u 30)), (2, .ref h), (3, .ref o), (4, .int (nI i))]) hx hb dL_law_772 hl (by decide) rfl (fun ls hl => ?_)
  refine lv_aload_n hx hb dL_law_774 rfl (lv_at hl 4 rfl) ?_
  refine ro_callV F hZ [] (mc_thrown hM) (cwV 0 F.2.2.2.2 gL_X4_thrown rfl rfl rfl (by decide +kernel) ⟨(Nat.le_of_ble_eq_true rfl), (Nat.le_of_ble_eq_true rfl)⟩) (mg_rc hZ hM) rfl hl.1 rfl (lv_room (Nat.le_of_ble_eq_true rfl)) ⟨by show cells + 1 ≤ 601024; omega, by show slots + 6 ≤ 7293034; omega⟩ dL_law_775 ?_
  refine lv_iload hx hb dL_law_778 (lv_at hl 1 rfl) ?_
  refine lv_icmp_eq (tgt := 785) hx hb dL_law_780 (by decide) (fun q9 => ?_) (fun q9 => absurd hop.1.symm q9)
  refine lv_iload hx hb dL_law_785 (lv_at hl 1 rfl) ?_
  have hI := lw_next hop.2.2 hA CC1 hP hM hO hS
  have fin : ∀ ls : Array Slot, lv_has ls 7 [(6, .int r1), (5, .int (wzcode [1] (cClock (b, cn, List.map w L) (xs (i + 1))).1)), (0, .ref b9), (1, .ref (u 30)), (2, .ref h), (3, .ref o), (4, .int (nI i))] → W p l e9 room_1 s m #[Value.ref b9] below meth c H2 locs2 (cells + 1) (slots + 6) Q (F0 m 802 ls []) := by
    intro ls hl
    refine lv_goto (tgt := 1844) hx hb dL_law_802 (by decide) ?_
    exact W.widen (by omega) (by omega) (kk H2 locs2 ls hI (lv_sub hl [2, 3, 4, 5, 6] rfl))
  refine lv_if_ne (tgt := 802) hx hb dL_law_787 (by decide) (fun q8 => fin ls hl) (fun q8 => ?_)
  obtain ⟨g2, g3⟩ := hop.2.1 (hop.1.symm.trans q8)
  have hg0 : g1 0 = r1.toInt64 := (hg g2).trans (congrArg Int32.toInt64 g3)
  refine lv_aload_n hx hb dL_law_790 rfl (lv_at hl 5 rfl) ?_
  refine lv_iconst (v := 0) hx hb dL_law_791 (by decide) ?_
  refine va_lald hx hb hJ hO 0 0 rfl rfl (by unfold vp_in; decide) dL_law_792 ?_
  rw [show Int32.toNatClampNeg 0 = 0 from by decide, hg0]
  refine lv_iload hx hb dL_law_793 (lv_at hl 0 rfl) ?_
  refine lv_i2l (v := r1.toInt64) hx hb dL_law_795 rfl ?_
  refine W.lcmp hx hb dL_law_796 ?_
  refine lw_E 0 (lg_self _) ?_
  exact lv_if_eq (tgt := 802) hx hb dL_law_797 (by decide) (fun _ => fin ls hl) (fun q7 => absurd rfl q7)
set_option maxHeartbeats 4000000 in
theorem lq_guest {p : Program} {l : Launch} {e9 : Env} {s : State} {m : MethodId} {below : List Frame} {meth : Method} {c : Code} {H : Heap} {locs : List Loc} {cells slots : Nat} {Q : State → Prop} {b9 L9 : Nat} {xs : Nat → Int32} {D : va_G} {cI cII cZ cJ : ClassId} {sa : Nat → Nat} {u : Nat → Nat} {h : Nat} {q : Nat → Nat} {o : Nat} {ls : Array Slot} {i : Nat} (hfl : l.stackTraces = false) (F : CallFix p m c cL_law 7 s #[Value.ref b9] lw_tbl RL) (hK : va_K D vwCl (cT cI cII) s) (hZ : va_K D vwCl (mT cI cZ) s) (hJ : va_K D vwCl [(cJ, .long)] s) (hN : wzN s) (hX : ∀ A : Nat → Prop, (∀ a : Nat, a < s.heap.size → ¬ A a) → xF A sa s) (hsx : va_X b9 L9 xs s s.heap) (hb9 : b9 < s.heap.size) (hL : L9 ≤ 3072) (I : lwI s.heap D cI cII cZ cJ u h q o H locs) (hi : i + 6 ≤ L9) (hc : cells + 46 ≤ 601024) (hs : slots + 440 ≤ 7293034) (hl : lv_has ls 7 [(0, .ref b9), (1, .ref (u 30)), (2, .ref h), (3, .ref o), (4, .int (nI i))])
    (kk : ∀ (H1 : Heap) (locs1 : List Loc) (ls1 : Array Slot), lwI s.heap D cI cII cZ cJ u h q o H1 locs1 → lv_has ls1 7 [(0, .ref b9), (1, .ref (u 30)), (2, .ref h), (3, .ref o), (4, .int (nI i))] → W p l e9 room_1 s m #[Value.ref b9] below meth c H1 locs1 (cells + 46) (slots + 440) Q (F0 m 1844 ls1 [])) : W p l e9 room_1 s m #[Value.ref b9] below meth c H locs cells slots Q (F0 m 805 ls []) := by
  obtain ⟨n, cm, a, kn, th, lm, V, pq, sp, cn, e, sz, b, L, w, nx, g, R, CC, he, hsz, hch, hP, hM, hO, hS⟩ := I
  have hx := F.1
  have hb := F.2.1
  have hok := rel_ok R
  have hcn := rel_cn R
  have hrc := rel_rc R
  have hmz := mP_lt hM
  have hS0 := hS
  have hoz : o < H.size := vx_lt hO (k := 0) rfl
  refine lv_aload_n hx hb dL_law_805 rfl (lv_at hl 1 rfl) ?_
  refine lv_aload_n hx hb dL_law_806 rfl (lv_at hl 0 rfl) ?_
  refine lv_iload hx hb dL_law_807 (lv_at hl 4 rfl) ?_
  refine lv_iconst (v := 1) hx hb dL_law_809 (by decide) ?_
  refine lv_iadd hx hb dL_law_810 ?_
  refine lw_E (nI (i + 1)) (nI_add i 1) ?_
  refine va_sld (A := fun x => s.heap.size ≤ x) hx hb hsx hb9 (Nat.not_le.mpr hb9) hS (vp_in_nI (n := i + 1) (by omega) (by omega)) dL_law_811 ?_
  refine lw_E (xs (i + 1)) (by rw [nI_clamp (by omega)]) ?_
  refine lv_aload_n hx hb dL_law_812 rfl (lv_at hl 0 rfl) ?_
  refine lv_iload hx hb dL_law_813 (lv_at hl 4 rfl) ?_
  refine lv_iconst (v := 2) hx hb dL_law_815 (by decide) ?_
  refine lv_iadd hx hb dL_law_816 ?_
  refine lw_E (nI (i + 2)) (nI_add i 2) ?_
  refine va_sld (A := fun x => s.heap.size ≤ x) hx hb hsx hb9 (Nat.not_le.mpr hb9) hS (vp_in_nI (n := i + 2) (by omega) (by omega)) dL_law_817 ?_
  refine lw_E (xs (i + 2)) (by rw [nI_clamp (by omega)]) ?_
  refine lv_aload_n hx hb dL_law_818 rfl (lv_at hl 0 rfl) ?_
  refine lv_iload hx hb dL_law_819 (lv_at hl 4 rfl) ?_
  refine lv_iconst (v := 3) hx hb dL_law_821 (by decide) ?_
  refine lv_iadd hx hb dL_law_822 ?_
  refine lw_E (nI (i + 3)) (nI_add i 3) ?_
  refine va_sld (A := fun x => s.heap.size ≤ x) hx hb hsx hb9 (Nat.not_le.mpr hb9) hS (vp_in_nI (n := i + 3) (by omega) (by omega)) dL_law_823 ?_
  refine lw_E (xs (i + 3)) (by rw [nI_clamp (by omega)]) ?_
  refine lv_aload_n hx hb dL_law_824 rfl (lv_at hl 0 rfl) ?_
  refine lv_iload hx hb dL_law_825 (lv_at hl 4 rfl) ?_
  refine lv_iconst (v := 4) hx hb dL_law_827 (by decide) ?_
  refine lv_iadd hx hb dL_law_828 ?_
  refine lw_E (nI (i + 4)) (nI_add i 4) ?_
  refine va_sld (A := fun x => s.heap.size ≤ x) hx hb hsx hb9 (Nat.not_le.mpr hb9) hS (vp_in_nI (n := i + 4) (by omega) (by omega)) dL_law_829 ?_
  refine lw_E (xs (i + 4)) (by rw [nI_clamp (by omega)]) ?_
  refine lv_aload_n hx hb dL_law_830 rfl (lv_at hl 0 rfl) ?_
  refine lv_iload hx hb dL_law_831 (lv_at hl 4 rfl) ?_
  refine lv_iconst (v := 5) hx hb dL_law_833 (by decide) ?_
  refine lv_iadd hx hb dL_law_834 ?_
  refine lw_E (nI (i + 5)) (nI_add i 5) ?_
  refine va_sld (A := fun x => s.heap.size ≤ x) hx hb hsx hb9 (Nat.not_le.mpr hb9) hS (vp_in_nI (n := i + 5) (by omega) (by omega)) dL_law_835 ?_
  refine lw_E (xs (i + 5)) (by rw [nI_clamp (by omega)]) ?_
  refine lv_aload_n hx hb dL_law_836 rfl (lv_at hl 3 rfl) ?_
  have hop := oz_guest R (xs (i + 1)) (xs (i + 2)) (xs (i + 3)) (xs (i + 4)) (xs (i + 5))
  refine lz_call (nn := 7) F hK hJ hN hX CC [.ref (u 30), .int (xs (i + 1)), .int (xs (i + 2)), .int (xs (i + 3)), .int (xs (i + 4)), .int (xs (i + 5)), .ref o] (lwc_guest hfl CC.1 (xs (i + 1)) (xs (i + 2)) (xs (i + 3)) (xs (i + 4)) (xs (i + 5)) hch he hsz hok hcn hrc CC.2.2.2.2.1 hoz) (vx_cwSW 7 F.2.2.2.2 gL_L_guest rfl rfl rfl (by decide +kernel) ⟨(Nat.le_of_ble_eq_true rfl), (Nat.le_of_ble_eq_true rfl)⟩) hP hO hM (mW_ad CC.2.2.2.2.2) hS rfl hl.1 rfl (lv_room (Nat.le_of_ble_eq_true rfl)) ⟨by show cells + 7 ≤ 601024; omega, by show slots + 46 ≤ 7293034; omega⟩ dL_law_837 (fun V1 pq1 sp1 cn1 e1 sz1 b1 L1 w1 nx1 g1 H1 locs1 hA hg hP hO hM hz1 hS => ?_)
  have CC1 := CC.next hA.2.2.2.2.2.2.1 hS0.1 hA.2.2.2.2.2.2.2 hmz hoz
  refine lv_istore (lv' := [(5, .int (wzcode [1, 2, 3] (cGuest (b, cn, List.map w L) (xs (i + 1)) (xs (i + 2)) (xs (i + 3)) (xs (i + 4)) (xs (i + 5))).1)), (0, .ref b9), (1, .ref (u 30)), (2, .ref h), (3, .ref o), (4, .int (nI i))]) hx hb dL_law_840 hl (by decide) rfl (fun ls hl => ?_)
  refine lv_aload_n hx hb dL_law_842 rfl (lv_at hl 3 rfl) ?_
  refine lv_aload_n hx hb dL_law_843 rfl (lv_at hl 1 rfl) ?_
  refine lv_iload hx hb dL_law_844 (lv_at hl 5 rfl) ?_
  refine lv_iconst (v := 1) hx hb dL_law_846 (by decide) ?_
  refine lv_iadd hx hb dL_law_847 ?_
  refine lw_E (nI (i + 1)) (nI_add i 1) ?_
  refine va_sld (A := fun x => s.heap.size ≤ x) hx hb hsx hb9 (Nat.not_le.mpr hb9) hS (vp_in_nI (n := i + 1) (by omega) (by omega)) dL_law_848 ?_
  refine lw_E (xs (i + 1)) (by rw [nI_clamp (by omega)]) ?_
  refine lv_aload_n hx hb dL_law_849 rfl (lv_at hl 1 rfl) ?_
  refine lv_iload hx hb dL_law_850 (lv_at hl 5 rfl) ?_
  refine lv_iconst (v := 2) hx hb dL_law_852 (by decide) ?_
  refine lv_iadd hx hb dL_law_853 ?_
  refine lw_E (nI (i + 2)) (nI_add i 2) ?_
  refine va_sld (A := fun x => s.heap.size ≤ x) hx hb hsx hb9 (Nat.not_le.mpr hb9) hS (vp_in_nI (n := i + 2) (by omega) (by omega)) dL_law_854 ?_
  refine lw_E (xs (i + 2)) (by rw [nI_clamp (by omega)]) ?_
  refine lv_aload_n hx hb dL_law_855 rfl (lv_at hl 1 rfl) ?_
  refine lv_iload hx hb dL_law_856 (lv_at hl 5 rfl) ?_
  refine lv_iconst (v := 3) hx hb dL_law_858 (by decide) ?_
  refine lv_iadd hx hb dL_law_859 ?_
  refine lw_E (nI (i + 3)) (nI_add i 3) ?_
  refine va_sld (A := fun x => s.heap.size ≤ x) hx hb hsx hb9 (Nat.not_le.mpr hb9) hS (vp_in_nI (n := i + 3) (by omega) (by omega)) dL_law_860 ?_
  refine lw_E (xs (i + 3)) (by rw [nI_clamp (by omega)]) ?_
  refine lv_aload_n hx hb dL_law_861 rfl (lv_at hl 1 rfl) ?_
  refine lv_iload hx hb dL_law_862 (lv_at hl 5 rfl) ?_
  refine lv_iconst (v := 4) hx hb dL_law_864 (by decide) ?_
  refine lv_iadd hx hb dL_law_865 ?_
  refine lw_E (nI (i + 4)) (nI_add i 4) ?_
  refine va_sld (A := fun x => s.heap.size ≤ x) hx hb hsx hb9 (Nat.not_le.mpr hb9) hS (vp_in_nI (n := i + 4) (by omega) (by omega)) dL_law_866 ?_
  refine lw_E (xs (i + 4)) (by rw [nI_clamp (by omega)]) ?_
  refine lv_aload_n hx hb dL_law_867 rfl (lv_at hl 1 rfl) ?_
  refine lv_iload hx hb dL_law_868 (lv_at hl 5 rfl) ?_
  refine lv_iconst (v := 5) hx hb dL_law_870 (by decide) ?_
  refine lv_iadd hx hb dL_law_871 ?_
  refine lw_E (nI (i + 5)) (nI_add i 5) ?_
  refine va_sld (A := fun x => s.heap.size ≤ x) hx hb hsx hb9 (Nat.not_le.mpr hb9) hS (vp_in_nI (n := i + 5) (by omega) (by omega)) dL_law_872 ?_
  refine lw_E (xs (i + 5)) (by rw [nI_clamp (by omega)]) ?_
  refine wr_callV (A := fun x => s.heap.size ≤ x) F hZ [.int (xs (i + 1)), .int (xs (i + 2)), .int (xs (i + 3)), .int (xs (i + 4)), .int (xs (i + 5))] (mc_guest CC.2.2.2.2.2 (xs (i + 1)) (xs (i + 2)) (xs (i + 3)) (xs (i + 4)) (xs (i + 5)) R.inv.mi) (cwV 5 F.2.2.2.2 gL_X4_guest rfl rfl rfl (by decide +kernel) ⟨(Nat.le_of_ble_eq_true rfl), (Nat.le_of_ble_eq_true rfl)⟩) (mg_rc hZ hM) hM hS (fun x hx => (CC.2.2.1 x hx).1) rfl hl.1 rfl (lv_room (Nat.le_of_ble_eq_true rfl)) ⟨by show cells + 7 ≤ 601024; omega, by show slots + 46 ≤ 7293034; omega⟩ dL_law_873 (fun r1 n1 cm1 th1 lm1 a1 kn1 H2 locs2 hpost hM hz2 hf2 hS => ?_)
  obtain ⟨hP, hO⟩ := lw_keepC CC1 hP hO hf2
  have hpost : (th1, r1, n1, cm1, a1, kn1) = mGuest n cm a kn (xs (i + 1)) (xs (i + 2)) (xs (i + 3)) (xs (i + 4)) (xs (i + 5)) := hpost
  rw [← hpost] at hop
  refine lv_istore (lv' := [(6, .int r1), (5, .int (wzcode [1, 2, 3] (cGuest (b, cn, List.map w L) (xs (i + 1)) (xs (i + 2)) (xs (i + 3)) (xs (i + 4)) (xs (i + 5))).1)), (0, .ref b9), (1, .ref (u 30)), (2, .ref h), (3, .ref o), (4, .int (nI i))]) hx hb dL_law_876 hl (by decide) rfl (fun ls hl => ?_)
  refine lv_aload_n hx hb dL_law_878 rfl (lv_at hl 4 rfl) ?_
  refine ro_callV F hZ [] (mc_thrown hM) (cwV 0 F.2.2.2.2 gL_X4_thrown rfl rfl rfl (by decide +kernel) ⟨(Nat.le_of_ble_eq_true rfl), (Nat.le_of_ble_eq_true rfl)⟩) (mg_rc hZ hM) rfl hl.1 rfl (lv_room (Nat.le_of_ble_eq_true rfl)) ⟨by show cells + 7 ≤ 601024; omega, by show slots + 46 ≤ 7293034; omega⟩ dL_law_879 ?_
  refine lv_iload hx hb dL_law_882 (lv_at hl 1 rfl) ?_
  refine lv_icmp_eq (tgt := 889) hx hb dL_law_884 (by decide) (fun q9 => ?_) (fun q9 => absurd hop.1.symm q9)
  refine lv_iload hx hb dL_law_889 (lv_at hl 1 rfl) ?_
  have hI := lw_next hop.2.2 hA CC1 hP hM hO hS
  have fin : ∀ ls : Array Slot, lv_has ls 7 [(6, .int r1), (5, .int (wzcode [1, 2, 3] (cGuest (b, cn, List.map w L) (xs (i + 1)) (xs (i + 2)) (xs (i + 3)) (xs (i + 4)) (xs (i + 5))).1)), (0, .ref b9), (1, .ref (u 30)), (2, .ref h), (3, .ref o), (4, .int (nI i))] → W p l e9 room_1 s m #[Value.ref b9] below meth c H2 locs2 (cells + 7) (slots + 46) Q (F0 m 906 ls []) := by
    intro ls hl
    refine lv_goto (tgt := 1844) hx hb dL_law_906 (by decide) ?_
    exact W.widen (by omega) (by omega) (kk H2 locs2 ls hI (lv_sub hl [2, 3, 4, 5, 6] rfl))
  refine lv_if_ne (tgt := 906) hx hb dL_law_891 (by decide) (fun q8 => fin ls hl) (fun q8 => ?_)
  obtain ⟨g2, g3⟩ := hop.2.1 (hop.1.symm.trans q8)
  have hg0 : g1 0 = r1.toInt64 := (hg g2).trans (congrArg Int32.toInt64 g3)
  refine lv_aload_n hx hb dL_law_894 rfl (lv_at hl 5 rfl) ?_
  refine lv_iconst (v := 0) hx hb dL_law_895 (by decide) ?_
  refine va_lald hx hb hJ hO 0 0 rfl rfl (by unfold vp_in; decide) dL_law_896 ?_
  rw [show Int32.toNatClampNeg 0 = 0 from by decide, hg0]
  refine lv_iload hx hb dL_law_897 (lv_at hl 0 rfl) ?_
  refine lv_i2l (v := r1.toInt64) hx hb dL_law_899 rfl ?_
  refine W.lcmp hx hb dL_law_900 ?_
  refine lw_E 0 (lg_self _) ?_
  exact lv_if_eq (tgt := 906) hx hb dL_law_901 (by decide) (fun _ => fin ls hl) (fun q7 => absurd rfl q7)
set_option maxHeartbeats 4000000 in
theorem lq_guests {p : Program} {l : Launch} {e9 : Env} {s : State} {m : MethodId} {below : List Frame} {meth : Method} {c : Code} {H : Heap} {locs : List Loc} {cells slots : Nat} {Q : State → Prop} {b9 L9 : Nat} {xs : Nat → Int32} {D : va_G} {cI cII cZ cJ : ClassId} {sa : Nat → Nat} {u : Nat → Nat} {h : Nat} {q : Nat → Nat} {o : Nat} {ls : Array Slot} {i : Nat} (hfl : l.stackTraces = false) (F : CallFix p m c cL_law 7 s #[Value.ref b9] lw_tbl RL) (hK : va_K D vwCl (cT cI cII) s) (hZ : va_K D vwCl (mT cI cZ) s) (hJ : va_K D vwCl [(cJ, .long)] s) (hN : wzN s) (hX : ∀ A : Nat → Prop, (∀ a : Nat, a < s.heap.size → ¬ A a) → xF A sa s) (hsx : va_X b9 L9 xs s s.heap) (hb9 : b9 < s.heap.size) (hL : L9 ≤ 3072) (I : lwI s.heap D cI cII cZ cJ u h q o H locs) (hi : i + 6 ≤ L9) (hc : cells + 46 ≤ 601024) (hs : slots + 440 ≤ 7293034) (hl : lv_has ls 7 [(0, .ref b9), (1, .ref (u 30)), (2, .ref h), (3, .ref o), (4, .int (nI i))])
    (kk : ∀ (H1 : Heap) (locs1 : List Loc) (ls1 : Array Slot), lwI s.heap D cI cII cZ cJ u h q o H1 locs1 → lv_has ls1 7 [(0, .ref b9), (1, .ref (u 30)), (2, .ref h), (3, .ref o), (4, .int (nI i))] → W p l e9 room_1 s m #[Value.ref b9] below meth c H1 locs1 (cells + 46) (slots + 440) Q (F0 m 1844 ls1 [])) : W p l e9 room_1 s m #[Value.ref b9] below meth c H locs cells slots Q (F0 m 909 ls []) := by
  obtain ⟨n, cm, a, kn, th, lm, V, pq, sp, cn, e, sz, b, L, w, nx, g, R, CC, he, hsz, hch, hP, hM, hO, hS⟩ := I
  have hx := F.1
  have hb := F.2.1
  have hok := rel_ok R
  have hcn := rel_cn R
  have hrc := rel_rc R
  have hmz := mP_lt hM
  have hS0 := hS
  have hoz : o < H.size := vx_lt hO (k := 0) rfl
  refine lv_aload_n hx hb dL_law_909 rfl (lv_at hl 1 rfl) ?_
  refine lv_aload_n hx hb dL_law_910 rfl (lv_at hl 0 rfl) ?_
  refine lv_iload hx hb dL_law_911 (lv_at hl 4 rfl) ?_
  refine lv_iconst (v := 1) hx hb dL_law_913 (by decide) ?_
  refine lv_iadd hx hb dL_law_914 ?_
  refine lw_E (nI (i + 1)) (nI_add i 1) ?_
  refine va_sld (A := fun x => s.heap.size ≤ x) hx hb hsx hb9 (Nat.not_le.mpr hb9) hS (vp_in_nI (n := i + 1) (by omega) (by omega)) dL_law_915 ?_
  refine lw_E (xs (i + 1)) (by rw [nI_clamp (by omega)]) ?_
  refine lv_aload_n hx hb dL_law_916 rfl (lv_at hl 0 rfl) ?_
  refine lv_iload hx hb dL_law_917 (lv_at hl 4 rfl) ?_
  refine lv_iconst (v := 2) hx hb dL_law_919 (by decide) ?_
  refine lv_iadd hx hb dL_law_920 ?_
  refine lw_E (nI (i + 2)) (nI_add i 2) ?_
  refine va_sld (A := fun x => s.heap.size ≤ x) hx hb hsx hb9 (Nat.not_le.mpr hb9) hS (vp_in_nI (n := i + 2) (by omega) (by omega)) dL_law_921 ?_
  refine lw_E (xs (i + 2)) (by rw [nI_clamp (by omega)]) ?_
  refine lv_aload_n hx hb dL_law_922 rfl (lv_at hl 3 rfl) ?_
  have hop := oz_guests R (xs (i + 1)) (xs (i + 2))
  refine lz_call (nn := 4) F hK hJ hN hX CC [.ref (u 30), .int (xs (i + 1)), .int (xs (i + 2)), .ref o] (lwc_guests hfl CC.1 (xs (i + 1)) (xs (i + 2)) hch he hsz hok hcn hrc CC.2.2.2.2.1 hoz) (vx_cwSW 4 F.2.2.2.2 gL_L_guests rfl rfl rfl (by decide +kernel) ⟨(Nat.le_of_ble_eq_true rfl), (Nat.le_of_ble_eq_true rfl)⟩) hP hO hM (mW_ad CC.2.2.2.2.2) hS rfl hl.1 rfl (lv_room (Nat.le_of_ble_eq_true rfl)) ⟨by show cells + 2 ≤ 601024; omega, by show slots + 12 ≤ 7293034; omega⟩ dL_law_923 (fun V1 pq1 sp1 cn1 e1 sz1 b1 L1 w1 nx1 g1 H1 locs1 hA hg hP hO hM hz1 hS => ?_)
  have CC1 := CC.next hA.2.2.2.2.2.2.1 hS0.1 hA.2.2.2.2.2.2.2 hmz hoz
  refine lv_istore (lv' := [(5, .int (wzcode [1, 2] (cGuests (b, cn, List.map w L) (xs (i + 1)) (xs (i + 2))).1)), (0, .ref b9), (1, .ref (u 30)), (2, .ref h), (3, .ref o), (4, .int (nI i))]) hx hb dL_law_926 hl (by decide) rfl (fun ls hl => ?_)
  refine lv_aload_n hx hb dL_law_928 rfl (lv_at hl 3 rfl) ?_
  refine lv_aload_n hx hb dL_law_929 rfl (lv_at hl 1 rfl) ?_
  refine lv_iload hx hb dL_law_930 (lv_at hl 5 rfl) ?_
  refine lv_iconst (v := 1) hx hb dL_law_932 (by decide) ?_
  refine lv_iadd hx hb dL_law_933 ?_
  refine lw_E (nI (i + 1)) (nI_add i 1) ?_
  refine va_sld (A := fun x => s.heap.size ≤ x) hx hb hsx hb9 (Nat.not_le.mpr hb9) hS (vp_in_nI (n := i + 1) (by omega) (by omega)) dL_law_934 ?_
  refine lw_E (xs (i + 1)) (by rw [nI_clamp (by omega)]) ?_
  refine lv_aload_n hx hb dL_law_935 rfl (lv_at hl 1 rfl) ?_
  refine lv_iload hx hb dL_law_936 (lv_at hl 5 rfl) ?_
  refine lv_iconst (v := 2) hx hb dL_law_938 (by decide) ?_
  refine lv_iadd hx hb dL_law_939 ?_
  refine lw_E (nI (i + 2)) (nI_add i 2) ?_
  refine va_sld (A := fun x => s.heap.size ≤ x) hx hb hsx hb9 (Nat.not_le.mpr hb9) hS (vp_in_nI (n := i + 2) (by omega) (by omega)) dL_law_940 ?_
  refine lw_E (xs (i + 2)) (by rw [nI_clamp (by omega)]) ?_
  refine wr_callV (A := fun x => s.heap.size ≤ x) F hZ [.int (xs (i + 1)), .int (xs (i + 2))] (mc_guests CC.2.2.2.2.2 (xs (i + 1)) (xs (i + 2)) R.inv.mi) (cwV 2 F.2.2.2.2 gL_X4_guests rfl rfl rfl (by decide +kernel) ⟨(Nat.le_of_ble_eq_true rfl), (Nat.le_of_ble_eq_true rfl)⟩) (mg_rc hZ hM) hM hS (fun x hx => (CC.2.2.1 x hx).1) rfl hl.1 rfl (lv_room (Nat.le_of_ble_eq_true rfl)) ⟨by show cells + 2 ≤ 601024; omega, by show slots + 12 ≤ 7293034; omega⟩ dL_law_941 (fun r1 n1 cm1 th1 lm1 a1 kn1 H2 locs2 hpost hM hz2 hf2 hS => ?_)
  obtain ⟨hP, hO⟩ := lw_keepC CC1 hP hO hf2
  have hpost : (th1, r1, n1, cm1, a1, kn1) = mGuests n cm a kn (xs (i + 1)) (xs (i + 2)) := hpost
  rw [← hpost] at hop
  refine lv_istore (lv' := [(6, .int r1), (5, .int (wzcode [1, 2] (cGuests (b, cn, List.map w L) (xs (i + 1)) (xs (i + 2))).1)), (0, .ref b9), (1, .ref (u 30)), (2, .ref h), (3, .ref o), (4, .int (nI i))]) hx hb dL_law_944 hl (by decide) rfl (fun ls hl => ?_)
  refine lv_aload_n hx hb dL_law_946 rfl (lv_at hl 4 rfl) ?_
  refine ro_callV F hZ [] (mc_thrown hM) (cwV 0 F.2.2.2.2 gL_X4_thrown rfl rfl rfl (by decide +kernel) ⟨(Nat.le_of_ble_eq_true rfl), (Nat.le_of_ble_eq_true rfl)⟩) (mg_rc hZ hM) rfl hl.1 rfl (lv_room (Nat.le_of_ble_eq_true rfl)) ⟨by show cells + 2 ≤ 601024; omega, by show slots + 12 ≤ 7293034; omega⟩ dL_law_947 ?_
  refine lv_iload hx hb dL_law_950 (lv_at hl 1 rfl) ?_
  refine lv_icmp_eq (tgt := 957) hx hb dL_law_952 (by decide) (fun q9 => ?_) (fun q9 => absurd hop.1.symm q9)
  refine lv_iload hx hb dL_law_957 (lv_at hl 1 rfl) ?_
  have hI := lw_next hop.2.2 hA CC1 hP hM hO hS
  have fin : ∀ ls : Array Slot, lv_has ls 7 [(6, .int r1), (5, .int (wzcode [1, 2] (cGuests (b, cn, List.map w L) (xs (i + 1)) (xs (i + 2))).1)), (0, .ref b9), (1, .ref (u 30)), (2, .ref h), (3, .ref o), (4, .int (nI i))] → W p l e9 room_1 s m #[Value.ref b9] below meth c H2 locs2 (cells + 2) (slots + 12) Q (F0 m 974 ls []) := by
    intro ls hl
    refine lv_goto (tgt := 1844) hx hb dL_law_974 (by decide) ?_
    exact W.widen (by omega) (by omega) (kk H2 locs2 ls hI (lv_sub hl [2, 3, 4, 5, 6] rfl))
  refine lv_if_ne (tgt := 974) hx hb dL_law_959 (by decide) (fun q8 => fin ls hl) (fun q8 => ?_)
  obtain ⟨g2, g3⟩ := hop.2.1 (hop.1.symm.trans q8)
  have hg0 : g1 0 = r1.toInt64 := (hg g2).trans (congrArg Int32.toInt64 g3)
  refine lv_aload_n hx hb dL_law_962 rfl (lv_at hl 5 rfl) ?_
  refine lv_iconst (v := 0) hx hb dL_law_963 (by decide) ?_
  refine va_lald hx hb hJ hO 0 0 rfl rfl (by unfold vp_in; decide) dL_law_964 ?_
  rw [show Int32.toNatClampNeg 0 = 0 from by decide, hg0]
  refine lv_iload hx hb dL_law_965 (lv_at hl 0 rfl) ?_
  refine lv_i2l (v := r1.toInt64) hx hb dL_law_967 rfl ?_
  refine W.lcmp hx hb dL_law_968 ?_
  refine lw_E 0 (lg_self _) ?_
  exact lv_if_eq (tgt := 974) hx hb dL_law_969 (by decide) (fun _ => fin ls hl) (fun q7 => absurd rfl q7)
set_option maxHeartbeats 4000000 in
theorem lq_setNeed {p : Program} {l : Launch} {e9 : Env} {s : State} {m : MethodId} {below : List Frame} {meth : Method} {c : Code} {H : Heap} {locs : List Loc} {cells slots : Nat} {Q : State → Prop} {b9 L9 : Nat} {xs : Nat → Int32} {D : va_G} {cI cII cZ cJ : ClassId} {sa : Nat → Nat} {u : Nat → Nat} {h : Nat} {q : Nat → Nat} {o : Nat} {ls : Array Slot} {i : Nat} (hfl : l.stackTraces = false) (F : CallFix p m c cL_law 7 s #[Value.ref b9] lw_tbl RL) (hK : va_K D vwCl (cT cI cII) s) (hZ : va_K D vwCl (mT cI cZ) s) (hJ : va_K D vwCl [(cJ, .long)] s) (hN : wzN s) (hX : ∀ A : Nat → Prop, (∀ a : Nat, a < s.heap.size → ¬ A a) → xF A sa s) (hsx : va_X b9 L9 xs s s.heap) (hb9 : b9 < s.heap.size) (hL : L9 ≤ 3072) (I : lwI s.heap D cI cII cZ cJ u h q o H locs) (hi : i + 6 ≤ L9) (hc : cells + 46 ≤ 601024) (hs : slots + 440 ≤ 7293034) (hl : lv_has ls 7 [(0, .ref b9), (1, .ref (u 30)), (2, .ref h), (3, .ref o), (4, .int (nI i))])
    (kk : ∀ (H1 : Heap) (locs1 : List Loc) (ls1 : Array Slot), lwI s.heap D cI cII cZ cJ u h q o H1 locs1 → lv_has ls1 7 [(0, .ref b9), (1, .ref (u 30)), (2, .ref h), (3, .ref o), (4, .int (nI i))] → W p l e9 room_1 s m #[Value.ref b9] below meth c H1 locs1 (cells + 46) (slots + 440) Q (F0 m 1844 ls1 [])) : W p l e9 room_1 s m #[Value.ref b9] below meth c H locs cells slots Q (F0 m 977 ls []) := by
  obtain ⟨n, cm, a, kn, th, lm, V, pq, sp, cn, e, sz, b, L, w, nx, g, R, CC, he, hsz, hch, hP, hM, hO, hS⟩ := I
  have hx := F.1
  have hb := F.2.1
  have hok := rel_ok R
  have hcn := rel_cn R
  have hrc := rel_rc R
  have hmz := mP_lt hM
  have hS0 := hS
  have hoz : o < H.size := vx_lt hO (k := 0) rfl
  refine lv_aload_n hx hb dL_law_977 rfl (lv_at hl 1 rfl) ?_
  refine lv_aload_n hx hb dL_law_978 rfl (lv_at hl 0 rfl) ?_
  refine lv_iload hx hb dL_law_979 (lv_at hl 4 rfl) ?_
  refine lv_iconst (v := 1) hx hb dL_law_981 (by decide) ?_
  refine lv_iadd hx hb dL_law_982 ?_
  refine lw_E (nI (i + 1)) (nI_add i 1) ?_
  refine va_sld (A := fun x => s.heap.size ≤ x) hx hb hsx hb9 (Nat.not_le.mpr hb9) hS (vp_in_nI (n := i + 1) (by omega) (by omega)) dL_law_983 ?_
  refine lw_E (xs (i + 1)) (by rw [nI_clamp (by omega)]) ?_
  refine lv_aload_n hx hb dL_law_984 rfl (lv_at hl 0 rfl) ?_
  refine lv_iload hx hb dL_law_985 (lv_at hl 4 rfl) ?_
  refine lv_iconst (v := 2) hx hb dL_law_987 (by decide) ?_
  refine lv_iadd hx hb dL_law_988 ?_
  refine lw_E (nI (i + 2)) (nI_add i 2) ?_
  refine va_sld (A := fun x => s.heap.size ≤ x) hx hb hsx hb9 (Nat.not_le.mpr hb9) hS (vp_in_nI (n := i + 2) (by omega) (by omega)) dL_law_989 ?_
  refine lw_E (xs (i + 2)) (by rw [nI_clamp (by omega)]) ?_
  refine lv_aload_n hx hb dL_law_990 rfl (lv_at hl 0 rfl) ?_
  refine lv_iload hx hb dL_law_991 (lv_at hl 4 rfl) ?_
  refine lv_iconst (v := 3) hx hb dL_law_993 (by decide) ?_
  refine lv_iadd hx hb dL_law_994 ?_
  refine lw_E (nI (i + 3)) (nI_add i 3) ?_
  refine va_sld (A := fun x => s.heap.size ≤ x) hx hb hsx hb9 (Nat.not_le.mpr hb9) hS (vp_in_nI (n := i + 3) (by omega) (by omega)) dL_law_995 ?_
  refine lw_E (xs (i + 3)) (by rw [nI_clamp (by omega)]) ?_
  refine lv_aload_n hx hb dL_law_996 rfl (lv_at hl 3 rfl) ?_
  have hop := oz_setNeed R (xs (i + 1)) (xs (i + 2)) (xs (i + 3))
  refine lz_call (nn := 5) F hK hJ hN hX CC [.ref (u 30), .int (xs (i + 1)), .int (xs (i + 2)), .int (xs (i + 3)), .ref o] (lwc_setNeed hfl CC.1 (xs (i + 1)) (xs (i + 2)) (xs (i + 3)) hch he hsz hok hcn hrc CC.2.2.2.2.1 hoz) (vx_cwSW 5 F.2.2.2.2 gL_L_setNeed rfl rfl rfl (by decide +kernel) ⟨(Nat.le_of_ble_eq_true rfl), (Nat.le_of_ble_eq_true rfl)⟩) hP hO hM (mW_ad CC.2.2.2.2.2) hS rfl hl.1 rfl (lv_room (Nat.le_of_ble_eq_true rfl)) ⟨by show cells + 3 ≤ 601024; omega, by show slots + 18 ≤ 7293034; omega⟩ dL_law_997 (fun V1 pq1 sp1 cn1 e1 sz1 b1 L1 w1 nx1 g1 H1 locs1 hA hg hP hO hM hz1 hS => ?_)
  have CC1 := CC.next hA.2.2.2.2.2.2.1 hS0.1 hA.2.2.2.2.2.2.2 hmz hoz
  refine lv_istore (lv' := [(5, .int (wzcode [1, 2] (cSetNeed (b, cn, List.map w L) (xs (i + 1)) (xs (i + 2)) (xs (i + 3))).1)), (0, .ref b9), (1, .ref (u 30)), (2, .ref h), (3, .ref o), (4, .int (nI i))]) hx hb dL_law_1000 hl (by decide) rfl (fun ls hl => ?_)
  refine lv_aload_n hx hb dL_law_1002 rfl (lv_at hl 3 rfl) ?_
  refine lv_aload_n hx hb dL_law_1003 rfl (lv_at hl 1 rfl) ?_
  refine lv_iload hx hb dL_law_1004 (lv_at hl 5 rfl) ?_
  refine lv_iconst (v := 1) hx hb dL_law_1006 (by decide) ?_
  refine lv_iadd hx hb dL_law_1007 ?_
  refine lw_E (nI (i + 1)) (nI_add i 1) ?_
  refine va_sld (A := fun x => s.heap.size ≤ x) hx hb hsx hb9 (Nat.not_le.mpr hb9) hS (vp_in_nI (n := i + 1) (by omega) (by omega)) dL_law_1008 ?_
  refine lw_E (xs (i + 1)) (by rw [nI_clamp (by omega)]) ?_
  refine lv_aload_n hx hb dL_law_1009 rfl (lv_at hl 1 rfl) ?_
  refine lv_iload hx hb dL_law_1010 (lv_at hl 5 rfl) ?_
  refine lv_iconst (v := 2) hx hb dL_law_1012 (by decide) ?_
  refine lv_iadd hx hb dL_law_1013 ?_
  refine lw_E (nI (i + 2)) (nI_add i 2) ?_
  refine va_sld (A := fun x => s.heap.size ≤ x) hx hb hsx hb9 (Nat.not_le.mpr hb9) hS (vp_in_nI (n := i + 2) (by omega) (by omega)) dL_law_1014 ?_
  refine lw_E (xs (i + 2)) (by rw [nI_clamp (by omega)]) ?_
  refine lv_aload_n hx hb dL_law_1015 rfl (lv_at hl 1 rfl) ?_
  refine lv_iload hx hb dL_law_1016 (lv_at hl 5 rfl) ?_
  refine lv_iconst (v := 3) hx hb dL_law_1018 (by decide) ?_
  refine lv_iadd hx hb dL_law_1019 ?_
  refine lw_E (nI (i + 3)) (nI_add i 3) ?_
  refine va_sld (A := fun x => s.heap.size ≤ x) hx hb hsx hb9 (Nat.not_le.mpr hb9) hS (vp_in_nI (n := i + 3) (by omega) (by omega)) dL_law_1020 ?_
  refine lw_E (xs (i + 3)) (by rw [nI_clamp (by omega)]) ?_
  refine wr_callV (A := fun x => s.heap.size ≤ x) F hZ [.int (xs (i + 1)), .int (xs (i + 2)), .int (xs (i + 3))] (mc_setNeed CC.2.2.2.2.2 (xs (i + 1)) (xs (i + 2)) (xs (i + 3)) R.inv.mi) (cwV 3 F.2.2.2.2 gL_X4_setNeed rfl rfl rfl (by decide +kernel) ⟨(Nat.le_of_ble_eq_true rfl), (Nat.le_of_ble_eq_true rfl)⟩) (mg_rc hZ hM) hM hS (fun x hx => (CC.2.2.1 x hx).1) rfl hl.1 rfl (lv_room (Nat.le_of_ble_eq_true rfl)) ⟨by show cells + 3 ≤ 601024; omega, by show slots + 18 ≤ 7293034; omega⟩ dL_law_1021 (fun r1 n1 cm1 th1 lm1 a1 kn1 H2 locs2 hpost hM hz2 hf2 hS => ?_)
  obtain ⟨hP, hO⟩ := lw_keepC CC1 hP hO hf2
  have hpost : (th1, r1, n1, cm1, a1, kn1) = mSetNeed n cm a kn (xs (i + 1)) (xs (i + 2)) (xs (i + 3)) := hpost
  rw [← hpost] at hop
  refine lv_istore (lv' := [(6, .int r1), (5, .int (wzcode [1, 2] (cSetNeed (b, cn, List.map w L) (xs (i + 1)) (xs (i + 2)) (xs (i + 3))).1)), (0, .ref b9), (1, .ref (u 30)), (2, .ref h), (3, .ref o), (4, .int (nI i))]) hx hb dL_law_1024 hl (by decide) rfl (fun ls hl => ?_)
  refine lv_aload_n hx hb dL_law_1026 rfl (lv_at hl 4 rfl) ?_
  refine ro_callV F hZ [] (mc_thrown hM) (cwV 0 F.2.2.2.2 gL_X4_thrown rfl rfl rfl (by decide +kernel) ⟨(Nat.le_of_ble_eq_true rfl), (Nat.le_of_ble_eq_true rfl)⟩) (mg_rc hZ hM) rfl hl.1 rfl (lv_room (Nat.le_of_ble_eq_true rfl)) ⟨by show cells + 3 ≤ 601024; omega, by show slots + 18 ≤ 7293034; omega⟩ dL_law_1027 ?_
  refine lv_iload hx hb dL_law_1030 (lv_at hl 1 rfl) ?_
  refine lv_icmp_eq (tgt := 1037) hx hb dL_law_1032 (by decide) (fun q9 => ?_) (fun q9 => absurd hop.1.symm q9)
  refine lv_iload hx hb dL_law_1037 (lv_at hl 1 rfl) ?_
  have hI := lw_next hop.2.2 hA CC1 hP hM hO hS
  have fin : ∀ ls : Array Slot, lv_has ls 7 [(6, .int r1), (5, .int (wzcode [1, 2] (cSetNeed (b, cn, List.map w L) (xs (i + 1)) (xs (i + 2)) (xs (i + 3))).1)), (0, .ref b9), (1, .ref (u 30)), (2, .ref h), (3, .ref o), (4, .int (nI i))] → W p l e9 room_1 s m #[Value.ref b9] below meth c H2 locs2 (cells + 3) (slots + 18) Q (F0 m 1054 ls []) := by
    intro ls hl
    refine lv_goto (tgt := 1844) hx hb dL_law_1054 (by decide) ?_
    exact W.widen (by omega) (by omega) (kk H2 locs2 ls hI (lv_sub hl [2, 3, 4, 5, 6] rfl))
  refine lv_if_ne (tgt := 1054) hx hb dL_law_1039 (by decide) (fun q8 => fin ls hl) (fun q8 => ?_)
  obtain ⟨g2, g3⟩ := hop.2.1 (hop.1.symm.trans q8)
  have hg0 : g1 0 = r1.toInt64 := (hg g2).trans (congrArg Int32.toInt64 g3)
  refine lv_aload_n hx hb dL_law_1042 rfl (lv_at hl 5 rfl) ?_
  refine lv_iconst (v := 0) hx hb dL_law_1043 (by decide) ?_
  refine va_lald hx hb hJ hO 0 0 rfl rfl (by unfold vp_in; decide) dL_law_1044 ?_
  rw [show Int32.toNatClampNeg 0 = 0 from by decide, hg0]
  refine lv_iload hx hb dL_law_1045 (lv_at hl 0 rfl) ?_
  refine lv_i2l (v := r1.toInt64) hx hb dL_law_1047 rfl ?_
  refine W.lcmp hx hb dL_law_1048 ?_
  refine lw_E 0 (lg_self _) ?_
  exact lv_if_eq (tgt := 1054) hx hb dL_law_1049 (by decide) (fun _ => fin ls hl) (fun q7 => absurd rfl q7)
set_option maxHeartbeats 4000000 in
theorem lq_plan {p : Program} {l : Launch} {e9 : Env} {s : State} {m : MethodId} {below : List Frame} {meth : Method} {c : Code} {H : Heap} {locs : List Loc} {cells slots : Nat} {Q : State → Prop} {b9 L9 : Nat} {xs : Nat → Int32} {D : va_G} {cI cII cZ cJ : ClassId} {sa : Nat → Nat} {u : Nat → Nat} {h : Nat} {q : Nat → Nat} {o : Nat} {ls : Array Slot} {i : Nat} (hfl : l.stackTraces = false) (F : CallFix p m c cL_law 7 s #[Value.ref b9] lw_tbl RL) (hK : va_K D vwCl (cT cI cII) s) (hZ : va_K D vwCl (mT cI cZ) s) (hJ : va_K D vwCl [(cJ, .long)] s) (hN : wzN s) (hX : ∀ A : Nat → Prop, (∀ a : Nat, a < s.heap.size → ¬ A a) → xF A sa s) (hsx : va_X b9 L9 xs s s.heap) (hb9 : b9 < s.heap.size) (hL : L9 ≤ 3072) (I : lwI s.heap D cI cII cZ cJ u h q o H locs) (hi : i + 6 ≤ L9) (hc : cells + 46 ≤ 601024) (hs : slots + 440 ≤ 7293034) (hl : lv_has ls 7 [(0, .ref b9), (1, .ref (u 30)), (2, .ref h), (3, .ref o), (4, .int (nI i))])
    (kk : ∀ (H1 : Heap) (locs1 : List Loc) (ls1 : Array Slot), lwI s.heap D cI cII cZ cJ u h q o H1 locs1 → lv_has ls1 7 [(0, .ref b9), (1, .ref (u 30)), (2, .ref h), (3, .ref o), (4, .int (nI i))] → W p l e9 room_1 s m #[Value.ref b9] below meth c H1 locs1 (cells + 46) (slots + 440) Q (F0 m 1844 ls1 [])) : W p l e9 room_1 s m #[Value.ref b9] below meth c H locs cells slots Q (F0 m 1057 ls []) := by
  obtain ⟨n, cm, a, kn, th, lm, V, pq, sp, cn, e, sz, b, L, w, nx, g, R, CC, he, hsz, hch, hP, hM, hO, hS⟩ := I
  have hx := F.1
  have hb := F.2.1
  have hok := rel_ok R
  have hcn := rel_cn R
  have hrc := rel_rc R
  have hmz := mP_lt hM
  have hS0 := hS
  have hoz : o < H.size := vx_lt hO (k := 0) rfl
  refine lv_aload_n hx hb dL_law_1057 rfl (lv_at hl 1 rfl) ?_
  refine lv_aload_n hx hb dL_law_1058 rfl (lv_at hl 0 rfl) ?_
  refine lv_iload hx hb dL_law_1059 (lv_at hl 4 rfl) ?_
  refine lv_iconst (v := 1) hx hb dL_law_1061 (by decide) ?_
  refine lv_iadd hx hb dL_law_1062 ?_
  refine lw_E (nI (i + 1)) (nI_add i 1) ?_
  refine va_sld (A := fun x => s.heap.size ≤ x) hx hb hsx hb9 (Nat.not_le.mpr hb9) hS (vp_in_nI (n := i + 1) (by omega) (by omega)) dL_law_1063 ?_
  refine lw_E (xs (i + 1)) (by rw [nI_clamp (by omega)]) ?_
  refine lv_aload_n hx hb dL_law_1064 rfl (lv_at hl 0 rfl) ?_
  refine lv_iload hx hb dL_law_1065 (lv_at hl 4 rfl) ?_
  refine lv_iconst (v := 2) hx hb dL_law_1067 (by decide) ?_
  refine lv_iadd hx hb dL_law_1068 ?_
  refine lw_E (nI (i + 2)) (nI_add i 2) ?_
  refine va_sld (A := fun x => s.heap.size ≤ x) hx hb hsx hb9 (Nat.not_le.mpr hb9) hS (vp_in_nI (n := i + 2) (by omega) (by omega)) dL_law_1069 ?_
  refine lw_E (xs (i + 2)) (by rw [nI_clamp (by omega)]) ?_
  refine lv_aload_n hx hb dL_law_1070 rfl (lv_at hl 0 rfl) ?_
  refine lv_iload hx hb dL_law_1071 (lv_at hl 4 rfl) ?_
  refine lv_iconst (v := 3) hx hb dL_law_1073 (by decide) ?_
  refine lv_iadd hx hb dL_law_1074 ?_
  refine lw_E (nI (i + 3)) (nI_add i 3) ?_
  refine va_sld (A := fun x => s.heap.size ≤ x) hx hb hsx hb9 (Nat.not_le.mpr hb9) hS (vp_in_nI (n := i + 3) (by omega) (by omega)) dL_law_1075 ?_
  refine lw_E (xs (i + 3)) (by rw [nI_clamp (by omega)]) ?_
  refine lv_aload_n hx hb dL_law_1076 rfl (lv_at hl 3 rfl) ?_
  have hop := oz_plan R (xs (i + 1)) (xs (i + 2)) (xs (i + 3))
  refine lz_call (nn := 5) F hK hJ hN hX CC [.ref (u 30), .int (xs (i + 1)), .int (xs (i + 2)), .int (xs (i + 3)), .ref o] (lwc_plan hfl CC.1 (xs (i + 1)) (xs (i + 2)) (xs (i + 3)) hch he hsz hok hcn hrc CC.2.2.2.2.1 hoz) (vx_cwSW 5 F.2.2.2.2 gL_L_plan rfl rfl rfl (by decide +kernel) ⟨(Nat.le_of_ble_eq_true rfl), (Nat.le_of_ble_eq_true rfl)⟩) hP hO hM (mW_ad CC.2.2.2.2.2) hS rfl hl.1 rfl (lv_room (Nat.le_of_ble_eq_true rfl)) ⟨by show cells + 5 ≤ 601024; omega, by show slots + 34 ≤ 7293034; omega⟩ dL_law_1077 (fun V1 pq1 sp1 cn1 e1 sz1 b1 L1 w1 nx1 g1 H1 locs1 hA hg hP hO hM hz1 hS => ?_)
  have CC1 := CC.next hA.2.2.2.2.2.2.1 hS0.1 hA.2.2.2.2.2.2.2 hmz hoz
  refine lv_istore (lv' := [(5, .int (wzcode [1, 2, 3] (cPlan (b, cn, List.map w L) (xs (i + 1)) (xs (i + 2)) (xs (i + 3))).1)), (0, .ref b9), (1, .ref (u 30)), (2, .ref h), (3, .ref o), (4, .int (nI i))]) hx hb dL_law_1080 hl (by decide) rfl (fun ls hl => ?_)
  refine lv_aload_n hx hb dL_law_1082 rfl (lv_at hl 3 rfl) ?_
  refine lv_aload_n hx hb dL_law_1083 rfl (lv_at hl 1 rfl) ?_
  refine lv_iload hx hb dL_law_1084 (lv_at hl 5 rfl) ?_
  refine lv_iconst (v := 1) hx hb dL_law_1086 (by decide) ?_
  refine lv_iadd hx hb dL_law_1087 ?_
  refine lw_E (nI (i + 1)) (nI_add i 1) ?_
  refine va_sld (A := fun x => s.heap.size ≤ x) hx hb hsx hb9 (Nat.not_le.mpr hb9) hS (vp_in_nI (n := i + 1) (by omega) (by omega)) dL_law_1088 ?_
  refine lw_E (xs (i + 1)) (by rw [nI_clamp (by omega)]) ?_
  refine lv_aload_n hx hb dL_law_1089 rfl (lv_at hl 1 rfl) ?_
  refine lv_iload hx hb dL_law_1090 (lv_at hl 5 rfl) ?_
  refine lv_iconst (v := 2) hx hb dL_law_1092 (by decide) ?_
  refine lv_iadd hx hb dL_law_1093 ?_
  refine lw_E (nI (i + 2)) (nI_add i 2) ?_
  refine va_sld (A := fun x => s.heap.size ≤ x) hx hb hsx hb9 (Nat.not_le.mpr hb9) hS (vp_in_nI (n := i + 2) (by omega) (by omega)) dL_law_1094 ?_
  refine lw_E (xs (i + 2)) (by rw [nI_clamp (by omega)]) ?_
  refine lv_aload_n hx hb dL_law_1095 rfl (lv_at hl 1 rfl) ?_
  refine lv_iload hx hb dL_law_1096 (lv_at hl 5 rfl) ?_
  refine lv_iconst (v := 3) hx hb dL_law_1098 (by decide) ?_
  refine lv_iadd hx hb dL_law_1099 ?_
  refine lw_E (nI (i + 3)) (nI_add i 3) ?_
  refine va_sld (A := fun x => s.heap.size ≤ x) hx hb hsx hb9 (Nat.not_le.mpr hb9) hS (vp_in_nI (n := i + 3) (by omega) (by omega)) dL_law_1100 ?_
  refine lw_E (xs (i + 3)) (by rw [nI_clamp (by omega)]) ?_
  refine wr_callV (A := fun x => s.heap.size ≤ x) F hZ [.int (xs (i + 1)), .int (xs (i + 2)), .int (xs (i + 3))] (mc_plan CC.2.2.2.2.2 (xs (i + 1)) (xs (i + 2)) (xs (i + 3)) R.inv.mi) (cwV 3 F.2.2.2.2 gL_X4_plan rfl rfl rfl (by decide +kernel) ⟨(Nat.le_of_ble_eq_true rfl), (Nat.le_of_ble_eq_true rfl)⟩) (mg_rc hZ hM) hM hS (fun x hx => (CC.2.2.1 x hx).1) rfl hl.1 rfl (lv_room (Nat.le_of_ble_eq_true rfl)) ⟨by show cells + 5 ≤ 601024; omega, by show slots + 34 ≤ 7293034; omega⟩ dL_law_1101 (fun r1 n1 cm1 th1 lm1 a1 kn1 H2 locs2 hpost hM hz2 hf2 hS => ?_)
  obtain ⟨hP, hO⟩ := lw_keepC CC1 hP hO hf2
  have hpost : (th1, r1, n1, cm1, a1, kn1) = mPlan n cm a kn (xs (i + 1)) (xs (i + 2)) (xs (i + 3)) := hpost
  rw [← hpost] at hop
  refine lv_istore (lv' := [(6, .int r1), (5, .int (wzcode [1, 2, 3] (cPlan (b, cn, List.map w L) (xs (i + 1)) (xs (i + 2)) (xs (i + 3))).1)), (0, .ref b9), (1, .ref (u 30)), (2, .ref h), (3, .ref o), (4, .int (nI i))]) hx hb dL_law_1104 hl (by decide) rfl (fun ls hl => ?_)
  refine lv_aload_n hx hb dL_law_1106 rfl (lv_at hl 4 rfl) ?_
  refine ro_callV F hZ [] (mc_thrown hM) (cwV 0 F.2.2.2.2 gL_X4_thrown rfl rfl rfl (by decide +kernel) ⟨(Nat.le_of_ble_eq_true rfl), (Nat.le_of_ble_eq_true rfl)⟩) (mg_rc hZ hM) rfl hl.1 rfl (lv_room (Nat.le_of_ble_eq_true rfl)) ⟨by show cells + 5 ≤ 601024; omega, by show slots + 34 ≤ 7293034; omega⟩ dL_law_1107 ?_
  refine lv_iload hx hb dL_law_1110 (lv_at hl 1 rfl) ?_
  refine lv_icmp_eq (tgt := 1117) hx hb dL_law_1112 (by decide) (fun q9 => ?_) (fun q9 => absurd hop.1.symm q9)
  refine lv_iload hx hb dL_law_1117 (lv_at hl 1 rfl) ?_
  have hI := lw_next hop.2.2 hA CC1 hP hM hO hS
  have fin : ∀ ls : Array Slot, lv_has ls 7 [(6, .int r1), (5, .int (wzcode [1, 2, 3] (cPlan (b, cn, List.map w L) (xs (i + 1)) (xs (i + 2)) (xs (i + 3))).1)), (0, .ref b9), (1, .ref (u 30)), (2, .ref h), (3, .ref o), (4, .int (nI i))] → W p l e9 room_1 s m #[Value.ref b9] below meth c H2 locs2 (cells + 5) (slots + 34) Q (F0 m 1134 ls []) := by
    intro ls hl
    refine lv_goto (tgt := 1844) hx hb dL_law_1134 (by decide) ?_
    exact W.widen (by omega) (by omega) (kk H2 locs2 ls hI (lv_sub hl [2, 3, 4, 5, 6] rfl))
  refine lv_if_ne (tgt := 1134) hx hb dL_law_1119 (by decide) (fun q8 => fin ls hl) (fun q8 => ?_)
  obtain ⟨g2, g3⟩ := hop.2.1 (hop.1.symm.trans q8)
  have hg0 : g1 0 = r1.toInt64 := (hg g2).trans (congrArg Int32.toInt64 g3)
  refine lv_aload_n hx hb dL_law_1122 rfl (lv_at hl 5 rfl) ?_
  refine lv_iconst (v := 0) hx hb dL_law_1123 (by decide) ?_
  refine va_lald hx hb hJ hO 0 0 rfl rfl (by unfold vp_in; decide) dL_law_1124 ?_
  rw [show Int32.toNatClampNeg 0 = 0 from by decide, hg0]
  refine lv_iload hx hb dL_law_1125 (lv_at hl 0 rfl) ?_
  refine lv_i2l (v := r1.toInt64) hx hb dL_law_1127 rfl ?_
  refine W.lcmp hx hb dL_law_1128 ?_
  refine lw_E 0 (lg_self _) ?_
  exact lv_if_eq (tgt := 1134) hx hb dL_law_1129 (by decide) (fun _ => fin ls hl) (fun q7 => absurd rfl q7)
