/-! the law's rounds, a call each -/
theorem m01_isUnfit (n cm : Nat) (a : Nat → Nat → Int32) (kn : Nat → Bool) (f k : Int32) : (mIsUnfit n cm a kn f k).2.1 = 0 ∨ (mIsUnfit n cm a kn f k).2.1 = 1 := by
  unfold mIsUnfit; split
  · exact bI_01 _
  · exact Or.inl rfl
theorem m01_isSpoilt (n cm : Nat) (a : Nat → Nat → Int32) (kn : Nat → Bool) (f k : Int32) : (mIsSpoilt n cm a kn f k).2.1 = 0 ∨ (mIsSpoilt n cm a kn f k).2.1 = 1 := by
  unfold mIsSpoilt; split
  · exact bI_01 _
  · exact Or.inl rfl
set_option maxHeartbeats 4000000 in
theorem lq_keptByAll {p : Program} {l : Launch} {e9 : Env} {s : State} {m : MethodId} {below : List Frame} {meth : Method} {c : Code} {H : Heap} {locs : List Loc} {cells slots : Nat} {Q : State → Prop} {b9 L9 : Nat} {xs : Nat → Int32} {D : va_G} {cI cII cZ cJ : ClassId} {sa : Nat → Nat} {u : Nat → Nat} {h : Nat} {q : Nat → Nat} {o : Nat} {ls : Array Slot} {i : Nat} (hfl : l.stackTraces = false) (F : CallFix p m c cL_law 7 s #[Value.ref b9] lw_tbl RL) (hK : va_K D vwCl (cT cI cII) s) (hZ : va_K D vwCl (mT cI cZ) s) (hJ : va_K D vwCl [(cJ, .long)] s) (hN : wzN s) (hX : ∀ A : Nat → Prop, (∀ a : Nat, a < s.heap.size → ¬ A a) → xF A sa s) (hsx : va_X b9 L9 xs s s.heap) (hb9 : b9 < s.heap.size) (hL : L9 ≤ 3072) (I : lwI s.heap D cI cII cZ cJ u h q o H locs) (hi : i + 6 ≤ L9) (hc : cells + 46 ≤ 601024) (hs : slots + 440 ≤ 7293034) (hl : lv_has ls 7 [(0, .ref b9), (1, .ref (u 30)), (2, .ref h), (3, .ref o), (4, .int (nI i))])
    (kk : ∀ (H1 : Heap) (locs1 : List Loc) (ls1 : Array Slot), lwI s.heap D cI cII cZ cJ u h q o H1 locs1 → lv_has ls1 7 [(0, .ref b9), (1, .ref (u 30)), (2, .ref h), (3, .ref o), (4, .int (nI i))] → W p l e9 room_1 s m #[Value.ref b9] below meth c H1 locs1 (cells + 46) (slots + 440) Q (F0 m 1844 ls1 [])) : W p l e9 room_1 s m #[Value.ref b9] below meth c H locs cells slots Q (F0 m 1490 ls []) := by
  obtain ⟨n, cm, a, kn, th, lm, V, pq, sp, cn, e, sz, b, L, w, nx, g, R, CC, he, hsz, hch, hP, hM, hO, hS⟩ := I
  have hx := F.1
  have hb := F.2.1
  have hok := rel_ok R
  have hcn := rel_cn R
  have hrc := rel_rc R
  have hmz := mP_lt hM
  have hS0 := hS
  have hoz : o < H.size := vx_lt hO (k := 0) rfl
  refine lv_aload_n hx hb dL_law_1490 rfl (lv_at hl 1 rfl) ?_
  refine lv_aload_n hx hb dL_law_1491 rfl (lv_at hl 0 rfl) ?_
  refine lv_iload hx hb dL_law_1492 (lv_at hl 4 rfl) ?_
  refine lv_iconst (v := 1) hx hb dL_law_1494 (by decide) ?_
  refine lv_iadd hx hb dL_law_1495 ?_
  refine lw_E (nI (i + 1)) (nI_add i 1) ?_
  refine va_sld (A := fun x => s.heap.size ≤ x) hx hb hsx hb9 (Nat.not_le.mpr hb9) hS (vp_in_nI (n := i + 1) (by omega) (by omega)) dL_law_1496 ?_
  refine lw_E (xs (i + 1)) (by rw [nI_clamp (by omega)]) ?_
  refine lv_aload_n hx hb dL_law_1497 rfl (lv_at hl 3 rfl) ?_
  have hop := oz_keptByAll R (xs (i + 1))
  refine lz_call (nn := 3) F hK hJ hN hX CC [.ref (u 30), .int (xs (i + 1)), .ref o] (lwc_keptByAll hfl CC.1 (xs (i + 1)) hch he hsz hok hcn hrc CC.2.2.2.2.1 hoz) (vx_cwSW 3 F.2.2.2.2 gL_L_keptByAll rfl rfl rfl (by decide +kernel) ⟨(Nat.le_of_ble_eq_true rfl), (Nat.le_of_ble_eq_true rfl)⟩) hP hO hM (mW_ad CC.2.2.2.2.2) hS rfl hl.1 rfl (lv_room (Nat.le_of_ble_eq_true rfl)) ⟨by show cells + 1 ≤ 601024; omega, by show slots + 6 ≤ 7293034; omega⟩ dL_law_1498 (fun V1 pq1 sp1 cn1 e1 sz1 b1 L1 w1 nx1 g1 H1 locs1 hA hg hP hO hM hz1 hS => ?_)
  have CC1 := CC.next hA.2.2.2.2.2.2.1 hS0.1 hA.2.2.2.2.2.2.2 hmz hoz
  refine lv_istore (lv' := [(5, .int (wzcode [1] (cKeptByAll (b, cn, List.map w L) (xs (i + 1))).1)), (0, .ref b9), (1, .ref (u 30)), (2, .ref h), (3, .ref o), (4, .int (nI i))]) hx hb dL_law_1501 hl (by decide) rfl (fun ls hl => ?_)
  refine lv_aload_n hx hb dL_law_1503 rfl (lv_at hl 3 rfl) ?_
  refine lv_aload_n hx hb dL_law_1504 rfl (lv_at hl 1 rfl) ?_
  refine lv_iload hx hb dL_law_1505 (lv_at hl 5 rfl) ?_
  refine lv_iconst (v := 1) hx hb dL_law_1507 (by decide) ?_
  refine lv_iadd hx hb dL_law_1508 ?_
  refine lw_E (nI (i + 1)) (nI_add i 1) ?_
  refine va_sld (A := fun x => s.heap.size ≤ x) hx hb hsx hb9 (Nat.not_le.mpr hb9) hS (vp_in_nI (n := i + 1) (by omega) (by omega)) dL_law_1509 ?_
  refine lw_E (xs (i + 1)) (by rw [nI_clamp (by omega)]) ?_
  refine wr_callV (A := fun x => s.heap.size ≤ x) F hZ [.int (xs (i + 1))] (mc_keptByAll CC.2.2.2.2.2 (xs (i + 1)) R.inv.mi) (cwV 1 F.2.2.2.2 gL_X4_keptByAll rfl rfl rfl (by decide +kernel) ⟨(Nat.le_of_ble_eq_true rfl), (Nat.le_of_ble_eq_true rfl)⟩) (mg_rc hZ hM) hM hS (fun x hx => (CC.2.2.1 x hx).1) rfl hl.1 rfl (lv_room (Nat.le_of_ble_eq_true rfl)) ⟨by show cells + 1 ≤ 601024; omega, by show slots + 6 ≤ 7293034; omega⟩ dL_law_1510 (fun r1 n1 cm1 th1 lm1 a1 kn1 H2 locs2 hpost hM hz2 hf2 hS => ?_)
  obtain ⟨hP, hO⟩ := lw_keepC CC1 hP hO hf2
  have hpost : (th1, r1, n1, cm1, a1, kn1) = mKeptByAll n cm a kn (xs (i + 1)) := hpost
  rw [← hpost] at hop
  refine lv_istore (lv' := [(6, .int r1), (5, .int (wzcode [1] (cKeptByAll (b, cn, List.map w L) (xs (i + 1))).1)), (0, .ref b9), (1, .ref (u 30)), (2, .ref h), (3, .ref o), (4, .int (nI i))]) hx hb dL_law_1513 hl (by decide) rfl (fun ls hl => ?_)
  refine lv_aload_n hx hb dL_law_1515 rfl (lv_at hl 4 rfl) ?_
  refine ro_callV F hZ [] (mc_thrown hM) (cwV 0 F.2.2.2.2 gL_X4_thrown rfl rfl rfl (by decide +kernel) ⟨(Nat.le_of_ble_eq_true rfl), (Nat.le_of_ble_eq_true rfl)⟩) (mg_rc hZ hM) rfl hl.1 rfl (lv_room (Nat.le_of_ble_eq_true rfl)) ⟨by show cells + 1 ≤ 601024; omega, by show slots + 6 ≤ 7293034; omega⟩ dL_law_1516 ?_
  refine lv_iload hx hb dL_law_1519 (lv_at hl 1 rfl) ?_
  refine lv_icmp_eq (tgt := 1526) hx hb dL_law_1521 (by decide) (fun q9 => ?_) (fun q9 => absurd hop.1.symm q9)
  refine lv_iload hx hb dL_law_1526 (lv_at hl 1 rfl) ?_
  have hI := lw_next hop.2.2 hA CC1 hP hM hO hS
  have fin : ∀ ls : Array Slot, lv_has ls 7 [(6, .int r1), (5, .int (wzcode [1] (cKeptByAll (b, cn, List.map w L) (xs (i + 1))).1)), (0, .ref b9), (1, .ref (u 30)), (2, .ref h), (3, .ref o), (4, .int (nI i))] → W p l e9 room_1 s m #[Value.ref b9] below meth c H2 locs2 (cells + 1) (slots + 6) Q (F0 m 1543 ls []) := by
    intro ls hl
    refine lv_goto (tgt := 1844) hx hb dL_law_1543 (by decide) ?_
    exact W.widen (by omega) (by omega) (kk H2 locs2 ls hI (lv_sub hl [2, 3, 4, 5, 6] rfl))
  refine lv_if_ne (tgt := 1543) hx hb dL_law_1528 (by decide) (fun q8 => fin ls hl) (fun q8 => ?_)
  obtain ⟨g2, g3⟩ := hop.2.1 (hop.1.symm.trans q8)
  have hg0 : g1 0 = r1.toInt64 := (hg g2).trans (congrArg Int32.toInt64 g3)
  refine lv_aload_n hx hb dL_law_1531 rfl (lv_at hl 5 rfl) ?_
  refine lv_iconst (v := 0) hx hb dL_law_1532 (by decide) ?_
  refine va_lald hx hb hJ hO 0 0 rfl rfl (by unfold vp_in; decide) dL_law_1533 ?_
  rw [show Int32.toNatClampNeg 0 = 0 from by decide, hg0]
  refine lv_iload hx hb dL_law_1534 (lv_at hl 0 rfl) ?_
  refine lv_i2l (v := r1.toInt64) hx hb dL_law_1536 rfl ?_
  refine W.lcmp hx hb dL_law_1537 ?_
  refine lw_E 0 (lg_self _) ?_
  exact lv_if_eq (tgt := 1543) hx hb dL_law_1538 (by decide) (fun _ => fin ls hl) (fun q7 => absurd rfl q7)
set_option maxHeartbeats 4000000 in
theorem lq_lacks {p : Program} {l : Launch} {e9 : Env} {s : State} {m : MethodId} {below : List Frame} {meth : Method} {c : Code} {H : Heap} {locs : List Loc} {cells slots : Nat} {Q : State → Prop} {b9 L9 : Nat} {xs : Nat → Int32} {D : va_G} {cI cII cZ cJ : ClassId} {sa : Nat → Nat} {u : Nat → Nat} {h : Nat} {q : Nat → Nat} {o : Nat} {ls : Array Slot} {i : Nat} (hfl : l.stackTraces = false) (F : CallFix p m c cL_law 7 s #[Value.ref b9] lw_tbl RL) (hK : va_K D vwCl (cT cI cII) s) (hZ : va_K D vwCl (mT cI cZ) s) (hJ : va_K D vwCl [(cJ, .long)] s) (hN : wzN s) (hX : ∀ A : Nat → Prop, (∀ a : Nat, a < s.heap.size → ¬ A a) → xF A sa s) (hsx : va_X b9 L9 xs s s.heap) (hb9 : b9 < s.heap.size) (hL : L9 ≤ 3072) (I : lwI s.heap D cI cII cZ cJ u h q o H locs) (hi : i + 6 ≤ L9) (hc : cells + 46 ≤ 601024) (hs : slots + 440 ≤ 7293034) (hl : lv_has ls 7 [(0, .ref b9), (1, .ref (u 30)), (2, .ref h), (3, .ref o), (4, .int (nI i))])
    (kk : ∀ (H1 : Heap) (locs1 : List Loc) (ls1 : Array Slot), lwI s.heap D cI cII cZ cJ u h q o H1 locs1 → lv_has ls1 7 [(0, .ref b9), (1, .ref (u 30)), (2, .ref h), (3, .ref o), (4, .int (nI i))] → W p l e9 room_1 s m #[Value.ref b9] below meth c H1 locs1 (cells + 46) (slots + 440) Q (F0 m 1844 ls1 [])) : W p l e9 room_1 s m #[Value.ref b9] below meth c H locs cells slots Q (F0 m 1546 ls []) := by
  obtain ⟨n, cm, a, kn, th, lm, V, pq, sp, cn, e, sz, b, L, w, nx, g, R, CC, he, hsz, hch, hP, hM, hO, hS⟩ := I
  have hx := F.1
  have hb := F.2.1
  have hok := rel_ok R
  have hcn := rel_cn R
  have hrc := rel_rc R
  have hmz := mP_lt hM
  have hS0 := hS
  have hoz : o < H.size := vx_lt hO (k := 0) rfl
  refine lv_aload_n hx hb dL_law_1546 rfl (lv_at hl 1 rfl) ?_
  refine lv_aload_n hx hb dL_law_1547 rfl (lv_at hl 0 rfl) ?_
  refine lv_iload hx hb dL_law_1548 (lv_at hl 4 rfl) ?_
  refine lv_iconst (v := 1) hx hb dL_law_1550 (by decide) ?_
  refine lv_iadd hx hb dL_law_1551 ?_
  refine lw_E (nI (i + 1)) (nI_add i 1) ?_
  refine va_sld (A := fun x => s.heap.size ≤ x) hx hb hsx hb9 (Nat.not_le.mpr hb9) hS (vp_in_nI (n := i + 1) (by omega) (by omega)) dL_law_1552 ?_
  refine lw_E (xs (i + 1)) (by rw [nI_clamp (by omega)]) ?_
  refine lv_aload_n hx hb dL_law_1553 rfl (lv_at hl 0 rfl) ?_
  refine lv_iload hx hb dL_law_1554 (lv_at hl 4 rfl) ?_
  refine lv_iconst (v := 2) hx hb dL_law_1556 (by decide) ?_
  refine lv_iadd hx hb dL_law_1557 ?_
  refine lw_E (nI (i + 2)) (nI_add i 2) ?_
  refine va_sld (A := fun x => s.heap.size ≤ x) hx hb hsx hb9 (Nat.not_le.mpr hb9) hS (vp_in_nI (n := i + 2) (by omega) (by omega)) dL_law_1558 ?_
  refine lw_E (xs (i + 2)) (by rw [nI_clamp (by omega)]) ?_
  refine lv_aload_n hx hb dL_law_1559 rfl (lv_at hl 0 rfl) ?_
  refine lv_iload hx hb dL_law_1560 (lv_at hl 4 rfl) ?_
  refine lv_iconst (v := 3) hx hb dL_law_1562 (by decide) ?_
  refine lv_iadd hx hb dL_law_1563 ?_
  refine lw_E (nI (i + 3)) (nI_add i 3) ?_
  refine va_sld (A := fun x => s.heap.size ≤ x) hx hb hsx hb9 (Nat.not_le.mpr hb9) hS (vp_in_nI (n := i + 3) (by omega) (by omega)) dL_law_1564 ?_
  refine lw_E (xs (i + 3)) (by rw [nI_clamp (by omega)]) ?_
  refine lv_aload_n hx hb dL_law_1565 rfl (lv_at hl 3 rfl) ?_
  have hop := oz_lacks R (xs (i + 1)) (xs (i + 2)) (xs (i + 3))
  refine lz_call (nn := 5) F hK hJ hN hX CC [.ref (u 30), .int (xs (i + 1)), .int (xs (i + 2)), .int (xs (i + 3)), .ref o] (lwc_lacks hfl CC.1 (xs (i + 1)) (xs (i + 2)) (xs (i + 3)) hch he hsz hok hcn hrc CC.2.2.2.2.1 hoz) (vx_cwSW 5 F.2.2.2.2 gL_L_lacks rfl rfl rfl (by decide +kernel) ⟨(Nat.le_of_ble_eq_true rfl), (Nat.le_of_ble_eq_true rfl)⟩) hP hO hM (mW_ad CC.2.2.2.2.2) hS rfl hl.1 rfl (lv_room (Nat.le_of_ble_eq_true rfl)) ⟨by show cells + 3 ≤ 601024; omega, by show slots + 18 ≤ 7293034; omega⟩ dL_law_1566 (fun V1 pq1 sp1 cn1 e1 sz1 b1 L1 w1 nx1 g1 H1 locs1 hA hg hP hO hM hz1 hS => ?_)
  have CC1 := CC.next hA.2.2.2.2.2.2.1 hS0.1 hA.2.2.2.2.2.2.2 hmz hoz
  refine lv_istore (lv' := [(5, .int (wzcode [1] (cLacks (b, cn, List.map w L) (xs (i + 1)) (xs (i + 2)) (xs (i + 3))).1)), (0, .ref b9), (1, .ref (u 30)), (2, .ref h), (3, .ref o), (4, .int (nI i))]) hx hb dL_law_1569 hl (by decide) rfl (fun ls hl => ?_)
  refine lv_aload_n hx hb dL_law_1571 rfl (lv_at hl 3 rfl) ?_
  refine lv_aload_n hx hb dL_law_1572 rfl (lv_at hl 1 rfl) ?_
  refine lv_iload hx hb dL_law_1573 (lv_at hl 5 rfl) ?_
  refine lv_iconst (v := 1) hx hb dL_law_1575 (by decide) ?_
  refine lv_iadd hx hb dL_law_1576 ?_
  refine lw_E (nI (i + 1)) (nI_add i 1) ?_
  refine va_sld (A := fun x => s.heap.size ≤ x) hx hb hsx hb9 (Nat.not_le.mpr hb9) hS (vp_in_nI (n := i + 1) (by omega) (by omega)) dL_law_1577 ?_
  refine lw_E (xs (i + 1)) (by rw [nI_clamp (by omega)]) ?_
  refine lv_aload_n hx hb dL_law_1578 rfl (lv_at hl 1 rfl) ?_
  refine lv_iload hx hb dL_law_1579 (lv_at hl 5 rfl) ?_
  refine lv_iconst (v := 2) hx hb dL_law_1581 (by decide) ?_
  refine lv_iadd hx hb dL_law_1582 ?_
  refine lw_E (nI (i + 2)) (nI_add i 2) ?_
  refine va_sld (A := fun x => s.heap.size ≤ x) hx hb hsx hb9 (Nat.not_le.mpr hb9) hS (vp_in_nI (n := i + 2) (by omega) (by omega)) dL_law_1583 ?_
  refine lw_E (xs (i + 2)) (by rw [nI_clamp (by omega)]) ?_
  refine lv_aload_n hx hb dL_law_1584 rfl (lv_at hl 1 rfl) ?_
  refine lv_iload hx hb dL_law_1585 (lv_at hl 5 rfl) ?_
  refine lv_iconst (v := 3) hx hb dL_law_1587 (by decide) ?_
  refine lv_iadd hx hb dL_law_1588 ?_
  refine lw_E (nI (i + 3)) (nI_add i 3) ?_
  refine va_sld (A := fun x => s.heap.size ≤ x) hx hb hsx hb9 (Nat.not_le.mpr hb9) hS (vp_in_nI (n := i + 3) (by omega) (by omega)) dL_law_1589 ?_
  refine lw_E (xs (i + 3)) (by rw [nI_clamp (by omega)]) ?_
  refine wr_callV (A := fun x => s.heap.size ≤ x) F hZ [.int (xs (i + 1)), .int (xs (i + 2)), .int (xs (i + 3))] (mc_lacks CC.2.2.2.2.2 (xs (i + 1)) (xs (i + 2)) (xs (i + 3)) R.inv.mi) (cwV 3 F.2.2.2.2 gL_X4_lacks rfl rfl rfl (by decide +kernel) ⟨(Nat.le_of_ble_eq_true rfl), (Nat.le_of_ble_eq_true rfl)⟩) (mg_rc hZ hM) hM hS (fun x hx => (CC.2.2.1 x hx).1) rfl hl.1 rfl (lv_room (Nat.le_of_ble_eq_true rfl)) ⟨by show cells + 3 ≤ 601024; omega, by show slots + 18 ≤ 7293034; omega⟩ dL_law_1590 (fun r1 n1 cm1 th1 lm1 a1 kn1 H2 locs2 hpost hM hz2 hf2 hS => ?_)
  obtain ⟨hP, hO⟩ := lw_keepC CC1 hP hO hf2
  have hpost : (th1, r1, n1, cm1, a1, kn1) = mLacks n cm a kn (xs (i + 1)) (xs (i + 2)) (xs (i + 3)) := hpost
  rw [← hpost] at hop
  refine lv_istore (lv' := [(6, .int r1), (5, .int (wzcode [1] (cLacks (b, cn, List.map w L) (xs (i + 1)) (xs (i + 2)) (xs (i + 3))).1)), (0, .ref b9), (1, .ref (u 30)), (2, .ref h), (3, .ref o), (4, .int (nI i))]) hx hb dL_law_1593 hl (by decide) rfl (fun ls hl => ?_)
  refine lv_aload_n hx hb dL_law_1595 rfl (lv_at hl 4 rfl) ?_
  refine ro_callV F hZ [] (mc_thrown hM) (cwV 0 F.2.2.2.2 gL_X4_thrown rfl rfl rfl (by decide +kernel) ⟨(Nat.le_of_ble_eq_true rfl), (Nat.le_of_ble_eq_true rfl)⟩) (mg_rc hZ hM) rfl hl.1 rfl (lv_room (Nat.le_of_ble_eq_true rfl)) ⟨by show cells + 3 ≤ 601024; omega, by show slots + 18 ≤ 7293034; omega⟩ dL_law_1596 ?_
  refine lv_iload hx hb dL_law_1599 (lv_at hl 1 rfl) ?_
  refine lv_icmp_eq (tgt := 1606) hx hb dL_law_1601 (by decide) (fun q9 => ?_) (fun q9 => absurd hop.1.symm q9)
  refine lv_iload hx hb dL_law_1606 (lv_at hl 1 rfl) ?_
  have hI := lw_next hop.2.2 hA CC1 hP hM hO hS
  have fin : ∀ ls : Array Slot, lv_has ls 7 [(6, .int r1), (5, .int (wzcode [1] (cLacks (b, cn, List.map w L) (xs (i + 1)) (xs (i + 2)) (xs (i + 3))).1)), (0, .ref b9), (1, .ref (u 30)), (2, .ref h), (3, .ref o), (4, .int (nI i))] → W p l e9 room_1 s m #[Value.ref b9] below meth c H2 locs2 (cells + 3) (slots + 18) Q (F0 m 1623 ls []) := by
    intro ls hl
    refine lv_goto (tgt := 1844) hx hb dL_law_1623 (by decide) ?_
    exact W.widen (by omega) (by omega) (kk H2 locs2 ls hI (lv_sub hl [2, 3, 4, 5, 6] rfl))
  refine lv_if_ne (tgt := 1623) hx hb dL_law_1608 (by decide) (fun q8 => fin ls hl) (fun q8 => ?_)
  obtain ⟨g2, g3⟩ := hop.2.1 (hop.1.symm.trans q8)
  have hg0 : g1 0 = r1.toInt64 := (hg g2).trans (congrArg Int32.toInt64 g3)
  refine lv_aload_n hx hb dL_law_1611 rfl (lv_at hl 5 rfl) ?_
  refine lv_iconst (v := 0) hx hb dL_law_1612 (by decide) ?_
  refine va_lald hx hb hJ hO 0 0 rfl rfl (by unfold vp_in; decide) dL_law_1613 ?_
  rw [show Int32.toNatClampNeg 0 = 0 from by decide, hg0]
  refine lv_iload hx hb dL_law_1614 (lv_at hl 0 rfl) ?_
  refine lv_i2l (v := r1.toInt64) hx hb dL_law_1616 rfl ?_
  refine W.lcmp hx hb dL_law_1617 ?_
  refine lw_E 0 (lg_self _) ?_
  exact lv_if_eq (tgt := 1623) hx hb dL_law_1618 (by decide) (fun _ => fin ls hl) (fun q7 => absurd rfl q7)
set_option maxHeartbeats 4000000 in
theorem lq_isUnfit {p : Program} {l : Launch} {e9 : Env} {s : State} {m : MethodId} {below : List Frame} {meth : Method} {c : Code} {H : Heap} {locs : List Loc} {cells slots : Nat} {Q : State → Prop} {b9 L9 : Nat} {xs : Nat → Int32} {D : va_G} {cI cII cZ cJ : ClassId} {sa : Nat → Nat} {u : Nat → Nat} {h : Nat} {q : Nat → Nat} {o : Nat} {ls : Array Slot} {i : Nat} (hfl : l.stackTraces = false) (F : CallFix p m c cL_law 7 s #[Value.ref b9] lw_tbl RL) (hK : va_K D vwCl (cT cI cII) s) (hZ : va_K D vwCl (mT cI cZ) s) (hJ : va_K D vwCl [(cJ, .long)] s) (hN : wzN s) (hX : ∀ A : Nat → Prop, (∀ a : Nat, a < s.heap.size → ¬ A a) → xF A sa s) (hsx : va_X b9 L9 xs s s.heap) (hb9 : b9 < s.heap.size) (hL : L9 ≤ 3072) (I : lwI s.heap D cI cII cZ cJ u h q o H locs) (hi : i + 6 ≤ L9) (hc : cells + 46 ≤ 601024) (hs : slots + 440 ≤ 7293034) (hl : lv_has ls 7 [(0, .ref b9), (1, .ref (u 30)), (2, .ref h), (3, .ref o), (4, .int (nI i))])
    (kk : ∀ (H1 : Heap) (locs1 : List Loc) (ls1 : Array Slot), lwI s.heap D cI cII cZ cJ u h q o H1 locs1 → lv_has ls1 7 [(0, .ref b9), (1, .ref (u 30)), (2, .ref h), (3, .ref o), (4, .int (nI i))] → W p l e9 room_1 s m #[Value.ref b9] below meth c H1 locs1 (cells + 46) (slots + 440) Q (F0 m 1844 ls1 [])) : W p l e9 room_1 s m #[Value.ref b9] below meth c H locs cells slots Q (F0 m 1626 ls []) := by
  obtain ⟨n, cm, a, kn, th, lm, V, pq, sp, cn, e, sz, b, L, w, nx, g, R, CC, he, hsz, hch, hP, hM, hO, hS⟩ := I
  have hx := F.1
  have hb := F.2.1
  have hok := rel_ok R
  have hcn := rel_cn R
  have hrc := rel_rc R
  have hmz := mP_lt hM
  have hS0 := hS
  have hoz : o < H.size := vx_lt hO (k := 0) rfl
  refine lv_aload_n hx hb dL_law_1626 rfl (lv_at hl 1 rfl) ?_
  refine lv_aload_n hx hb dL_law_1627 rfl (lv_at hl 0 rfl) ?_
  refine lv_iload hx hb dL_law_1628 (lv_at hl 4 rfl) ?_
  refine lv_iconst (v := 1) hx hb dL_law_1630 (by decide) ?_
  refine lv_iadd hx hb dL_law_1631 ?_
  refine lw_E (nI (i + 1)) (nI_add i 1) ?_
  refine va_sld (A := fun x => s.heap.size ≤ x) hx hb hsx hb9 (Nat.not_le.mpr hb9) hS (vp_in_nI (n := i + 1) (by omega) (by omega)) dL_law_1632 ?_
  refine lw_E (xs (i + 1)) (by rw [nI_clamp (by omega)]) ?_
  refine lv_aload_n hx hb dL_law_1633 rfl (lv_at hl 0 rfl) ?_
  refine lv_iload hx hb dL_law_1634 (lv_at hl 4 rfl) ?_
  refine lv_iconst (v := 2) hx hb dL_law_1636 (by decide) ?_
  refine lv_iadd hx hb dL_law_1637 ?_
  refine lw_E (nI (i + 2)) (nI_add i 2) ?_
  refine va_sld (A := fun x => s.heap.size ≤ x) hx hb hsx hb9 (Nat.not_le.mpr hb9) hS (vp_in_nI (n := i + 2) (by omega) (by omega)) dL_law_1638 ?_
  refine lw_E (xs (i + 2)) (by rw [nI_clamp (by omega)]) ?_
  refine lv_aload_n hx hb dL_law_1639 rfl (lv_at hl 3 rfl) ?_
  have hop := oz_isUnfit R (xs (i + 1)) (xs (i + 2))
  refine lz_call (nn := 4) F hK hJ hN hX CC [.ref (u 30), .int (xs (i + 1)), .int (xs (i + 2)), .ref o] (lwc_isUnfit hfl CC.1 (xs (i + 1)) (xs (i + 2)) hch he hsz hok hcn hrc CC.2.2.2.2.1 hoz) (vx_cwSW 4 F.2.2.2.2 gL_L_isUnfit rfl rfl rfl (by decide +kernel) ⟨(Nat.le_of_ble_eq_true rfl), (Nat.le_of_ble_eq_true rfl)⟩) hP hO hM (mW_ad CC.2.2.2.2.2) hS rfl hl.1 rfl (lv_room (Nat.le_of_ble_eq_true rfl)) ⟨by show cells + 2 ≤ 601024; omega, by show slots + 12 ≤ 7293034; omega⟩ dL_law_1640 (fun V1 pq1 sp1 cn1 e1 sz1 b1 L1 w1 nx1 g1 H1 locs1 hA hg hP hO hM hz1 hS => ?_)
  have CC1 := CC.next hA.2.2.2.2.2.2.1 hS0.1 hA.2.2.2.2.2.2.2 hmz hoz
  refine lv_istore (lv' := [(5, .int (wzcode [1] (cIsUnfit (b, cn, List.map w L) (xs (i + 1)) (xs (i + 2))).1)), (0, .ref b9), (1, .ref (u 30)), (2, .ref h), (3, .ref o), (4, .int (nI i))]) hx hb dL_law_1643 hl (by decide) rfl (fun ls hl => ?_)
  refine lv_aload_n hx hb dL_law_1645 rfl (lv_at hl 3 rfl) ?_
  refine lv_aload_n hx hb dL_law_1646 rfl (lv_at hl 1 rfl) ?_
  refine lv_iload hx hb dL_law_1647 (lv_at hl 5 rfl) ?_
  refine lv_iconst (v := 1) hx hb dL_law_1649 (by decide) ?_
  refine lv_iadd hx hb dL_law_1650 ?_
  refine lw_E (nI (i + 1)) (nI_add i 1) ?_
  refine va_sld (A := fun x => s.heap.size ≤ x) hx hb hsx hb9 (Nat.not_le.mpr hb9) hS (vp_in_nI (n := i + 1) (by omega) (by omega)) dL_law_1651 ?_
  refine lw_E (xs (i + 1)) (by rw [nI_clamp (by omega)]) ?_
  refine lv_aload_n hx hb dL_law_1652 rfl (lv_at hl 1 rfl) ?_
  refine lv_iload hx hb dL_law_1653 (lv_at hl 5 rfl) ?_
  refine lv_iconst (v := 2) hx hb dL_law_1655 (by decide) ?_
  refine lv_iadd hx hb dL_law_1656 ?_
  refine lw_E (nI (i + 2)) (nI_add i 2) ?_
  refine va_sld (A := fun x => s.heap.size ≤ x) hx hb hsx hb9 (Nat.not_le.mpr hb9) hS (vp_in_nI (n := i + 2) (by omega) (by omega)) dL_law_1657 ?_
  refine lw_E (xs (i + 2)) (by rw [nI_clamp (by omega)]) ?_
  refine wr_callV (A := fun x => s.heap.size ≤ x) F hZ [.int (xs (i + 1)), .int (xs (i + 2))] (mc_isUnfit CC.2.2.2.2.2 (xs (i + 1)) (xs (i + 2)) R.inv.mi) (cwV 2 F.2.2.2.2 gL_X4_isUnfit rfl rfl rfl (by decide +kernel) ⟨(Nat.le_of_ble_eq_true rfl), (Nat.le_of_ble_eq_true rfl)⟩) (mg_rc hZ hM) hM hS (fun x hx => (CC.2.2.1 x hx).1) rfl hl.1 rfl (lv_room (Nat.le_of_ble_eq_true rfl)) ⟨by show cells + 2 ≤ 601024; omega, by show slots + 12 ≤ 7293034; omega⟩ dL_law_1658 (fun r1 n1 cm1 th1 lm1 a1 kn1 H2 locs2 hpost hM hz2 hf2 hS => ?_)
  obtain ⟨hP, hO⟩ := lw_keepC CC1 hP hO hf2
  have hpost : (th1, r1, n1, cm1, a1, kn1) = mIsUnfit n cm a kn (xs (i + 1)) (xs (i + 2)) := hpost
  have hr01 := m01_isUnfit n cm a kn (xs (i + 1)) (xs (i + 2))
  rw [← hpost] at hop hr01
  refine lv_istore (lv' := [(6, .int r1), (5, .int (wzcode [1] (cIsUnfit (b, cn, List.map w L) (xs (i + 1)) (xs (i + 2))).1)), (0, .ref b9), (1, .ref (u 30)), (2, .ref h), (3, .ref o), (4, .int (nI i))]) hx hb dL_law_1661 hl (by decide) rfl (fun ls hl => ?_)
  refine lv_aload_n hx hb dL_law_1663 rfl (lv_at hl 4 rfl) ?_
  refine ro_callV F hZ [] (mc_thrown hM) (cwV 0 F.2.2.2.2 gL_X4_thrown rfl rfl rfl (by decide +kernel) ⟨(Nat.le_of_ble_eq_true rfl), (Nat.le_of_ble_eq_true rfl)⟩) (mg_rc hZ hM) rfl hl.1 rfl (lv_room (Nat.le_of_ble_eq_true rfl)) ⟨by show cells + 2 ≤ 601024; omega, by show slots + 12 ≤ 7293034; omega⟩ dL_law_1664 ?_
  refine lv_iload hx hb dL_law_1667 (lv_at hl 1 rfl) ?_
  refine lv_icmp_eq (tgt := 1674) hx hb dL_law_1669 (by decide) (fun q9 => ?_) (fun q9 => absurd hop.1.symm q9)
  refine lv_iload hx hb dL_law_1674 (lv_at hl 1 rfl) ?_
  have hI := lw_next hop.2.2 hA CC1 hP hM hO hS
  have fin : ∀ ls : Array Slot, lv_has ls 7 [(6, .int r1), (5, .int (wzcode [1] (cIsUnfit (b, cn, List.map w L) (xs (i + 1)) (xs (i + 2))).1)), (0, .ref b9), (1, .ref (u 30)), (2, .ref h), (3, .ref o), (4, .int (nI i))] → W p l e9 room_1 s m #[Value.ref b9] below meth c H2 locs2 (cells + 2) (slots + 12) Q (F0 m 1698 ls []) := by
    intro ls hl
    refine lv_goto (tgt := 1844) hx hb dL_law_1698 (by decide) ?_
    exact W.widen (by omega) (by omega) (kk H2 locs2 ls hI (lv_sub hl [2, 3, 4, 5, 6] rfl))
  refine lv_if_ne (tgt := 1698) hx hb dL_law_1676 (by decide) (fun q8 => fin ls hl) (fun q8 => ?_)
  obtain ⟨g2, g3⟩ := hop.2.1 (hop.1.symm.trans q8)
  have hg0 : g1 0 = r1.toInt64 := (hg g2).trans (congrArg Int32.toInt64 g3)
  refine lv_aload_n hx hb dL_law_1679 rfl (lv_at hl 5 rfl) ?_
  refine lv_iconst (v := 0) hx hb dL_law_1680 (by decide) ?_
  refine va_lald hx hb hJ hO 0 0 rfl rfl (by unfold vp_in; decide) dL_law_1681 ?_
  rw [show Int32.toNatClampNeg 0 = 0 from by decide, hg0]
  refine lv_iload hx hb dL_law_1682 (lv_at hl 0 rfl) ?_
  refine lv_if_eq (tgt := 1691) hx hb dL_law_1684 (by decide) (fun q7 => ?_) (fun q7 => ?_)
  · refine lv_lconst (v := 0) hx hb dL_law_1691 (by decide) ?_
    refine W.lcmp hx hb dL_law_1692 ?_
    refine lw_E 0 (by rw [q7]; exact lg_self _) ?_
    exact lv_if_eq (tgt := 1698) hx hb dL_law_1693 (by decide) (fun _ => fin ls hl) (fun q6 => absurd rfl q6)
  · have q6 : r1 = 1 := hr01.elim (fun z => absurd z q7) id
    refine lv_lconst (v := 1) hx hb dL_law_1687 (by decide) ?_
    refine lv_goto (tgt := 1692) hx hb dL_law_1688 (by decide) ?_
    refine W.lcmp hx hb dL_law_1692 ?_
    refine lw_E 0 (by rw [q6]; exact lg_self _) ?_
    exact lv_if_eq (tgt := 1698) hx hb dL_law_1693 (by decide) (fun _ => fin ls hl) (fun q6 => absurd rfl q6)
set_option maxHeartbeats 4000000 in
theorem lq_isSpoilt {p : Program} {l : Launch} {e9 : Env} {s : State} {m : MethodId} {below : List Frame} {meth : Method} {c : Code} {H : Heap} {locs : List Loc} {cells slots : Nat} {Q : State → Prop} {b9 L9 : Nat} {xs : Nat → Int32} {D : va_G} {cI cII cZ cJ : ClassId} {sa : Nat → Nat} {u : Nat → Nat} {h : Nat} {q : Nat → Nat} {o : Nat} {ls : Array Slot} {i : Nat} (hfl : l.stackTraces = false) (F : CallFix p m c cL_law 7 s #[Value.ref b9] lw_tbl RL) (hK : va_K D vwCl (cT cI cII) s) (hZ : va_K D vwCl (mT cI cZ) s) (hJ : va_K D vwCl [(cJ, .long)] s) (hN : wzN s) (hX : ∀ A : Nat → Prop, (∀ a : Nat, a < s.heap.size → ¬ A a) → xF A sa s) (hsx : va_X b9 L9 xs s s.heap) (hb9 : b9 < s.heap.size) (hL : L9 ≤ 3072) (I : lwI s.heap D cI cII cZ cJ u h q o H locs) (hi : i + 6 ≤ L9) (hc : cells + 46 ≤ 601024) (hs : slots + 440 ≤ 7293034) (hl : lv_has ls 7 [(0, .ref b9), (1, .ref (u 30)), (2, .ref h), (3, .ref o), (4, .int (nI i))])
    (kk : ∀ (H1 : Heap) (locs1 : List Loc) (ls1 : Array Slot), lwI s.heap D cI cII cZ cJ u h q o H1 locs1 → lv_has ls1 7 [(0, .ref b9), (1, .ref (u 30)), (2, .ref h), (3, .ref o), (4, .int (nI i))] → W p l e9 room_1 s m #[Value.ref b9] below meth c H1 locs1 (cells + 46) (slots + 440) Q (F0 m 1844 ls1 [])) : W p l e9 room_1 s m #[Value.ref b9] below meth c H locs cells slots Q (F0 m 1701 ls []) := by
  obtain ⟨n, cm, a, kn, th, lm, V, pq, sp, cn, e, sz, b, L, w, nx, g, R, CC, he, hsz, hch, hP, hM, hO, hS⟩ := I
  have hx := F.1
  have hb := F.2.1
  have hok := rel_ok R
  have hcn := rel_cn R
  have hrc := rel_rc R
  have hmz := mP_lt hM
  have hS0 := hS
  have hoz : o < H.size := vx_lt hO (k := 0) rfl
  refine lv_aload_n hx hb dL_law_1701 rfl (lv_at hl 1 rfl) ?_
  refine lv_aload_n hx hb dL_law_1702 rfl (lv_at hl 0 rfl) ?_
  refine lv_iload hx hb dL_law_1703 (lv_at hl 4 rfl) ?_
  refine lv_iconst (v := 1) hx hb dL_law_1705 (by decide) ?_
  refine lv_iadd hx hb dL_law_1706 ?_
  refine lw_E (nI (i + 1)) (nI_add i 1) ?_
  refine va_sld (A := fun x => s.heap.size ≤ x) hx hb hsx hb9 (Nat.not_le.mpr hb9) hS (vp_in_nI (n := i + 1) (by omega) (by omega)) dL_law_1707 ?_
  refine lw_E (xs (i + 1)) (by rw [nI_clamp (by omega)]) ?_
  refine lv_aload_n hx hb dL_law_1708 rfl (lv_at hl 0 rfl) ?_
  refine lv_iload hx hb dL_law_1709 (lv_at hl 4 rfl) ?_
  refine lv_iconst (v := 2) hx hb dL_law_1711 (by decide) ?_
  refine lv_iadd hx hb dL_law_1712 ?_
  refine lw_E (nI (i + 2)) (nI_add i 2) ?_
  refine va_sld (A := fun x => s.heap.size ≤ x) hx hb hsx hb9 (Nat.not_le.mpr hb9) hS (vp_in_nI (n := i + 2) (by omega) (by omega)) dL_law_1713 ?_
  refine lw_E (xs (i + 2)) (by rw [nI_clamp (by omega)]) ?_
  refine lv_aload_n hx hb dL_law_1714 rfl (lv_at hl 3 rfl) ?_
  have hop := oz_isSpoilt R (xs (i + 1)) (xs (i + 2))
  refine lz_call (nn := 4) F hK hJ hN hX CC [.ref (u 30), .int (xs (i + 1)), .int (xs (i + 2)), .ref o] (lwc_isSpoilt hfl CC.1 (xs (i + 1)) (xs (i + 2)) hch he hsz hok hcn hrc CC.2.2.2.2.1 hoz) (vx_cwSW 4 F.2.2.2.2 gL_L_isSpoilt rfl rfl rfl (by decide +kernel) ⟨(Nat.le_of_ble_eq_true rfl), (Nat.le_of_ble_eq_true rfl)⟩) hP hO hM (mW_ad CC.2.2.2.2.2) hS rfl hl.1 rfl (lv_room (Nat.le_of_ble_eq_true rfl)) ⟨by show cells + 2 ≤ 601024; omega, by show slots + 12 ≤ 7293034; omega⟩ dL_law_1715 (fun V1 pq1 sp1 cn1 e1 sz1 b1 L1 w1 nx1 g1 H1 locs1 hA hg hP hO hM hz1 hS => ?_)
  have CC1 := CC.next hA.2.2.2.2.2.2.1 hS0.1 hA.2.2.2.2.2.2.2 hmz hoz
  refine lv_istore (lv' := [(5, .int (wzcode [1] (cIsSpoilt (b, cn, List.map w L) (xs (i + 1)) (xs (i + 2))).1)), (0, .ref b9), (1, .ref (u 30)), (2, .ref h), (3, .ref o), (4, .int (nI i))]) hx hb dL_law_1718 hl (by decide) rfl (fun ls hl => ?_)
  refine lv_aload_n hx hb dL_law_1720 rfl (lv_at hl 3 rfl) ?_
  refine lv_aload_n hx hb dL_law_1721 rfl (lv_at hl 1 rfl) ?_
  refine lv_iload hx hb dL_law_1722 (lv_at hl 5 rfl) ?_
  refine lv_iconst (v := 1) hx hb dL_law_1724 (by decide) ?_
  refine lv_iadd hx hb dL_law_1725 ?_
  refine lw_E (nI (i + 1)) (nI_add i 1) ?_
  refine va_sld (A := fun x => s.heap.size ≤ x) hx hb hsx hb9 (Nat.not_le.mpr hb9) hS (vp_in_nI (n := i + 1) (by omega) (by omega)) dL_law_1726 ?_
  refine lw_E (xs (i + 1)) (by rw [nI_clamp (by omega)]) ?_
  refine lv_aload_n hx hb dL_law_1727 rfl (lv_at hl 1 rfl) ?_
  refine lv_iload hx hb dL_law_1728 (lv_at hl 5 rfl) ?_
  refine lv_iconst (v := 2) hx hb dL_law_1730 (by decide) ?_
  refine lv_iadd hx hb dL_law_1731 ?_
  refine lw_E (nI (i + 2)) (nI_add i 2) ?_
  refine va_sld (A := fun x => s.heap.size ≤ x) hx hb hsx hb9 (Nat.not_le.mpr hb9) hS (vp_in_nI (n := i + 2) (by omega) (by omega)) dL_law_1732 ?_
  refine lw_E (xs (i + 2)) (by rw [nI_clamp (by omega)]) ?_
  refine wr_callV (A := fun x => s.heap.size ≤ x) F hZ [.int (xs (i + 1)), .int (xs (i + 2))] (mc_isSpoilt CC.2.2.2.2.2 (xs (i + 1)) (xs (i + 2)) R.inv.mi) (cwV 2 F.2.2.2.2 gL_X4_isSpoilt rfl rfl rfl (by decide +kernel) ⟨(Nat.le_of_ble_eq_true rfl), (Nat.le_of_ble_eq_true rfl)⟩) (mg_rc hZ hM) hM hS (fun x hx => (CC.2.2.1 x hx).1) rfl hl.1 rfl (lv_room (Nat.le_of_ble_eq_true rfl)) ⟨by show cells + 2 ≤ 601024; omega, by show slots + 12 ≤ 7293034; omega⟩ dL_law_1733 (fun r1 n1 cm1 th1 lm1 a1 kn1 H2 locs2 hpost hM hz2 hf2 hS => ?_)
  obtain ⟨hP, hO⟩ := lw_keepC CC1 hP hO hf2
  have hpost : (th1, r1, n1, cm1, a1, kn1) = mIsSpoilt n cm a kn (xs (i + 1)) (xs (i + 2)) := hpost
  have hr01 := m01_isSpoilt n cm a kn (xs (i + 1)) (xs (i + 2))
  rw [← hpost] at hop hr01
  refine lv_istore (lv' := [(6, .int r1), (5, .int (wzcode [1] (cIsSpoilt (b, cn, List.map w L) (xs (i + 1)) (xs (i + 2))).1)), (0, .ref b9), (1, .ref (u 30)), (2, .ref h), (3, .ref o), (4, .int (nI i))]) hx hb dL_law_1736 hl (by decide) rfl (fun ls hl => ?_)
  refine lv_aload_n hx hb dL_law_1738 rfl (lv_at hl 4 rfl) ?_
  refine ro_callV F hZ [] (mc_thrown hM) (cwV 0 F.2.2.2.2 gL_X4_thrown rfl rfl rfl (by decide +kernel) ⟨(Nat.le_of_ble_eq_true rfl), (Nat.le_of_ble_eq_true rfl)⟩) (mg_rc hZ hM) rfl hl.1 rfl (lv_room (Nat.le_of_ble_eq_true rfl)) ⟨by show cells + 2 ≤ 601024; omega, by show slots + 12 ≤ 7293034; omega⟩ dL_law_1739 ?_
  refine lv_iload hx hb dL_law_1742 (lv_at hl 1 rfl) ?_
  refine lv_icmp_eq (tgt := 1749) hx hb dL_law_1744 (by decide) (fun q9 => ?_) (fun q9 => absurd hop.1.symm q9)
  refine lv_iload hx hb dL_law_1749 (lv_at hl 1 rfl) ?_
  have hI := lw_next hop.2.2 hA CC1 hP hM hO hS
  have fin : ∀ ls : Array Slot, lv_has ls 7 [(6, .int r1), (5, .int (wzcode [1] (cIsSpoilt (b, cn, List.map w L) (xs (i + 1)) (xs (i + 2))).1)), (0, .ref b9), (1, .ref (u 30)), (2, .ref h), (3, .ref o), (4, .int (nI i))] → W p l e9 room_1 s m #[Value.ref b9] below meth c H2 locs2 (cells + 2) (slots + 12) Q (F0 m 1773 ls []) := by
    intro ls hl
    refine lv_goto (tgt := 1844) hx hb dL_law_1773 (by decide) ?_
    exact W.widen (by omega) (by omega) (kk H2 locs2 ls hI (lv_sub hl [2, 3, 4, 5, 6] rfl))
  refine lv_if_ne (tgt := 1773) hx hb dL_law_1751 (by decide) (fun q8 => fin ls hl) (fun q8 => ?_)
  obtain ⟨g2, g3⟩ := hop.2.1 (hop.1.symm.trans q8)
  have hg0 : g1 0 = r1.toInt64 := (hg g2).trans (congrArg Int32.toInt64 g3)
  refine lv_aload_n hx hb dL_law_1754 rfl (lv_at hl 5 rfl) ?_
  refine lv_iconst (v := 0) hx hb dL_law_1755 (by decide) ?_
  refine va_lald hx hb hJ hO 0 0 rfl rfl (by unfold vp_in; decide) dL_law_1756 ?_
  rw [show Int32.toNatClampNeg 0 = 0 from by decide, hg0]
  refine lv_iload hx hb dL_law_1757 (lv_at hl 0 rfl) ?_
  refine lv_if_eq (tgt := 1766) hx hb dL_law_1759 (by decide) (fun q7 => ?_) (fun q7 => ?_)
  · refine lv_lconst (v := 0) hx hb dL_law_1766 (by decide) ?_
    refine W.lcmp hx hb dL_law_1767 ?_
    refine lw_E 0 (by rw [q7]; exact lg_self _) ?_
    exact lv_if_eq (tgt := 1773) hx hb dL_law_1768 (by decide) (fun _ => fin ls hl) (fun q6 => absurd rfl q6)
  · have q6 : r1 = 1 := hr01.elim (fun z => absurd z q7) id
    refine lv_lconst (v := 1) hx hb dL_law_1762 (by decide) ?_
    refine lv_goto (tgt := 1767) hx hb dL_law_1763 (by decide) ?_
    refine W.lcmp hx hb dL_law_1767 ?_
    refine lw_E 0 (by rw [q6]; exact lg_self _) ?_
    exact lv_if_eq (tgt := 1773) hx hb dL_law_1768 (by decide) (fun _ => fin ls hl) (fun q6 => absurd rfl q6)
set_option maxHeartbeats 4000000 in
theorem lq_missing {p : Program} {l : Launch} {e9 : Env} {s : State} {m : MethodId} {below : List Frame} {meth : Method} {c : Code} {H : Heap} {locs : List Loc} {cells slots : Nat} {Q : State → Prop} {b9 L9 : Nat} {xs : Nat → Int32} {D : va_G} {cI cII cZ cJ : ClassId} {sa : Nat → Nat} {u : Nat → Nat} {h : Nat} {q : Nat → Nat} {o : Nat} {ls : Array Slot} {i : Nat} (hfl : l.stackTraces = false) (F : CallFix p m c cL_law 7 s #[Value.ref b9] lw_tbl RL) (hK : va_K D vwCl (cT cI cII) s) (hZ : va_K D vwCl (mT cI cZ) s) (hJ : va_K D vwCl [(cJ, .long)] s) (hN : wzN s) (hX : ∀ A : Nat → Prop, (∀ a : Nat, a < s.heap.size → ¬ A a) → xF A sa s) (hsx : va_X b9 L9 xs s s.heap) (hb9 : b9 < s.heap.size) (hL : L9 ≤ 3072) (I : lwI s.heap D cI cII cZ cJ u h q o H locs) (hi : i + 6 ≤ L9) (hc : cells + 46 ≤ 601024) (hs : slots + 440 ≤ 7293034) (hl : lv_has ls 7 [(0, .ref b9), (1, .ref (u 30)), (2, .ref h), (3, .ref o), (4, .int (nI i))])
    (kk : ∀ (H1 : Heap) (locs1 : List Loc) (ls1 : Array Slot), lwI s.heap D cI cII cZ cJ u h q o H1 locs1 → lv_has ls1 7 [(0, .ref b9), (1, .ref (u 30)), (2, .ref h), (3, .ref o), (4, .int (nI i))] → W p l e9 room_1 s m #[Value.ref b9] below meth c H1 locs1 (cells + 46) (slots + 440) Q (F0 m 1844 ls1 [])) : W p l e9 room_1 s m #[Value.ref b9] below meth c H locs cells slots Q (F0 m 1776 ls []) := by
  obtain ⟨n, cm, a, kn, th, lm, V, pq, sp, cn, e, sz, b, L, w, nx, g, R, CC, he, hsz, hch, hP, hM, hO, hS⟩ := I
  have hx := F.1
  have hb := F.2.1
  have hok := rel_ok R
  have hcn := rel_cn R
  have hrc := rel_rc R
  have hmz := mP_lt hM
  have hS0 := hS
  have hoz : o < H.size := vx_lt hO (k := 0) rfl
  refine lv_aload_n hx hb dL_law_1776 rfl (lv_at hl 1 rfl) ?_
  refine lv_aload_n hx hb dL_law_1777 rfl (lv_at hl 0 rfl) ?_
  refine lv_iload hx hb dL_law_1778 (lv_at hl 4 rfl) ?_
  refine lv_iconst (v := 1) hx hb dL_law_1780 (by decide) ?_
  refine lv_iadd hx hb dL_law_1781 ?_
  refine lw_E (nI (i + 1)) (nI_add i 1) ?_
  refine va_sld (A := fun x => s.heap.size ≤ x) hx hb hsx hb9 (Nat.not_le.mpr hb9) hS (vp_in_nI (n := i + 1) (by omega) (by omega)) dL_law_1782 ?_
  refine lw_E (xs (i + 1)) (by rw [nI_clamp (by omega)]) ?_
  refine lv_aload_n hx hb dL_law_1783 rfl (lv_at hl 0 rfl) ?_
  refine lv_iload hx hb dL_law_1784 (lv_at hl 4 rfl) ?_
  refine lv_iconst (v := 2) hx hb dL_law_1786 (by decide) ?_
  refine lv_iadd hx hb dL_law_1787 ?_
  refine lw_E (nI (i + 2)) (nI_add i 2) ?_
  refine va_sld (A := fun x => s.heap.size ≤ x) hx hb hsx hb9 (Nat.not_le.mpr hb9) hS (vp_in_nI (n := i + 2) (by omega) (by omega)) dL_law_1788 ?_
  refine lw_E (xs (i + 2)) (by rw [nI_clamp (by omega)]) ?_
  refine lv_aload_n hx hb dL_law_1789 rfl (lv_at hl 3 rfl) ?_
  have hop := oz_missing R (xs (i + 1)) (xs (i + 2))
  refine lz_call (nn := 4) F hK hJ hN hX CC [.ref (u 30), .int (xs (i + 1)), .int (xs (i + 2)), .ref o] (lwc_missing hfl CC.1 (xs (i + 1)) (xs (i + 2)) hch he hsz hok hcn hrc CC.2.2.2.2.1 hoz) (vx_cwSW 4 F.2.2.2.2 gL_L_missing rfl rfl rfl (by decide +kernel) ⟨(Nat.le_of_ble_eq_true rfl), (Nat.le_of_ble_eq_true rfl)⟩) hP hO hM (mW_ad CC.2.2.2.2.2) hS rfl hl.1 rfl (lv_room (Nat.le_of_ble_eq_true rfl)) ⟨by show cells + 2 ≤ 601024; omega, by show slots + 12 ≤ 7293034; omega⟩ dL_law_1790 (fun V1 pq1 sp1 cn1 e1 sz1 b1 L1 w1 nx1 g1 H1 locs1 hA hg hP hO hM hz1 hS => ?_)
  have CC1 := CC.next hA.2.2.2.2.2.2.1 hS0.1 hA.2.2.2.2.2.2.2 hmz hoz
  refine lv_istore (lv' := [(5, .int (wzcode [1] (cMissing (b, cn, List.map w L) (xs (i + 1)) (xs (i + 2))).1)), (0, .ref b9), (1, .ref (u 30)), (2, .ref h), (3, .ref o), (4, .int (nI i))]) hx hb dL_law_1793 hl (by decide) rfl (fun ls hl => ?_)
  refine lv_aload_n hx hb dL_law_1795 rfl (lv_at hl 3 rfl) ?_
  refine lv_aload_n hx hb dL_law_1796 rfl (lv_at hl 1 rfl) ?_
  refine lv_iload hx hb dL_law_1797 (lv_at hl 5 rfl) ?_
  refine lv_iconst (v := 1) hx hb dL_law_1799 (by decide) ?_
  refine lv_iadd hx hb dL_law_1800 ?_
  refine lw_E (nI (i + 1)) (nI_add i 1) ?_
  refine va_sld (A := fun x => s.heap.size ≤ x) hx hb hsx hb9 (Nat.not_le.mpr hb9) hS (vp_in_nI (n := i + 1) (by omega) (by omega)) dL_law_1801 ?_
  refine lw_E (xs (i + 1)) (by rw [nI_clamp (by omega)]) ?_
  refine lv_aload_n hx hb dL_law_1802 rfl (lv_at hl 1 rfl) ?_
  refine lv_iload hx hb dL_law_1803 (lv_at hl 5 rfl) ?_
  refine lv_iconst (v := 2) hx hb dL_law_1805 (by decide) ?_
  refine lv_iadd hx hb dL_law_1806 ?_
  refine lw_E (nI (i + 2)) (nI_add i 2) ?_
  refine va_sld (A := fun x => s.heap.size ≤ x) hx hb hsx hb9 (Nat.not_le.mpr hb9) hS (vp_in_nI (n := i + 2) (by omega) (by omega)) dL_law_1807 ?_
  refine lw_E (xs (i + 2)) (by rw [nI_clamp (by omega)]) ?_
  refine wr_callV (A := fun x => s.heap.size ≤ x) F hZ [.int (xs (i + 1)), .int (xs (i + 2))] (mc_missing CC.2.2.2.2.2 (xs (i + 1)) (xs (i + 2)) R.inv.mi) (cwV 2 F.2.2.2.2 gL_X4_missing rfl rfl rfl (by decide +kernel) ⟨(Nat.le_of_ble_eq_true rfl), (Nat.le_of_ble_eq_true rfl)⟩) (mg_rc hZ hM) hM hS (fun x hx => (CC.2.2.1 x hx).1) rfl hl.1 rfl (lv_room (Nat.le_of_ble_eq_true rfl)) ⟨by show cells + 2 ≤ 601024; omega, by show slots + 12 ≤ 7293034; omega⟩ dL_law_1808 (fun r1 n1 cm1 th1 lm1 a1 kn1 H2 locs2 hpost hM hz2 hf2 hS => ?_)
  obtain ⟨hP, hO⟩ := lw_keepC CC1 hP hO hf2
  have hpost : (th1, r1, n1, cm1, a1, kn1) = mMissing n cm a kn (xs (i + 1)) (xs (i + 2)) := hpost
  rw [← hpost] at hop
  refine lv_istore (lv' := [(6, .int r1), (5, .int (wzcode [1] (cMissing (b, cn, List.map w L) (xs (i + 1)) (xs (i + 2))).1)), (0, .ref b9), (1, .ref (u 30)), (2, .ref h), (3, .ref o), (4, .int (nI i))]) hx hb dL_law_1811 hl (by decide) rfl (fun ls hl => ?_)
  refine lv_aload_n hx hb dL_law_1813 rfl (lv_at hl 4 rfl) ?_
  refine ro_callV F hZ [] (mc_thrown hM) (cwV 0 F.2.2.2.2 gL_X4_thrown rfl rfl rfl (by decide +kernel) ⟨(Nat.le_of_ble_eq_true rfl), (Nat.le_of_ble_eq_true rfl)⟩) (mg_rc hZ hM) rfl hl.1 rfl (lv_room (Nat.le_of_ble_eq_true rfl)) ⟨by show cells + 2 ≤ 601024; omega, by show slots + 12 ≤ 7293034; omega⟩ dL_law_1814 ?_
  refine lv_iload hx hb dL_law_1817 (lv_at hl 1 rfl) ?_
  refine lv_icmp_eq (tgt := 1824) hx hb dL_law_1819 (by decide) (fun q9 => ?_) (fun q9 => absurd hop.1.symm q9)
  refine lv_iload hx hb dL_law_1824 (lv_at hl 1 rfl) ?_
  have hI := lw_next hop.2.2 hA CC1 hP hM hO hS
  have fin : ∀ ls : Array Slot, lv_has ls 7 [(6, .int r1), (5, .int (wzcode [1] (cMissing (b, cn, List.map w L) (xs (i + 1)) (xs (i + 2))).1)), (0, .ref b9), (1, .ref (u 30)), (2, .ref h), (3, .ref o), (4, .int (nI i))] → W p l e9 room_1 s m #[Value.ref b9] below meth c H2 locs2 (cells + 2) (slots + 12) Q (F0 m 1841 ls []) := by
    intro ls hl
    refine lv_goto (tgt := 1844) hx hb dL_law_1841 (by decide) ?_
    exact W.widen (by omega) (by omega) (kk H2 locs2 ls hI (lv_sub hl [2, 3, 4, 5, 6] rfl))
  refine lv_if_ne (tgt := 1841) hx hb dL_law_1826 (by decide) (fun q8 => fin ls hl) (fun q8 => ?_)
  obtain ⟨g2, g3⟩ := hop.2.1 (hop.1.symm.trans q8)
  have hg0 : g1 0 = r1.toInt64 := (hg g2).trans (congrArg Int32.toInt64 g3)
  refine lv_aload_n hx hb dL_law_1829 rfl (lv_at hl 5 rfl) ?_
  refine lv_iconst (v := 0) hx hb dL_law_1830 (by decide) ?_
  refine va_lald hx hb hJ hO 0 0 rfl rfl (by unfold vp_in; decide) dL_law_1831 ?_
  rw [show Int32.toNatClampNeg 0 = 0 from by decide, hg0]
  refine lv_iload hx hb dL_law_1832 (lv_at hl 0 rfl) ?_
  refine lv_i2l (v := r1.toInt64) hx hb dL_law_1834 rfl ?_
  refine W.lcmp hx hb dL_law_1835 ?_
  refine lw_E 0 (lg_self _) ?_
  exact lv_if_eq (tgt := 1841) hx hb dL_law_1836 (by decide) (fun _ => fin ls hl) (fun q7 => absurd rfl q7)
