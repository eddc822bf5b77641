/-! the law's rounds, a call each -/
set_option maxHeartbeats 4000000 in
theorem lq_keep {p : Program} {l : Launch} {e9 : Env} {s : State} {m : MethodId} {below : List Frame} {meth : Method} {c : Code} {H : Heap} {locs : List Loc} {cells slots : Nat} {Q : State → Prop} {b9 L9 : Nat} {xs : Nat → Int32} {D : va_G} {cI cII cZ cJ : ClassId} {sa : Nat → Nat} {u : Nat → Nat} {h : Nat} {q : Nat → Nat} {o : Nat} {ls : Array Slot} {i : Nat} (hfl : l.stackTraces = false) (F : CallFix p m c cL_law 7 s #[Value.ref b9] lw_tbl RL) (hK : va_K D vwCl (cT cI cII) s) (hZ : va_K D vwCl (mT cI cZ) s) (hJ : va_K D vwCl [(cJ, .long)] s) (hN : wzN s) (hX : ∀ A : Nat → Prop, (∀ a : Nat, a < s.heap.size → ¬ A a) → xF A sa s) (hsx : va_X b9 L9 xs s s.heap) (hb9 : b9 < s.heap.size) (hL : L9 ≤ 3072) (I : lwI s.heap D cI cII cZ cJ u h q o H locs) (hi : i + 6 ≤ L9) (hc : cells + 46 ≤ 601024) (hs : slots + 440 ≤ 7293034) (hl : lv_has ls 7 [(0, .ref b9), (1, .ref (u 30)), (2, .ref h), (3, .ref o), (4, .int (nI i))])
    (kk : ∀ (H1 : Heap) (locs1 : List Loc) (ls1 : Array Slot), lwI s.heap D cI cII cZ cJ u h q o H1 locs1 → lv_has ls1 7 [(0, .ref b9), (1, .ref (u 30)), (2, .ref h), (3, .ref o), (4, .int (nI i))] → W p l e9 room_1 s m #[Value.ref b9] below meth c H1 locs1 (cells + 46) (slots + 440) Q (F0 m 1844 ls1 [])) : W p l e9 room_1 s m #[Value.ref b9] below meth c H locs cells slots Q (F0 m 1137 ls []) := by
  obtain ⟨n, cm, a, kn, th, lm, V, pq, sp, cn, e, sz, b, L, w, nx, g, R, CC, he, hsz, hch, hP, hM, hO, hS⟩ := I
  have hx := F.1
  have hb := F.2.1
  have hok := rel_ok R
  have hcn := rel_cn R
  have hrc := rel_rc R
  have hmz := mP_lt hM
  have hS0 := hS
  have hoz : o < H.size := vx_lt hO (k := 0) rfl
  refine lv_aload_n hx hb dL_law_1137 rfl (lv_at hl 1 rfl) ?_
  refine lv_aload_n hx hb dL_law_1138 rfl (lv_at hl 0 rfl) ?_
  refine lv_iload hx hb dL_law_1139 (lv_at hl 4 rfl) ?_
  refine lv_iconst (v := 1) hx hb dL_law_1141 (by decide) ?_
  refine lv_iadd hx hb dL_law_1142 ?_
  refine lw_E (nI (i + 1)) (nI_add i 1) ?_
  refine va_sld (A := fun x => s.heap.size ≤ x) hx hb hsx hb9 (Nat.not_le.mpr hb9) hS (vp_in_nI (n := i + 1) (by omega) (by omega)) dL_law_1143 ?_
  refine lw_E (xs (i + 1)) (by rw [nI_clamp (by omega)]) ?_
  refine lv_aload_n hx hb dL_law_1144 rfl (lv_at hl 0 rfl) ?_
  refine lv_iload hx hb dL_law_1145 (lv_at hl 4 rfl) ?_
  refine lv_iconst (v := 2) hx hb dL_law_1147 (by decide) ?_
  refine lv_iadd hx hb dL_law_1148 ?_
  refine lw_E (nI (i + 2)) (nI_add i 2) ?_
  refine va_sld (A := fun x => s.heap.size ≤ x) hx hb hsx hb9 (Nat.not_le.mpr hb9) hS (vp_in_nI (n := i + 2) (by omega) (by omega)) dL_law_1149 ?_
  refine lw_E (xs (i + 2)) (by rw [nI_clamp (by omega)]) ?_
  refine lv_aload_n hx hb dL_law_1150 rfl (lv_at hl 3 rfl) ?_
  have hop := fun rw9 => oz_keep R rw9 (xs (i + 1)) (xs (i + 2))
  refine lz_call (nn := 4) F hK hJ hN hX CC [.ref (u 30), .int (xs (i + 1)), .int (xs (i + 2)), .ref o] (lwc_keep hfl CC.1 (xs (i + 1)) (xs (i + 2)) hch he hsz hok hcn hrc CC.2.2.2.2.1 hoz) (vx_cwSW 4 F.2.2.2.2 gL_L_keep rfl rfl rfl (by decide +kernel) ⟨(Nat.le_of_ble_eq_true rfl), (Nat.le_of_ble_eq_true rfl)⟩) hP hO hM (mW_ad CC.2.2.2.2.2) hS rfl hl.1 rfl (lv_room (Nat.le_of_ble_eq_true rfl)) ⟨by show cells + 44 ≤ 601024; omega, by show slots + 424 ≤ 7293034; omega⟩ dL_law_1151 (fun V1 pq1 sp1 cn1 e1 sz1 b1 L1 w1 nx1 g1 H1 locs1 hA hg hP hO hM hz1 hS => ?_)
  have CC1 := CC.next hA.2.2.2.2.2.2.1 hS0.1 hA.2.2.2.2.2.2.2 hmz hoz
  refine lv_istore (lv' := [(5, .int (wzcode [1, 3] (cKeep (b, cn, List.map w L) (xs (i + 1)) (xs (i + 2))).1)), (0, .ref b9), (1, .ref (u 30)), (2, .ref h), (3, .ref o), (4, .int (nI i))]) hx hb dL_law_1154 hl (by decide) rfl (fun ls hl => ?_)
  refine lv_aload_n hx hb dL_law_1156 rfl (lv_at hl 3 rfl) ?_
  refine lv_aload_n hx hb dL_law_1157 rfl (lv_at hl 1 rfl) ?_
  refine lv_iload hx hb dL_law_1158 (lv_at hl 5 rfl) ?_
  refine lv_iconst (v := 1) hx hb dL_law_1160 (by decide) ?_
  refine lv_iadd hx hb dL_law_1161 ?_
  refine lw_E (nI (i + 1)) (nI_add i 1) ?_
  refine va_sld (A := fun x => s.heap.size ≤ x) hx hb hsx hb9 (Nat.not_le.mpr hb9) hS (vp_in_nI (n := i + 1) (by omega) (by omega)) dL_law_1162 ?_
  refine lw_E (xs (i + 1)) (by rw [nI_clamp (by omega)]) ?_
  refine lv_aload_n hx hb dL_law_1163 rfl (lv_at hl 1 rfl) ?_
  refine lv_iload hx hb dL_law_1164 (lv_at hl 5 rfl) ?_
  refine lv_iconst (v := 2) hx hb dL_law_1166 (by decide) ?_
  refine lv_iadd hx hb dL_law_1167 ?_
  refine lw_E (nI (i + 2)) (nI_add i 2) ?_
  refine va_sld (A := fun x => s.heap.size ≤ x) hx hb hsx hb9 (Nat.not_le.mpr hb9) hS (vp_in_nI (n := i + 2) (by omega) (by omega)) dL_law_1168 ?_
  refine lw_E (xs (i + 2)) (by rw [nI_clamp (by omega)]) ?_
  refine wr_callV (A := fun x => s.heap.size ≤ x) F hZ [.int (xs (i + 1)), .int (xs (i + 2))] (mc_keep CC.2.2.2.2.2 (xs (i + 1)) (xs (i + 2)) R.inv.mi) (cwV 2 F.2.2.2.2 gL_X4_keep rfl rfl rfl (by decide +kernel) ⟨(Nat.le_of_ble_eq_true rfl), (Nat.le_of_ble_eq_true rfl)⟩) (mg_rc hZ hM) hM hS (fun x hx => (CC.2.2.1 x hx).1) rfl hl.1 rfl (lv_room (Nat.le_of_ble_eq_true rfl)) ⟨by show cells + 44 ≤ 601024; omega, by show slots + 424 ≤ 7293034; omega⟩ dL_law_1169 (fun r1 n1 cm1 th1 lm1 a1 kn1 H2 locs2 hpost hM hz2 hf2 hS => ?_)
  obtain ⟨hP, hO⟩ := lw_keepC CC1 hP hO hf2
  obtain ⟨rw9, hpost⟩ := hpost
  have hop := hop rw9
  have hpost : (th1, r1, n1, cm1, a1, kn1) = mKeep n cm (set17 a rw9) kn (xs (i + 1)) (xs (i + 2)) := hpost
  rw [← hpost] at hop
  refine lv_istore (lv' := [(6, .int r1), (5, .int (wzcode [1, 3] (cKeep (b, cn, List.map w L) (xs (i + 1)) (xs (i + 2))).1)), (0, .ref b9), (1, .ref (u 30)), (2, .ref h), (3, .ref o), (4, .int (nI i))]) hx hb dL_law_1172 hl (by decide) rfl (fun ls hl => ?_)
  refine lv_aload_n hx hb dL_law_1174 rfl (lv_at hl 4 rfl) ?_
  refine ro_callV F hZ [] (mc_thrown hM) (cwV 0 F.2.2.2.2 gL_X4_thrown rfl rfl rfl (by decide +kernel) ⟨(Nat.le_of_ble_eq_true rfl), (Nat.le_of_ble_eq_true rfl)⟩) (mg_rc hZ hM) rfl hl.1 rfl (lv_room (Nat.le_of_ble_eq_true rfl)) ⟨by show cells + 44 ≤ 601024; omega, by show slots + 424 ≤ 7293034; omega⟩ dL_law_1175 ?_
  refine lv_iload hx hb dL_law_1178 (lv_at hl 1 rfl) ?_
  refine lv_icmp_eq (tgt := 1185) hx hb dL_law_1180 (by decide) (fun q9 => ?_) (fun q9 => absurd hop.1.symm q9)
  refine lv_iload hx hb dL_law_1185 (lv_at hl 1 rfl) ?_
  have hI := lw_next hop.2.2 hA CC1 hP hM hO hS
  have fin : ∀ ls : Array Slot, lv_has ls 7 [(6, .int r1), (5, .int (wzcode [1, 3] (cKeep (b, cn, List.map w L) (xs (i + 1)) (xs (i + 2))).1)), (0, .ref b9), (1, .ref (u 30)), (2, .ref h), (3, .ref o), (4, .int (nI i))] → W p l e9 room_1 s m #[Value.ref b9] below meth c H2 locs2 (cells + 44) (slots + 424) Q (F0 m 1202 ls []) := by
    intro ls hl
    refine lv_goto (tgt := 1844) hx hb dL_law_1202 (by decide) ?_
    exact W.widen (by omega) (by omega) (kk H2 locs2 ls hI (lv_sub hl [2, 3, 4, 5, 6] rfl))
  refine lv_if_ne (tgt := 1202) hx hb dL_law_1187 (by decide) (fun q8 => fin ls hl) (fun q8 => ?_)
  obtain ⟨g2, g3⟩ := hop.2.1 (hop.1.symm.trans q8)
  have hg0 : g1 0 = r1.toInt64 := (hg g2).trans (congrArg Int32.toInt64 g3)
  refine lv_aload_n hx hb dL_law_1190 rfl (lv_at hl 5 rfl) ?_
  refine lv_iconst (v := 0) hx hb dL_law_1191 (by decide) ?_
  refine va_lald hx hb hJ hO 0 0 rfl rfl (by unfold vp_in; decide) dL_law_1192 ?_
  rw [show Int32.toNatClampNeg 0 = 0 from by decide, hg0]
  refine lv_iload hx hb dL_law_1193 (lv_at hl 0 rfl) ?_
  refine lv_i2l (v := r1.toInt64) hx hb dL_law_1195 rfl ?_
  refine W.lcmp hx hb dL_law_1196 ?_
  refine lw_E 0 (lg_self _) ?_
  exact lv_if_eq (tgt := 1202) hx hb dL_law_1197 (by decide) (fun _ => fin ls hl) (fun q7 => absurd rfl q7)
set_option maxHeartbeats 4000000 in
theorem lq_drop {p : Program} {l : Launch} {e9 : Env} {s : State} {m : MethodId} {below : List Frame} {meth : Method} {c : Code} {H : Heap} {locs : List Loc} {cells slots : Nat} {Q : State → Prop} {b9 L9 : Nat} {xs : Nat → Int32} {D : va_G} {cI cII cZ cJ : ClassId} {sa : Nat → Nat} {u : Nat → Nat} {h : Nat} {q : Nat → Nat} {o : Nat} {ls : Array Slot} {i : Nat} (hfl : l.stackTraces = false) (F : CallFix p m c cL_law 7 s #[Value.ref b9] lw_tbl RL) (hK : va_K D vwCl (cT cI cII) s) (hZ : va_K D vwCl (mT cI cZ) s) (hJ : va_K D vwCl [(cJ, .long)] s) (hN : wzN s) (hX : ∀ A : Nat → Prop, (∀ a : Nat, a < s.heap.size → ¬ A a) → xF A sa s) (hsx : va_X b9 L9 xs s s.heap) (hb9 : b9 < s.heap.size) (hL : L9 ≤ 3072) (I : lwI s.heap D cI cII cZ cJ u h q o H locs) (hi : i + 6 ≤ L9) (hc : cells + 46 ≤ 601024) (hs : slots + 440 ≤ 7293034) (hl : lv_has ls 7 [(0, .ref b9), (1, .ref (u 30)), (2, .ref h), (3, .ref o), (4, .int (nI i))])
    (kk : ∀ (H1 : Heap) (locs1 : List Loc) (ls1 : Array Slot), lwI s.heap D cI cII cZ cJ u h q o H1 locs1 → lv_has ls1 7 [(0, .ref b9), (1, .ref (u 30)), (2, .ref h), (3, .ref o), (4, .int (nI i))] → W p l e9 room_1 s m #[Value.ref b9] below meth c H1 locs1 (cells + 46) (slots + 440) Q (F0 m 1844 ls1 [])) : W p l e9 room_1 s m #[Value.ref b9] below meth c H locs cells slots Q (F0 m 1205 ls []) := by
  obtain ⟨n, cm, a, kn, th, lm, V, pq, sp, cn, e, sz, b, L, w, nx, g, R, CC, he, hsz, hch, hP, hM, hO, hS⟩ := I
  have hx := F.1
  have hb := F.2.1
  have hok := rel_ok R
  have hcn := rel_cn R
  have hrc := rel_rc R
  have hmz := mP_lt hM
  have hS0 := hS
  have hoz : o < H.size := vx_lt hO (k := 0) rfl
  refine lv_aload_n hx hb dL_law_1205 rfl (lv_at hl 1 rfl) ?_
  refine lv_aload_n hx hb dL_law_1206 rfl (lv_at hl 0 rfl) ?_
  refine lv_iload hx hb dL_law_1207 (lv_at hl 4 rfl) ?_
  refine lv_iconst (v := 1) hx hb dL_law_1209 (by decide) ?_
  refine lv_iadd hx hb dL_law_1210 ?_
  refine lw_E (nI (i + 1)) (nI_add i 1) ?_
  refine va_sld (A := fun x => s.heap.size ≤ x) hx hb hsx hb9 (Nat.not_le.mpr hb9) hS (vp_in_nI (n := i + 1) (by omega) (by omega)) dL_law_1211 ?_
  refine lw_E (xs (i + 1)) (by rw [nI_clamp (by omega)]) ?_
  refine lv_aload_n hx hb dL_law_1212 rfl (lv_at hl 0 rfl) ?_
  refine lv_iload hx hb dL_law_1213 (lv_at hl 4 rfl) ?_
  refine lv_iconst (v := 2) hx hb dL_law_1215 (by decide) ?_
  refine lv_iadd hx hb dL_law_1216 ?_
  refine lw_E (nI (i + 2)) (nI_add i 2) ?_
  refine va_sld (A := fun x => s.heap.size ≤ x) hx hb hsx hb9 (Nat.not_le.mpr hb9) hS (vp_in_nI (n := i + 2) (by omega) (by omega)) dL_law_1217 ?_
  refine lw_E (xs (i + 2)) (by rw [nI_clamp (by omega)]) ?_
  refine lv_aload_n hx hb dL_law_1218 rfl (lv_at hl 3 rfl) ?_
  have hop := fun rw9 => oz_drop R rw9 (xs (i + 1)) (xs (i + 2))
  refine lz_call (nn := 4) F hK hJ hN hX CC [.ref (u 30), .int (xs (i + 1)), .int (xs (i + 2)), .ref o] (lwc_drop hfl CC.1 (xs (i + 1)) (xs (i + 2)) hch he hsz hok hcn hrc CC.2.2.2.2.1 hoz) (vx_cwSW 4 F.2.2.2.2 gL_L_drop rfl rfl rfl (by decide +kernel) ⟨(Nat.le_of_ble_eq_true rfl), (Nat.le_of_ble_eq_true rfl)⟩) hP hO hM (mW_ad CC.2.2.2.2.2) hS rfl hl.1 rfl (lv_room (Nat.le_of_ble_eq_true rfl)) ⟨by show cells + 5 ≤ 601024; omega, by show slots + 34 ≤ 7293034; omega⟩ dL_law_1219 (fun V1 pq1 sp1 cn1 e1 sz1 b1 L1 w1 nx1 g1 H1 locs1 hA hg hP hO hM hz1 hS => ?_)
  have CC1 := CC.next hA.2.2.2.2.2.2.1 hS0.1 hA.2.2.2.2.2.2.2 hmz hoz
  refine lv_istore (lv' := [(5, .int (wzcode [1, 3] (cDrop (b, cn, List.map w L) (xs (i + 1)) (xs (i + 2))).1)), (0, .ref b9), (1, .ref (u 30)), (2, .ref h), (3, .ref o), (4, .int (nI i))]) hx hb dL_law_1222 hl (by decide) rfl (fun ls hl => ?_)
  refine lv_aload_n hx hb dL_law_1224 rfl (lv_at hl 3 rfl) ?_
  refine lv_aload_n hx hb dL_law_1225 rfl (lv_at hl 1 rfl) ?_
  refine lv_iload hx hb dL_law_1226 (lv_at hl 5 rfl) ?_
  refine lv_iconst (v := 1) hx hb dL_law_1228 (by decide) ?_
  refine lv_iadd hx hb dL_law_1229 ?_
  refine lw_E (nI (i + 1)) (nI_add i 1) ?_
  refine va_sld (A := fun x => s.heap.size ≤ x) hx hb hsx hb9 (Nat.not_le.mpr hb9) hS (vp_in_nI (n := i + 1) (by omega) (by omega)) dL_law_1230 ?_
  refine lw_E (xs (i + 1)) (by rw [nI_clamp (by omega)]) ?_
  refine lv_aload_n hx hb dL_law_1231 rfl (lv_at hl 1 rfl) ?_
  refine lv_iload hx hb dL_law_1232 (lv_at hl 5 rfl) ?_
  refine lv_iconst (v := 2) hx hb dL_law_1234 (by decide) ?_
  refine lv_iadd hx hb dL_law_1235 ?_
  refine lw_E (nI (i + 2)) (nI_add i 2) ?_
  refine va_sld (A := fun x => s.heap.size ≤ x) hx hb hsx hb9 (Nat.not_le.mpr hb9) hS (vp_in_nI (n := i + 2) (by omega) (by omega)) dL_law_1236 ?_
  refine lw_E (xs (i + 2)) (by rw [nI_clamp (by omega)]) ?_
  refine wr_callV (A := fun x => s.heap.size ≤ x) F hZ [.int (xs (i + 1)), .int (xs (i + 2))] (mc_drop CC.2.2.2.2.2 (xs (i + 1)) (xs (i + 2)) R.inv.mi) (cwV 2 F.2.2.2.2 gL_X4_drop rfl rfl rfl (by decide +kernel) ⟨(Nat.le_of_ble_eq_true rfl), (Nat.le_of_ble_eq_true rfl)⟩) (mg_rc hZ hM) hM hS (fun x hx => (CC.2.2.1 x hx).1) rfl hl.1 rfl (lv_room (Nat.le_of_ble_eq_true rfl)) ⟨by show cells + 5 ≤ 601024; omega, by show slots + 34 ≤ 7293034; omega⟩ dL_law_1237 (fun r1 n1 cm1 th1 lm1 a1 kn1 H2 locs2 hpost hM hz2 hf2 hS => ?_)
  obtain ⟨hP, hO⟩ := lw_keepC CC1 hP hO hf2
  obtain ⟨rw9, hpost⟩ := hpost
  have hop := hop rw9
  have hpost : (th1, r1, n1, cm1, a1, kn1) = mDrop n cm (set17 a rw9) kn (xs (i + 1)) (xs (i + 2)) := hpost
  rw [← hpost] at hop
  refine lv_istore (lv' := [(6, .int r1), (5, .int (wzcode [1, 3] (cDrop (b, cn, List.map w L) (xs (i + 1)) (xs (i + 2))).1)), (0, .ref b9), (1, .ref (u 30)), (2, .ref h), (3, .ref o), (4, .int (nI i))]) hx hb dL_law_1240 hl (by decide) rfl (fun ls hl => ?_)
  refine lv_aload_n hx hb dL_law_1242 rfl (lv_at hl 4 rfl) ?_
  refine ro_callV F hZ [] (mc_thrown hM) (cwV 0 F.2.2.2.2 gL_X4_thrown rfl rfl rfl (by decide +kernel) ⟨(Nat.le_of_ble_eq_true rfl), (Nat.le_of_ble_eq_true rfl)⟩) (mg_rc hZ hM) rfl hl.1 rfl (lv_room (Nat.le_of_ble_eq_true rfl)) ⟨by show cells + 5 ≤ 601024; omega, by show slots + 34 ≤ 7293034; omega⟩ dL_law_1243 ?_
  refine lv_iload hx hb dL_law_1246 (lv_at hl 1 rfl) ?_
  refine lv_icmp_eq (tgt := 1253) hx hb dL_law_1248 (by decide) (fun q9 => ?_) (fun q9 => absurd hop.1.symm q9)
  refine lv_iload hx hb dL_law_1253 (lv_at hl 1 rfl) ?_
  have hI := lw_next hop.2.2 hA CC1 hP hM hO hS
  have fin : ∀ ls : Array Slot, lv_has ls 7 [(6, .int r1), (5, .int (wzcode [1, 3] (cDrop (b, cn, List.map w L) (xs (i + 1)) (xs (i + 2))).1)), (0, .ref b9), (1, .ref (u 30)), (2, .ref h), (3, .ref o), (4, .int (nI i))] → W p l e9 room_1 s m #[Value.ref b9] below meth c H2 locs2 (cells + 5) (slots + 34) Q (F0 m 1270 ls []) := by
    intro ls hl
    refine lv_goto (tgt := 1844) hx hb dL_law_1270 (by decide) ?_
    exact W.widen (by omega) (by omega) (kk H2 locs2 ls hI (lv_sub hl [2, 3, 4, 5, 6] rfl))
  refine lv_if_ne (tgt := 1270) hx hb dL_law_1255 (by decide) (fun q8 => fin ls hl) (fun q8 => ?_)
  obtain ⟨g2, g3⟩ := hop.2.1 (hop.1.symm.trans q8)
  have hg0 : g1 0 = r1.toInt64 := (hg g2).trans (congrArg Int32.toInt64 g3)
  refine lv_aload_n hx hb dL_law_1258 rfl (lv_at hl 5 rfl) ?_
  refine lv_iconst (v := 0) hx hb dL_law_1259 (by decide) ?_
  refine va_lald hx hb hJ hO 0 0 rfl rfl (by unfold vp_in; decide) dL_law_1260 ?_
  rw [show Int32.toNatClampNeg 0 = 0 from by decide, hg0]
  refine lv_iload hx hb dL_law_1261 (lv_at hl 0 rfl) ?_
  refine lv_i2l (v := r1.toInt64) hx hb dL_law_1263 rfl ?_
  refine W.lcmp hx hb dL_law_1264 ?_
  refine lw_E 0 (lg_self _) ?_
  exact lv_if_eq (tgt := 1270) hx hb dL_law_1265 (by decide) (fun _ => fin ls hl) (fun q7 => absurd rfl q7)
set_option maxHeartbeats 4000000 in
theorem lq_bake {p : Program} {l : Launch} {e9 : Env} {s : State} {m : MethodId} {below : List Frame} {meth : Method} {c : Code} {H : Heap} {locs : List Loc} {cells slots : Nat} {Q : State → Prop} {b9 L9 : Nat} {xs : Nat → Int32} {D : va_G} {cI cII cZ cJ : ClassId} {sa : Nat → Nat} {u : Nat → Nat} {h : Nat} {q : Nat → Nat} {o : Nat} {ls : Array Slot} {i : Nat} (hfl : l.stackTraces = false) (F : CallFix p m c cL_law 7 s #[Value.ref b9] lw_tbl RL) (hK : va_K D vwCl (cT cI cII) s) (hZ : va_K D vwCl (mT cI cZ) s) (hJ : va_K D vwCl [(cJ, .long)] s) (hN : wzN s) (hX : ∀ A : Nat → Prop, (∀ a : Nat, a < s.heap.size → ¬ A a) → xF A sa s) (hsx : va_X b9 L9 xs s s.heap) (hb9 : b9 < s.heap.size) (hL : L9 ≤ 3072) (I : lwI s.heap D cI cII cZ cJ u h q o H locs) (hi : i + 6 ≤ L9) (hc : cells + 46 ≤ 601024) (hs : slots + 440 ≤ 7293034) (hl : lv_has ls 7 [(0, .ref b9), (1, .ref (u 30)), (2, .ref h), (3, .ref o), (4, .int (nI i))])
    (kk : ∀ (H1 : Heap) (locs1 : List Loc) (ls1 : Array Slot), lwI s.heap D cI cII cZ cJ u h q o H1 locs1 → lv_has ls1 7 [(0, .ref b9), (1, .ref (u 30)), (2, .ref h), (3, .ref o), (4, .int (nI i))] → W p l e9 room_1 s m #[Value.ref b9] below meth c H1 locs1 (cells + 46) (slots + 440) Q (F0 m 1844 ls1 [])) : W p l e9 room_1 s m #[Value.ref b9] below meth c H locs cells slots Q (F0 m 1273 ls []) := by
  obtain ⟨n, cm, a, kn, th, lm, V, pq, sp, cn, e, sz, b, L, w, nx, g, R, CC, he, hsz, hch, hP, hM, hO, hS⟩ := I
  have hx := F.1
  have hb := F.2.1
  have hok := rel_ok R
  have hcn := rel_cn R
  have hrc := rel_rc R
  have hmz := mP_lt hM
  have hS0 := hS
  have hoz : o < H.size := vx_lt hO (k := 0) rfl
  refine lv_aload_n hx hb dL_law_1273 rfl (lv_at hl 1 rfl) ?_
  refine lv_aload_n hx hb dL_law_1274 rfl (lv_at hl 0 rfl) ?_
  refine lv_iload hx hb dL_law_1275 (lv_at hl 4 rfl) ?_
  refine lv_iconst (v := 1) hx hb dL_law_1277 (by decide) ?_
  refine lv_iadd hx hb dL_law_1278 ?_
  refine lw_E (nI (i + 1)) (nI_add i 1) ?_
  refine va_sld (A := fun x => s.heap.size ≤ x) hx hb hsx hb9 (Nat.not_le.mpr hb9) hS (vp_in_nI (n := i + 1) (by omega) (by omega)) dL_law_1279 ?_
  refine lw_E (xs (i + 1)) (by rw [nI_clamp (by omega)]) ?_
  refine lv_aload_n hx hb dL_law_1280 rfl (lv_at hl 0 rfl) ?_
  refine lv_iload hx hb dL_law_1281 (lv_at hl 4 rfl) ?_
  refine lv_iconst (v := 2) hx hb dL_law_1283 (by decide) ?_
  refine lv_iadd hx hb dL_law_1284 ?_
  refine lw_E (nI (i + 2)) (nI_add i 2) ?_
  refine va_sld (A := fun x => s.heap.size ≤ x) hx hb hsx hb9 (Nat.not_le.mpr hb9) hS (vp_in_nI (n := i + 2) (by omega) (by omega)) dL_law_1285 ?_
  refine lw_E (xs (i + 2)) (by rw [nI_clamp (by omega)]) ?_
  refine lv_aload_n hx hb dL_law_1286 rfl (lv_at hl 3 rfl) ?_
  have hop := fun rw9 => oz_bake R rw9 (xs (i + 1)) (xs (i + 2))
  refine lz_call (nn := 4) F hK hJ hN hX CC [.ref (u 30), .int (xs (i + 1)), .int (xs (i + 2)), .ref o] (lwc_bake hfl CC.1 (xs (i + 1)) (xs (i + 2)) hch he hsz hok hcn hrc CC.2.2.2.2.1 hoz) (vx_cwSW 4 F.2.2.2.2 gL_L_bake rfl rfl rfl (by decide +kernel) ⟨(Nat.le_of_ble_eq_true rfl), (Nat.le_of_ble_eq_true rfl)⟩) hP hO hM (mW_ad CC.2.2.2.2.2) hS rfl hl.1 rfl (lv_room (Nat.le_of_ble_eq_true rfl)) ⟨by show cells + 46 ≤ 601024; omega, by show slots + 440 ≤ 7293034; omega⟩ dL_law_1287 (fun V1 pq1 sp1 cn1 e1 sz1 b1 L1 w1 nx1 g1 H1 locs1 hA hg hP hO hM hz1 hS => ?_)
  have CC1 := CC.next hA.2.2.2.2.2.2.1 hS0.1 hA.2.2.2.2.2.2.2 hmz hoz
  refine lv_istore (lv' := [(5, .int (wzcode [1, 3] (cBake (b, cn, List.map w L) (xs (i + 1)) (xs (i + 2))).1)), (0, .ref b9), (1, .ref (u 30)), (2, .ref h), (3, .ref o), (4, .int (nI i))]) hx hb dL_law_1290 hl (by decide) rfl (fun ls hl => ?_)
  refine lv_aload_n hx hb dL_law_1292 rfl (lv_at hl 3 rfl) ?_
  refine lv_aload_n hx hb dL_law_1293 rfl (lv_at hl 1 rfl) ?_
  refine lv_iload hx hb dL_law_1294 (lv_at hl 5 rfl) ?_
  refine lv_iconst (v := 1) hx hb dL_law_1296 (by decide) ?_
  refine lv_iadd hx hb dL_law_1297 ?_
  refine lw_E (nI (i + 1)) (nI_add i 1) ?_
  refine va_sld (A := fun x => s.heap.size ≤ x) hx hb hsx hb9 (Nat.not_le.mpr hb9) hS (vp_in_nI (n := i + 1) (by omega) (by omega)) dL_law_1298 ?_
  refine lw_E (xs (i + 1)) (by rw [nI_clamp (by omega)]) ?_
  refine lv_aload_n hx hb dL_law_1299 rfl (lv_at hl 1 rfl) ?_
  refine lv_iload hx hb dL_law_1300 (lv_at hl 5 rfl) ?_
  refine lv_iconst (v := 2) hx hb dL_law_1302 (by decide) ?_
  refine lv_iadd hx hb dL_law_1303 ?_
  refine lw_E (nI (i + 2)) (nI_add i 2) ?_
  refine va_sld (A := fun x => s.heap.size ≤ x) hx hb hsx hb9 (Nat.not_le.mpr hb9) hS (vp_in_nI (n := i + 2) (by omega) (by omega)) dL_law_1304 ?_
  refine lw_E (xs (i + 2)) (by rw [nI_clamp (by omega)]) ?_
  refine wr_callV (A := fun x => s.heap.size ≤ x) F hZ [.int (xs (i + 1)), .int (xs (i + 2))] (mc_bake CC.2.2.2.2.2 (xs (i + 1)) (xs (i + 2)) R.inv.mi) (cwV 2 F.2.2.2.2 gL_X4_bake rfl rfl rfl (by decide +kernel) ⟨(Nat.le_of_ble_eq_true rfl), (Nat.le_of_ble_eq_true rfl)⟩) (mg_rc hZ hM) hM hS (fun x hx => (CC.2.2.1 x hx).1) rfl hl.1 rfl (lv_room (Nat.le_of_ble_eq_true rfl)) ⟨by show cells + 46 ≤ 601024; omega, by show slots + 440 ≤ 7293034; omega⟩ dL_law_1305 (fun r1 n1 cm1 th1 lm1 a1 kn1 H2 locs2 hpost hM hz2 hf2 hS => ?_)
  obtain ⟨hP, hO⟩ := lw_keepC CC1 hP hO hf2
  obtain ⟨rw9, hpost⟩ := hpost
  have hop := hop rw9
  have hpost : (th1, r1, n1, cm1, a1, kn1) = mBake n cm (set17 a rw9) kn (xs (i + 1)) (xs (i + 2)) := hpost
  rw [← hpost] at hop
  refine lv_istore (lv' := [(6, .int r1), (5, .int (wzcode [1, 3] (cBake (b, cn, List.map w L) (xs (i + 1)) (xs (i + 2))).1)), (0, .ref b9), (1, .ref (u 30)), (2, .ref h), (3, .ref o), (4, .int (nI i))]) hx hb dL_law_1308 hl (by decide) rfl (fun ls hl => ?_)
  refine lv_aload_n hx hb dL_law_1310 rfl (lv_at hl 4 rfl) ?_
  refine ro_callV F hZ [] (mc_thrown hM) (cwV 0 F.2.2.2.2 gL_X4_thrown rfl rfl rfl (by decide +kernel) ⟨(Nat.le_of_ble_eq_true rfl), (Nat.le_of_ble_eq_true rfl)⟩) (mg_rc hZ hM) rfl hl.1 rfl (lv_room (Nat.le_of_ble_eq_true rfl)) ⟨by show cells + 46 ≤ 601024; omega, by show slots + 440 ≤ 7293034; omega⟩ dL_law_1311 ?_
  refine lv_iload hx hb dL_law_1314 (lv_at hl 1 rfl) ?_
  refine lv_icmp_eq (tgt := 1321) hx hb dL_law_1316 (by decide) (fun q9 => ?_) (fun q9 => absurd hop.1.symm q9)
  refine lv_iload hx hb dL_law_1321 (lv_at hl 1 rfl) ?_
  have hI := lw_next hop.2.2 hA CC1 hP hM hO hS
  have fin : ∀ ls : Array Slot, lv_has ls 7 [(6, .int r1), (5, .int (wzcode [1, 3] (cBake (b, cn, List.map w L) (xs (i + 1)) (xs (i + 2))).1)), (0, .ref b9), (1, .ref (u 30)), (2, .ref h), (3, .ref o), (4, .int (nI i))] → W p l e9 room_1 s m #[Value.ref b9] below meth c H2 locs2 (cells + 46) (slots + 440) Q (F0 m 1338 ls []) := by
    intro ls hl
    refine lv_goto (tgt := 1844) hx hb dL_law_1338 (by decide) ?_
    exact W.widen (by omega) (by omega) (kk H2 locs2 ls hI (lv_sub hl [2, 3, 4, 5, 6] rfl))
  refine lv_if_ne (tgt := 1338) hx hb dL_law_1323 (by decide) (fun q8 => fin ls hl) (fun q8 => ?_)
  obtain ⟨g2, g3⟩ := hop.2.1 (hop.1.symm.trans q8)
  have hg0 : g1 0 = r1.toInt64 := (hg g2).trans (congrArg Int32.toInt64 g3)
  refine lv_aload_n hx hb dL_law_1326 rfl (lv_at hl 5 rfl) ?_
  refine lv_iconst (v := 0) hx hb dL_law_1327 (by decide) ?_
  refine va_lald hx hb hJ hO 0 0 rfl rfl (by unfold vp_in; decide) dL_law_1328 ?_
  rw [show Int32.toNatClampNeg 0 = 0 from by decide, hg0]
  refine lv_iload hx hb dL_law_1329 (lv_at hl 0 rfl) ?_
  refine lv_i2l (v := r1.toInt64) hx hb dL_law_1331 rfl ?_
  refine W.lcmp hx hb dL_law_1332 ?_
  refine lw_E 0 (lg_self _) ?_
  exact lv_if_eq (tgt := 1338) hx hb dL_law_1333 (by decide) (fun _ => fin ls hl) (fun q7 => absurd rfl q7)
set_option maxHeartbeats 4000000 in
theorem lq_cakes {p : Program} {l : Launch} {e9 : Env} {s : State} {m : MethodId} {below : List Frame} {meth : Method} {c : Code} {H : Heap} {locs : List Loc} {cells slots : Nat} {Q : State → Prop} {b9 L9 : Nat} {xs : Nat → Int32} {D : va_G} {cI cII cZ cJ : ClassId} {sa : Nat → Nat} {u : Nat → Nat} {h : Nat} {q : Nat → Nat} {o : Nat} {ls : Array Slot} {i : Nat} (hfl : l.stackTraces = false) (F : CallFix p m c cL_law 7 s #[Value.ref b9] lw_tbl RL) (hK : va_K D vwCl (cT cI cII) s) (hZ : va_K D vwCl (mT cI cZ) s) (hJ : va_K D vwCl [(cJ, .long)] s) (hN : wzN s) (hX : ∀ A : Nat → Prop, (∀ a : Nat, a < s.heap.size → ¬ A a) → xF A sa s) (hsx : va_X b9 L9 xs s s.heap) (hb9 : b9 < s.heap.size) (hL : L9 ≤ 3072) (I : lwI s.heap D cI cII cZ cJ u h q o H locs) (hi : i + 6 ≤ L9) (hc : cells + 46 ≤ 601024) (hs : slots + 440 ≤ 7293034) (hl : lv_has ls 7 [(0, .ref b9), (1, .ref (u 30)), (2, .ref h), (3, .ref o), (4, .int (nI i))])
    (kk : ∀ (H1 : Heap) (locs1 : List Loc) (ls1 : Array Slot), lwI s.heap D cI cII cZ cJ u h q o H1 locs1 → lv_has ls1 7 [(0, .ref b9), (1, .ref (u 30)), (2, .ref h), (3, .ref o), (4, .int (nI i))] → W p l e9 room_1 s m #[Value.ref b9] below meth c H1 locs1 (cells + 46) (slots + 440) Q (F0 m 1844 ls1 [])) : W p l e9 room_1 s m #[Value.ref b9] below meth c H locs cells slots Q (F0 m 1341 ls []) := by
  obtain ⟨n, cm, a, kn, th, lm, V, pq, sp, cn, e, sz, b, L, w, nx, g, R, CC, he, hsz, hch, hP, hM, hO, hS⟩ := I
  have hx := F.1
  have hb := F.2.1
  have hok := rel_ok R
  have hcn := rel_cn R
  have hrc := rel_rc R
  have hmz := mP_lt hM
  have hS0 := hS
  have hoz : o < H.size := vx_lt hO (k := 0) rfl
  have hop := oz_cakes R
  refine lv_aload_n hx hb dL_law_1341 rfl (lv_at hl 1 rfl) ?_
  refine lz_callV (nn := 0) F hK hX CC [] (cc_X3_cakes hfl CC.1 hch he hsz hok hcn hrc) (fun E V pq sp cn e sz b L1 w nx z => absurd rfl z.1) (cwV 0 F.2.2.2.2 gL_X3_cakes rfl rfl rfl (by decide +kernel) ⟨(Nat.le_of_ble_eq_true rfl), (Nat.le_of_ble_eq_true rfl)⟩) (og_rc hK (cPc hP)) hP hO hM (mW_ad CC.2.2.2.2.2) hS rfl hl.1 rfl (lv_room (Nat.le_of_ble_eq_true rfl)) ⟨by show cells + 0 ≤ 601024; omega, by show slots + 0 ≤ 7293034; omega⟩ dL_law_1342 (fun r ra V1 pq1 sp1 cn1 e1 sz1 b1 L1 w1 nx1 H1 locs1 hp hP hO hM hz1 hS => ?_)
  obtain ⟨-, hr, hA⟩ := hp
  have CC1 := CC.next hA.2.2.2.2.2.2.1 hS0.1 hA.2.2.2.2.2.2.2 hmz hoz
  refine lv_aload_n hx hb dL_law_1345 rfl (lv_at hl 2 rfl) ?_
  refine wr_callV (A := fun x => s.heap.size ≤ x) F hZ [] (mc_cakes CC.2.2.2.2.2 R.inv.mi) (cwV 0 F.2.2.2.2 gL_X4_cakes rfl rfl rfl (by decide +kernel) ⟨(Nat.le_of_ble_eq_true rfl), (Nat.le_of_ble_eq_true rfl)⟩) (mg_rc hZ hM) hM hS (fun x hx => (CC.2.2.1 x hx).1) rfl hl.1 rfl (lv_room (Nat.le_of_ble_eq_true rfl)) ⟨by show cells + 0 ≤ 601024; omega, by show slots + 0 ≤ 7293034; omega⟩ dL_law_1346 (fun r1 n1 cm1 th1 lm1 a1 kn1 H2 locs2 hpost hM hz2 hf2 hS => ?_)
  obtain ⟨hP, hO⟩ := lw_keepC CC1 hP hO hf2
  have hpost : (th1, r1, n1, cm1, a1, kn1) = mCakes n cm a kn := hpost
  rw [← hpost] at hop
  have hI := lw_next hop.2.2 hA CC1 hP hM hO hS
  have hth : th1 = 0 := hop.1.symm
  have hrr : r = r1 := hr.symm.trans (hop.2.1 hth).2
  exact lv_icmp_eq (tgt := 1844) hx hb dL_law_1349 (by decide) (fun _ => W.widen (by omega) (by omega) (kk H2 locs2 ls hI hl)) (fun q9 => absurd hrr q9)
set_option maxHeartbeats 4000000 in
theorem lq_cake {p : Program} {l : Launch} {e9 : Env} {s : State} {m : MethodId} {below : List Frame} {meth : Method} {c : Code} {H : Heap} {locs : List Loc} {cells slots : Nat} {Q : State → Prop} {b9 L9 : Nat} {xs : Nat → Int32} {D : va_G} {cI cII cZ cJ : ClassId} {sa : Nat → Nat} {u : Nat → Nat} {h : Nat} {q : Nat → Nat} {o : Nat} {ls : Array Slot} {i : Nat} (hfl : l.stackTraces = false) (F : CallFix p m c cL_law 7 s #[Value.ref b9] lw_tbl RL) (hK : va_K D vwCl (cT cI cII) s) (hZ : va_K D vwCl (mT cI cZ) s) (hJ : va_K D vwCl [(cJ, .long)] s) (hN : wzN s) (hX : ∀ A : Nat → Prop, (∀ a : Nat, a < s.heap.size → ¬ A a) → xF A sa s) (hsx : va_X b9 L9 xs s s.heap) (hb9 : b9 < s.heap.size) (hL : L9 ≤ 3072) (I : lwI s.heap D cI cII cZ cJ u h q o H locs) (hi : i + 6 ≤ L9) (hc : cells + 46 ≤ 601024) (hs : slots + 440 ≤ 7293034) (hl : lv_has ls 7 [(0, .ref b9), (1, .ref (u 30)), (2, .ref h), (3, .ref o), (4, .int (nI i))])
    (kk : ∀ (H1 : Heap) (locs1 : List Loc) (ls1 : Array Slot), lwI s.heap D cI cII cZ cJ u h q o H1 locs1 → lv_has ls1 7 [(0, .ref b9), (1, .ref (u 30)), (2, .ref h), (3, .ref o), (4, .int (nI i))] → W p l e9 room_1 s m #[Value.ref b9] below meth c H1 locs1 (cells + 46) (slots + 440) Q (F0 m 1844 ls1 [])) : W p l e9 room_1 s m #[Value.ref b9] below meth c H locs cells slots Q (F0 m 1354 ls []) := by
  obtain ⟨n, cm, a, kn, th, lm, V, pq, sp, cn, e, sz, b, L, w, nx, g, R, CC, he, hsz, hch, hP, hM, hO, hS⟩ := I
  have hx := F.1
  have hb := F.2.1
  have hok := rel_ok R
  have hcn := rel_cn R
  have hrc := rel_rc R
  have hmz := mP_lt hM
  have hS0 := hS
  have hoz : o < H.size := vx_lt hO (k := 0) rfl
  refine lv_aload_n hx hb dL_law_1354 rfl (lv_at hl 1 rfl) ?_
  refine lv_aload_n hx hb dL_law_1355 rfl (lv_at hl 0 rfl) ?_
  refine lv_iload hx hb dL_law_1356 (lv_at hl 4 rfl) ?_
  refine lv_iconst (v := 1) hx hb dL_law_1358 (by decide) ?_
  refine lv_iadd hx hb dL_law_1359 ?_
  refine lw_E (nI (i + 1)) (nI_add i 1) ?_
  refine va_sld (A := fun x => s.heap.size ≤ x) hx hb hsx hb9 (Nat.not_le.mpr hb9) hS (vp_in_nI (n := i + 1) (by omega) (by omega)) dL_law_1360 ?_
  refine lw_E (xs (i + 1)) (by rw [nI_clamp (by omega)]) ?_
  refine lv_aload_n hx hb dL_law_1361 rfl (lv_at hl 0 rfl) ?_
  refine lv_iload hx hb dL_law_1362 (lv_at hl 4 rfl) ?_
  refine lv_iconst (v := 2) hx hb dL_law_1364 (by decide) ?_
  refine lv_iadd hx hb dL_law_1365 ?_
  refine lw_E (nI (i + 2)) (nI_add i 2) ?_
  refine va_sld (A := fun x => s.heap.size ≤ x) hx hb hsx hb9 (Nat.not_le.mpr hb9) hS (vp_in_nI (n := i + 2) (by omega) (by omega)) dL_law_1366 ?_
  refine lw_E (xs (i + 2)) (by rw [nI_clamp (by omega)]) ?_
  refine lv_aload_n hx hb dL_law_1367 rfl (lv_at hl 3 rfl) ?_
  have hop := oz_cake R (xs (i + 1)) (xs (i + 2))
  refine lz_call (nn := 4) F hK hJ hN hX CC [.ref (u 30), .int (xs (i + 1)), .int (xs (i + 2)), .ref o] (lwc_cake hfl CC.1 (xs (i + 1)) (xs (i + 2)) hch he hsz hok hcn hrc CC.2.2.2.2.1 hoz) (vx_cwSW 4 F.2.2.2.2 gL_L_cake rfl rfl rfl (by decide +kernel) ⟨(Nat.le_of_ble_eq_true rfl), (Nat.le_of_ble_eq_true rfl)⟩) hP hO hM (mW_ad CC.2.2.2.2.2) hS rfl hl.1 rfl (lv_room (Nat.le_of_ble_eq_true rfl)) ⟨by show cells + 2 ≤ 601024; omega, by show slots + 12 ≤ 7293034; omega⟩ dL_law_1368 (fun V1 pq1 sp1 cn1 e1 sz1 b1 L1 w1 nx1 g1 H1 locs1 hA hg hP hO hM hz1 hS => ?_)
  have CC1 := CC.next hA.2.2.2.2.2.2.1 hS0.1 hA.2.2.2.2.2.2.2 hmz hoz
  refine lv_istore (lv' := [(5, .int (wzcode [1] (cCake (b, cn, List.map w L) (xs (i + 1)) (xs (i + 2))).1)), (0, .ref b9), (1, .ref (u 30)), (2, .ref h), (3, .ref o), (4, .int (nI i))]) hx hb dL_law_1371 hl (by decide) rfl (fun ls hl => ?_)
  refine lv_aload_n hx hb dL_law_1373 rfl (lv_at hl 3 rfl) ?_
  refine lv_aload_n hx hb dL_law_1374 rfl (lv_at hl 1 rfl) ?_
  refine lv_iload hx hb dL_law_1375 (lv_at hl 5 rfl) ?_
  refine lv_iconst (v := 1) hx hb dL_law_1377 (by decide) ?_
  refine lv_iadd hx hb dL_law_1378 ?_
  refine lw_E (nI (i + 1)) (nI_add i 1) ?_
  refine va_sld (A := fun x => s.heap.size ≤ x) hx hb hsx hb9 (Nat.not_le.mpr hb9) hS (vp_in_nI (n := i + 1) (by omega) (by omega)) dL_law_1379 ?_
  refine lw_E (xs (i + 1)) (by rw [nI_clamp (by omega)]) ?_
  refine lv_aload_n hx hb dL_law_1380 rfl (lv_at hl 1 rfl) ?_
  refine lv_iload hx hb dL_law_1381 (lv_at hl 5 rfl) ?_
  refine lv_iconst (v := 2) hx hb dL_law_1383 (by decide) ?_
  refine lv_iadd hx hb dL_law_1384 ?_
  refine lw_E (nI (i + 2)) (nI_add i 2) ?_
  refine va_sld (A := fun x => s.heap.size ≤ x) hx hb hsx hb9 (Nat.not_le.mpr hb9) hS (vp_in_nI (n := i + 2) (by omega) (by omega)) dL_law_1385 ?_
  refine lw_E (xs (i + 2)) (by rw [nI_clamp (by omega)]) ?_
  refine wr_callV (A := fun x => s.heap.size ≤ x) F hZ [.int (xs (i + 1)), .int (xs (i + 2))] (mc_cake CC.2.2.2.2.2 (xs (i + 1)) (xs (i + 2)) R.inv.mi) (cwV 2 F.2.2.2.2 gL_X4_cake rfl rfl rfl (by decide +kernel) ⟨(Nat.le_of_ble_eq_true rfl), (Nat.le_of_ble_eq_true rfl)⟩) (mg_rc hZ hM) hM hS (fun x hx => (CC.2.2.1 x hx).1) rfl hl.1 rfl (lv_room (Nat.le_of_ble_eq_true rfl)) ⟨by show cells + 2 ≤ 601024; omega, by show slots + 12 ≤ 7293034; omega⟩ dL_law_1386 (fun r1 n1 cm1 th1 lm1 a1 kn1 H2 locs2 hpost hM hz2 hf2 hS => ?_)
  obtain ⟨hP, hO⟩ := lw_keepC CC1 hP hO hf2
  have hpost : (th1, r1, n1, cm1, a1, kn1) = mCake n cm a kn (xs (i + 1)) (xs (i + 2)) := hpost
  rw [← hpost] at hop
  refine lv_istore (lv' := [(6, .int r1), (5, .int (wzcode [1] (cCake (b, cn, List.map w L) (xs (i + 1)) (xs (i + 2))).1)), (0, .ref b9), (1, .ref (u 30)), (2, .ref h), (3, .ref o), (4, .int (nI i))]) hx hb dL_law_1389 hl (by decide) rfl (fun ls hl => ?_)
  refine lv_aload_n hx hb dL_law_1391 rfl (lv_at hl 4 rfl) ?_
  refine ro_callV F hZ [] (mc_thrown hM) (cwV 0 F.2.2.2.2 gL_X4_thrown rfl rfl rfl (by decide +kernel) ⟨(Nat.le_of_ble_eq_true rfl), (Nat.le_of_ble_eq_true rfl)⟩) (mg_rc hZ hM) rfl hl.1 rfl (lv_room (Nat.le_of_ble_eq_true rfl)) ⟨by show cells + 2 ≤ 601024; omega, by show slots + 12 ≤ 7293034; omega⟩ dL_law_1392 ?_
  refine lv_iload hx hb dL_law_1395 (lv_at hl 1 rfl) ?_
  refine lv_icmp_eq (tgt := 1402) hx hb dL_law_1397 (by decide) (fun q9 => ?_) (fun q9 => absurd hop.1.symm q9)
  refine lv_iload hx hb dL_law_1402 (lv_at hl 1 rfl) ?_
  have hI := lw_next hop.2.2 hA CC1 hP hM hO hS
  have fin : ∀ ls : Array Slot, lv_has ls 7 [(6, .int r1), (5, .int (wzcode [1] (cCake (b, cn, List.map w L) (xs (i + 1)) (xs (i + 2))).1)), (0, .ref b9), (1, .ref (u 30)), (2, .ref h), (3, .ref o), (4, .int (nI i))] → W p l e9 room_1 s m #[Value.ref b9] below meth c H2 locs2 (cells + 2) (slots + 12) Q (F0 m 1419 ls []) := by
    intro ls hl
    refine lv_goto (tgt := 1844) hx hb dL_law_1419 (by decide) ?_
    exact W.widen (by omega) (by omega) (kk H2 locs2 ls hI (lv_sub hl [2, 3, 4, 5, 6] rfl))
  refine lv_if_ne (tgt := 1419) hx hb dL_law_1404 (by decide) (fun q8 => fin ls hl) (fun q8 => ?_)
  obtain ⟨g2, g3⟩ := hop.2.1 (hop.1.symm.trans q8)
  have hg0 : g1 0 = r1.toInt64 := (hg g2).trans (congrArg Int32.toInt64 g3)
  refine lv_aload_n hx hb dL_law_1407 rfl (lv_at hl 5 rfl) ?_
  refine lv_iconst (v := 0) hx hb dL_law_1408 (by decide) ?_
  refine va_lald hx hb hJ hO 0 0 rfl rfl (by unfold vp_in; decide) dL_law_1409 ?_
  rw [show Int32.toNatClampNeg 0 = 0 from by decide, hg0]
  refine lv_iload hx hb dL_law_1410 (lv_at hl 0 rfl) ?_
  refine lv_i2l (v := r1.toInt64) hx hb dL_law_1412 rfl ?_
  refine W.lcmp hx hb dL_law_1413 ?_
  refine lw_E 0 (lg_self _) ?_
  exact lv_if_eq (tgt := 1419) hx hb dL_law_1414 (by decide) (fun _ => fin ls hl) (fun q7 => absurd rfl q7)
set_option maxHeartbeats 4000000 in
theorem lq_keptFor {p : Program} {l : Launch} {e9 : Env} {s : State} {m : MethodId} {below : List Frame} {meth : Method} {c : Code} {H : Heap} {locs : List Loc} {cells slots : Nat} {Q : State → Prop} {b9 L9 : Nat} {xs : Nat → Int32} {D : va_G} {cI cII cZ cJ : ClassId} {sa : Nat → Nat} {u : Nat → Nat} {h : Nat} {q : Nat → Nat} {o : Nat} {ls : Array Slot} {i : Nat} (hfl : l.stackTraces = false) (F : CallFix p m c cL_law 7 s #[Value.ref b9] lw_tbl RL) (hK : va_K D vwCl (cT cI cII) s) (hZ : va_K D vwCl (mT cI cZ) s) (hJ : va_K D vwCl [(cJ, .long)] s) (hN : wzN s) (hX : ∀ A : Nat → Prop, (∀ a : Nat, a < s.heap.size → ¬ A a) → xF A sa s) (hsx : va_X b9 L9 xs s s.heap) (hb9 : b9 < s.heap.size) (hL : L9 ≤ 3072) (I : lwI s.heap D cI cII cZ cJ u h q o H locs) (hi : i + 6 ≤ L9) (hc : cells + 46 ≤ 601024) (hs : slots + 440 ≤ 7293034) (hl : lv_has ls 7 [(0, .ref b9), (1, .ref (u 30)), (2, .ref h), (3, .ref o), (4, .int (nI i))])
    (kk : ∀ (H1 : Heap) (locs1 : List Loc) (ls1 : Array Slot), lwI s.heap D cI cII cZ cJ u h q o H1 locs1 → lv_has ls1 7 [(0, .ref b9), (1, .ref (u 30)), (2, .ref h), (3, .ref o), (4, .int (nI i))] → W p l e9 room_1 s m #[Value.ref b9] below meth c H1 locs1 (cells + 46) (slots + 440) Q (F0 m 1844 ls1 [])) : W p l e9 room_1 s m #[Value.ref b9] below meth c H locs cells slots Q (F0 m 1422 ls []) := by
  obtain ⟨n, cm, a, kn, th, lm, V, pq, sp, cn, e, sz, b, L, w, nx, g, R, CC, he, hsz, hch, hP, hM, hO, hS⟩ := I
  have hx := F.1
  have hb := F.2.1
  have hok := rel_ok R
  have hcn := rel_cn R
  have hrc := rel_rc R
  have hmz := mP_lt hM
  have hS0 := hS
  have hoz : o < H.size := vx_lt hO (k := 0) rfl
  refine lv_aload_n hx hb dL_law_1422 rfl (lv_at hl 1 rfl) ?_
  refine lv_aload_n hx hb dL_law_1423 rfl (lv_at hl 0 rfl) ?_
  refine lv_iload hx hb dL_law_1424 (lv_at hl 4 rfl) ?_
  refine lv_iconst (v := 1) hx hb dL_law_1426 (by decide) ?_
  refine lv_iadd hx hb dL_law_1427 ?_
  refine lw_E (nI (i + 1)) (nI_add i 1) ?_
  refine va_sld (A := fun x => s.heap.size ≤ x) hx hb hsx hb9 (Nat.not_le.mpr hb9) hS (vp_in_nI (n := i + 1) (by omega) (by omega)) dL_law_1428 ?_
  refine lw_E (xs (i + 1)) (by rw [nI_clamp (by omega)]) ?_
  refine lv_aload_n hx hb dL_law_1429 rfl (lv_at hl 0 rfl) ?_
  refine lv_iload hx hb dL_law_1430 (lv_at hl 4 rfl) ?_
  refine lv_iconst (v := 2) hx hb dL_law_1432 (by decide) ?_
  refine lv_iadd hx hb dL_law_1433 ?_
  refine lw_E (nI (i + 2)) (nI_add i 2) ?_
  refine va_sld (A := fun x => s.heap.size ≤ x) hx hb hsx hb9 (Nat.not_le.mpr hb9) hS (vp_in_nI (n := i + 2) (by omega) (by omega)) dL_law_1434 ?_
  refine lw_E (xs (i + 2)) (by rw [nI_clamp (by omega)]) ?_
  refine lv_aload_n hx hb dL_law_1435 rfl (lv_at hl 3 rfl) ?_
  have hop := oz_keptFor R (xs (i + 1)) (xs (i + 2))
  refine lz_call (nn := 4) F hK hJ hN hX CC [.ref (u 30), .int (xs (i + 1)), .int (xs (i + 2)), .ref o] (lwc_keptFor hfl CC.1 (xs (i + 1)) (xs (i + 2)) hch he hsz hok hcn hrc CC.2.2.2.2.1 hoz) (vx_cwSW 4 F.2.2.2.2 gL_L_keptFor rfl rfl rfl (by decide +kernel) ⟨(Nat.le_of_ble_eq_true rfl), (Nat.le_of_ble_eq_true rfl)⟩) hP hO hM (mW_ad CC.2.2.2.2.2) hS rfl hl.1 rfl (lv_room (Nat.le_of_ble_eq_true rfl)) ⟨by show cells + 2 ≤ 601024; omega, by show slots + 12 ≤ 7293034; omega⟩ dL_law_1436 (fun V1 pq1 sp1 cn1 e1 sz1 b1 L1 w1 nx1 g1 H1 locs1 hA hg hP hO hM hz1 hS => ?_)
  have CC1 := CC.next hA.2.2.2.2.2.2.1 hS0.1 hA.2.2.2.2.2.2.2 hmz hoz
  refine lv_istore (lv' := [(5, .int (wzcode [1] (cKeptFor (b, cn, List.map w L) (xs (i + 1)) (xs (i + 2))).1)), (0, .ref b9), (1, .ref (u 30)), (2, .ref h), (3, .ref o), (4, .int (nI i))]) hx hb dL_law_1439 hl (by decide) rfl (fun ls hl => ?_)
  refine lv_aload_n hx hb dL_law_1441 rfl (lv_at hl 3 rfl) ?_
  refine lv_aload_n hx hb dL_law_1442 rfl (lv_at hl 1 rfl) ?_
  refine lv_iload hx hb dL_law_1443 (lv_at hl 5 rfl) ?_
  refine lv_iconst (v := 1) hx hb dL_law_1445 (by decide) ?_
  refine lv_iadd hx hb dL_law_1446 ?_
  refine lw_E (nI (i + 1)) (nI_add i 1) ?_
  refine va_sld (A := fun x => s.heap.size ≤ x) hx hb hsx hb9 (Nat.not_le.mpr hb9) hS (vp_in_nI (n := i + 1) (by omega) (by omega)) dL_law_1447 ?_
  refine lw_E (xs (i + 1)) (by rw [nI_clamp (by omega)]) ?_
  refine lv_aload_n hx hb dL_law_1448 rfl (lv_at hl 1 rfl) ?_
  refine lv_iload hx hb dL_law_1449 (lv_at hl 5 rfl) ?_
  refine lv_iconst (v := 2) hx hb dL_law_1451 (by decide) ?_
  refine lv_iadd hx hb dL_law_1452 ?_
  refine lw_E (nI (i + 2)) (nI_add i 2) ?_
  refine va_sld (A := fun x => s.heap.size ≤ x) hx hb hsx hb9 (Nat.not_le.mpr hb9) hS (vp_in_nI (n := i + 2) (by omega) (by omega)) dL_law_1453 ?_
  refine lw_E (xs (i + 2)) (by rw [nI_clamp (by omega)]) ?_
  refine wr_callV (A := fun x => s.heap.size ≤ x) F hZ [.int (xs (i + 1)), .int (xs (i + 2))] (mc_keptFor CC.2.2.2.2.2 (xs (i + 1)) (xs (i + 2)) R.inv.mi) (cwV 2 F.2.2.2.2 gL_X4_keptFor rfl rfl rfl (by decide +kernel) ⟨(Nat.le_of_ble_eq_true rfl), (Nat.le_of_ble_eq_true rfl)⟩) (mg_rc hZ hM) hM hS (fun x hx => (CC.2.2.1 x hx).1) rfl hl.1 rfl (lv_room (Nat.le_of_ble_eq_true rfl)) ⟨by show cells + 2 ≤ 601024; omega, by show slots + 12 ≤ 7293034; omega⟩ dL_law_1454 (fun r1 n1 cm1 th1 lm1 a1 kn1 H2 locs2 hpost hM hz2 hf2 hS => ?_)
  obtain ⟨hP, hO⟩ := lw_keepC CC1 hP hO hf2
  have hpost : (th1, r1, n1, cm1, a1, kn1) = mKeptFor n cm a kn (xs (i + 1)) (xs (i + 2)) := hpost
  rw [← hpost] at hop
  refine lv_istore (lv' := [(6, .int r1), (5, .int (wzcode [1] (cKeptFor (b, cn, List.map w L) (xs (i + 1)) (xs (i + 2))).1)), (0, .ref b9), (1, .ref (u 30)), (2, .ref h), (3, .ref o), (4, .int (nI i))]) hx hb dL_law_1457 hl (by decide) rfl (fun ls hl => ?_)
  refine lv_aload_n hx hb dL_law_1459 rfl (lv_at hl 4 rfl) ?_
  refine ro_callV F hZ [] (mc_thrown hM) (cwV 0 F.2.2.2.2 gL_X4_thrown rfl rfl rfl (by decide +kernel) ⟨(Nat.le_of_ble_eq_true rfl), (Nat.le_of_ble_eq_true rfl)⟩) (mg_rc hZ hM) rfl hl.1 rfl (lv_room (Nat.le_of_ble_eq_true rfl)) ⟨by show cells + 2 ≤ 601024; omega, by show slots + 12 ≤ 7293034; omega⟩ dL_law_1460 ?_
  refine lv_iload hx hb dL_law_1463 (lv_at hl 1 rfl) ?_
  refine lv_icmp_eq (tgt := 1470) hx hb dL_law_1465 (by decide) (fun q9 => ?_) (fun q9 => absurd hop.1.symm q9)
  refine lv_iload hx hb dL_law_1470 (lv_at hl 1 rfl) ?_
  have hI := lw_next hop.2.2 hA CC1 hP hM hO hS
  have fin : ∀ ls : Array Slot, lv_has ls 7 [(6, .int r1), (5, .int (wzcode [1] (cKeptFor (b, cn, List.map w L) (xs (i + 1)) (xs (i + 2))).1)), (0, .ref b9), (1, .ref (u 30)), (2, .ref h), (3, .ref o), (4, .int (nI i))] → W p l e9 room_1 s m #[Value.ref b9] below meth c H2 locs2 (cells + 2) (slots + 12) Q (F0 m 1487 ls []) := by
    intro ls hl
    refine lv_goto (tgt := 1844) hx hb dL_law_1487 (by decide) ?_
    exact W.widen (by omega) (by omega) (kk H2 locs2 ls hI (lv_sub hl [2, 3, 4, 5, 6] rfl))
  refine lv_if_ne (tgt := 1487) hx hb dL_law_1472 (by decide) (fun q8 => fin ls hl) (fun q8 => ?_)
  obtain ⟨g2, g3⟩ := hop.2.1 (hop.1.symm.trans q8)
  have hg0 : g1 0 = r1.toInt64 := (hg g2).trans (congrArg Int32.toInt64 g3)
  refine lv_aload_n hx hb dL_law_1475 rfl (lv_at hl 5 rfl) ?_
  refine lv_iconst (v := 0) hx hb dL_law_1476 (by decide) ?_
  refine va_lald hx hb hJ hO 0 0 rfl rfl (by unfold vp_in; decide) dL_law_1477 ?_
  rw [show Int32.toNatClampNeg 0 = 0 from by decide, hg0]
  refine lv_iload hx hb dL_law_1478 (lv_at hl 0 rfl) ?_
  refine lv_i2l (v := r1.toInt64) hx hb dL_law_1480 rfl ?_
  refine W.lcmp hx hb dL_law_1481 ?_
  refine lw_E 0 (lg_self _) ?_
  exact lv_if_eq (tgt := 1487) hx hb dL_law_1482 (by decide) (fun _ => fin ls hl) (fun q7 => absurd rfl q7)
