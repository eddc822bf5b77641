/-! the law's rounds, a call each -/
set_option maxHeartbeats 4000000 in
theorem lq_take {p : Program} {l : Launch} {e9 : Env} {s : State} {m : MethodId} {below : List Frame} {meth : Method} {c : Code} {H : Heap} {locs : List Loc} {cells slots : Nat} {Q : State → Prop} {b9 L9 : Nat} {xs : Nat → Int32} {D : va_G} {cI cII cZ cJ : ClassId} {sa : Nat → Nat} {u : Nat → Nat} {h : Nat} {q : Nat → Nat} {o : Nat} {ls : Array Slot} {i : Nat} (hfl : l.stackTraces = false) (F : CallFix p m c cL_law 7 s #[Value.ref b9] lw_tbl RL) (hK : va_K D vwCl (cT cI cII) s) (hZ : va_K D vwCl (mT cI cZ) s) (hJ : va_K D vwCl [(cJ, .long)] s) (hN : wzN s) (hX : ∀ A : Nat → Prop, (∀ a : Nat, a < s.heap.size → ¬ A a) → xF A sa s) (hsx : va_X b9 L9 xs s s.heap) (hb9 : b9 < s.heap.size) (hL : L9 ≤ 3072) (I : lwI s.heap D cI cII cZ cJ u h q o H locs) (hi : i + 6 ≤ L9) (hc : cells + 46 ≤ 601024) (hs : slots + 440 ≤ 7293034) (hl : lv_has ls 7 [(0, .ref b9), (1, .ref (u 30)), (2, .ref h), (3, .ref o), (4, .int (nI i))])
    (kk : ∀ (H1 : Heap) (locs1 : List Loc) (ls1 : Array Slot), lwI s.heap D cI cII cZ cJ u h q o H1 locs1 → lv_has ls1 7 [(0, .ref b9), (1, .ref (u 30)), (2, .ref h), (3, .ref o), (4, .int (nI i))] → W p l e9 room_1 s m #[Value.ref b9] below meth c H1 locs1 (cells + 46) (slots + 440) Q (F0 m 1844 ls1 [])) : W p l e9 room_1 s m #[Value.ref b9] below meth c H locs cells slots Q (F0 m 228 ls []) := by
  obtain ⟨n, cm, a, kn, th, lm, V, pq, sp, cn, e, sz, b, L, w, nx, g, R, CC, he, hsz, hch, hP, hM, hO, hS⟩ := I
  have hx := F.1
  have hb := F.2.1
  have hok := rel_ok R
  have hcn := rel_cn R
  have hrc := rel_rc R
  have hmz := mP_lt hM
  have hS0 := hS
  have hoz : o < H.size := vx_lt hO (k := 0) rfl
  refine lv_aload_n hx hb dL_law_228 rfl (lv_at hl 1 rfl) ?_
  refine lv_aload_n hx hb dL_law_229 rfl (lv_at hl 0 rfl) ?_
  refine lv_iload hx hb dL_law_230 (lv_at hl 4 rfl) ?_
  refine lv_iconst (v := 1) hx hb dL_law_232 (by decide) ?_
  refine lv_iadd hx hb dL_law_233 ?_
  refine lw_E (nI (i + 1)) (nI_add i 1) ?_
  refine va_sld (A := fun x => s.heap.size ≤ x) hx hb hsx hb9 (Nat.not_le.mpr hb9) hS (vp_in_nI (n := i + 1) (by omega) (by omega)) dL_law_234 ?_
  refine lw_E (xs (i + 1)) (by rw [nI_clamp (by omega)]) ?_
  refine lv_aload_n hx hb dL_law_235 rfl (lv_at hl 0 rfl) ?_
  refine lv_iload hx hb dL_law_236 (lv_at hl 4 rfl) ?_
  refine lv_iconst (v := 2) hx hb dL_law_238 (by decide) ?_
  refine lv_iadd hx hb dL_law_239 ?_
  refine lw_E (nI (i + 2)) (nI_add i 2) ?_
  refine va_sld (A := fun x => s.heap.size ≤ x) hx hb hsx hb9 (Nat.not_le.mpr hb9) hS (vp_in_nI (n := i + 2) (by omega) (by omega)) dL_law_240 ?_
  refine lw_E (xs (i + 2)) (by rw [nI_clamp (by omega)]) ?_
  refine lv_aload_n hx hb dL_law_241 rfl (lv_at hl 3 rfl) ?_
  have hop := oz_take R (xs (i + 1)) (xs (i + 2))
  refine lz_call (nn := 4) F hK hJ hN hX CC [.ref (u 30), .int (xs (i + 1)), .int (xs (i + 2)), .ref o] (lwc_take hfl CC.1 (xs (i + 1)) (xs (i + 2)) hch he hsz hok hcn hrc CC.2.2.2.2.1 hoz) (vx_cwSW 4 F.2.2.2.2 gL_L_take rfl rfl rfl (by decide +kernel) ⟨(Nat.le_of_ble_eq_true rfl), (Nat.le_of_ble_eq_true rfl)⟩) hP hO hM (mW_ad CC.2.2.2.2.2) hS rfl hl.1 rfl (lv_room (Nat.le_of_ble_eq_true rfl)) ⟨by show cells + 4 ≤ 601024; omega, by show slots + 28 ≤ 7293034; omega⟩ dL_law_242 (fun V1 pq1 sp1 cn1 e1 sz1 b1 L1 w1 nx1 g1 H1 locs1 hA hg hP hO hM hz1 hS => ?_)
  have CC1 := CC.next hA.2.2.2.2.2.2.1 hS0.1 hA.2.2.2.2.2.2.2 hmz hoz
  refine lv_istore (lv' := [(5, .int (wzcode [1, 3] (cTake (b, cn, List.map w L) (xs (i + 1)) (xs (i + 2))).1)), (0, .ref b9), (1, .ref (u 30)), (2, .ref h), (3, .ref o), (4, .int (nI i))]) hx hb dL_law_245 hl (by decide) rfl (fun ls hl => ?_)
  refine lv_aload_n hx hb dL_law_247 rfl (lv_at hl 3 rfl) ?_
  refine lv_aload_n hx hb dL_law_248 rfl (lv_at hl 1 rfl) ?_
  refine lv_iload hx hb dL_law_249 (lv_at hl 5 rfl) ?_
  refine lv_iconst (v := 1) hx hb dL_law_251 (by decide) ?_
  refine lv_iadd hx hb dL_law_252 ?_
  refine lw_E (nI (i + 1)) (nI_add i 1) ?_
  refine va_sld (A := fun x => s.heap.size ≤ x) hx hb hsx hb9 (Nat.not_le.mpr hb9) hS (vp_in_nI (n := i + 1) (by omega) (by omega)) dL_law_253 ?_
  refine lw_E (xs (i + 1)) (by rw [nI_clamp (by omega)]) ?_
  refine lv_aload_n hx hb dL_law_254 rfl (lv_at hl 1 rfl) ?_
  refine lv_iload hx hb dL_law_255 (lv_at hl 5 rfl) ?_
  refine lv_iconst (v := 2) hx hb dL_law_257 (by decide) ?_
  refine lv_iadd hx hb dL_law_258 ?_
  refine lw_E (nI (i + 2)) (nI_add i 2) ?_
  refine va_sld (A := fun x => s.heap.size ≤ x) hx hb hsx hb9 (Nat.not_le.mpr hb9) hS (vp_in_nI (n := i + 2) (by omega) (by omega)) dL_law_259 ?_
  refine lw_E (xs (i + 2)) (by rw [nI_clamp (by omega)]) ?_
  refine wr_callV (A := fun x => s.heap.size ≤ x) F hZ [.int (xs (i + 1)), .int (xs (i + 2))] (mc_take CC.2.2.2.2.2 (xs (i + 1)) (xs (i + 2)) R.inv.mi) (cwV 2 F.2.2.2.2 gL_X4_take rfl rfl rfl (by decide +kernel) ⟨(Nat.le_of_ble_eq_true rfl), (Nat.le_of_ble_eq_true rfl)⟩) (mg_rc hZ hM) hM hS (fun x hx => (CC.2.2.1 x hx).1) rfl hl.1 rfl (lv_room (Nat.le_of_ble_eq_true rfl)) ⟨by show cells + 4 ≤ 601024; omega, by show slots + 28 ≤ 7293034; omega⟩ dL_law_260 (fun r1 n1 cm1 th1 lm1 a1 kn1 H2 locs2 hpost hM hz2 hf2 hS => ?_)
  obtain ⟨hP, hO⟩ := lw_keepC CC1 hP hO hf2
  have hpost : (th1, r1, n1, cm1, a1, kn1) = mTake n cm a kn (xs (i + 1)) (xs (i + 2)) := hpost
  rw [← hpost] at hop
  refine lv_istore (lv' := [(6, .int r1), (5, .int (wzcode [1, 3] (cTake (b, cn, List.map w L) (xs (i + 1)) (xs (i + 2))).1)), (0, .ref b9), (1, .ref (u 30)), (2, .ref h), (3, .ref o), (4, .int (nI i))]) hx hb dL_law_263 hl (by decide) rfl (fun ls hl => ?_)
  refine lv_aload_n hx hb dL_law_265 rfl (lv_at hl 4 rfl) ?_
  refine ro_callV F hZ [] (mc_thrown hM) (cwV 0 F.2.2.2.2 gL_X4_thrown rfl rfl rfl (by decide +kernel) ⟨(Nat.le_of_ble_eq_true rfl), (Nat.le_of_ble_eq_true rfl)⟩) (mg_rc hZ hM) rfl hl.1 rfl (lv_room (Nat.le_of_ble_eq_true rfl)) ⟨by show cells + 4 ≤ 601024; omega, by show slots + 28 ≤ 7293034; omega⟩ dL_law_266 ?_
  refine lv_iload hx hb dL_law_269 (lv_at hl 1 rfl) ?_
  refine lv_icmp_eq (tgt := 276) hx hb dL_law_271 (by decide) (fun q9 => ?_) (fun q9 => absurd hop.1.symm q9)
  refine lv_iload hx hb dL_law_276 (lv_at hl 1 rfl) ?_
  have hI := lw_next hop.2.2 hA CC1 hP hM hO hS
  have fin : ∀ ls : Array Slot, lv_has ls 7 [(6, .int r1), (5, .int (wzcode [1, 3] (cTake (b, cn, List.map w L) (xs (i + 1)) (xs (i + 2))).1)), (0, .ref b9), (1, .ref (u 30)), (2, .ref h), (3, .ref o), (4, .int (nI i))] → W p l e9 room_1 s m #[Value.ref b9] below meth c H2 locs2 (cells + 4) (slots + 28) Q (F0 m 293 ls []) := by
    intro ls hl
    refine lv_goto (tgt := 1844) hx hb dL_law_293 (by decide) ?_
    exact W.widen (by omega) (by omega) (kk H2 locs2 ls hI (lv_sub hl [2, 3, 4, 5, 6] rfl))
  refine lv_if_ne (tgt := 293) hx hb dL_law_278 (by decide) (fun q8 => fin ls hl) (fun q8 => ?_)
  obtain ⟨g2, g3⟩ := hop.2.1 (hop.1.symm.trans q8)
  have hg0 : g1 0 = r1.toInt64 := (hg g2).trans (congrArg Int32.toInt64 g3)
  refine lv_aload_n hx hb dL_law_281 rfl (lv_at hl 5 rfl) ?_
  refine lv_iconst (v := 0) hx hb dL_law_282 (by decide) ?_
  refine va_lald hx hb hJ hO 0 0 rfl rfl (by unfold vp_in; decide) dL_law_283 ?_
  rw [show Int32.toNatClampNeg 0 = 0 from by decide, hg0]
  refine lv_iload hx hb dL_law_284 (lv_at hl 0 rfl) ?_
  refine lv_i2l (v := r1.toInt64) hx hb dL_law_286 rfl ?_
  refine W.lcmp hx hb dL_law_287 ?_
  refine lw_E 0 (lg_self _) ?_
  exact lv_if_eq (tgt := 293) hx hb dL_law_288 (by decide) (fun _ => fin ls hl) (fun q7 => absurd rfl q7)
set_option maxHeartbeats 4000000 in
theorem lq_where {p : Program} {l : Launch} {e9 : Env} {s : State} {m : MethodId} {below : List Frame} {meth : Method} {c : Code} {H : Heap} {locs : List Loc} {cells slots : Nat} {Q : State → Prop} {b9 L9 : Nat} {xs : Nat → Int32} {D : va_G} {cI cII cZ cJ : ClassId} {sa : Nat → Nat} {u : Nat → Nat} {h : Nat} {q : Nat → Nat} {o : Nat} {ls : Array Slot} {i : Nat} (hfl : l.stackTraces = false) (F : CallFix p m c cL_law 7 s #[Value.ref b9] lw_tbl RL) (hK : va_K D vwCl (cT cI cII) s) (hZ : va_K D vwCl (mT cI cZ) s) (hJ : va_K D vwCl [(cJ, .long)] s) (hN : wzN s) (hX : ∀ A : Nat → Prop, (∀ a : Nat, a < s.heap.size → ¬ A a) → xF A sa s) (hsx : va_X b9 L9 xs s s.heap) (hb9 : b9 < s.heap.size) (hL : L9 ≤ 3072) (I : lwI s.heap D cI cII cZ cJ u h q o H locs) (hi : i + 6 ≤ L9) (hc : cells + 46 ≤ 601024) (hs : slots + 440 ≤ 7293034) (hl : lv_has ls 7 [(0, .ref b9), (1, .ref (u 30)), (2, .ref h), (3, .ref o), (4, .int (nI i))])
    (kk : ∀ (H1 : Heap) (locs1 : List Loc) (ls1 : Array Slot), lwI s.heap D cI cII cZ cJ u h q o H1 locs1 → lv_has ls1 7 [(0, .ref b9), (1, .ref (u 30)), (2, .ref h), (3, .ref o), (4, .int (nI i))] → W p l e9 room_1 s m #[Value.ref b9] below meth c H1 locs1 (cells + 46) (slots + 440) Q (F0 m 1844 ls1 [])) : W p l e9 room_1 s m #[Value.ref b9] below meth c H locs cells slots Q (F0 m 296 ls []) := by
  obtain ⟨n, cm, a, kn, th, lm, V, pq, sp, cn, e, sz, b, L, w, nx, g, R, CC, he, hsz, hch, hP, hM, hO, hS⟩ := I
  have hx := F.1
  have hb := F.2.1
  have hok := rel_ok R
  have hcn := rel_cn R
  have hrc := rel_rc R
  have hmz := mP_lt hM
  have hS0 := hS
  have hoz : o < H.size := vx_lt hO (k := 0) rfl
  refine lv_aload_n hx hb dL_law_296 rfl (lv_at hl 1 rfl) ?_
  refine lv_aload_n hx hb dL_law_297 rfl (lv_at hl 0 rfl) ?_
  refine lv_iload hx hb dL_law_298 (lv_at hl 4 rfl) ?_
  refine lv_iconst (v := 1) hx hb dL_law_300 (by decide) ?_
  refine lv_iadd hx hb dL_law_301 ?_
  refine lw_E (nI (i + 1)) (nI_add i 1) ?_
  refine va_sld (A := fun x => s.heap.size ≤ x) hx hb hsx hb9 (Nat.not_le.mpr hb9) hS (vp_in_nI (n := i + 1) (by omega) (by omega)) dL_law_302 ?_
  refine lw_E (xs (i + 1)) (by rw [nI_clamp (by omega)]) ?_
  refine lv_aload_n hx hb dL_law_303 rfl (lv_at hl 0 rfl) ?_
  refine lv_iload hx hb dL_law_304 (lv_at hl 4 rfl) ?_
  refine lv_iconst (v := 2) hx hb dL_law_306 (by decide) ?_
  refine lv_iadd hx hb dL_law_307 ?_
  refine lw_E (nI (i + 2)) (nI_add i 2) ?_
  refine va_sld (A := fun x => s.heap.size ≤ x) hx hb hsx hb9 (Nat.not_le.mpr hb9) hS (vp_in_nI (n := i + 2) (by omega) (by omega)) dL_law_308 ?_
  refine lw_E (xs (i + 2)) (by rw [nI_clamp (by omega)]) ?_
  refine lv_aload_n hx hb dL_law_309 rfl (lv_at hl 3 rfl) ?_
  have hop := oz_where R (xs (i + 1)) (xs (i + 2))
  refine lz_call (nn := 4) F hK hJ hN hX CC [.ref (u 30), .int (xs (i + 1)), .int (xs (i + 2)), .ref o] (lwc_where hfl CC.1 (xs (i + 1)) (xs (i + 2)) hch he hsz hok hcn hrc CC.2.2.2.2.1 hoz) (vx_cwSW 4 F.2.2.2.2 gL_L_where rfl rfl rfl (by decide +kernel) ⟨(Nat.le_of_ble_eq_true rfl), (Nat.le_of_ble_eq_true rfl)⟩) hP hO hM (mW_ad CC.2.2.2.2.2) hS rfl hl.1 rfl (lv_room (Nat.le_of_ble_eq_true rfl)) ⟨by show cells + 2 ≤ 601024; omega, by show slots + 12 ≤ 7293034; omega⟩ dL_law_310 (fun V1 pq1 sp1 cn1 e1 sz1 b1 L1 w1 nx1 g1 H1 locs1 hA hg hP hO hM hz1 hS => ?_)
  have CC1 := CC.next hA.2.2.2.2.2.2.1 hS0.1 hA.2.2.2.2.2.2.2 hmz hoz
  refine lv_istore (lv' := [(5, .int (wzcode [1] (cWhere (b, cn, List.map w L) (xs (i + 1)) (xs (i + 2))).1)), (0, .ref b9), (1, .ref (u 30)), (2, .ref h), (3, .ref o), (4, .int (nI i))]) hx hb dL_law_313 hl (by decide) rfl (fun ls hl => ?_)
  refine lv_aload_n hx hb dL_law_315 rfl (lv_at hl 3 rfl) ?_
  refine lv_aload_n hx hb dL_law_316 rfl (lv_at hl 1 rfl) ?_
  refine lv_iload hx hb dL_law_317 (lv_at hl 5 rfl) ?_
  refine lv_iconst (v := 1) hx hb dL_law_319 (by decide) ?_
  refine lv_iadd hx hb dL_law_320 ?_
  refine lw_E (nI (i + 1)) (nI_add i 1) ?_
  refine va_sld (A := fun x => s.heap.size ≤ x) hx hb hsx hb9 (Nat.not_le.mpr hb9) hS (vp_in_nI (n := i + 1) (by omega) (by omega)) dL_law_321 ?_
  refine lw_E (xs (i + 1)) (by rw [nI_clamp (by omega)]) ?_
  refine lv_aload_n hx hb dL_law_322 rfl (lv_at hl 1 rfl) ?_
  refine lv_iload hx hb dL_law_323 (lv_at hl 5 rfl) ?_
  refine lv_iconst (v := 2) hx hb dL_law_325 (by decide) ?_
  refine lv_iadd hx hb dL_law_326 ?_
  refine lw_E (nI (i + 2)) (nI_add i 2) ?_
  refine va_sld (A := fun x => s.heap.size ≤ x) hx hb hsx hb9 (Nat.not_le.mpr hb9) hS (vp_in_nI (n := i + 2) (by omega) (by omega)) dL_law_327 ?_
  refine lw_E (xs (i + 2)) (by rw [nI_clamp (by omega)]) ?_
  refine wr_callV (A := fun x => s.heap.size ≤ x) F hZ [.int (xs (i + 1)), .int (xs (i + 2))] (mc_where CC.2.2.2.2.2 (xs (i + 1)) (xs (i + 2)) R.inv.mi) (cwV 2 F.2.2.2.2 gL_X4_where rfl rfl rfl (by decide +kernel) ⟨(Nat.le_of_ble_eq_true rfl), (Nat.le_of_ble_eq_true rfl)⟩) (mg_rc hZ hM) hM hS (fun x hx => (CC.2.2.1 x hx).1) rfl hl.1 rfl (lv_room (Nat.le_of_ble_eq_true rfl)) ⟨by show cells + 2 ≤ 601024; omega, by show slots + 12 ≤ 7293034; omega⟩ dL_law_328 (fun r1 n1 cm1 th1 lm1 a1 kn1 H2 locs2 hpost hM hz2 hf2 hS => ?_)
  obtain ⟨hP, hO⟩ := lw_keepC CC1 hP hO hf2
  have hpost : (th1, r1, n1, cm1, a1, kn1) = mWhere n cm a kn (xs (i + 1)) (xs (i + 2)) := hpost
  rw [← hpost] at hop
  refine lv_istore (lv' := [(6, .int r1), (5, .int (wzcode [1] (cWhere (b, cn, List.map w L) (xs (i + 1)) (xs (i + 2))).1)), (0, .ref b9), (1, .ref (u 30)), (2, .ref h), (3, .ref o), (4, .int (nI i))]) hx hb dL_law_331 hl (by decide) rfl (fun ls hl => ?_)
  refine lv_aload_n hx hb dL_law_333 rfl (lv_at hl 4 rfl) ?_
  refine ro_callV F hZ [] (mc_thrown hM) (cwV 0 F.2.2.2.2 gL_X4_thrown rfl rfl rfl (by decide +kernel) ⟨(Nat.le_of_ble_eq_true rfl), (Nat.le_of_ble_eq_true rfl)⟩) (mg_rc hZ hM) rfl hl.1 rfl (lv_room (Nat.le_of_ble_eq_true rfl)) ⟨by show cells + 2 ≤ 601024; omega, by show slots + 12 ≤ 7293034; omega⟩ dL_law_334 ?_
  refine lv_iload hx hb dL_law_337 (lv_at hl 1 rfl) ?_
  refine lv_icmp_eq (tgt := 344) hx hb dL_law_339 (by decide) (fun q9 => ?_) (fun q9 => absurd hop.1.symm q9)
  refine lv_iload hx hb dL_law_344 (lv_at hl 1 rfl) ?_
  have hI := lw_next hop.2.2 hA CC1 hP hM hO hS
  have fin : ∀ ls : Array Slot, lv_has ls 7 [(6, .int r1), (5, .int (wzcode [1] (cWhere (b, cn, List.map w L) (xs (i + 1)) (xs (i + 2))).1)), (0, .ref b9), (1, .ref (u 30)), (2, .ref h), (3, .ref o), (4, .int (nI i))] → W p l e9 room_1 s m #[Value.ref b9] below meth c H2 locs2 (cells + 2) (slots + 12) Q (F0 m 361 ls []) := by
    intro ls hl
    refine lv_goto (tgt := 1844) hx hb dL_law_361 (by decide) ?_
    exact W.widen (by omega) (by omega) (kk H2 locs2 ls hI (lv_sub hl [2, 3, 4, 5, 6] rfl))
  refine lv_if_ne (tgt := 361) hx hb dL_law_346 (by decide) (fun q8 => fin ls hl) (fun q8 => ?_)
  obtain ⟨g2, g3⟩ := hop.2.1 (hop.1.symm.trans q8)
  have hg0 : g1 0 = r1.toInt64 := (hg g2).trans (congrArg Int32.toInt64 g3)
  refine lv_aload_n hx hb dL_law_349 rfl (lv_at hl 5 rfl) ?_
  refine lv_iconst (v := 0) hx hb dL_law_350 (by decide) ?_
  refine va_lald hx hb hJ hO 0 0 rfl rfl (by unfold vp_in; decide) dL_law_351 ?_
  rw [show Int32.toNatClampNeg 0 = 0 from by decide, hg0]
  refine lv_iload hx hb dL_law_352 (lv_at hl 0 rfl) ?_
  refine lv_i2l (v := r1.toInt64) hx hb dL_law_354 rfl ?_
  refine W.lcmp hx hb dL_law_355 ?_
  refine lw_E 0 (lg_self _) ?_
  exact lv_if_eq (tgt := 361) hx hb dL_law_356 (by decide) (fun _ => fin ls hl) (fun q7 => absurd rfl q7)
set_option maxHeartbeats 4000000 in
theorem lq_whereByAll {p : Program} {l : Launch} {e9 : Env} {s : State} {m : MethodId} {below : List Frame} {meth : Method} {c : Code} {H : Heap} {locs : List Loc} {cells slots : Nat} {Q : State → Prop} {b9 L9 : Nat} {xs : Nat → Int32} {D : va_G} {cI cII cZ cJ : ClassId} {sa : Nat → Nat} {u : Nat → Nat} {h : Nat} {q : Nat → Nat} {o : Nat} {ls : Array Slot} {i : Nat} (hfl : l.stackTraces = false) (F : CallFix p m c cL_law 7 s #[Value.ref b9] lw_tbl RL) (hK : va_K D vwCl (cT cI cII) s) (hZ : va_K D vwCl (mT cI cZ) s) (hJ : va_K D vwCl [(cJ, .long)] s) (hN : wzN s) (hX : ∀ A : Nat → Prop, (∀ a : Nat, a < s.heap.size → ¬ A a) → xF A sa s) (hsx : va_X b9 L9 xs s s.heap) (hb9 : b9 < s.heap.size) (hL : L9 ≤ 3072) (I : lwI s.heap D cI cII cZ cJ u h q o H locs) (hi : i + 6 ≤ L9) (hc : cells + 46 ≤ 601024) (hs : slots + 440 ≤ 7293034) (hl : lv_has ls 7 [(0, .ref b9), (1, .ref (u 30)), (2, .ref h), (3, .ref o), (4, .int (nI i))])
    (kk : ∀ (H1 : Heap) (locs1 : List Loc) (ls1 : Array Slot), lwI s.heap D cI cII cZ cJ u h q o H1 locs1 → lv_has ls1 7 [(0, .ref b9), (1, .ref (u 30)), (2, .ref h), (3, .ref o), (4, .int (nI i))] → W p l e9 room_1 s m #[Value.ref b9] below meth c H1 locs1 (cells + 46) (slots + 440) Q (F0 m 1844 ls1 [])) : W p l e9 room_1 s m #[Value.ref b9] below meth c H locs cells slots Q (F0 m 364 ls []) := by
  obtain ⟨n, cm, a, kn, th, lm, V, pq, sp, cn, e, sz, b, L, w, nx, g, R, CC, he, hsz, hch, hP, hM, hO, hS⟩ := I
  have hx := F.1
  have hb := F.2.1
  have hok := rel_ok R
  have hcn := rel_cn R
  have hrc := rel_rc R
  have hmz := mP_lt hM
  have hS0 := hS
  have hoz : o < H.size := vx_lt hO (k := 0) rfl
  refine lv_aload_n hx hb dL_law_364 rfl (lv_at hl 1 rfl) ?_
  refine lv_aload_n hx hb dL_law_365 rfl (lv_at hl 0 rfl) ?_
  refine lv_iload hx hb dL_law_366 (lv_at hl 4 rfl) ?_
  refine lv_iconst (v := 1) hx hb dL_law_368 (by decide) ?_
  refine lv_iadd hx hb dL_law_369 ?_
  refine lw_E (nI (i + 1)) (nI_add i 1) ?_
  refine va_sld (A := fun x => s.heap.size ≤ x) hx hb hsx hb9 (Nat.not_le.mpr hb9) hS (vp_in_nI (n := i + 1) (by omega) (by omega)) dL_law_370 ?_
  refine lw_E (xs (i + 1)) (by rw [nI_clamp (by omega)]) ?_
  refine lv_aload_n hx hb dL_law_371 rfl (lv_at hl 3 rfl) ?_
  have hop := oz_whereByAll R (xs (i + 1))
  refine lz_call (nn := 3) F hK hJ hN hX CC [.ref (u 30), .int (xs (i + 1)), .ref o] (lwc_whereByAll hfl CC.1 (xs (i + 1)) hch he hsz hok hcn hrc CC.2.2.2.2.1 hoz) (vx_cwSW 3 F.2.2.2.2 gL_L_whereByAll rfl rfl rfl (by decide +kernel) ⟨(Nat.le_of_ble_eq_true rfl), (Nat.le_of_ble_eq_true rfl)⟩) hP hO hM (mW_ad CC.2.2.2.2.2) hS rfl hl.1 rfl (lv_room (Nat.le_of_ble_eq_true rfl)) ⟨by show cells + 1 ≤ 601024; omega, by show slots + 6 ≤ 7293034; omega⟩ dL_law_372 (fun V1 pq1 sp1 cn1 e1 sz1 b1 L1 w1 nx1 g1 H1 locs1 hA hg hP hO hM hz1 hS => ?_)
  have CC1 := CC.next hA.2.2.2.2.2.2.1 hS0.1 hA.2.2.2.2.2.2.2 hmz hoz
  refine lv_istore (lv' := [(5, .int (wzcode [1] (cWhereByAll (b, cn, List.map w L) (xs (i + 1))).1)), (0, .ref b9), (1, .ref (u 30)), (2, .ref h), (3, .ref o), (4, .int (nI i))]) hx hb dL_law_375 hl (by decide) rfl (fun ls hl => ?_)
  refine lv_aload_n hx hb dL_law_377 rfl (lv_at hl 3 rfl) ?_
  refine lv_aload_n hx hb dL_law_378 rfl (lv_at hl 1 rfl) ?_
  refine lv_iload hx hb dL_law_379 (lv_at hl 5 rfl) ?_
  refine lv_iconst (v := 1) hx hb dL_law_381 (by decide) ?_
  refine lv_iadd hx hb dL_law_382 ?_
  refine lw_E (nI (i + 1)) (nI_add i 1) ?_
  refine va_sld (A := fun x => s.heap.size ≤ x) hx hb hsx hb9 (Nat.not_le.mpr hb9) hS (vp_in_nI (n := i + 1) (by omega) (by omega)) dL_law_383 ?_
  refine lw_E (xs (i + 1)) (by rw [nI_clamp (by omega)]) ?_
  refine wr_callV (A := fun x => s.heap.size ≤ x) F hZ [.int (xs (i + 1))] (mc_whereByAll CC.2.2.2.2.2 (xs (i + 1)) R.inv.mi) (cwV 1 F.2.2.2.2 gL_X4_whereByAll rfl rfl rfl (by decide +kernel) ⟨(Nat.le_of_ble_eq_true rfl), (Nat.le_of_ble_eq_true rfl)⟩) (mg_rc hZ hM) hM hS (fun x hx => (CC.2.2.1 x hx).1) rfl hl.1 rfl (lv_room (Nat.le_of_ble_eq_true rfl)) ⟨by show cells + 1 ≤ 601024; omega, by show slots + 6 ≤ 7293034; omega⟩ dL_law_384 (fun r1 n1 cm1 th1 lm1 a1 kn1 H2 locs2 hpost hM hz2 hf2 hS => ?_)
  obtain ⟨hP, hO⟩ := lw_keepC CC1 hP hO hf2
  have hpost : (th1, r1, n1, cm1, a1, kn1) = mWhereByAll n cm a kn (xs (i + 1)) := hpost
  rw [← hpost] at hop
  refine lv_istore (lv' := [(6, .int r1), (5, .int (wzcode [1] (cWhereByAll (b, cn, List.map w L) (xs (i + 1))).1)), (0, .ref b9), (1, .ref (u 30)), (2, .ref h), (3, .ref o), (4, .int (nI i))]) hx hb dL_law_387 hl (by decide) rfl (fun ls hl => ?_)
  refine lv_aload_n hx hb dL_law_389 rfl (lv_at hl 4 rfl) ?_
  refine ro_callV F hZ [] (mc_thrown hM) (cwV 0 F.2.2.2.2 gL_X4_thrown rfl rfl rfl (by decide +kernel) ⟨(Nat.le_of_ble_eq_true rfl), (Nat.le_of_ble_eq_true rfl)⟩) (mg_rc hZ hM) rfl hl.1 rfl (lv_room (Nat.le_of_ble_eq_true rfl)) ⟨by show cells + 1 ≤ 601024; omega, by show slots + 6 ≤ 7293034; omega⟩ dL_law_390 ?_
  refine lv_iload hx hb dL_law_393 (lv_at hl 1 rfl) ?_
  refine lv_icmp_eq (tgt := 400) hx hb dL_law_395 (by decide) (fun q9 => ?_) (fun q9 => absurd hop.1.symm q9)
  refine lv_iload hx hb dL_law_400 (lv_at hl 1 rfl) ?_
  have hI := lw_next hop.2.2 hA CC1 hP hM hO hS
  have fin : ∀ ls : Array Slot, lv_has ls 7 [(6, .int r1), (5, .int (wzcode [1] (cWhereByAll (b, cn, List.map w L) (xs (i + 1))).1)), (0, .ref b9), (1, .ref (u 30)), (2, .ref h), (3, .ref o), (4, .int (nI i))] → W p l e9 room_1 s m #[Value.ref b9] below meth c H2 locs2 (cells + 1) (slots + 6) Q (F0 m 417 ls []) := by
    intro ls hl
    refine lv_goto (tgt := 1844) hx hb dL_law_417 (by decide) ?_
    exact W.widen (by omega) (by omega) (kk H2 locs2 ls hI (lv_sub hl [2, 3, 4, 5, 6] rfl))
  refine lv_if_ne (tgt := 417) hx hb dL_law_402 (by decide) (fun q8 => fin ls hl) (fun q8 => ?_)
  obtain ⟨g2, g3⟩ := hop.2.1 (hop.1.symm.trans q8)
  have hg0 : g1 0 = r1.toInt64 := (hg g2).trans (congrArg Int32.toInt64 g3)
  refine lv_aload_n hx hb dL_law_405 rfl (lv_at hl 5 rfl) ?_
  refine lv_iconst (v := 0) hx hb dL_law_406 (by decide) ?_
  refine va_lald hx hb hJ hO 0 0 rfl rfl (by unfold vp_in; decide) dL_law_407 ?_
  rw [show Int32.toNatClampNeg 0 = 0 from by decide, hg0]
  refine lv_iload hx hb dL_law_408 (lv_at hl 0 rfl) ?_
  refine lv_i2l (v := r1.toInt64) hx hb dL_law_410 rfl ?_
  refine W.lcmp hx hb dL_law_411 ?_
  refine lw_E 0 (lg_self _) ?_
  exact lv_if_eq (tgt := 417) hx hb dL_law_412 (by decide) (fun _ => fin ls hl) (fun q7 => absurd rfl q7)
set_option maxHeartbeats 4000000 in
theorem lq_count {p : Program} {l : Launch} {e9 : Env} {s : State} {m : MethodId} {below : List Frame} {meth : Method} {c : Code} {H : Heap} {locs : List Loc} {cells slots : Nat} {Q : State → Prop} {b9 L9 : Nat} {xs : Nat → Int32} {D : va_G} {cI cII cZ cJ : ClassId} {sa : Nat → Nat} {u : Nat → Nat} {h : Nat} {q : Nat → Nat} {o : Nat} {ls : Array Slot} {i : Nat} (hfl : l.stackTraces = false) (F : CallFix p m c cL_law 7 s #[Value.ref b9] lw_tbl RL) (hK : va_K D vwCl (cT cI cII) s) (hZ : va_K D vwCl (mT cI cZ) s) (hJ : va_K D vwCl [(cJ, .long)] s) (hN : wzN s) (hX : ∀ A : Nat → Prop, (∀ a : Nat, a < s.heap.size → ¬ A a) → xF A sa s) (hsx : va_X b9 L9 xs s s.heap) (hb9 : b9 < s.heap.size) (hL : L9 ≤ 3072) (I : lwI s.heap D cI cII cZ cJ u h q o H locs) (hi : i + 6 ≤ L9) (hc : cells + 46 ≤ 601024) (hs : slots + 440 ≤ 7293034) (hl : lv_has ls 7 [(0, .ref b9), (1, .ref (u 30)), (2, .ref h), (3, .ref o), (4, .int (nI i))])
    (kk : ∀ (H1 : Heap) (locs1 : List Loc) (ls1 : Array Slot), lwI s.heap D cI cII cZ cJ u h q o H1 locs1 → lv_has ls1 7 [(0, .ref b9), (1, .ref (u 30)), (2, .ref h), (3, .ref o), (4, .int (nI i))] → W p l e9 room_1 s m #[Value.ref b9] below meth c H1 locs1 (cells + 46) (slots + 440) Q (F0 m 1844 ls1 [])) : W p l e9 room_1 s m #[Value.ref b9] below meth c H locs cells slots Q (F0 m 420 ls []) := by
  obtain ⟨n, cm, a, kn, th, lm, V, pq, sp, cn, e, sz, b, L, w, nx, g, R, CC, he, hsz, hch, hP, hM, hO, hS⟩ := I
  have hx := F.1
  have hb := F.2.1
  have hok := rel_ok R
  have hcn := rel_cn R
  have hrc := rel_rc R
  have hmz := mP_lt hM
  have hS0 := hS
  have hoz : o < H.size := vx_lt hO (k := 0) rfl
  refine lv_aload_n hx hb dL_law_420 rfl (lv_at hl 1 rfl) ?_
  refine lv_aload_n hx hb dL_law_421 rfl (lv_at hl 0 rfl) ?_
  refine lv_iload hx hb dL_law_422 (lv_at hl 4 rfl) ?_
  refine lv_iconst (v := 1) hx hb dL_law_424 (by decide) ?_
  refine lv_iadd hx hb dL_law_425 ?_
  refine lw_E (nI (i + 1)) (nI_add i 1) ?_
  refine va_sld (A := fun x => s.heap.size ≤ x) hx hb hsx hb9 (Nat.not_le.mpr hb9) hS (vp_in_nI (n := i + 1) (by omega) (by omega)) dL_law_426 ?_
  refine lw_E (xs (i + 1)) (by rw [nI_clamp (by omega)]) ?_
  refine lv_aload_n hx hb dL_law_427 rfl (lv_at hl 0 rfl) ?_
  refine lv_iload hx hb dL_law_428 (lv_at hl 4 rfl) ?_
  refine lv_iconst (v := 2) hx hb dL_law_430 (by decide) ?_
  refine lv_iadd hx hb dL_law_431 ?_
  refine lw_E (nI (i + 2)) (nI_add i 2) ?_
  refine va_sld (A := fun x => s.heap.size ≤ x) hx hb hsx hb9 (Nat.not_le.mpr hb9) hS (vp_in_nI (n := i + 2) (by omega) (by omega)) dL_law_432 ?_
  refine lw_E (xs (i + 2)) (by rw [nI_clamp (by omega)]) ?_
  refine lv_aload_n hx hb dL_law_433 rfl (lv_at hl 3 rfl) ?_
  have hop := oz_count R (xs (i + 1)) (xs (i + 2))
  refine lz_call (nn := 4) F hK hJ hN hX CC [.ref (u 30), .int (xs (i + 1)), .int (xs (i + 2)), .ref o] (lwc_count hfl CC.1 (xs (i + 1)) (xs (i + 2)) hch he hsz hok hcn hrc CC.2.2.2.2.1 hoz) (vx_cwSW 4 F.2.2.2.2 gL_L_count rfl rfl rfl (by decide +kernel) ⟨(Nat.le_of_ble_eq_true rfl), (Nat.le_of_ble_eq_true rfl)⟩) hP hO hM (mW_ad CC.2.2.2.2.2) hS rfl hl.1 rfl (lv_room (Nat.le_of_ble_eq_true rfl)) ⟨by show cells + 2 ≤ 601024; omega, by show slots + 12 ≤ 7293034; omega⟩ dL_law_434 (fun V1 pq1 sp1 cn1 e1 sz1 b1 L1 w1 nx1 g1 H1 locs1 hA hg hP hO hM hz1 hS => ?_)
  have CC1 := CC.next hA.2.2.2.2.2.2.1 hS0.1 hA.2.2.2.2.2.2.2 hmz hoz
  refine lv_istore (lv' := [(5, .int (wzcode [1] (cCount (b, cn, List.map w L) (xs (i + 1)) (xs (i + 2))).1)), (0, .ref b9), (1, .ref (u 30)), (2, .ref h), (3, .ref o), (4, .int (nI i))]) hx hb dL_law_437 hl (by decide) rfl (fun ls hl => ?_)
  refine lv_aload_n hx hb dL_law_439 rfl (lv_at hl 3 rfl) ?_
  refine lv_aload_n hx hb dL_law_440 rfl (lv_at hl 1 rfl) ?_
  refine lv_iload hx hb dL_law_441 (lv_at hl 5 rfl) ?_
  refine lv_iconst (v := 1) hx hb dL_law_443 (by decide) ?_
  refine lv_iadd hx hb dL_law_444 ?_
  refine lw_E (nI (i + 1)) (nI_add i 1) ?_
  refine va_sld (A := fun x => s.heap.size ≤ x) hx hb hsx hb9 (Nat.not_le.mpr hb9) hS (vp_in_nI (n := i + 1) (by omega) (by omega)) dL_law_445 ?_
  refine lw_E (xs (i + 1)) (by rw [nI_clamp (by omega)]) ?_
  refine lv_aload_n hx hb dL_law_446 rfl (lv_at hl 1 rfl) ?_
  refine lv_iload hx hb dL_law_447 (lv_at hl 5 rfl) ?_
  refine lv_iconst (v := 2) hx hb dL_law_449 (by decide) ?_
  refine lv_iadd hx hb dL_law_450 ?_
  refine lw_E (nI (i + 2)) (nI_add i 2) ?_
  refine va_sld (A := fun x => s.heap.size ≤ x) hx hb hsx hb9 (Nat.not_le.mpr hb9) hS (vp_in_nI (n := i + 2) (by omega) (by omega)) dL_law_451 ?_
  refine lw_E (xs (i + 2)) (by rw [nI_clamp (by omega)]) ?_
  refine wr_callV (A := fun x => s.heap.size ≤ x) F hZ [.int (xs (i + 1)), .int (xs (i + 2))] (mc_count CC.2.2.2.2.2 (xs (i + 1)) (xs (i + 2)) R.inv.mi) (cwV 2 F.2.2.2.2 gL_X4_count rfl rfl rfl (by decide +kernel) ⟨(Nat.le_of_ble_eq_true rfl), (Nat.le_of_ble_eq_true rfl)⟩) (mg_rc hZ hM) hM hS (fun x hx => (CC.2.2.1 x hx).1) rfl hl.1 rfl (lv_room (Nat.le_of_ble_eq_true rfl)) ⟨by show cells + 2 ≤ 601024; omega, by show slots + 12 ≤ 7293034; omega⟩ dL_law_452 (fun r1 n1 cm1 th1 lm1 a1 kn1 H2 locs2 hpost hM hz2 hf2 hS => ?_)
  obtain ⟨hP, hO⟩ := lw_keepC CC1 hP hO hf2
  have hpost : (th1, r1, n1, cm1, a1, kn1) = mCount n cm a kn (xs (i + 1)) (xs (i + 2)) := hpost
  rw [← hpost] at hop
  refine lv_istore (lv' := [(6, .int r1), (5, .int (wzcode [1] (cCount (b, cn, List.map w L) (xs (i + 1)) (xs (i + 2))).1)), (0, .ref b9), (1, .ref (u 30)), (2, .ref h), (3, .ref o), (4, .int (nI i))]) hx hb dL_law_455 hl (by decide) rfl (fun ls hl => ?_)
  refine lv_aload_n hx hb dL_law_457 rfl (lv_at hl 4 rfl) ?_
  refine ro_callV F hZ [] (mc_thrown hM) (cwV 0 F.2.2.2.2 gL_X4_thrown rfl rfl rfl (by decide +kernel) ⟨(Nat.le_of_ble_eq_true rfl), (Nat.le_of_ble_eq_true rfl)⟩) (mg_rc hZ hM) rfl hl.1 rfl (lv_room (Nat.le_of_ble_eq_true rfl)) ⟨by show cells + 2 ≤ 601024; omega, by show slots + 12 ≤ 7293034; omega⟩ dL_law_458 ?_
  refine lv_iload hx hb dL_law_461 (lv_at hl 1 rfl) ?_
  refine lv_icmp_eq (tgt := 468) hx hb dL_law_463 (by decide) (fun q9 => ?_) (fun q9 => absurd hop.1.symm q9)
  refine lv_iload hx hb dL_law_468 (lv_at hl 1 rfl) ?_
  have hI := lw_next hop.2.2 hA CC1 hP hM hO hS
  have fin : ∀ ls : Array Slot, lv_has ls 7 [(6, .int r1), (5, .int (wzcode [1] (cCount (b, cn, List.map w L) (xs (i + 1)) (xs (i + 2))).1)), (0, .ref b9), (1, .ref (u 30)), (2, .ref h), (3, .ref o), (4, .int (nI i))] → W p l e9 room_1 s m #[Value.ref b9] below meth c H2 locs2 (cells + 2) (slots + 12) Q (F0 m 485 ls []) := by
    intro ls hl
    refine lv_goto (tgt := 1844) hx hb dL_law_485 (by decide) ?_
    exact W.widen (by omega) (by omega) (kk H2 locs2 ls hI (lv_sub hl [2, 3, 4, 5, 6] rfl))
  refine lv_if_ne (tgt := 485) hx hb dL_law_470 (by decide) (fun q8 => fin ls hl) (fun q8 => ?_)
  obtain ⟨g2, g3⟩ := hop.2.1 (hop.1.symm.trans q8)
  have hg0 : g1 0 = r1.toInt64 := (hg g2).trans (congrArg Int32.toInt64 g3)
  refine lv_aload_n hx hb dL_law_473 rfl (lv_at hl 5 rfl) ?_
  refine lv_iconst (v := 0) hx hb dL_law_474 (by decide) ?_
  refine va_lald hx hb hJ hO 0 0 rfl rfl (by unfold vp_in; decide) dL_law_475 ?_
  rw [show Int32.toNatClampNeg 0 = 0 from by decide, hg0]
  refine lv_iload hx hb dL_law_476 (lv_at hl 0 rfl) ?_
  refine lv_i2l (v := r1.toInt64) hx hb dL_law_478 rfl ?_
  refine W.lcmp hx hb dL_law_479 ?_
  refine lw_E 0 (lg_self _) ?_
  exact lv_if_eq (tgt := 485) hx hb dL_law_480 (by decide) (fun _ => fin ls hl) (fun q7 => absurd rfl q7)
set_option maxHeartbeats 4000000 in
theorem lq_countByAll {p : Program} {l : Launch} {e9 : Env} {s : State} {m : MethodId} {below : List Frame} {meth : Method} {c : Code} {H : Heap} {locs : List Loc} {cells slots : Nat} {Q : State → Prop} {b9 L9 : Nat} {xs : Nat → Int32} {D : va_G} {cI cII cZ cJ : ClassId} {sa : Nat → Nat} {u : Nat → Nat} {h : Nat} {q : Nat → Nat} {o : Nat} {ls : Array Slot} {i : Nat} (hfl : l.stackTraces = false) (F : CallFix p m c cL_law 7 s #[Value.ref b9] lw_tbl RL) (hK : va_K D vwCl (cT cI cII) s) (hZ : va_K D vwCl (mT cI cZ) s) (hJ : va_K D vwCl [(cJ, .long)] s) (hN : wzN s) (hX : ∀ A : Nat → Prop, (∀ a : Nat, a < s.heap.size → ¬ A a) → xF A sa s) (hsx : va_X b9 L9 xs s s.heap) (hb9 : b9 < s.heap.size) (hL : L9 ≤ 3072) (I : lwI s.heap D cI cII cZ cJ u h q o H locs) (hi : i + 6 ≤ L9) (hc : cells + 46 ≤ 601024) (hs : slots + 440 ≤ 7293034) (hl : lv_has ls 7 [(0, .ref b9), (1, .ref (u 30)), (2, .ref h), (3, .ref o), (4, .int (nI i))])
    (kk : ∀ (H1 : Heap) (locs1 : List Loc) (ls1 : Array Slot), lwI s.heap D cI cII cZ cJ u h q o H1 locs1 → lv_has ls1 7 [(0, .ref b9), (1, .ref (u 30)), (2, .ref h), (3, .ref o), (4, .int (nI i))] → W p l e9 room_1 s m #[Value.ref b9] below meth c H1 locs1 (cells + 46) (slots + 440) Q (F0 m 1844 ls1 [])) : W p l e9 room_1 s m #[Value.ref b9] below meth c H locs cells slots Q (F0 m 488 ls []) := by
  obtain ⟨n, cm, a, kn, th, lm, V, pq, sp, cn, e, sz, b, L, w, nx, g, R, CC, he, hsz, hch, hP, hM, hO, hS⟩ := I
  have hx := F.1
  have hb := F.2.1
  have hok := rel_ok R
  have hcn := rel_cn R
  have hrc := rel_rc R
  have hmz := mP_lt hM
  have hS0 := hS
  have hoz : o < H.size := vx_lt hO (k := 0) rfl
  refine lv_aload_n hx hb dL_law_488 rfl (lv_at hl 1 rfl) ?_
  refine lv_aload_n hx hb dL_law_489 rfl (lv_at hl 0 rfl) ?_
  refine lv_iload hx hb dL_law_490 (lv_at hl 4 rfl) ?_
  refine lv_iconst (v := 1) hx hb dL_law_492 (by decide) ?_
  refine lv_iadd hx hb dL_law_493 ?_
  refine lw_E (nI (i + 1)) (nI_add i 1) ?_
  refine va_sld (A := fun x => s.heap.size ≤ x) hx hb hsx hb9 (Nat.not_le.mpr hb9) hS (vp_in_nI (n := i + 1) (by omega) (by omega)) dL_law_494 ?_
  refine lw_E (xs (i + 1)) (by rw [nI_clamp (by omega)]) ?_
  refine lv_aload_n hx hb dL_law_495 rfl (lv_at hl 3 rfl) ?_
  have hop := oz_countByAll R (xs (i + 1))
  refine lz_call (nn := 3) F hK hJ hN hX CC [.ref (u 30), .int (xs (i + 1)), .ref o] (lwc_countByAll hfl CC.1 (xs (i + 1)) hch he hsz hok hcn hrc CC.2.2.2.2.1 hoz) (vx_cwSW 3 F.2.2.2.2 gL_L_countByAll rfl rfl rfl (by decide +kernel) ⟨(Nat.le_of_ble_eq_true rfl), (Nat.le_of_ble_eq_true rfl)⟩) hP hO hM (mW_ad CC.2.2.2.2.2) hS rfl hl.1 rfl (lv_room (Nat.le_of_ble_eq_true rfl)) ⟨by show cells + 1 ≤ 601024; omega, by show slots + 6 ≤ 7293034; omega⟩ dL_law_496 (fun V1 pq1 sp1 cn1 e1 sz1 b1 L1 w1 nx1 g1 H1 locs1 hA hg hP hO hM hz1 hS => ?_)
  have CC1 := CC.next hA.2.2.2.2.2.2.1 hS0.1 hA.2.2.2.2.2.2.2 hmz hoz
  refine lv_istore (lv' := [(5, .int (wzcode [1] (cCountByAll (b, cn, List.map w L) (xs (i + 1))).1)), (0, .ref b9), (1, .ref (u 30)), (2, .ref h), (3, .ref o), (4, .int (nI i))]) hx hb dL_law_499 hl (by decide) rfl (fun ls hl => ?_)
  refine lv_aload_n hx hb dL_law_501 rfl (lv_at hl 3 rfl) ?_
  refine lv_aload_n hx hb dL_law_502 rfl (lv_at hl 1 rfl) ?_
  refine lv_iload hx hb dL_law_503 (lv_at hl 5 rfl) ?_
  refine lv_iconst (v := 1) hx hb dL_law_505 (by decide) ?_
  refine lv_iadd hx hb dL_law_506 ?_
  refine lw_E (nI (i + 1)) (nI_add i 1) ?_
  refine va_sld (A := fun x => s.heap.size ≤ x) hx hb hsx hb9 (Nat.not_le.mpr hb9) hS (vp_in_nI (n := i + 1) (by omega) (by omega)) dL_law_507 ?_
  refine lw_E (xs (i + 1)) (by rw [nI_clamp (by omega)]) ?_
  refine wr_callV (A := fun x => s.heap.size ≤ x) F hZ [.int (xs (i + 1))] (mc_countByAll CC.2.2.2.2.2 (xs (i + 1)) R.inv.mi) (cwV 1 F.2.2.2.2 gL_X4_countByAll rfl rfl rfl (by decide +kernel) ⟨(Nat.le_of_ble_eq_true rfl), (Nat.le_of_ble_eq_true rfl)⟩) (mg_rc hZ hM) hM hS (fun x hx => (CC.2.2.1 x hx).1) rfl hl.1 rfl (lv_room (Nat.le_of_ble_eq_true rfl)) ⟨by show cells + 1 ≤ 601024; omega, by show slots + 6 ≤ 7293034; omega⟩ dL_law_508 (fun r1 n1 cm1 th1 lm1 a1 kn1 H2 locs2 hpost hM hz2 hf2 hS => ?_)
  obtain ⟨hP, hO⟩ := lw_keepC CC1 hP hO hf2
  have hpost : (th1, r1, n1, cm1, a1, kn1) = mCountByAll n cm a kn (xs (i + 1)) := hpost
  rw [← hpost] at hop
  refine lv_istore (lv' := [(6, .int r1), (5, .int (wzcode [1] (cCountByAll (b, cn, List.map w L) (xs (i + 1))).1)), (0, .ref b9), (1, .ref (u 30)), (2, .ref h), (3, .ref o), (4, .int (nI i))]) hx hb dL_law_511 hl (by decide) rfl (fun ls hl => ?_)
  refine lv_aload_n hx hb dL_law_513 rfl (lv_at hl 4 rfl) ?_
  refine ro_callV F hZ [] (mc_thrown hM) (cwV 0 F.2.2.2.2 gL_X4_thrown rfl rfl rfl (by decide +kernel) ⟨(Nat.le_of_ble_eq_true rfl), (Nat.le_of_ble_eq_true rfl)⟩) (mg_rc hZ hM) rfl hl.1 rfl (lv_room (Nat.le_of_ble_eq_true rfl)) ⟨by show cells + 1 ≤ 601024; omega, by show slots + 6 ≤ 7293034; omega⟩ dL_law_514 ?_
  refine lv_iload hx hb dL_law_517 (lv_at hl 1 rfl) ?_
  refine lv_icmp_eq (tgt := 524) hx hb dL_law_519 (by decide) (fun q9 => ?_) (fun q9 => absurd hop.1.symm q9)
  refine lv_iload hx hb dL_law_524 (lv_at hl 1 rfl) ?_
  have hI := lw_next hop.2.2 hA CC1 hP hM hO hS
  have fin : ∀ ls : Array Slot, lv_has ls 7 [(6, .int r1), (5, .int (wzcode [1] (cCountByAll (b, cn, List.map w L) (xs (i + 1))).1)), (0, .ref b9), (1, .ref (u 30)), (2, .ref h), (3, .ref o), (4, .int (nI i))] → W p l e9 room_1 s m #[Value.ref b9] below meth c H2 locs2 (cells + 1) (slots + 6) Q (F0 m 541 ls []) := by
    intro ls hl
    refine lv_goto (tgt := 1844) hx hb dL_law_541 (by decide) ?_
    exact W.widen (by omega) (by omega) (kk H2 locs2 ls hI (lv_sub hl [2, 3, 4, 5, 6] rfl))
  refine lv_if_ne (tgt := 541) hx hb dL_law_526 (by decide) (fun q8 => fin ls hl) (fun q8 => ?_)
  obtain ⟨g2, g3⟩ := hop.2.1 (hop.1.symm.trans q8)
  have hg0 : g1 0 = r1.toInt64 := (hg g2).trans (congrArg Int32.toInt64 g3)
  refine lv_aload_n hx hb dL_law_529 rfl (lv_at hl 5 rfl) ?_
  refine lv_iconst (v := 0) hx hb dL_law_530 (by decide) ?_
  refine va_lald hx hb hJ hO 0 0 rfl rfl (by unfold vp_in; decide) dL_law_531 ?_
  rw [show Int32.toNatClampNeg 0 = 0 from by decide, hg0]
  refine lv_iload hx hb dL_law_532 (lv_at hl 0 rfl) ?_
  refine lv_i2l (v := r1.toInt64) hx hb dL_law_534 rfl ?_
  refine W.lcmp hx hb dL_law_535 ?_
  refine lw_E 0 (lg_self _) ?_
  exact lv_if_eq (tgt := 541) hx hb dL_law_536 (by decide) (fun _ => fin ls hl) (fun q7 => absurd rfl q7)
set_option maxHeartbeats 4000000 in
theorem lq_claims {p : Program} {l : Launch} {e9 : Env} {s : State} {m : MethodId} {below : List Frame} {meth : Method} {c : Code} {H : Heap} {locs : List Loc} {cells slots : Nat} {Q : State → Prop} {b9 L9 : Nat} {xs : Nat → Int32} {D : va_G} {cI cII cZ cJ : ClassId} {sa : Nat → Nat} {u : Nat → Nat} {h : Nat} {q : Nat → Nat} {o : Nat} {ls : Array Slot} {i : Nat} (hfl : l.stackTraces = false) (F : CallFix p m c cL_law 7 s #[Value.ref b9] lw_tbl RL) (hK : va_K D vwCl (cT cI cII) s) (hZ : va_K D vwCl (mT cI cZ) s) (hJ : va_K D vwCl [(cJ, .long)] s) (hN : wzN s) (hX : ∀ A : Nat → Prop, (∀ a : Nat, a < s.heap.size → ¬ A a) → xF A sa s) (hsx : va_X b9 L9 xs s s.heap) (hb9 : b9 < s.heap.size) (hL : L9 ≤ 3072) (I : lwI s.heap D cI cII cZ cJ u h q o H locs) (hi : i + 6 ≤ L9) (hc : cells + 46 ≤ 601024) (hs : slots + 440 ≤ 7293034) (hl : lv_has ls 7 [(0, .ref b9), (1, .ref (u 30)), (2, .ref h), (3, .ref o), (4, .int (nI i))])
    (kk : ∀ (H1 : Heap) (locs1 : List Loc) (ls1 : Array Slot), lwI s.heap D cI cII cZ cJ u h q o H1 locs1 → lv_has ls1 7 [(0, .ref b9), (1, .ref (u 30)), (2, .ref h), (3, .ref o), (4, .int (nI i))] → W p l e9 room_1 s m #[Value.ref b9] below meth c H1 locs1 (cells + 46) (slots + 440) Q (F0 m 1844 ls1 [])) : W p l e9 room_1 s m #[Value.ref b9] below meth c H locs cells slots Q (F0 m 544 ls []) := by
  obtain ⟨n, cm, a, kn, th, lm, V, pq, sp, cn, e, sz, b, L, w, nx, g, R, CC, he, hsz, hch, hP, hM, hO, hS⟩ := I
  have hx := F.1
  have hb := F.2.1
  have hok := rel_ok R
  have hcn := rel_cn R
  have hrc := rel_rc R
  have hmz := mP_lt hM
  have hS0 := hS
  have hoz : o < H.size := vx_lt hO (k := 0) rfl
  refine lv_aload_n hx hb dL_law_544 rfl (lv_at hl 1 rfl) ?_
  refine lv_aload_n hx hb dL_law_545 rfl (lv_at hl 0 rfl) ?_
  refine lv_iload hx hb dL_law_546 (lv_at hl 4 rfl) ?_
  refine lv_iconst (v := 1) hx hb dL_law_548 (by decide) ?_
  refine lv_iadd hx hb dL_law_549 ?_
  refine lw_E (nI (i + 1)) (nI_add i 1) ?_
  refine va_sld (A := fun x => s.heap.size ≤ x) hx hb hsx hb9 (Nat.not_le.mpr hb9) hS (vp_in_nI (n := i + 1) (by omega) (by omega)) dL_law_550 ?_
  refine lw_E (xs (i + 1)) (by rw [nI_clamp (by omega)]) ?_
  refine lv_aload_n hx hb dL_law_551 rfl (lv_at hl 0 rfl) ?_
  refine lv_iload hx hb dL_law_552 (lv_at hl 4 rfl) ?_
  refine lv_iconst (v := 2) hx hb dL_law_554 (by decide) ?_
  refine lv_iadd hx hb dL_law_555 ?_
  refine lw_E (nI (i + 2)) (nI_add i 2) ?_
  refine va_sld (A := fun x => s.heap.size ≤ x) hx hb hsx hb9 (Nat.not_le.mpr hb9) hS (vp_in_nI (n := i + 2) (by omega) (by omega)) dL_law_556 ?_
  refine lw_E (xs (i + 2)) (by rw [nI_clamp (by omega)]) ?_
  refine lv_aload_n hx hb dL_law_557 rfl (lv_at hl 3 rfl) ?_
  have hop := oz_claims R (xs (i + 1)) (xs (i + 2))
  refine lz_call (nn := 4) F hK hJ hN hX CC [.ref (u 30), .int (xs (i + 1)), .int (xs (i + 2)), .ref o] (lwc_claims hfl CC.1 (xs (i + 1)) (xs (i + 2)) hch he hsz hok hcn hrc CC.2.2.2.2.1 hoz) (vx_cwSW 4 F.2.2.2.2 gL_L_claims rfl rfl rfl (by decide +kernel) ⟨(Nat.le_of_ble_eq_true rfl), (Nat.le_of_ble_eq_true rfl)⟩) hP hO hM (mW_ad CC.2.2.2.2.2) hS rfl hl.1 rfl (lv_room (Nat.le_of_ble_eq_true rfl)) ⟨by show cells + 2 ≤ 601024; omega, by show slots + 12 ≤ 7293034; omega⟩ dL_law_558 (fun V1 pq1 sp1 cn1 e1 sz1 b1 L1 w1 nx1 g1 H1 locs1 hA hg hP hO hM hz1 hS => ?_)
  have CC1 := CC.next hA.2.2.2.2.2.2.1 hS0.1 hA.2.2.2.2.2.2.2 hmz hoz
  refine lv_istore (lv' := [(5, .int (wzcode [1] (cClaims (b, cn, List.map w L) (xs (i + 1)) (xs (i + 2))).1)), (0, .ref b9), (1, .ref (u 30)), (2, .ref h), (3, .ref o), (4, .int (nI i))]) hx hb dL_law_561 hl (by decide) rfl (fun ls hl => ?_)
  refine lv_aload_n hx hb dL_law_563 rfl (lv_at hl 3 rfl) ?_
  refine lv_aload_n hx hb dL_law_564 rfl (lv_at hl 1 rfl) ?_
  refine lv_iload hx hb dL_law_565 (lv_at hl 5 rfl) ?_
  refine lv_iconst (v := 1) hx hb dL_law_567 (by decide) ?_
  refine lv_iadd hx hb dL_law_568 ?_
  refine lw_E (nI (i + 1)) (nI_add i 1) ?_
  refine va_sld (A := fun x => s.heap.size ≤ x) hx hb hsx hb9 (Nat.not_le.mpr hb9) hS (vp_in_nI (n := i + 1) (by omega) (by omega)) dL_law_569 ?_
  refine lw_E (xs (i + 1)) (by rw [nI_clamp (by omega)]) ?_
  refine lv_aload_n hx hb dL_law_570 rfl (lv_at hl 1 rfl) ?_
  refine lv_iload hx hb dL_law_571 (lv_at hl 5 rfl) ?_
  refine lv_iconst (v := 2) hx hb dL_law_573 (by decide) ?_
  refine lv_iadd hx hb dL_law_574 ?_
  refine lw_E (nI (i + 2)) (nI_add i 2) ?_
  refine va_sld (A := fun x => s.heap.size ≤ x) hx hb hsx hb9 (Nat.not_le.mpr hb9) hS (vp_in_nI (n := i + 2) (by omega) (by omega)) dL_law_575 ?_
  refine lw_E (xs (i + 2)) (by rw [nI_clamp (by omega)]) ?_
  refine wr_callV (A := fun x => s.heap.size ≤ x) F hZ [.int (xs (i + 1)), .int (xs (i + 2))] (mc_claims CC.2.2.2.2.2 (xs (i + 1)) (xs (i + 2)) R.inv.mi) (cwV 2 F.2.2.2.2 gL_X4_claims rfl rfl rfl (by decide +kernel) ⟨(Nat.le_of_ble_eq_true rfl), (Nat.le_of_ble_eq_true rfl)⟩) (mg_rc hZ hM) hM hS (fun x hx => (CC.2.2.1 x hx).1) rfl hl.1 rfl (lv_room (Nat.le_of_ble_eq_true rfl)) ⟨by show cells + 2 ≤ 601024; omega, by show slots + 12 ≤ 7293034; omega⟩ dL_law_576 (fun r1 n1 cm1 th1 lm1 a1 kn1 H2 locs2 hpost hM hz2 hf2 hS => ?_)
  obtain ⟨hP, hO⟩ := lw_keepC CC1 hP hO hf2
  have hpost : (th1, r1, n1, cm1, a1, kn1) = mClaims n cm a kn (xs (i + 1)) (xs (i + 2)) := hpost
  rw [← hpost] at hop
  refine lv_istore (lv' := [(6, .int r1), (5, .int (wzcode [1] (cClaims (b, cn, List.map w L) (xs (i + 1)) (xs (i + 2))).1)), (0, .ref b9), (1, .ref (u 30)), (2, .ref h), (3, .ref o), (4, .int (nI i))]) hx hb dL_law_579 hl (by decide) rfl (fun ls hl => ?_)
  refine lv_aload_n hx hb dL_law_581 rfl (lv_at hl 4 rfl) ?_
  refine ro_callV F hZ [] (mc_thrown hM) (cwV 0 F.2.2.2.2 gL_X4_thrown rfl rfl rfl (by decide +kernel) ⟨(Nat.le_of_ble_eq_true rfl), (Nat.le_of_ble_eq_true rfl)⟩) (mg_rc hZ hM) rfl hl.1 rfl (lv_room (Nat.le_of_ble_eq_true rfl)) ⟨by show cells + 2 ≤ 601024; omega, by show slots + 12 ≤ 7293034; omega⟩ dL_law_582 ?_
  refine lv_iload hx hb dL_law_585 (lv_at hl 1 rfl) ?_
  refine lv_icmp_eq (tgt := 592) hx hb dL_law_587 (by decide) (fun q9 => ?_) (fun q9 => absurd hop.1.symm q9)
  refine lv_iload hx hb dL_law_592 (lv_at hl 1 rfl) ?_
  have hI := lw_next hop.2.2 hA CC1 hP hM hO hS
  have fin : ∀ ls : Array Slot, lv_has ls 7 [(6, .int r1), (5, .int (wzcode [1] (cClaims (b, cn, List.map w L) (xs (i + 1)) (xs (i + 2))).1)), (0, .ref b9), (1, .ref (u 30)), (2, .ref h), (3, .ref o), (4, .int (nI i))] → W p l e9 room_1 s m #[Value.ref b9] below meth c H2 locs2 (cells + 2) (slots + 12) Q (F0 m 609 ls []) := by
    intro ls hl
    refine lv_goto (tgt := 1844) hx hb dL_law_609 (by decide) ?_
    exact W.widen (by omega) (by omega) (kk H2 locs2 ls hI (lv_sub hl [2, 3, 4, 5, 6] rfl))
  refine lv_if_ne (tgt := 609) hx hb dL_law_594 (by decide) (fun q8 => fin ls hl) (fun q8 => ?_)
  obtain ⟨g2, g3⟩ := hop.2.1 (hop.1.symm.trans q8)
  have hg0 : g1 0 = r1.toInt64 := (hg g2).trans (congrArg Int32.toInt64 g3)
  refine lv_aload_n hx hb dL_law_597 rfl (lv_at hl 5 rfl) ?_
  refine lv_iconst (v := 0) hx hb dL_law_598 (by decide) ?_
  refine va_lald hx hb hJ hO 0 0 rfl rfl (by unfold vp_in; decide) dL_law_599 ?_
  rw [show Int32.toNatClampNeg 0 = 0 from by decide, hg0]
  refine lv_iload hx hb dL_law_600 (lv_at hl 0 rfl) ?_
  refine lv_i2l (v := r1.toInt64) hx hb dL_law_602 rfl ?_
  refine W.lcmp hx hb dL_law_603 ?_
  refine lw_E 0 (lg_self _) ?_
  exact lv_if_eq (tgt := 609) hx hb dL_law_604 (by decide) (fun _ => fin ls hl) (fun q7 => absurd rfl q7)
set_option maxHeartbeats 4000000 in
theorem lq_meet {p : Program} {l : Launch} {e9 : Env} {s : State} {m : MethodId} {below : List Frame} {meth : Method} {c : Code} {H : Heap} {locs : List Loc} {cells slots : Nat} {Q : State → Prop} {b9 L9 : Nat} {xs : Nat → Int32} {D : va_G} {cI cII cZ cJ : ClassId} {sa : Nat → Nat} {u : Nat → Nat} {h : Nat} {q : Nat → Nat} {o : Nat} {ls : Array Slot} {i : Nat} (hfl : l.stackTraces = false) (F : CallFix p m c cL_law 7 s #[Value.ref b9] lw_tbl RL) (hK : va_K D vwCl (cT cI cII) s) (hZ : va_K D vwCl (mT cI cZ) s) (hJ : va_K D vwCl [(cJ, .long)] s) (hN : wzN s) (hX : ∀ A : Nat → Prop, (∀ a : Nat, a < s.heap.size → ¬ A a) → xF A sa s) (hsx : va_X b9 L9 xs s s.heap) (hb9 : b9 < s.heap.size) (hL : L9 ≤ 3072) (I : lwI s.heap D cI cII cZ cJ u h q o H locs) (hi : i + 6 ≤ L9) (hc : cells + 46 ≤ 601024) (hs : slots + 440 ≤ 7293034) (hl : lv_has ls 7 [(0, .ref b9), (1, .ref (u 30)), (2, .ref h), (3, .ref o), (4, .int (nI i))])
    (kk : ∀ (H1 : Heap) (locs1 : List Loc) (ls1 : Array Slot), lwI s.heap D cI cII cZ cJ u h q o H1 locs1 → lv_has ls1 7 [(0, .ref b9), (1, .ref (u 30)), (2, .ref h), (3, .ref o), (4, .int (nI i))] → W p l e9 room_1 s m #[Value.ref b9] below meth c H1 locs1 (cells + 46) (slots + 440) Q (F0 m 1844 ls1 [])) : W p l e9 room_1 s m #[Value.ref b9] below meth c H locs cells slots Q (F0 m 612 ls []) := by
  obtain ⟨n, cm, a, kn, th, lm, V, pq, sp, cn, e, sz, b, L, w, nx, g, R, CC, he, hsz, hch, hP, hM, hO, hS⟩ := I
  have hx := F.1
  have hb := F.2.1
  have hok := rel_ok R
  have hcn := rel_cn R
  have hrc := rel_rc R
  have hmz := mP_lt hM
  have hS0 := hS
  have hoz : o < H.size := vx_lt hO (k := 0) rfl
  refine lv_aload_n hx hb dL_law_612 rfl (lv_at hl 1 rfl) ?_
  refine lv_aload_n hx hb dL_law_613 rfl (lv_at hl 0 rfl) ?_
  refine lv_iload hx hb dL_law_614 (lv_at hl 4 rfl) ?_
  refine lv_iconst (v := 1) hx hb dL_law_616 (by decide) ?_
  refine lv_iadd hx hb dL_law_617 ?_
  refine lw_E (nI (i + 1)) (nI_add i 1) ?_
  refine va_sld (A := fun x => s.heap.size ≤ x) hx hb hsx hb9 (Nat.not_le.mpr hb9) hS (vp_in_nI (n := i + 1) (by omega) (by omega)) dL_law_618 ?_
  refine lw_E (xs (i + 1)) (by rw [nI_clamp (by omega)]) ?_
  refine lv_aload_n hx hb dL_law_619 rfl (lv_at hl 0 rfl) ?_
  refine lv_iload hx hb dL_law_620 (lv_at hl 4 rfl) ?_
  refine lv_iconst (v := 2) hx hb dL_law_622 (by decide) ?_
  refine lv_iadd hx hb dL_law_623 ?_
  refine lw_E (nI (i + 2)) (nI_add i 2) ?_
  refine va_sld (A := fun x => s.heap.size ≤ x) hx hb hsx hb9 (Nat.not_le.mpr hb9) hS (vp_in_nI (n := i + 2) (by omega) (by omega)) dL_law_624 ?_
  refine lw_E (xs (i + 2)) (by rw [nI_clamp (by omega)]) ?_
  refine lv_aload_n hx hb dL_law_625 rfl (lv_at hl 3 rfl) ?_
  have hop := oz_meet R (xs (i + 1)) (xs (i + 2))
  refine lz_call (nn := 4) F hK hJ hN hX CC [.ref (u 30), .int (xs (i + 1)), .int (xs (i + 2)), .ref o] (lwc_meet hfl CC.1 (xs (i + 1)) (xs (i + 2)) hch he hsz hok hcn hrc CC.2.2.2.2.1 hoz) (vx_cwSW 4 F.2.2.2.2 gL_L_meet rfl rfl rfl (by decide +kernel) ⟨(Nat.le_of_ble_eq_true rfl), (Nat.le_of_ble_eq_true rfl)⟩) hP hO hM (mW_ad CC.2.2.2.2.2) hS rfl hl.1 rfl (lv_room (Nat.le_of_ble_eq_true rfl)) ⟨by show cells + 3 ≤ 601024; omega, by show slots + 18 ≤ 7293034; omega⟩ dL_law_626 (fun V1 pq1 sp1 cn1 e1 sz1 b1 L1 w1 nx1 g1 H1 locs1 hA hg hP hO hM hz1 hS => ?_)
  have CC1 := CC.next hA.2.2.2.2.2.2.1 hS0.1 hA.2.2.2.2.2.2.2 hmz hoz
  refine lv_istore (lv' := [(5, .int (wzcode [1, 2] (cMeet (b, cn, List.map w L) (xs (i + 1)) (xs (i + 2))).1)), (0, .ref b9), (1, .ref (u 30)), (2, .ref h), (3, .ref o), (4, .int (nI i))]) hx hb dL_law_629 hl (by decide) rfl (fun ls hl => ?_)
  refine lv_aload_n hx hb dL_law_631 rfl (lv_at hl 3 rfl) ?_
  refine lv_aload_n hx hb dL_law_632 rfl (lv_at hl 1 rfl) ?_
  refine lv_iload hx hb dL_law_633 (lv_at hl 5 rfl) ?_
  refine lv_iconst (v := 1) hx hb dL_law_635 (by decide) ?_
  refine lv_iadd hx hb dL_law_636 ?_
  refine lw_E (nI (i + 1)) (nI_add i 1) ?_
  refine va_sld (A := fun x => s.heap.size ≤ x) hx hb hsx hb9 (Nat.not_le.mpr hb9) hS (vp_in_nI (n := i + 1) (by omega) (by omega)) dL_law_637 ?_
  refine lw_E (xs (i + 1)) (by rw [nI_clamp (by omega)]) ?_
  refine lv_aload_n hx hb dL_law_638 rfl (lv_at hl 1 rfl) ?_
  refine lv_iload hx hb dL_law_639 (lv_at hl 5 rfl) ?_
  refine lv_iconst (v := 2) hx hb dL_law_641 (by decide) ?_
  refine lv_iadd hx hb dL_law_642 ?_
  refine lw_E (nI (i + 2)) (nI_add i 2) ?_
  refine va_sld (A := fun x => s.heap.size ≤ x) hx hb hsx hb9 (Nat.not_le.mpr hb9) hS (vp_in_nI (n := i + 2) (by omega) (by omega)) dL_law_643 ?_
  refine lw_E (xs (i + 2)) (by rw [nI_clamp (by omega)]) ?_
  refine wr_callV (A := fun x => s.heap.size ≤ x) F hZ [.int (xs (i + 1)), .int (xs (i + 2))] (mc_meet CC.2.2.2.2.2 (xs (i + 1)) (xs (i + 2)) R.inv.mi) (cwV 2 F.2.2.2.2 gL_X4_meet rfl rfl rfl (by decide +kernel) ⟨(Nat.le_of_ble_eq_true rfl), (Nat.le_of_ble_eq_true rfl)⟩) (mg_rc hZ hM) hM hS (fun x hx => (CC.2.2.1 x hx).1) rfl hl.1 rfl (lv_room (Nat.le_of_ble_eq_true rfl)) ⟨by show cells + 3 ≤ 601024; omega, by show slots + 18 ≤ 7293034; omega⟩ dL_law_644 (fun r1 n1 cm1 th1 lm1 a1 kn1 H2 locs2 hpost hM hz2 hf2 hS => ?_)
  obtain ⟨hP, hO⟩ := lw_keepC CC1 hP hO hf2
  have hpost : (th1, r1, n1, cm1, a1, kn1) = mMeet n cm a kn (xs (i + 1)) (xs (i + 2)) := hpost
  rw [← hpost] at hop
  refine lv_istore (lv' := [(6, .int r1), (5, .int (wzcode [1, 2] (cMeet (b, cn, List.map w L) (xs (i + 1)) (xs (i + 2))).1)), (0, .ref b9), (1, .ref (u 30)), (2, .ref h), (3, .ref o), (4, .int (nI i))]) hx hb dL_law_647 hl (by decide) rfl (fun ls hl => ?_)
  refine lv_aload_n hx hb dL_law_649 rfl (lv_at hl 4 rfl) ?_
  refine ro_callV F hZ [] (mc_thrown hM) (cwV 0 F.2.2.2.2 gL_X4_thrown rfl rfl rfl (by decide +kernel) ⟨(Nat.le_of_ble_eq_true rfl), (Nat.le_of_ble_eq_true rfl)⟩) (mg_rc hZ hM) rfl hl.1 rfl (lv_room (Nat.le_of_ble_eq_true rfl)) ⟨by show cells + 3 ≤ 601024; omega, by show slots + 18 ≤ 7293034; omega⟩ dL_law_650 ?_
  refine lv_iload hx hb dL_law_653 (lv_at hl 1 rfl) ?_
  refine lv_icmp_eq (tgt := 660) hx hb dL_law_655 (by decide) (fun q9 => ?_) (fun q9 => absurd hop.1.symm q9)
  refine lv_iload hx hb dL_law_660 (lv_at hl 1 rfl) ?_
  have hI := lw_next hop.2.2 hA CC1 hP hM hO hS
  have fin : ∀ ls : Array Slot, lv_has ls 7 [(6, .int r1), (5, .int (wzcode [1, 2] (cMeet (b, cn, List.map w L) (xs (i + 1)) (xs (i + 2))).1)), (0, .ref b9), (1, .ref (u 30)), (2, .ref h), (3, .ref o), (4, .int (nI i))] → W p l e9 room_1 s m #[Value.ref b9] below meth c H2 locs2 (cells + 3) (slots + 18) Q (F0 m 677 ls []) := by
    intro ls hl
    refine lv_goto (tgt := 1844) hx hb dL_law_677 (by decide) ?_
    exact W.widen (by omega) (by omega) (kk H2 locs2 ls hI (lv_sub hl [2, 3, 4, 5, 6] rfl))
  refine lv_if_ne (tgt := 677) hx hb dL_law_662 (by decide) (fun q8 => fin ls hl) (fun q8 => ?_)
  obtain ⟨g2, g3⟩ := hop.2.1 (hop.1.symm.trans q8)
  have hg0 : g1 0 = r1.toInt64 := (hg g2).trans (congrArg Int32.toInt64 g3)
  refine lv_aload_n hx hb dL_law_665 rfl (lv_at hl 5 rfl) ?_
  refine lv_iconst (v := 0) hx hb dL_law_666 (by decide) ?_
  refine va_lald hx hb hJ hO 0 0 rfl rfl (by unfold vp_in; decide) dL_law_667 ?_
  rw [show Int32.toNatClampNeg 0 = 0 from by decide, hg0]
  refine lv_iload hx hb dL_law_668 (lv_at hl 0 rfl) ?_
  refine lv_i2l (v := r1.toInt64) hx hb dL_law_670 rfl ?_
  refine W.lcmp hx hb dL_law_671 ?_
  refine lw_E 0 (lg_self _) ?_
  exact lv_if_eq (tgt := 677) hx hb dL_law_672 (by decide) (fun _ => fin ls hl) (fun q7 => absurd rfl q7)
