/-! the law's rounds, a call each -/
set_option maxHeartbeats 4000000 in
theorem lq_put {p : Program} {l : Launch} {e9 : Env} {s : State} {m : MethodId} {below : List Frame} {meth : Method} {c : Code} {H : Heap} {locs : List Loc} {cells slots : Nat} {Q : State → Prop} {b9 L9 : Nat} {xs : Nat → Int32} {D : va_G} {cI cII cZ cJ : ClassId} {sa : Nat → Nat} {u : Nat → Nat} {h : Nat} {q : Nat → Nat} {o : Nat} {ls : Array Slot} {i : Nat} (hfl : l.stackTraces = false) (F : CallFix p m c cL_law 7 s #[Value.ref b9] lw_tbl RL) (hK : va_K D vwCl (cT cI cII) s) (hZ : va_K D vwCl (mT cI cZ) s) (hJ : va_K D vwCl [(cJ, .long)] s) (hN : wzN s) (hX : ∀ A : Nat → Prop, (∀ a : Nat, a < s.heap.size → ¬ A a) → xF A sa s) (hsx : va_X b9 L9 xs s s.heap) (hb9 : b9 < s.heap.size) (hL : L9 ≤ 3072) (I : lwI s.heap D cI cII cZ cJ u h q o H locs) (hi : i + 6 ≤ L9) (hc : cells + 46 ≤ 601024) (hs : slots + 440 ≤ 7293034) (hl : lv_has ls 7 [(0, .ref b9), (1, .ref (u 30)), (2, .ref h), (3, .ref o), (4, .int (nI i))])
    (kk : ∀ (H1 : Heap) (locs1 : List Loc) (ls1 : Array Slot), lwI s.heap D cI cII cZ cJ u h q o H1 locs1 → lv_has ls1 7 [(0, .ref b9), (1, .ref (u 30)), (2, .ref h), (3, .ref o), (4, .int (nI i))] → W p l e9 room_1 s m #[Value.ref b9] below meth c H1 locs1 (cells + 46) (slots + 440) Q (F0 m 1844 ls1 [])) : W p l e9 room_1 s m #[Value.ref b9] below meth c H locs cells slots Q (F0 m 160 ls []) := by
  obtain ⟨n, cm, a, kn, th, lm, V, pq, sp, cn, e, sz, b, L, w, nx, g, R, CC, he, hsz, hch, hP, hM, hO, hS⟩ := I
  have hx := F.1
  have hb := F.2.1
  have hok := rel_ok R
  have hcn := rel_cn R
  have hrc := rel_rc R
  have hmz := mP_lt hM
  have hS0 := hS
  have hoz : o < H.size := vx_lt hO (k := 0) rfl
  refine lv_aload_n hx hb dL_law_160 rfl (lv_at hl 1 rfl) ?_
  refine lv_aload_n hx hb dL_law_161 rfl (lv_at hl 0 rfl) ?_
  refine lv_iload hx hb dL_law_162 (lv_at hl 4 rfl) ?_
  refine lv_iconst (v := 1) hx hb dL_law_164 (by decide) ?_
  refine lv_iadd hx hb dL_law_165 ?_
  refine lw_E (nI (i + 1)) (nI_add i 1) ?_
  refine va_sld (A := fun x => s.heap.size ≤ x) hx hb hsx hb9 (Nat.not_le.mpr hb9) hS (vp_in_nI (n := i + 1) (by omega) (by omega)) dL_law_166 ?_
  refine lw_E (xs (i + 1)) (by rw [nI_clamp (by omega)]) ?_
  refine lv_aload_n hx hb dL_law_167 rfl (lv_at hl 0 rfl) ?_
  refine lv_iload hx hb dL_law_168 (lv_at hl 4 rfl) ?_
  refine lv_iconst (v := 2) hx hb dL_law_170 (by decide) ?_
  refine lv_iadd hx hb dL_law_171 ?_
  refine lw_E (nI (i + 2)) (nI_add i 2) ?_
  refine va_sld (A := fun x => s.heap.size ≤ x) hx hb hsx hb9 (Nat.not_le.mpr hb9) hS (vp_in_nI (n := i + 2) (by omega) (by omega)) dL_law_172 ?_
  refine lw_E (xs (i + 2)) (by rw [nI_clamp (by omega)]) ?_
  refine lv_aload_n hx hb dL_law_173 rfl (lv_at hl 3 rfl) ?_
  have hop := oz_put R (xs (i + 1)) (xs (i + 2))
  refine lz_call (nn := 4) F hK hJ hN hX CC [.ref (u 30), .int (xs (i + 1)), .int (xs (i + 2)), .ref o] (lwc_put hfl CC.1 (xs (i + 1)) (xs (i + 2)) hch he hsz hok hcn hrc CC.2.2.2.2.1 hoz) (vx_cwSW 4 F.2.2.2.2 gL_L_put rfl rfl rfl (by decide +kernel) ⟨(Nat.le_of_ble_eq_true rfl), (Nat.le_of_ble_eq_true rfl)⟩) hP hO hM (mW_ad CC.2.2.2.2.2) hS rfl hl.1 rfl (lv_room (Nat.le_of_ble_eq_true rfl)) ⟨by show cells + 4 ≤ 601024; omega, by show slots + 28 ≤ 7293034; omega⟩ dL_law_174 (fun V1 pq1 sp1 cn1 e1 sz1 b1 L1 w1 nx1 g1 H1 locs1 hA hg hP hO hM hz1 hS => ?_)
  have CC1 := CC.next hA.2.2.2.2.2.2.1 hS0.1 hA.2.2.2.2.2.2.2 hmz hoz
  refine lv_istore (lv' := [(5, .int (wzcode [1, 3] (cPut (b, cn, List.map w L) (xs (i + 1)) (xs (i + 2))).1)), (0, .ref b9), (1, .ref (u 30)), (2, .ref h), (3, .ref o), (4, .int (nI i))]) hx hb dL_law_177 hl (by decide) rfl (fun ls hl => ?_)
  refine lv_aload_n hx hb dL_law_179 rfl (lv_at hl 3 rfl) ?_
  refine lv_aload_n hx hb dL_law_180 rfl (lv_at hl 1 rfl) ?_
  refine lv_iload hx hb dL_law_181 (lv_at hl 5 rfl) ?_
  refine lv_iconst (v := 1) hx hb dL_law_183 (by decide) ?_
  refine lv_iadd hx hb dL_law_184 ?_
  refine lw_E (nI (i + 1)) (nI_add i 1) ?_
  refine va_sld (A := fun x => s.heap.size ≤ x) hx hb hsx hb9 (Nat.not_le.mpr hb9) hS (vp_in_nI (n := i + 1) (by omega) (by omega)) dL_law_185 ?_
  refine lw_E (xs (i + 1)) (by rw [nI_clamp (by omega)]) ?_
  refine lv_aload_n hx hb dL_law_186 rfl (lv_at hl 1 rfl) ?_
  refine lv_iload hx hb dL_law_187 (lv_at hl 5 rfl) ?_
  refine lv_iconst (v := 2) hx hb dL_law_189 (by decide) ?_
  refine lv_iadd hx hb dL_law_190 ?_
  refine lw_E (nI (i + 2)) (nI_add i 2) ?_
  refine va_sld (A := fun x => s.heap.size ≤ x) hx hb hsx hb9 (Nat.not_le.mpr hb9) hS (vp_in_nI (n := i + 2) (by omega) (by omega)) dL_law_191 ?_
  refine lw_E (xs (i + 2)) (by rw [nI_clamp (by omega)]) ?_
  refine wr_callV (A := fun x => s.heap.size ≤ x) F hZ [.int (xs (i + 1)), .int (xs (i + 2))] (mc_put CC.2.2.2.2.2 (xs (i + 1)) (xs (i + 2)) R.inv.mi) (cwV 2 F.2.2.2.2 gL_X4_put rfl rfl rfl (by decide +kernel) ⟨(Nat.le_of_ble_eq_true rfl), (Nat.le_of_ble_eq_true rfl)⟩) (mg_rc hZ hM) hM hS (fun x hx => (CC.2.2.1 x hx).1) rfl hl.1 rfl (lv_room (Nat.le_of_ble_eq_true rfl)) ⟨by show cells + 4 ≤ 601024; omega, by show slots + 28 ≤ 7293034; omega⟩ dL_law_192 (fun r1 n1 cm1 th1 lm1 a1 kn1 H2 locs2 hpost hM hz2 hf2 hS => ?_)
  obtain ⟨hP, hO⟩ := lw_keepC CC1 hP hO hf2
  have hpost : (th1, r1, n1, cm1, a1, kn1) = mPut n cm a kn (xs (i + 1)) (xs (i + 2)) := hpost
  rw [← hpost] at hop
  refine lv_istore (lv' := [(6, .int r1), (5, .int (wzcode [1, 3] (cPut (b, cn, List.map w L) (xs (i + 1)) (xs (i + 2))).1)), (0, .ref b9), (1, .ref (u 30)), (2, .ref h), (3, .ref o), (4, .int (nI i))]) hx hb dL_law_195 hl (by decide) rfl (fun ls hl => ?_)
  refine lv_aload_n hx hb dL_law_197 rfl (lv_at hl 4 rfl) ?_
  refine ro_callV F hZ [] (mc_thrown hM) (cwV 0 F.2.2.2.2 gL_X4_thrown rfl rfl rfl (by decide +kernel) ⟨(Nat.le_of_ble_eq_true rfl), (Nat.le_of_ble_eq_true rfl)⟩) (mg_rc hZ hM) rfl hl.1 rfl (lv_room (Nat.le_of_ble_eq_true rfl)) ⟨by show cells + 4 ≤ 601024; omega, by show slots + 28 ≤ 7293034; omega⟩ dL_law_198 ?_
  refine lv_iload hx hb dL_law_201 (lv_at hl 1 rfl) ?_
  refine lv_icmp_eq (tgt := 208) hx hb dL_law_203 (by decide) (fun q9 => ?_) (fun q9 => absurd hop.1.symm q9)
  refine lv_iload hx hb dL_law_208 (lv_at hl 1 rfl) ?_
  have hI := lw_next hop.2.2 hA CC1 hP hM hO hS
  have fin : ∀ ls : Array Slot, lv_has ls 7 [(6, .int r1), (5, .int (wzcode [1, 3] (cPut (b, cn, List.map w L) (xs (i + 1)) (xs (i + 2))).1)), (0, .ref b9), (1, .ref (u 30)), (2, .ref h), (3, .ref o), (4, .int (nI i))] → W p l e9 room_1 s m #[Value.ref b9] below meth c H2 locs2 (cells + 4) (slots + 28) Q (F0 m 225 ls []) := by
    intro ls hl
    refine lv_goto (tgt := 1844) hx hb dL_law_225 (by decide) ?_
    exact W.widen (by omega) (by omega) (kk H2 locs2 ls hI (lv_sub hl [2, 3, 4, 5, 6] rfl))
  refine lv_if_ne (tgt := 225) hx hb dL_law_210 (by decide) (fun q8 => fin ls hl) (fun q8 => ?_)
  obtain ⟨g2, g3⟩ := hop.2.1 (hop.1.symm.trans q8)
  have hg0 : g1 0 = r1.toInt64 := (hg g2).trans (congrArg Int32.toInt64 g3)
  refine lv_aload_n hx hb dL_law_213 rfl (lv_at hl 5 rfl) ?_
  refine lv_iconst (v := 0) hx hb dL_law_214 (by decide) ?_
  refine va_lald hx hb hJ hO 0 0 rfl rfl (by unfold vp_in; decide) dL_law_215 ?_
  rw [show Int32.toNatClampNeg 0 = 0 from by decide, hg0]
  refine lv_iload hx hb dL_law_216 (lv_at hl 0 rfl) ?_
  refine lv_i2l (v := r1.toInt64) hx hb dL_law_218 rfl ?_
  refine W.lcmp hx hb dL_law_219 ?_
  refine lw_E 0 (lg_self _) ?_
  exact lv_if_eq (tgt := 225) hx hb dL_law_220 (by decide) (fun _ => fin ls hl) (fun q7 => absurd rfl q7)
