/-! the deeds: meet -/
set_option maxHeartbeats 8000000 in
set_option maxRecDepth 100000 in
theorem lf_meetSame {p : Program} {l : Launch} {e9 : Env} {s : State} {m : MethodId} {b9 : Nat} {below : List Frame} {meth : Method} {c : Code} {D : va_G} {u q : Nat → Nat} {cI cII : ClassId} {sa : Nat → Nat} (hfl : l.stackTraces = false) (F : CallFix p m c cL_law 26 s #[Value.ref b9] lw_tbl RL) (hK : va_K D vwCl (cT cI cII) s) (hX : xF (fun x => s.heap.size ≤ x) sa s) (hNz : wzN s) (hN : (lA q).Nodup) (hq : ∀ x, x ∈ lA q → s.heap.size ≤ x) {n cm : Nat} {a : Nat → Nat → Int32} {kn : Nat → Bool} {cs : CS} {l9 : List Nat} {F9 : FF} {f th ck y tn : Nat} {H : Heap} {locs : List Loc} {cel slo : Nat} {ls : Array Slot}  (hf : f < 5) (hth : th < 40) (hck : (cm = 0 → ck = 0) ∧ (0 < cm → ck < cm)) (hy : y < 134217728) (R9 : tRel n cm a kn cs) (hL : LV n cm a kn f l9 F9 (rdA (frV f) (cs.1 12) cs.2.2)) (hcel : cel ≤ 590000) (hslo : slo ≤ 7000000) (hA : va_P D vwCl (lX q cI F9) H) (hC : sW D u cI cII (fun x => s.heap.size ≤ x) (fun y => y ∈ lA q) cs H) (hS : va_S (fun x => s.heap.size ≤ x) s.heap H locs)  (kk : ∀ (n1 cm1 : Nat) (a1 : Nat → Nat → Int32) (kn1 : Nat → Bool) (cs1 : CS) (F1 : FF) (H : Heap) (locs : List Loc) (cel1 slo1 : Nat) (ls : Array Slot), tRel n1 cm1 a1 kn1 cs1 → lT n1 cm1 a1 kn1 F1 → va_P D vwCl (lX q cI F1) H → sW D u cI cII (fun x => s.heap.size ≤ x) (fun y => y ∈ lA q) cs1 H → va_S (fun x => s.heap.size ≤ x) s.heap H locs → cel1 ≤ cel + 46 → slo1 ≤ slo + 440 → lv_has ls 26 [(13, .int 1), (17, .int (nI y)), (14, .int (nI tn)), (12, .ref (q 10)), (11, .ref (q 9)), (10, .ref (q 8)), (9, .ref (q 7)), (8, .ref (q 6)), (7, .ref (q 5)), (6, .ref (q 4)), (5, .ref (q 3)), (4, .ref (q 2)), (3, .ref (q 1)), (2, .ref (q 0)), (1, .ref (u 30)), (0, .ref b9)] → lwW p l e9 s m b9 below meth c H locs cel1 slo1 (F0 m 1430 ls [])) (hl : lv_has ls 26 [(22, .int (nI f)), (18, .int (nI f)), (19, .int (nI th)), (20, .int (nI ck)), (17, .int (nI y)), (14, .int (nI tn)), (12, .ref (q 10)), (11, .ref (q 9)), (10, .ref (q 8)), (9, .ref (q 7)), (8, .ref (q 6)), (7, .ref (q 5)), (6, .ref (q 4)), (5, .ref (q 3)), (4, .ref (q 2)), (3, .ref (q 1)), (2, .ref (q 0)), (1, .ref (u 30)), (0, .ref b9)]) : lwW p l e9 s m b9 below meth c H locs cel slo (F0 m 1248 ls []) := by
  have hx := F.1
  have hb := F.2.1
  have hf00 : F9 0 0 = nI n := hL.lt.f00
  have hf01 : F9 0 1 = nI cm := hL.lt.f01
  have hn64 := hL.lt.n64
  have hcm10 := hL.lt.cm10
  have hf6 : ∀ x, x ∈ [q 0, q 1, q 2, q 3, q 4, q 5] → x ∈ lA q ∧ s.heap.size ≤ x := fun x hx => by
    have h : x ∈ lA q := by simp only [List.mem_cons, List.not_mem_nil, or_false] at hx; rcases hx with e | e | e | e | e | e <;> rw [e] <;> exact lA_in q (by decide)
    exact ⟨h, hq x h⟩
  refine lv_iconst (v := 0) hx hb dL_law_1248 (by decide) ?_
  refine lv_istore (lv' := [(23, .int 0), (22, .int (nI f)), (18, .int (nI f)), (19, .int (nI th)), (20, .int (nI ck)), (17, .int (nI y)), (14, .int (nI tn)), (12, .ref (q 10)), (11, .ref (q 9)), (10, .ref (q 8)), (9, .ref (q 7)), (8, .ref (q 6)), (7, .ref (q 5)), (6, .ref (q 4)), (5, .ref (q 3)), (4, .ref (q 2)), (3, .ref (q 1)), (2, .ref (q 0)), (1, .ref (u 30)), (0, .ref b9)]) hx hb dL_law_1249 hl (by decide) rfl (fun ls hl => ?_)
  refine lv_iconst (v := 0) hx hb dL_law_1251 (by decide) ?_
  refine lv_istore (lv' := [(24, .int 0), (23, .int 0), (22, .int (nI f)), (18, .int (nI f)), (19, .int (nI th)), (20, .int (nI ck)), (17, .int (nI y)), (14, .int (nI tn)), (12, .ref (q 10)), (11, .ref (q 9)), (10, .ref (q 8)), (9, .ref (q 7)), (8, .ref (q 6)), (7, .ref (q 5)), (6, .ref (q 4)), (5, .ref (q 3)), (4, .ref (q 2)), (3, .ref (q 1)), (2, .ref (q 0)), (1, .ref (u 30)), (0, .ref b9)]) hx hb dL_law_1252 hl (by decide) rfl (fun ls hl => ?_)
  refine lv_iload hx hb dL_law_1254 (lv_at hl 0 rfl) ?_
  refine lv_aload_n hx hb dL_law_1256 rfl (lv_at hl 18 rfl) ?_
  refine lv_iconst (v := 0) hx hb dL_law_1257 (by decide) ?_
  refine cg_ald F hK hA 0 2 rfl 0 rfl (by omega) (by decide) dL_law_1258 ?_
  refine lw_N n hf00 ?_
  refine lw_ge (tgt := 1355) hx hb 0 n (by omega) (by omega) dL_law_1259 (by decide) (fun c_1 => ?_) (fun c_1 => ?_)
  · skip
    have mc_1 : ¬ 0 < n := by omega
    refine lv_aload hx hb dL_law_1355 (lv_at hl 13 rfl) ?_
    refine lv_iload hx hb dL_law_1357 (lv_at hl 3 rfl) ?_
    refine lv_aload hx hb dL_law_1359 (lv_at hl 13 rfl) ?_
    refine lv_iload hx hb dL_law_1361 (lv_at hl 3 rfl) ?_
    refine cg_ald F hK hA 5 5 rfl f rfl (by omega) (by decide) dL_law_1363 ?_
    refine lv_aload hx hb dL_law_1364 (lv_at hl 13 rfl) ?_
    refine lv_iload hx hb dL_law_1366 (lv_at hl 2 rfl) ?_
    refine cg_ald F hK hA 5 5 rfl f rfl (by omega) (by decide) dL_law_1368 ?_
    refine lv_icmp_le (tgt := 1380) hx hb dL_law_1369 (by decide) (fun c_2 => ?_) (fun c_2 => ?_)
    · skip
      refine lv_aload hx hb dL_law_1380 (lv_at hl 13 rfl) ?_
      refine lv_iload hx hb dL_law_1382 (lv_at hl 2 rfl) ?_
      refine cg_ald F hK hA 5 5 rfl f rfl (by omega) (by decide) dL_law_1384 ?_
      refine ix_ast F hK hN hA hC hS 5 5 (by decide) (hq _ (lA_in q (by decide))) rfl f rfl (by omega) (by decide) rfl dL_law_1385 (fun H locs hA hC hS => ?_)
      refine lv_aload hx hb dL_law_1386 (lv_at hl 13 rfl) ?_
      refine lv_iload hx hb dL_law_1388 (lv_at hl 2 rfl) ?_
      refine lv_aload hx hb dL_law_1390 (lv_at hl 13 rfl) ?_
      refine lv_iload hx hb dL_law_1392 (lv_at hl 3 rfl) ?_
      refine cg_ald F hK hA 5 5 rfl f rfl (by omega) (by decide) dL_law_1394 ?_
      refine lw_E (F9 5 f) (by simp [upA_at]) ?_
      refine ix_ast F hK hN hA hC hS 5 5 (by decide) (hq _ (lA_in q (by decide))) rfl f rfl (by omega) (by decide) rfl dL_law_1395 (fun H locs hA hC hS => ?_)
      refine lv_aload_n hx hb dL_law_1396 rfl (lv_at hl 19 rfl) ?_
      refine lv_iconst (v := 2) hx hb dL_law_1397 (by decide) ?_
      refine lv_iload hx hb dL_law_1398 (lv_at hl 3 rfl) ?_
      refine lv_iload hx hb dL_law_1400 (lv_at hl 2 rfl) ?_
      refine lv_iconst (v := 0) hx hb dL_law_1402 (by decide) ?_
      refine ix_does (val := (-12)) (cs' := cs) (op := cMeet cs (nI f) (nI f)) F hK hX hNz (fun x h => h) hA hC R9 hS [.ref (u 30), .int 2, .int (nI f), .int (nI f), .int 0] (fun V pq sp cn e sz b L w nx z0 h1 h2 h3 h4 h5 h6 h7 h8 => by subst h1; exact ld_meet hfl h2 (nI f) (nI f) 0 h3 h4 h5 h6 h7 h8) (dm_same R9 hf) (vx_cwSW 5 F.2.2.2.2 gL_law_L_does rfl rfl rfl (by decide +kernel) ⟨Nat.le_of_ble_eq_true rfl, Nat.le_of_ble_eq_true rfl⟩) rfl hl.1 rfl (lv_room (Nat.le_of_ble_eq_true rfl)) ⟨by show _ ≤ 600086; omega, by show _ ≤ 7301442; omega⟩ dL_law_1403 (fun H locs hA hC hS => ?_)
      refine lv_iload hx hb dL_law_1406 (lv_at hl 3 rfl) ?_
      refine lv_iload hx hb dL_law_1408 (lv_at hl 2 rfl) ?_
      refine lw_ne (tgt := 1418) hx hb f f (by omega) (by omega) dL_law_1410 (by decide) (fun z9 => by first | exact absurd (rfl : f = f) z9 | exact absurd z9 (rfl : f = f) | exact Bool.noConfusion ((rfl : f = f).symm.trans z9) | omega) (fun _ => ?_)
      refine lv_bipush (v := (-12)) hx hb dL_law_1413 (by decide) ?_
      refine lv_goto (tgt := 1420) hx hb dL_law_1415 (by decide) ?_
      refine lv_icmp_ne (tgt := 1427) hx hb dL_law_1420 (by decide) (fun z9 => absurd z9 (by decide)) (fun _ => ?_)
      refine lv_iconst (v := 1) hx hb dL_law_1423 (by decide) ?_
      refine lv_goto (tgt := 1428) hx hb dL_law_1424 (by decide) ?_
      refine lv_istore (lv' := [(13, .int 1), (24, .int 0), (23, .int 0), (22, .int (nI f)), (18, .int (nI f)), (19, .int (nI th)), (20, .int (nI ck)), (17, .int (nI y)), (14, .int (nI tn)), (12, .ref (q 10)), (11, .ref (q 9)), (10, .ref (q 8)), (9, .ref (q 7)), (8, .ref (q 6)), (7, .ref (q 5)), (6, .ref (q 4)), (5, .ref (q 3)), (4, .ref (q 2)), (3, .ref (q 1)), (2, .ref (q 0)), (1, .ref (u 30)), (0, .ref b9)]) hx hb dL_law_1428 hl (by decide) rfl (fun ls hl => ?_)
      have hE : lT n cm a kn (upA (upA F9 5 f (F9 5 f)) 5 f (F9 5 f)) := by rw [show upA (upA F9 5 f (F9 5 f)) 5 f (F9 5 f) = F9 from (by rw [up_self]; exact up_self F9 5 f)]; exact hL.lt
      exact kk _ _ _ _ _ _ H locs _ _ ls (R9) (hE) hA hC hS (by omega) (by omega) (lv_sub hl [0, 7, 8, 9, 10, 11, 12, 13, 14, 15, 16, 17, 18, 19, 20, 21] rfl)
    · skip
      refine lv_aload hx hb dL_law_1372 (lv_at hl 13 rfl) ?_
      refine lv_iload hx hb dL_law_1374 (lv_at hl 3 rfl) ?_
      refine cg_ald F hK hA 5 5 rfl f rfl (by omega) (by decide) dL_law_1376 ?_
      refine lv_goto (tgt := 1385) hx hb dL_law_1377 (by decide) ?_
      refine ix_ast F hK hN hA hC hS 5 5 (by decide) (hq _ (lA_in q (by decide))) rfl f rfl (by omega) (by decide) rfl dL_law_1385 (fun H locs hA hC hS => ?_)
      refine lv_aload hx hb dL_law_1386 (lv_at hl 13 rfl) ?_
      refine lv_iload hx hb dL_law_1388 (lv_at hl 2 rfl) ?_
      refine lv_aload hx hb dL_law_1390 (lv_at hl 13 rfl) ?_
      refine lv_iload hx hb dL_law_1392 (lv_at hl 3 rfl) ?_
      refine cg_ald F hK hA 5 5 rfl f rfl (by omega) (by decide) dL_law_1394 ?_
      refine lw_E (F9 5 f) (by simp [upA_at]) ?_
      refine ix_ast F hK hN hA hC hS 5 5 (by decide) (hq _ (lA_in q (by decide))) rfl f rfl (by omega) (by decide) rfl dL_law_1395 (fun H locs hA hC hS => ?_)
      refine lv_aload_n hx hb dL_law_1396 rfl (lv_at hl 19 rfl) ?_
      refine lv_iconst (v := 2) hx hb dL_law_1397 (by decide) ?_
      refine lv_iload hx hb dL_law_1398 (lv_at hl 3 rfl) ?_
      refine lv_iload hx hb dL_law_1400 (lv_at hl 2 rfl) ?_
      refine lv_iconst (v := 0) hx hb dL_law_1402 (by decide) ?_
      refine ix_does (val := (-12)) (cs' := cs) (op := cMeet cs (nI f) (nI f)) F hK hX hNz (fun x h => h) hA hC R9 hS [.ref (u 30), .int 2, .int (nI f), .int (nI f), .int 0] (fun V pq sp cn e sz b L w nx z0 h1 h2 h3 h4 h5 h6 h7 h8 => by subst h1; exact ld_meet hfl h2 (nI f) (nI f) 0 h3 h4 h5 h6 h7 h8) (dm_same R9 hf) (vx_cwSW 5 F.2.2.2.2 gL_law_L_does rfl rfl rfl (by decide +kernel) ⟨Nat.le_of_ble_eq_true rfl, Nat.le_of_ble_eq_true rfl⟩) rfl hl.1 rfl (lv_room (Nat.le_of_ble_eq_true rfl)) ⟨by show _ ≤ 600086; omega, by show _ ≤ 7301442; omega⟩ dL_law_1403 (fun H locs hA hC hS => ?_)
      refine lv_iload hx hb dL_law_1406 (lv_at hl 3 rfl) ?_
      refine lv_iload hx hb dL_law_1408 (lv_at hl 2 rfl) ?_
      refine lw_ne (tgt := 1418) hx hb f f (by omega) (by omega) dL_law_1410 (by decide) (fun z9 => by first | exact absurd (rfl : f = f) z9 | exact absurd z9 (rfl : f = f) | exact Bool.noConfusion ((rfl : f = f).symm.trans z9) | omega) (fun _ => ?_)
      refine lv_bipush (v := (-12)) hx hb dL_law_1413 (by decide) ?_
      refine lv_goto (tgt := 1420) hx hb dL_law_1415 (by decide) ?_
      refine lv_icmp_ne (tgt := 1427) hx hb dL_law_1420 (by decide) (fun z9 => absurd z9 (by decide)) (fun _ => ?_)
      refine lv_iconst (v := 1) hx hb dL_law_1423 (by decide) ?_
      refine lv_goto (tgt := 1428) hx hb dL_law_1424 (by decide) ?_
      refine lv_istore (lv' := [(13, .int 1), (24, .int 0), (23, .int 0), (22, .int (nI f)), (18, .int (nI f)), (19, .int (nI th)), (20, .int (nI ck)), (17, .int (nI y)), (14, .int (nI tn)), (12, .ref (q 10)), (11, .ref (q 9)), (10, .ref (q 8)), (9, .ref (q 7)), (8, .ref (q 6)), (7, .ref (q 5)), (6, .ref (q 4)), (5, .ref (q 3)), (4, .ref (q 2)), (3, .ref (q 1)), (2, .ref (q 0)), (1, .ref (u 30)), (0, .ref b9)]) hx hb dL_law_1428 hl (by decide) rfl (fun ls hl => ?_)
      have hE : lT n cm a kn (upA (upA F9 5 f (F9 5 f)) 5 f (F9 5 f)) := by rw [show upA (upA F9 5 f (F9 5 f)) 5 f (F9 5 f) = F9 from (by rw [up_self]; exact up_self F9 5 f)]; exact hL.lt
      exact kk _ _ _ _ _ _ H locs _ _ ls (R9) (hE) hA hC hS (by omega) (by omega) (lv_sub hl [0, 7, 8, 9, 10, 11, 12, 13, 14, 15, 16, 17, 18, 19, 20, 21] rfl)
  · skip
    have mc_1 : ¬ n ≤ 0 := by omega
    refine lv_iload hx hb dL_law_1262 (lv_at hl 3 rfl) ?_
    refine lv_iload hx hb dL_law_1264 (lv_at hl 2 rfl) ?_
    refine lw_eq (tgt := 1355) hx hb f f (by omega) (by omega) dL_law_1266 (by decide) (fun _ => ?_) (fun z9 => by first | exact absurd (rfl : f = f) z9 | exact absurd z9 (rfl : f = f) | exact Bool.noConfusion ((rfl : f = f).symm.trans z9) | omega)
    refine lv_aload hx hb dL_law_1355 (lv_at hl 13 rfl) ?_
    refine lv_iload hx hb dL_law_1357 (lv_at hl 3 rfl) ?_
    refine lv_aload hx hb dL_law_1359 (lv_at hl 13 rfl) ?_
    refine lv_iload hx hb dL_law_1361 (lv_at hl 3 rfl) ?_
    refine cg_ald F hK hA 5 5 rfl f rfl (by omega) (by decide) dL_law_1363 ?_
    refine lv_aload hx hb dL_law_1364 (lv_at hl 13 rfl) ?_
    refine lv_iload hx hb dL_law_1366 (lv_at hl 2 rfl) ?_
    refine cg_ald F hK hA 5 5 rfl f rfl (by omega) (by decide) dL_law_1368 ?_
    refine lv_icmp_le (tgt := 1380) hx hb dL_law_1369 (by decide) (fun c_6 => ?_) (fun c_6 => ?_)
    · skip
      refine lv_aload hx hb dL_law_1380 (lv_at hl 13 rfl) ?_
      refine lv_iload hx hb dL_law_1382 (lv_at hl 2 rfl) ?_
      refine cg_ald F hK hA 5 5 rfl f rfl (by omega) (by decide) dL_law_1384 ?_
      refine ix_ast F hK hN hA hC hS 5 5 (by decide) (hq _ (lA_in q (by decide))) rfl f rfl (by omega) (by decide) rfl dL_law_1385 (fun H locs hA hC hS => ?_)
      refine lv_aload hx hb dL_law_1386 (lv_at hl 13 rfl) ?_
      refine lv_iload hx hb dL_law_1388 (lv_at hl 2 rfl) ?_
      refine lv_aload hx hb dL_law_1390 (lv_at hl 13 rfl) ?_
      refine lv_iload hx hb dL_law_1392 (lv_at hl 3 rfl) ?_
      refine cg_ald F hK hA 5 5 rfl f rfl (by omega) (by decide) dL_law_1394 ?_
      refine lw_E (F9 5 f) (by simp [upA_at]) ?_
      refine ix_ast F hK hN hA hC hS 5 5 (by decide) (hq _ (lA_in q (by decide))) rfl f rfl (by omega) (by decide) rfl dL_law_1395 (fun H locs hA hC hS => ?_)
      refine lv_aload_n hx hb dL_law_1396 rfl (lv_at hl 19 rfl) ?_
      refine lv_iconst (v := 2) hx hb dL_law_1397 (by decide) ?_
      refine lv_iload hx hb dL_law_1398 (lv_at hl 3 rfl) ?_
      refine lv_iload hx hb dL_law_1400 (lv_at hl 2 rfl) ?_
      refine lv_iconst (v := 0) hx hb dL_law_1402 (by decide) ?_
      refine ix_does (val := (-12)) (cs' := cs) (op := cMeet cs (nI f) (nI f)) F hK hX hNz (fun x h => h) hA hC R9 hS [.ref (u 30), .int 2, .int (nI f), .int (nI f), .int 0] (fun V pq sp cn e sz b L w nx z0 h1 h2 h3 h4 h5 h6 h7 h8 => by subst h1; exact ld_meet hfl h2 (nI f) (nI f) 0 h3 h4 h5 h6 h7 h8) (dm_same R9 hf) (vx_cwSW 5 F.2.2.2.2 gL_law_L_does rfl rfl rfl (by decide +kernel) ⟨Nat.le_of_ble_eq_true rfl, Nat.le_of_ble_eq_true rfl⟩) rfl hl.1 rfl (lv_room (Nat.le_of_ble_eq_true rfl)) ⟨by show _ ≤ 600086; omega, by show _ ≤ 7301442; omega⟩ dL_law_1403 (fun H locs hA hC hS => ?_)
      refine lv_iload hx hb dL_law_1406 (lv_at hl 3 rfl) ?_
      refine lv_iload hx hb dL_law_1408 (lv_at hl 2 rfl) ?_
      refine lw_ne (tgt := 1418) hx hb f f (by omega) (by omega) dL_law_1410 (by decide) (fun z9 => by first | exact absurd (rfl : f = f) z9 | exact absurd z9 (rfl : f = f) | exact Bool.noConfusion ((rfl : f = f).symm.trans z9) | omega) (fun _ => ?_)
      refine lv_bipush (v := (-12)) hx hb dL_law_1413 (by decide) ?_
      refine lv_goto (tgt := 1420) hx hb dL_law_1415 (by decide) ?_
      refine lv_icmp_ne (tgt := 1427) hx hb dL_law_1420 (by decide) (fun z9 => absurd z9 (by decide)) (fun _ => ?_)
      refine lv_iconst (v := 1) hx hb dL_law_1423 (by decide) ?_
      refine lv_goto (tgt := 1428) hx hb dL_law_1424 (by decide) ?_
      refine lv_istore (lv' := [(13, .int 1), (24, .int 0), (23, .int 0), (22, .int (nI f)), (18, .int (nI f)), (19, .int (nI th)), (20, .int (nI ck)), (17, .int (nI y)), (14, .int (nI tn)), (12, .ref (q 10)), (11, .ref (q 9)), (10, .ref (q 8)), (9, .ref (q 7)), (8, .ref (q 6)), (7, .ref (q 5)), (6, .ref (q 4)), (5, .ref (q 3)), (4, .ref (q 2)), (3, .ref (q 1)), (2, .ref (q 0)), (1, .ref (u 30)), (0, .ref b9)]) hx hb dL_law_1428 hl (by decide) rfl (fun ls hl => ?_)
      have hE : lT n cm a kn (upA (upA F9 5 f (F9 5 f)) 5 f (F9 5 f)) := by rw [show upA (upA F9 5 f (F9 5 f)) 5 f (F9 5 f) = F9 from (by rw [up_self]; exact up_self F9 5 f)]; exact hL.lt
      exact kk _ _ _ _ _ _ H locs _ _ ls (R9) (hE) hA hC hS (by omega) (by omega) (lv_sub hl [0, 7, 8, 9, 10, 11, 12, 13, 14, 15, 16, 17, 18, 19, 20, 21] rfl)
    · skip
      refine lv_aload hx hb dL_law_1372 (lv_at hl 13 rfl) ?_
      refine lv_iload hx hb dL_law_1374 (lv_at hl 3 rfl) ?_
      refine cg_ald F hK hA 5 5 rfl f rfl (by omega) (by decide) dL_law_1376 ?_
      refine lv_goto (tgt := 1385) hx hb dL_law_1377 (by decide) ?_
      refine ix_ast F hK hN hA hC hS 5 5 (by decide) (hq _ (lA_in q (by decide))) rfl f rfl (by omega) (by decide) rfl dL_law_1385 (fun H locs hA hC hS => ?_)
      refine lv_aload hx hb dL_law_1386 (lv_at hl 13 rfl) ?_
      refine lv_iload hx hb dL_law_1388 (lv_at hl 2 rfl) ?_
      refine lv_aload hx hb dL_law_1390 (lv_at hl 13 rfl) ?_
      refine lv_iload hx hb dL_law_1392 (lv_at hl 3 rfl) ?_
      refine cg_ald F hK hA 5 5 rfl f rfl (by omega) (by decide) dL_law_1394 ?_
      refine lw_E (F9 5 f) (by simp [upA_at]) ?_
      refine ix_ast F hK hN hA hC hS 5 5 (by decide) (hq _ (lA_in q (by decide))) rfl f rfl (by omega) (by decide) rfl dL_law_1395 (fun H locs hA hC hS => ?_)
      refine lv_aload_n hx hb dL_law_1396 rfl (lv_at hl 19 rfl) ?_
      refine lv_iconst (v := 2) hx hb dL_law_1397 (by decide) ?_
      refine lv_iload hx hb dL_law_1398 (lv_at hl 3 rfl) ?_
      refine lv_iload hx hb dL_law_1400 (lv_at hl 2 rfl) ?_
      refine lv_iconst (v := 0) hx hb dL_law_1402 (by decide) ?_
      refine ix_does (val := (-12)) (cs' := cs) (op := cMeet cs (nI f) (nI f)) F hK hX hNz (fun x h => h) hA hC R9 hS [.ref (u 30), .int 2, .int (nI f), .int (nI f), .int 0] (fun V pq sp cn e sz b L w nx z0 h1 h2 h3 h4 h5 h6 h7 h8 => by subst h1; exact ld_meet hfl h2 (nI f) (nI f) 0 h3 h4 h5 h6 h7 h8) (dm_same R9 hf) (vx_cwSW 5 F.2.2.2.2 gL_law_L_does rfl rfl rfl (by decide +kernel) ⟨Nat.le_of_ble_eq_true rfl, Nat.le_of_ble_eq_true rfl⟩) rfl hl.1 rfl (lv_room (Nat.le_of_ble_eq_true rfl)) ⟨by show _ ≤ 600086; omega, by show _ ≤ 7301442; omega⟩ dL_law_1403 (fun H locs hA hC hS => ?_)
      refine lv_iload hx hb dL_law_1406 (lv_at hl 3 rfl) ?_
      refine lv_iload hx hb dL_law_1408 (lv_at hl 2 rfl) ?_
      refine lw_ne (tgt := 1418) hx hb f f (by omega) (by omega) dL_law_1410 (by decide) (fun z9 => by first | exact absurd (rfl : f = f) z9 | exact absurd z9 (rfl : f = f) | exact Bool.noConfusion ((rfl : f = f).symm.trans z9) | omega) (fun _ => ?_)
      refine lv_bipush (v := (-12)) hx hb dL_law_1413 (by decide) ?_
      refine lv_goto (tgt := 1420) hx hb dL_law_1415 (by decide) ?_
      refine lv_icmp_ne (tgt := 1427) hx hb dL_law_1420 (by decide) (fun z9 => absurd z9 (by decide)) (fun _ => ?_)
      refine lv_iconst (v := 1) hx hb dL_law_1423 (by decide) ?_
      refine lv_goto (tgt := 1428) hx hb dL_law_1424 (by decide) ?_
      refine lv_istore (lv' := [(13, .int 1), (24, .int 0), (23, .int 0), (22, .int (nI f)), (18, .int (nI f)), (19, .int (nI th)), (20, .int (nI ck)), (17, .int (nI y)), (14, .int (nI tn)), (12, .ref (q 10)), (11, .ref (q 9)), (10, .ref (q 8)), (9, .ref (q 7)), (8, .ref (q 6)), (7, .ref (q 5)), (6, .ref (q 4)), (5, .ref (q 3)), (4, .ref (q 2)), (3, .ref (q 1)), (2, .ref (q 0)), (1, .ref (u 30)), (0, .ref b9)]) hx hb dL_law_1428 hl (by decide) rfl (fun ls hl => ?_)
      have hE : lT n cm a kn (upA (upA F9 5 f (F9 5 f)) 5 f (F9 5 f)) := by rw [show upA (upA F9 5 f (F9 5 f)) 5 f (F9 5 f) = F9 from (by rw [up_self]; exact up_self F9 5 f)]; exact hL.lt
      exact kk _ _ _ _ _ _ H locs _ _ ls (R9) (hE) hA hC hS (by omega) (by omega) (lv_sub hl [0, 7, 8, 9, 10, 11, 12, 13, 14, 15, 16, 17, 18, 19, 20, 21] rfl)
set_option maxHeartbeats 8000000 in
set_option maxRecDepth 100000 in
theorem lf_meetDiff {p : Program} {l : Launch} {e9 : Env} {s : State} {m : MethodId} {b9 : Nat} {below : List Frame} {meth : Method} {c : Code} {D : va_G} {u q : Nat → Nat} {cI cII : ClassId} {sa : Nat → Nat} (hfl : l.stackTraces = false) (F : CallFix p m c cL_law 26 s #[Value.ref b9] lw_tbl RL) (hK : va_K D vwCl (cT cI cII) s) (hX : xF (fun x => s.heap.size ≤ x) sa s) (hNz : wzN s) (hN : (lA q).Nodup) (hq : ∀ x, x ∈ lA q → s.heap.size ≤ x) {n cm : Nat} {a : Nat → Nat → Int32} {kn : Nat → Bool} {cs : CS} {l9 : List Nat} {F9 : FF} {f th ck y tn : Nat} {H : Heap} {locs : List Loc} {cel slo : Nat} {ls : Array Slot} {o : Nat} (hf : f < 5) (hth : th < 40) (hck : (cm = 0 → ck = 0) ∧ (0 < cm → ck < cm)) (hy : y < 134217728) (R9 : tRel n cm a kn cs) (hL : LV n cm a kn f l9 F9 (rdA (frV f) (cs.1 12) cs.2.2)) (hcel : cel ≤ 590000) (hslo : slo ≤ 7000000) (hA : va_P D vwCl (lX q cI F9) H) (hC : sW D u cI cII (fun x => s.heap.size ≤ x) (fun y => y ∈ lA q) cs H) (hS : va_S (fun x => s.heap.size ≤ x) s.heap H locs) (ho : o < 5) (hne : ¬ f = o) (kk : ∀ (n1 cm1 : Nat) (a1 : Nat → Nat → Int32) (kn1 : Nat → Bool) (cs1 : CS) (F1 : FF) (H : Heap) (locs : List Loc) (cel1 slo1 : Nat) (ls : Array Slot), tRel n1 cm1 a1 kn1 cs1 → lT n1 cm1 a1 kn1 F1 → va_P D vwCl (lX q cI F1) H → sW D u cI cII (fun x => s.heap.size ≤ x) (fun y => y ∈ lA q) cs1 H → va_S (fun x => s.heap.size ≤ x) s.heap H locs → cel1 ≤ cel + 46 → slo1 ≤ slo + 440 → lv_has ls 26 [(13, .int 1), (17, .int (nI y)), (14, .int (nI tn)), (12, .ref (q 10)), (11, .ref (q 9)), (10, .ref (q 8)), (9, .ref (q 7)), (8, .ref (q 6)), (7, .ref (q 5)), (6, .ref (q 4)), (5, .ref (q 3)), (4, .ref (q 2)), (3, .ref (q 1)), (2, .ref (q 0)), (1, .ref (u 30)), (0, .ref b9)] → lwW p l e9 s m b9 below meth c H locs cel1 slo1 (F0 m 1430 ls [])) (hl : lv_has ls 26 [(22, .int (nI o)), (18, .int (nI f)), (19, .int (nI th)), (20, .int (nI ck)), (17, .int (nI y)), (14, .int (nI tn)), (12, .ref (q 10)), (11, .ref (q 9)), (10, .ref (q 8)), (9, .ref (q 7)), (8, .ref (q 6)), (7, .ref (q 5)), (6, .ref (q 4)), (5, .ref (q 3)), (4, .ref (q 2)), (3, .ref (q 1)), (2, .ref (q 0)), (1, .ref (u 30)), (0, .ref b9)]) : lwW p l e9 s m b9 below meth c H locs cel slo (F0 m 1248 ls []) := by
  have hx := F.1
  have hb := F.2.1
  have hf00 : F9 0 0 = nI n := hL.lt.f00
  have hf01 : F9 0 1 = nI cm := hL.lt.f01
  have hn64 := hL.lt.n64
  have hcm10 := hL.lt.cm10
  have hf6 : ∀ x, x ∈ [q 0, q 1, q 2, q 3, q 4, q 5] → x ∈ lA q ∧ s.heap.size ≤ x := fun x hx => by
    have h : x ∈ lA q := by simp only [List.mem_cons, List.not_mem_nil, or_false] at hx; rcases hx with e | e | e | e | e | e <;> rw [e] <;> exact lA_in q (by decide)
    exact ⟨h, hq x h⟩
  refine lv_iconst (v := 0) hx hb dL_law_1248 (by decide) ?_
  refine lv_istore (lv' := [(23, .int 0), (22, .int (nI o)), (18, .int (nI f)), (19, .int (nI th)), (20, .int (nI ck)), (17, .int (nI y)), (14, .int (nI tn)), (12, .ref (q 10)), (11, .ref (q 9)), (10, .ref (q 8)), (9, .ref (q 7)), (8, .ref (q 6)), (7, .ref (q 5)), (6, .ref (q 4)), (5, .ref (q 3)), (4, .ref (q 2)), (3, .ref (q 1)), (2, .ref (q 0)), (1, .ref (u 30)), (0, .ref b9)]) hx hb dL_law_1249 hl (by decide) rfl (fun ls hl => ?_)
  refine lv_iconst (v := 0) hx hb dL_law_1251 (by decide) ?_
  refine lv_istore (lv' := [(24, .int 0), (23, .int 0), (22, .int (nI o)), (18, .int (nI f)), (19, .int (nI th)), (20, .int (nI ck)), (17, .int (nI y)), (14, .int (nI tn)), (12, .ref (q 10)), (11, .ref (q 9)), (10, .ref (q 8)), (9, .ref (q 7)), (8, .ref (q 6)), (7, .ref (q 5)), (6, .ref (q 4)), (5, .ref (q 3)), (4, .ref (q 2)), (3, .ref (q 1)), (2, .ref (q 0)), (1, .ref (u 30)), (0, .ref b9)]) hx hb dL_law_1252 hl (by decide) rfl (fun ls hl => ?_)
  have L1254_u_1 : ∀ (k9u_1 : Nat) (mn : Nat) (j : Nat) (G1 : FF) (H : Heap) (locs : List Loc) (ls : Array Slot), n - j < k9u_1 → (j ≤ n) → (mn ≤ j) → (mn = (foldU (meStep f o) (0, kn) j).1) → (lT n cm a (foldU (meStep f o) (0, kn) j).2 G1) → va_P D vwCl (lX q cI G1) H → sW D u cI cII (fun x => s.heap.size ≤ x) (fun y => y ∈ lA q) cs H → va_S (fun x => s.heap.size ≤ x) s.heap H locs → lv_has ls 26 [(24, .int (nI j)), (23, .int (nI mn)), (22, .int (nI o)), (18, .int (nI f)), (19, .int (nI th)), (20, .int (nI ck)), (17, .int (nI y)), (14, .int (nI tn)), (12, .ref (q 10)), (11, .ref (q 9)), (10, .ref (q 8)), (9, .ref (q 7)), (8, .ref (q 6)), (7, .ref (q 5)), (6, .ref (q 4)), (5, .ref (q 3)), (4, .ref (q 2)), (3, .ref (q 1)), (2, .ref (q 0)), (1, .ref (u 30)), (0, .ref b9)] → lwW p l e9 s m b9 below meth c H locs cel slo (F0 m 1254 ls []) := by
    intro k9u_1
    induction k9u_1 with
    | zero => intro mn j G1 H locs ls hk; exact absurd hk (Nat.not_lt_zero _)
    | succ k9u_1 ihu_1 =>
      intro mn j G1 H locs ls hk hj hmj hmn hlt hA hC hS hl
      refine lv_iload hx hb dL_law_1254 (lv_at hl 0 rfl) ?_
      refine lv_aload_n hx hb dL_law_1256 rfl (lv_at hl 18 rfl) ?_
      refine lv_iconst (v := 0) hx hb dL_law_1257 (by decide) ?_
      refine cg_ald F hK hA 0 2 rfl 0 rfl (by omega) (by decide) dL_law_1258 ?_
      refine lw_N n hlt.f00 ?_
      refine lw_ge (tgt := 1355) hx hb j n (by omega) (by omega) dL_law_1259 (by decide) (fun c_2 => ?_) (fun c_2 => ?_)
      · skip
        have mc_2 : ¬ j < n := by omega
        refine lv_aload hx hb dL_law_1355 (lv_at hl 13 rfl) ?_
        refine lv_iload hx hb dL_law_1357 (lv_at hl 3 rfl) ?_
        refine lv_aload hx hb dL_law_1359 (lv_at hl 13 rfl) ?_
        refine lv_iload hx hb dL_law_1361 (lv_at hl 3 rfl) ?_
        refine cg_ald F hK hA 5 5 rfl f rfl (by omega) (by decide) dL_law_1363 ?_
        refine lv_aload hx hb dL_law_1364 (lv_at hl 13 rfl) ?_
        refine lv_iload hx hb dL_law_1366 (lv_at hl 2 rfl) ?_
        refine cg_ald F hK hA 5 5 rfl o rfl (by omega) (by decide) dL_law_1368 ?_
        refine lv_icmp_le (tgt := 1380) hx hb dL_law_1369 (by decide) (fun c_3 => ?_) (fun c_3 => ?_)
        · skip
          refine lv_aload hx hb dL_law_1380 (lv_at hl 13 rfl) ?_
          refine lv_iload hx hb dL_law_1382 (lv_at hl 2 rfl) ?_
          refine cg_ald F hK hA 5 5 rfl o rfl (by omega) (by decide) dL_law_1384 ?_
          refine ix_ast F hK hN hA hC hS 5 5 (by decide) (hq _ (lA_in q (by decide))) rfl f rfl (by omega) (by decide) rfl dL_law_1385 (fun H locs hA hC hS => ?_)
          refine lv_aload hx hb dL_law_1386 (lv_at hl 13 rfl) ?_
          refine lv_iload hx hb dL_law_1388 (lv_at hl 2 rfl) ?_
          refine lv_aload hx hb dL_law_1390 (lv_at hl 13 rfl) ?_
          refine lv_iload hx hb dL_law_1392 (lv_at hl 3 rfl) ?_
          refine cg_ald F hK hA 5 5 rfl f rfl (by omega) (by decide) dL_law_1394 ?_
          refine lw_E (G1 5 o) (by simp [upA_at]) ?_
          refine ix_ast F hK hN hA hC hS 5 5 (by decide) (hq _ (lA_in q (by decide))) rfl o rfl (by omega) (by decide) rfl dL_law_1395 (fun H locs hA hC hS => ?_)
          refine lv_aload_n hx hb dL_law_1396 rfl (lv_at hl 19 rfl) ?_
          refine lv_iconst (v := 2) hx hb dL_law_1397 (by decide) ?_
          refine lv_iload hx hb dL_law_1398 (lv_at hl 3 rfl) ?_
          refine lv_iload hx hb dL_law_1400 (lv_at hl 2 rfl) ?_
          refine lv_iconst (v := 0) hx hb dL_law_1402 (by decide) ?_
          have hjn : j = n := by omega
          subst hjn
          obtain ⟨cs2, ev9, R2⟩ := dm_diff R9 hf ho hne
          rw [← hmn] at ev9
          refine ix_does (val := nI mn) (cs' := cs2) (op := cMeet cs (nI f) (nI o)) F hK hX hNz (fun x h => h) hA hC R9 hS [.ref (u 30), .int 2, .int (nI f), .int (nI o), .int 0] (fun V pq sp cn e sz b L w nx z0 h1 h2 h3 h4 h5 h6 h7 h8 => by subst h1; exact ld_meet hfl h2 (nI f) (nI o) 0 h3 h4 h5 h6 h7 h8) (ev9) (vx_cwSW 5 F.2.2.2.2 gL_law_L_does rfl rfl rfl (by decide +kernel) ⟨Nat.le_of_ble_eq_true rfl, Nat.le_of_ble_eq_true rfl⟩) rfl hl.1 rfl (lv_room (Nat.le_of_ble_eq_true rfl)) ⟨by show _ ≤ 600086; omega, by show _ ≤ 7301442; omega⟩ dL_law_1403 (fun H locs hA hC hS => ?_)
          refine lv_iload hx hb dL_law_1406 (lv_at hl 3 rfl) ?_
          refine lv_iload hx hb dL_law_1408 (lv_at hl 2 rfl) ?_
          refine lw_ne (tgt := 1418) hx hb f o (by omega) (by omega) dL_law_1410 (by decide) (fun _ => ?_) (fun z9 => by first | exact absurd hne z9 | exact absurd z9 hne | exact Bool.noConfusion (hne.symm.trans z9) | omega)
          refine lv_iload hx hb dL_law_1418 (lv_at hl 1 rfl) ?_
          refine lv_icmp_ne (tgt := 1427) hx hb dL_law_1420 (by decide) (fun z9 => absurd (rfl) z9) (fun _ => ?_)
          refine lv_iconst (v := 1) hx hb dL_law_1423 (by decide) ?_
          refine lv_goto (tgt := 1428) hx hb dL_law_1424 (by decide) ?_
          refine lv_istore (lv' := [(13, .int 1), (24, .int (nI j)), (23, .int (nI mn)), (22, .int (nI o)), (18, .int (nI f)), (19, .int (nI th)), (20, .int (nI ck)), (17, .int (nI y)), (14, .int (nI tn)), (12, .ref (q 10)), (11, .ref (q 9)), (10, .ref (q 8)), (9, .ref (q 7)), (8, .ref (q 6)), (7, .ref (q 5)), (6, .ref (q 4)), (5, .ref (q 3)), (4, .ref (q 2)), (3, .ref (q 1)), (2, .ref (q 0)), (1, .ref (u 30)), (0, .ref b9)]) hx hb dL_law_1428 hl (by decide) rfl (fun ls hl => ?_)
          exact kk _ _ _ _ _ _ H locs _ _ ls (R2) (by have h := lT_mc hlt hf ho; rw [if_pos c_3] at h; exact h) hA hC hS (by omega) (by omega) (lv_sub hl [0, 7, 8, 9, 10, 11, 12, 13, 14, 15, 16, 17, 18, 19, 20, 21] rfl)
        · skip
          refine lv_aload hx hb dL_law_1372 (lv_at hl 13 rfl) ?_
          refine lv_iload hx hb dL_law_1374 (lv_at hl 3 rfl) ?_
          refine cg_ald F hK hA 5 5 rfl f rfl (by omega) (by decide) dL_law_1376 ?_
          refine lv_goto (tgt := 1385) hx hb dL_law_1377 (by decide) ?_
          refine ix_ast F hK hN hA hC hS 5 5 (by decide) (hq _ (lA_in q (by decide))) rfl f rfl (by omega) (by decide) rfl dL_law_1385 (fun H locs hA hC hS => ?_)
          refine lv_aload hx hb dL_law_1386 (lv_at hl 13 rfl) ?_
          refine lv_iload hx hb dL_law_1388 (lv_at hl 2 rfl) ?_
          refine lv_aload hx hb dL_law_1390 (lv_at hl 13 rfl) ?_
          refine lv_iload hx hb dL_law_1392 (lv_at hl 3 rfl) ?_
          refine cg_ald F hK hA 5 5 rfl f rfl (by omega) (by decide) dL_law_1394 ?_
          refine lw_E (G1 5 f) (by simp [upA_at]) ?_
          refine ix_ast F hK hN hA hC hS 5 5 (by decide) (hq _ (lA_in q (by decide))) rfl o rfl (by omega) (by decide) rfl dL_law_1395 (fun H locs hA hC hS => ?_)
          refine lv_aload_n hx hb dL_law_1396 rfl (lv_at hl 19 rfl) ?_
          refine lv_iconst (v := 2) hx hb dL_law_1397 (by decide) ?_
          refine lv_iload hx hb dL_law_1398 (lv_at hl 3 rfl) ?_
          refine lv_iload hx hb dL_law_1400 (lv_at hl 2 rfl) ?_
          refine lv_iconst (v := 0) hx hb dL_law_1402 (by decide) ?_
          have hjn : j = n := by omega
          subst hjn
          obtain ⟨cs2, ev9, R2⟩ := dm_diff R9 hf ho hne
          rw [← hmn] at ev9
          refine ix_does (val := nI mn) (cs' := cs2) (op := cMeet cs (nI f) (nI o)) F hK hX hNz (fun x h => h) hA hC R9 hS [.ref (u 30), .int 2, .int (nI f), .int (nI o), .int 0] (fun V pq sp cn e sz b L w nx z0 h1 h2 h3 h4 h5 h6 h7 h8 => by subst h1; exact ld_meet hfl h2 (nI f) (nI o) 0 h3 h4 h5 h6 h7 h8) (ev9) (vx_cwSW 5 F.2.2.2.2 gL_law_L_does rfl rfl rfl (by decide +kernel) ⟨Nat.le_of_ble_eq_true rfl, Nat.le_of_ble_eq_true rfl⟩) rfl hl.1 rfl (lv_room (Nat.le_of_ble_eq_true rfl)) ⟨by show _ ≤ 600086; omega, by show _ ≤ 7301442; omega⟩ dL_law_1403 (fun H locs hA hC hS => ?_)
          refine lv_iload hx hb dL_law_1406 (lv_at hl 3 rfl) ?_
          refine lv_iload hx hb dL_law_1408 (lv_at hl 2 rfl) ?_
          refine lw_ne (tgt := 1418) hx hb f o (by omega) (by omega) dL_law_1410 (by decide) (fun _ => ?_) (fun z9 => by first | exact absurd hne z9 | exact absurd z9 hne | exact Bool.noConfusion (hne.symm.trans z9) | omega)
          refine lv_iload hx hb dL_law_1418 (lv_at hl 1 rfl) ?_
          refine lv_icmp_ne (tgt := 1427) hx hb dL_law_1420 (by decide) (fun z9 => absurd (rfl) z9) (fun _ => ?_)
          refine lv_iconst (v := 1) hx hb dL_law_1423 (by decide) ?_
          refine lv_goto (tgt := 1428) hx hb dL_law_1424 (by decide) ?_
          refine lv_istore (lv' := [(13, .int 1), (24, .int (nI j)), (23, .int (nI mn)), (22, .int (nI o)), (18, .int (nI f)), (19, .int (nI th)), (20, .int (nI ck)), (17, .int (nI y)), (14, .int (nI tn)), (12, .ref (q 10)), (11, .ref (q 9)), (10, .ref (q 8)), (9, .ref (q 7)), (8, .ref (q 6)), (7, .ref (q 5)), (6, .ref (q 4)), (5, .ref (q 3)), (4, .ref (q 2)), (3, .ref (q 1)), (2, .ref (q 0)), (1, .ref (u 30)), (0, .ref b9)]) hx hb dL_law_1428 hl (by decide) rfl (fun ls hl => ?_)
          exact kk _ _ _ _ _ _ H locs _ _ ls (R2) (by have h := lT_mc hlt hf ho; rw [if_neg c_3] at h; exact h) hA hC hS (by omega) (by omega) (lv_sub hl [0, 7, 8, 9, 10, 11, 12, 13, 14, 15, 16, 17, 18, 19, 20, 21] rfl)
      · skip
        have mc_2 : ¬ n ≤ j := by omega
        refine lv_iload hx hb dL_law_1262 (lv_at hl 3 rfl) ?_
        refine lv_iload hx hb dL_law_1264 (lv_at hl 2 rfl) ?_
        refine lw_eq (tgt := 1355) hx hb f o (by omega) (by omega) dL_law_1266 (by decide) (fun z9 => by first | exact absurd hne z9 | exact absurd z9 hne | exact Bool.noConfusion (hne.symm.trans z9) | omega) (fun _ => ?_)
        refine lv_aload hx hb dL_law_1269 (lv_at hl 15 rfl) ?_
        refine lv_iload hx hb dL_law_1271 (lv_at hl 0 rfl) ?_
        refine cg_ald F hK hA 3 64 rfl j rfl (by omega) (by decide) dL_law_1273 ?_
        refine lv_iload hx hb dL_law_1274 (lv_at hl 3 rfl) ?_
        refine lv_ishr hx hb dL_law_1276 ?_
        refine lv_iconst (v := 1) hx hb dL_law_1277 (by decide) ?_
        refine lv_iand hx hb dL_law_1278 ?_
        refine lv_aload hx hb dL_law_1279 (lv_at hl 15 rfl) ?_
        refine lv_iload hx hb dL_law_1281 (lv_at hl 0 rfl) ?_
        refine cg_ald F hK hA 3 64 rfl j rfl (by omega) (by decide) dL_law_1283 ?_
        refine lv_iload hx hb dL_law_1284 (lv_at hl 2 rfl) ?_
        refine lv_ishr hx hb dL_law_1286 ?_
        refine lv_iconst (v := 1) hx hb dL_law_1287 (by decide) ?_
        refine lv_iand hx hb dL_law_1288 ?_
        refine lv_ior hx hb dL_law_1289 ?_
        refine lw_E (mB G1 f o j) rfl ?_
        refine lv_istore (lv' := [(25, .int (mB G1 f o j)), (24, .int (nI j)), (23, .int (nI mn)), (22, .int (nI o)), (18, .int (nI f)), (19, .int (nI th)), (20, .int (nI ck)), (17, .int (nI y)), (14, .int (nI tn)), (12, .ref (q 10)), (11, .ref (q 9)), (10, .ref (q 8)), (9, .ref (q 7)), (8, .ref (q 6)), (7, .ref (q 5)), (6, .ref (q 4)), (5, .ref (q 3)), (4, .ref (q 2)), (3, .ref (q 1)), (2, .ref (q 0)), (1, .ref (u 30)), (0, .ref b9)]) hx hb dL_law_1290 hl (by decide) rfl (fun ls hl => ?_)
        refine lv_iload hx hb dL_law_1292 (lv_at hl 2 rfl) ?_
        refine lv_iload hx hb dL_law_1294 (lv_at hl 0 rfl) ?_
        refine lv_iconst (v := 1) hx hb dL_law_1296 (by decide) ?_
        refine lv_icmp_ne (tgt := 1326) hx hb dL_law_1297 (by decide) (fun c_7 => ?_) (fun c_7 => ?_)
        · skip
          refine lv_iconst (v := 0) hx hb dL_law_1326 (by decide) ?_
          refine lw_add hx hb (i := mn) (j := 0) dL_law_1327 ?_
          refine lv_istore (lv' := [(23, .int (nI (mn + 0))), (25, .int (mB G1 f o j)), (24, .int (nI j)), (22, .int (nI o)), (18, .int (nI f)), (19, .int (nI th)), (20, .int (nI ck)), (17, .int (nI y)), (14, .int (nI tn)), (12, .ref (q 10)), (11, .ref (q 9)), (10, .ref (q 8)), (9, .ref (q 7)), (8, .ref (q 6)), (7, .ref (q 5)), (6, .ref (q 4)), (5, .ref (q 3)), (4, .ref (q 2)), (3, .ref (q 1)), (2, .ref (q 0)), (1, .ref (u 30)), (0, .ref b9)]) hx hb dL_law_1328 hl (by decide) rfl (fun ls hl => ?_)
          refine lv_aload hx hb dL_law_1330 (lv_at hl 16 rfl) ?_
          refine lv_iload hx hb dL_law_1332 (lv_at hl 2 rfl) ?_
          refine lv_dup2_11 hx hb dL_law_1334 rfl rfl ?_
          refine cg_ald F hK hA 3 64 rfl j rfl (by omega) (by decide) dL_law_1335 ?_
          refine lv_iload hx hb dL_law_1336 (lv_at hl 1 rfl) ?_
          refine lv_iload hx hb dL_law_1338 (lv_at hl 4 rfl) ?_
          refine lv_ishl hx hb dL_law_1340 ?_
          refine lv_iload hx hb dL_law_1341 (lv_at hl 1 rfl) ?_
          refine lv_iload hx hb dL_law_1343 (lv_at hl 3 rfl) ?_
          refine lv_ishl hx hb dL_law_1345 ?_
          refine lv_ior hx hb dL_law_1346 ?_
          refine lv_ior hx hb dL_law_1347 ?_
          refine ix_ast F hK hN hA hC hS 3 64 (by decide) (hq _ (lA_in q (by decide))) rfl j rfl (by omega) (by decide) rfl dL_law_1348 (fun H locs hA hC hS => ?_)
          refine lv_iinc (v := nI (j + 1)) (lv' := [(24, .int (nI (j + 1))), (23, .int (nI (mn + 0))), (25, .int (mB G1 f o j)), (22, .int (nI o)), (18, .int (nI f)), (19, .int (nI th)), (20, .int (nI ck)), (17, .int (nI y)), (14, .int (nI tn)), (12, .ref (q 10)), (11, .ref (q 9)), (10, .ref (q 8)), (9, .ref (q 7)), (8, .ref (q 6)), (7, .ref (q 5)), (6, .ref (q 4)), (5, .ref (q 3)), (4, .ref (q 2)), (3, .ref (q 1)), (2, .ref (q 0)), (1, .ref (u 30)), (0, .ref b9)]) hx hb dL_law_1349 hl (k := 2) rfl (show nI j + Int32.ofInt 1 = _ from nI_add j 1) (by decide) rfl (fun ls hl => ?_)
          refine lv_goto (tgt := 1254) hx hb dL_law_1352 (by decide) ?_
          exact ihu_1  (mn + 0) (j + 1) (upA G1 3 j (G1 3 j ||| ((mB G1 f o j <<< (nI f &&& 31)) ||| (mB G1 f o j <<< (nI o &&& 31))))) _ _ ls (by omega) (by first | omega | assumption) (by first | omega | assumption) (by rw [foldU_s]; refine Eq.trans ?_ (Eq.symm (lT_me (y := (foldU (meStep f o) (0, kn) j).1) hlt hf ho (by omega)).2); rw [← hmn]; simp [c_2, mc_2, c_7]) (by rw [foldU_s]; exact (lT_me (y := (foldU (meStep f o) (0, kn) j).1) hlt hf ho (by omega)).1) hA hC hS (lv_sub hl [0, 1, 3, 4, 5, 6, 7, 8, 9, 10, 11, 12, 13, 14, 15, 16, 17, 18, 19, 20, 21] rfl)
        · skip
          refine lv_aload hx hb dL_law_1300 (lv_at hl 16 rfl) ?_
          refine lv_iload hx hb dL_law_1302 (lv_at hl 1 rfl) ?_
          refine cg_ald F hK hA 3 64 rfl j rfl (by omega) (by decide) dL_law_1304 ?_
          refine lv_iload hx hb dL_law_1305 (lv_at hl 4 rfl) ?_
          refine lv_ishr hx hb dL_law_1307 ?_
          refine lv_aload hx hb dL_law_1308 (lv_at hl 16 rfl) ?_
          refine lv_iload hx hb dL_law_1310 (lv_at hl 1 rfl) ?_
          refine cg_ald F hK hA 3 64 rfl j rfl (by omega) (by decide) dL_law_1312 ?_
          refine lv_iload hx hb dL_law_1313 (lv_at hl 3 rfl) ?_
          refine lv_ishr hx hb dL_law_1315 ?_
          refine lv_iand hx hb dL_law_1316 ?_
          refine lv_iconst (v := 1) hx hb dL_law_1317 (by decide) ?_
          refine lv_iand hx hb dL_law_1318 ?_
          refine lv_if_ne (tgt := 1326) hx hb dL_law_1319 (by decide) (fun c_8 => ?_) (fun c_8 => ?_)
          · skip
            refine lv_iconst (v := 0) hx hb dL_law_1326 (by decide) ?_
            refine lw_add hx hb (i := mn) (j := 0) dL_law_1327 ?_
            refine lv_istore (lv' := [(23, .int (nI (mn + 0))), (25, .int (mB G1 f o j)), (24, .int (nI j)), (22, .int (nI o)), (18, .int (nI f)), (19, .int (nI th)), (20, .int (nI ck)), (17, .int (nI y)), (14, .int (nI tn)), (12, .ref (q 10)), (11, .ref (q 9)), (10, .ref (q 8)), (9, .ref (q 7)), (8, .ref (q 6)), (7, .ref (q 5)), (6, .ref (q 4)), (5, .ref (q 3)), (4, .ref (q 2)), (3, .ref (q 1)), (2, .ref (q 0)), (1, .ref (u 30)), (0, .ref b9)]) hx hb dL_law_1328 hl (by decide) rfl (fun ls hl => ?_)
            refine lv_aload hx hb dL_law_1330 (lv_at hl 16 rfl) ?_
            refine lv_iload hx hb dL_law_1332 (lv_at hl 2 rfl) ?_
            refine lv_dup2_11 hx hb dL_law_1334 rfl rfl ?_
            refine cg_ald F hK hA 3 64 rfl j rfl (by omega) (by decide) dL_law_1335 ?_
            refine lv_iload hx hb dL_law_1336 (lv_at hl 1 rfl) ?_
            refine lv_iload hx hb dL_law_1338 (lv_at hl 4 rfl) ?_
            refine lv_ishl hx hb dL_law_1340 ?_
            refine lv_iload hx hb dL_law_1341 (lv_at hl 1 rfl) ?_
            refine lv_iload hx hb dL_law_1343 (lv_at hl 3 rfl) ?_
            refine lv_ishl hx hb dL_law_1345 ?_
            refine lv_ior hx hb dL_law_1346 ?_
            refine lv_ior hx hb dL_law_1347 ?_
            refine ix_ast F hK hN hA hC hS 3 64 (by decide) (hq _ (lA_in q (by decide))) rfl j rfl (by omega) (by decide) rfl dL_law_1348 (fun H locs hA hC hS => ?_)
            refine lv_iinc (v := nI (j + 1)) (lv' := [(24, .int (nI (j + 1))), (23, .int (nI (mn + 0))), (25, .int (mB G1 f o j)), (22, .int (nI o)), (18, .int (nI f)), (19, .int (nI th)), (20, .int (nI ck)), (17, .int (nI y)), (14, .int (nI tn)), (12, .ref (q 10)), (11, .ref (q 9)), (10, .ref (q 8)), (9, .ref (q 7)), (8, .ref (q 6)), (7, .ref (q 5)), (6, .ref (q 4)), (5, .ref (q 3)), (4, .ref (q 2)), (3, .ref (q 1)), (2, .ref (q 0)), (1, .ref (u 30)), (0, .ref b9)]) hx hb dL_law_1349 hl (k := 2) rfl (show nI j + Int32.ofInt 1 = _ from nI_add j 1) (by decide) rfl (fun ls hl => ?_)
            refine lv_goto (tgt := 1254) hx hb dL_law_1352 (by decide) ?_
            exact ihu_1  (mn + 0) (j + 1) (upA G1 3 j (G1 3 j ||| ((mB G1 f o j <<< (nI f &&& 31)) ||| (mB G1 f o j <<< (nI o &&& 31))))) _ _ ls (by omega) (by first | omega | assumption) (by first | omega | assumption) (by rw [foldU_s]; refine Eq.trans ?_ (Eq.symm (lT_me (y := (foldU (meStep f o) (0, kn) j).1) hlt hf ho (by omega)).2); rw [← hmn]; simp [c_2, mc_2, c_7, c_8]) (by rw [foldU_s]; exact (lT_me (y := (foldU (meStep f o) (0, kn) j).1) hlt hf ho (by omega)).1) hA hC hS (lv_sub hl [0, 1, 3, 4, 5, 6, 7, 8, 9, 10, 11, 12, 13, 14, 15, 16, 17, 18, 19, 20, 21] rfl)
          · skip
            refine lv_iconst (v := 1) hx hb dL_law_1322 (by decide) ?_
            refine lv_goto (tgt := 1327) hx hb dL_law_1323 (by decide) ?_
            refine lw_add hx hb (i := mn) (j := 1) dL_law_1327 ?_
            refine lv_istore (lv' := [(23, .int (nI (mn + 1))), (25, .int (mB G1 f o j)), (24, .int (nI j)), (22, .int (nI o)), (18, .int (nI f)), (19, .int (nI th)), (20, .int (nI ck)), (17, .int (nI y)), (14, .int (nI tn)), (12, .ref (q 10)), (11, .ref (q 9)), (10, .ref (q 8)), (9, .ref (q 7)), (8, .ref (q 6)), (7, .ref (q 5)), (6, .ref (q 4)), (5, .ref (q 3)), (4, .ref (q 2)), (3, .ref (q 1)), (2, .ref (q 0)), (1, .ref (u 30)), (0, .ref b9)]) hx hb dL_law_1328 hl (by decide) rfl (fun ls hl => ?_)
            refine lv_aload hx hb dL_law_1330 (lv_at hl 16 rfl) ?_
            refine lv_iload hx hb dL_law_1332 (lv_at hl 2 rfl) ?_
            refine lv_dup2_11 hx hb dL_law_1334 rfl rfl ?_
            refine cg_ald F hK hA 3 64 rfl j rfl (by omega) (by decide) dL_law_1335 ?_
            refine lv_iload hx hb dL_law_1336 (lv_at hl 1 rfl) ?_
            refine lv_iload hx hb dL_law_1338 (lv_at hl 4 rfl) ?_
            refine lv_ishl hx hb dL_law_1340 ?_
            refine lv_iload hx hb dL_law_1341 (lv_at hl 1 rfl) ?_
            refine lv_iload hx hb dL_law_1343 (lv_at hl 3 rfl) ?_
            refine lv_ishl hx hb dL_law_1345 ?_
            refine lv_ior hx hb dL_law_1346 ?_
            refine lv_ior hx hb dL_law_1347 ?_
            refine ix_ast F hK hN hA hC hS 3 64 (by decide) (hq _ (lA_in q (by decide))) rfl j rfl (by omega) (by decide) rfl dL_law_1348 (fun H locs hA hC hS => ?_)
            refine lv_iinc (v := nI (j + 1)) (lv' := [(24, .int (nI (j + 1))), (23, .int (nI (mn + 1))), (25, .int (mB G1 f o j)), (22, .int (nI o)), (18, .int (nI f)), (19, .int (nI th)), (20, .int (nI ck)), (17, .int (nI y)), (14, .int (nI tn)), (12, .ref (q 10)), (11, .ref (q 9)), (10, .ref (q 8)), (9, .ref (q 7)), (8, .ref (q 6)), (7, .ref (q 5)), (6, .ref (q 4)), (5, .ref (q 3)), (4, .ref (q 2)), (3, .ref (q 1)), (2, .ref (q 0)), (1, .ref (u 30)), (0, .ref b9)]) hx hb dL_law_1349 hl (k := 2) rfl (show nI j + Int32.ofInt 1 = _ from nI_add j 1) (by decide) rfl (fun ls hl => ?_)
            refine lv_goto (tgt := 1254) hx hb dL_law_1352 (by decide) ?_
            exact ihu_1  (mn + 1) (j + 1) (upA G1 3 j (G1 3 j ||| ((mB G1 f o j <<< (nI f &&& 31)) ||| (mB G1 f o j <<< (nI o &&& 31))))) _ _ ls (by omega) (by first | omega | assumption) (by first | omega | assumption) (by rw [foldU_s]; refine Eq.trans ?_ (Eq.symm (lT_me (y := (foldU (meStep f o) (0, kn) j).1) hlt hf ho (by omega)).2); rw [← hmn]; simp [c_2, mc_2, c_7, c_8]) (by rw [foldU_s]; exact (lT_me (y := (foldU (meStep f o) (0, kn) j).1) hlt hf ho (by omega)).1) hA hC hS (lv_sub hl [0, 1, 3, 4, 5, 6, 7, 8, 9, 10, 11, 12, 13, 14, 15, 16, 17, 18, 19, 20, 21] rfl)
  exact L1254_u_1 _ 0 0 F9 _ _ ls (Nat.lt_succ_self _) (by first | omega | assumption) (by first | omega | assumption) (rfl) (hL.lt) hA hC hS (lv_sub hl [0, 1, 2, 3, 4, 5, 6, 7, 8, 9, 10, 11, 12, 13, 14, 15, 16, 17, 18, 19, 20] rfl)
