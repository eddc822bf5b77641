/-! the deeds: needs, put, take, guest, plan -/
set_option maxHeartbeats 8000000 in
set_option maxRecDepth 100000 in
theorem lf_setNeed {p : Program} {l : Launch} {e9 : Env} {s : State} {m : MethodId} {b9 : Nat} {below : List Frame} {meth : Method} {c : Code} {D : va_G} {u q : Nat → Nat} {cI cII : ClassId} {sa : Nat → Nat} (hfl : l.stackTraces = false) (F : CallFix p m c cL_law 26 s #[Value.ref b9] lw_tbl RL) (hK : va_K D vwCl (cT cI cII) s) (hX : xF (fun x => s.heap.size ≤ x) sa s) (hNz : wzN s) (hN : (lA q).Nodup) (hq : ∀ x, x ∈ lA q → s.heap.size ≤ x) {n cm : Nat} {a : Nat → Nat → Int32} {kn : Nat → Bool} {cs : CS} {l9 : List Nat} {F9 : FF} {f th ck y tn : Nat} {H : Heap} {locs : List Loc} {cel slo : Nat} {ls : Array Slot}  (hf : f < 5) (hth : th < 40) (hck : (cm = 0 → ck = 0) ∧ (0 < cm → ck < cm)) (hy : y < 134217728) (R9 : tRel n cm a kn cs) (hL : LV n cm a kn f l9 F9 (rdA (frV f) (cs.1 12) cs.2.2)) (hcel : cel ≤ 590000) (hslo : slo ≤ 7000000) (hA : va_P D vwCl (lX q cI F9) H) (hC : sW D u cI cII (fun x => s.heap.size ≤ x) (fun y => y ∈ lA q) cs H) (hS : va_S (fun x => s.heap.size ≤ x) s.heap H locs)  (kk : ∀ (n1 cm1 : Nat) (a1 : Nat → Nat → Int32) (kn1 : Nat → Bool) (cs1 : CS) (F1 : FF) (H : Heap) (locs : List Loc) (cel1 slo1 : Nat) (ls : Array Slot), tRel n1 cm1 a1 kn1 cs1 → lT n1 cm1 a1 kn1 F1 → va_P D vwCl (lX q cI F1) H → sW D u cI cII (fun x => s.heap.size ≤ x) (fun y => y ∈ lA q) cs1 H → va_S (fun x => s.heap.size ≤ x) s.heap H locs → cel1 ≤ cel + 46 → slo1 ≤ slo + 440 → lv_has ls 26 [(13, .int 1), (17, .int (nI y)), (14, .int (nI tn)), (12, .ref (q 10)), (11, .ref (q 9)), (10, .ref (q 8)), (9, .ref (q 7)), (8, .ref (q 6)), (7, .ref (q 5)), (6, .ref (q 4)), (5, .ref (q 3)), (4, .ref (q 2)), (3, .ref (q 1)), (2, .ref (q 0)), (1, .ref (u 30)), (0, .ref b9)] → lwW p l e9 s m b9 below meth c H locs cel1 slo1 (F0 m 1430 ls [])) (hl : lv_has ls 26 [(18, .int (nI f)), (19, .int (nI th)), (20, .int (nI ck)), (17, .int (nI y)), (14, .int (nI tn)), (12, .ref (q 10)), (11, .ref (q 9)), (10, .ref (q 8)), (9, .ref (q 7)), (8, .ref (q 6)), (7, .ref (q 5)), (6, .ref (q 4)), (5, .ref (q 3)), (4, .ref (q 2)), (3, .ref (q 1)), (2, .ref (q 0)), (1, .ref (u 30)), (0, .ref b9)]) : lwW p l e9 s m b9 below meth c H locs cel slo (F0 m 265 ls []) := by
  have hx := F.1
  have hb := F.2.1
  have hf00 : F9 0 0 = nI n := hL.lt.f00
  have hf01 : F9 0 1 = nI cm := hL.lt.f01
  have hn64 := hL.lt.n64
  have hcm10 := hL.lt.cm10
  have hf6 : ∀ x, x ∈ [q 0, q 1, q 2, q 3, q 4, q 5] → x ∈ lA q ∧ s.heap.size ≤ x := fun x hx => by
    have h : x ∈ lA q := by simp only [List.mem_cons, List.not_mem_nil, or_false] at hx; rcases hx with e | e | e | e | e | e <;> rw [e] <;> exact lA_in q (by decide)
    exact ⟨h, hq x h⟩
  refine lv_iload hx hb dL_law_265 (lv_at hl 3 rfl) ?_
  refine lv_iconst (v := 3) hx hb dL_law_267 (by decide) ?_
  refine lw_remN hx hb (i := y) (j := 3) (by omega) (by omega) (by omega) dL_law_268 ?_
  refine lv_istore (lv' := [(22, .int (nI (y % 3))), (18, .int (nI f)), (19, .int (nI th)), (20, .int (nI ck)), (17, .int (nI y)), (14, .int (nI tn)), (12, .ref (q 10)), (11, .ref (q 9)), (10, .ref (q 8)), (9, .ref (q 7)), (8, .ref (q 6)), (7, .ref (q 5)), (6, .ref (q 4)), (5, .ref (q 3)), (4, .ref (q 2)), (3, .ref (q 1)), (2, .ref (q 0)), (1, .ref (u 30)), (0, .ref b9)]) hx hb dL_law_269 hl (by decide) rfl (fun ls hl => ?_)
  refine lv_iload hx hb dL_law_271 (lv_at hl 4 rfl) ?_
  refine lv_iconst (v := 3) hx hb dL_law_273 (by decide) ?_
  refine lw_divN hx hb (i := y) (j := 3) (by omega) (by omega) (by omega) dL_law_274 ?_
  refine lv_iconst (v := 4) hx hb dL_law_275 (by decide) ?_
  refine lw_remN hx hb (i := (y / 3)) (j := 4) (by omega) (by omega) (by omega) dL_law_276 ?_
  refine lv_istore (lv' := [(23, .int (nI ((y / 3) % 4))), (22, .int (nI (y % 3))), (18, .int (nI f)), (19, .int (nI th)), (20, .int (nI ck)), (17, .int (nI y)), (14, .int (nI tn)), (12, .ref (q 10)), (11, .ref (q 9)), (10, .ref (q 8)), (9, .ref (q 7)), (8, .ref (q 6)), (7, .ref (q 5)), (6, .ref (q 4)), (5, .ref (q 3)), (4, .ref (q 2)), (3, .ref (q 1)), (2, .ref (q 0)), (1, .ref (u 30)), (0, .ref b9)]) hx hb dL_law_277 hl (by decide) rfl (fun ls hl => ?_)
  refine lv_aload_n hx hb dL_law_279 rfl (lv_at hl 18 rfl) ?_
  refine lv_iload hx hb dL_law_280 (lv_at hl 1 rfl) ?_
  refine lv_iload hx hb dL_law_282 (lv_at hl 0 rfl) ?_
  refine lv_iload hx hb dL_law_284 (lv_at hl 5 rfl) ?_
  refine lv_bipush (v := 12) hx hb dL_law_286 (by decide) ?_
  refine lw_divN hx hb (i := y) (j := 12) (by omega) (by omega) (by omega) dL_law_288 ?_
  refine lv_iconst (v := 3) hx hb dL_law_289 (by decide) ?_
  refine lw_remN hx hb (i := (y / 12)) (j := 3) (by omega) (by omega) (by omega) dL_law_290 ?_
  obtain ⟨cs2, ev9, R2, E2⟩ := ds_setNeed R9 hL.lt (r := (y % 3)) (fo := ((y / 3) % 4)) (q := ((y / 12) % 3)) (by omega) (by omega) (by omega)
  refine ix_tell (val := F9 6 (8 * (y % 3) + ((y / 3) % 4))) (cs' := cs2) F hK hX (fun x h => h) hA hC R9 hS [.int (nI (y % 3)), .int (nI ((y / 3) % 4)), .int (nI ((y / 12) % 3))] (sm_eq (ev9) (sm_setNeed hfl (nI (y % 3)) (nI ((y / 3) % 4)) (nI ((y / 12) % 3)))) (cwV 3 F.2.2.2.2 gL_law_X3_setNeed rfl rfl rfl (by decide +kernel) ⟨Nat.le_of_ble_eq_true rfl, Nat.le_of_ble_eq_true rfl⟩) rfl hl.1 rfl (lv_room (Nat.le_of_ble_eq_true rfl)) ⟨by show _ ≤ 600086; omega, by show _ ≤ 7301442; omega⟩ dL_law_291 (fun H locs hA hC hS => ?_)
  refine lv_aload hx hb dL_law_294 (lv_at hl 11 rfl) ?_
  refine lv_bipush (v := 8) hx hb dL_law_296 (by decide) ?_
  refine lv_iload hx hb dL_law_298 (lv_at hl 1 rfl) ?_
  refine lw_mul hx hb (i := 8) (j := (y % 3)) dL_law_300 ?_
  refine lv_iload hx hb dL_law_301 (lv_at hl 0 rfl) ?_
  refine lw_add hx hb (i := (8 * (y % 3))) (j := ((y / 3) % 4)) dL_law_303 ?_
  refine cg_ald F hK hA 6 48 rfl ((8 * (y % 3)) + ((y / 3) % 4)) rfl (by omega) (by decide) dL_law_304 ?_
  refine lv_icmp_ne (tgt := 312) hx hb dL_law_305 (by decide) (fun z9 => absurd (rfl) z9) (fun _ => ?_)
  refine lv_iconst (v := 1) hx hb dL_law_308 (by decide) ?_
  refine lv_goto (tgt := 313) hx hb dL_law_309 (by decide) ?_
  refine lv_istore (lv' := [(13, .int 1), (23, .int (nI ((y / 3) % 4))), (22, .int (nI (y % 3))), (18, .int (nI f)), (19, .int (nI th)), (20, .int (nI ck)), (17, .int (nI y)), (14, .int (nI tn)), (12, .ref (q 10)), (11, .ref (q 9)), (10, .ref (q 8)), (9, .ref (q 7)), (8, .ref (q 6)), (7, .ref (q 5)), (6, .ref (q 4)), (5, .ref (q 3)), (4, .ref (q 2)), (3, .ref (q 1)), (2, .ref (q 0)), (1, .ref (u 30)), (0, .ref b9)]) hx hb dL_law_313 hl (by decide) rfl (fun ls hl => ?_)
  refine lv_aload hx hb dL_law_315 (lv_at hl 12 rfl) ?_
  refine lv_bipush (v := 8) hx hb dL_law_317 (by decide) ?_
  refine lv_iload hx hb dL_law_319 (lv_at hl 2 rfl) ?_
  refine lw_mul hx hb (i := 8) (j := (y % 3)) dL_law_321 ?_
  refine lv_iload hx hb dL_law_322 (lv_at hl 1 rfl) ?_
  refine lw_add hx hb (i := (8 * (y % 3))) (j := ((y / 3) % 4)) dL_law_324 ?_
  refine lv_iload hx hb dL_law_325 (lv_at hl 6 rfl) ?_
  refine lv_bipush (v := 12) hx hb dL_law_327 (by decide) ?_
  refine lw_divN hx hb (i := y) (j := 12) (by omega) (by omega) (by omega) dL_law_329 ?_
  refine lv_iconst (v := 3) hx hb dL_law_330 (by decide) ?_
  refine lw_remN hx hb (i := (y / 12)) (j := 3) (by omega) (by omega) (by omega) dL_law_331 ?_
  refine ix_ast F hK hN hA hC hS 6 48 (by decide) (hq _ (lA_in q (by decide))) rfl ((8 * (y % 3)) + ((y / 3) % 4)) rfl (by omega) (by decide) rfl dL_law_332 (fun H locs hA hC hS => ?_)
  refine lv_goto (tgt := 1430) hx hb dL_law_333 (by decide) ?_
  exact kk _ _ _ _ _ _ H locs _ _ ls (R2) (E2) hA hC hS (by omega) (by omega) (lv_sub hl [0, 6, 7, 8, 9, 10, 11, 12, 13, 14, 15, 16, 17, 18, 19, 20] rfl)
set_option maxHeartbeats 8000000 in
set_option maxRecDepth 100000 in
theorem lf_put {p : Program} {l : Launch} {e9 : Env} {s : State} {m : MethodId} {b9 : Nat} {below : List Frame} {meth : Method} {c : Code} {D : va_G} {u q : Nat → Nat} {cI cII : ClassId} {sa : Nat → Nat} (hfl : l.stackTraces = false) (F : CallFix p m c cL_law 26 s #[Value.ref b9] lw_tbl RL) (hK : va_K D vwCl (cT cI cII) s) (hX : xF (fun x => s.heap.size ≤ x) sa s) (hNz : wzN s) (hN : (lA q).Nodup) (hq : ∀ x, x ∈ lA q → s.heap.size ≤ x) {n cm : Nat} {a : Nat → Nat → Int32} {kn : Nat → Bool} {cs : CS} {l9 : List Nat} {F9 : FF} {f th ck y tn : Nat} {H : Heap} {locs : List Loc} {cel slo : Nat} {ls : Array Slot}  (hf : f < 5) (hth : th < 40) (hck : (cm = 0 → ck = 0) ∧ (0 < cm → ck < cm)) (hy : y < 134217728) (R9 : tRel n cm a kn cs) (hL : LV n cm a kn f l9 F9 (rdA (frV f) (cs.1 12) cs.2.2)) (hcel : cel ≤ 590000) (hslo : slo ≤ 7000000) (hA : va_P D vwCl (lX q cI F9) H) (hC : sW D u cI cII (fun x => s.heap.size ≤ x) (fun y => y ∈ lA q) cs H) (hS : va_S (fun x => s.heap.size ≤ x) s.heap H locs) (hn : n < 43) (kk : ∀ (n1 cm1 : Nat) (a1 : Nat → Nat → Int32) (kn1 : Nat → Bool) (cs1 : CS) (F1 : FF) (H : Heap) (locs : List Loc) (cel1 slo1 : Nat) (ls : Array Slot), tRel n1 cm1 a1 kn1 cs1 → lT n1 cm1 a1 kn1 F1 → va_P D vwCl (lX q cI F1) H → sW D u cI cII (fun x => s.heap.size ≤ x) (fun y => y ∈ lA q) cs1 H → va_S (fun x => s.heap.size ≤ x) s.heap H locs → cel1 ≤ cel + 46 → slo1 ≤ slo + 440 → lv_has ls 26 [(13, .int 1), (17, .int (nI y)), (14, .int (nI tn)), (12, .ref (q 10)), (11, .ref (q 9)), (10, .ref (q 8)), (9, .ref (q 7)), (8, .ref (q 6)), (7, .ref (q 5)), (6, .ref (q 4)), (5, .ref (q 3)), (4, .ref (q 2)), (3, .ref (q 1)), (2, .ref (q 0)), (1, .ref (u 30)), (0, .ref b9)] → lwW p l e9 s m b9 below meth c H locs cel1 slo1 (F0 m 1430 ls [])) (hl : lv_has ls 26 [(18, .int (nI f)), (19, .int (nI th)), (20, .int (nI ck)), (17, .int (nI y)), (14, .int (nI tn)), (12, .ref (q 10)), (11, .ref (q 9)), (10, .ref (q 8)), (9, .ref (q 7)), (8, .ref (q 6)), (7, .ref (q 5)), (6, .ref (q 4)), (5, .ref (q 3)), (4, .ref (q 2)), (3, .ref (q 1)), (2, .ref (q 0)), (1, .ref (u 30)), (0, .ref b9)]) : lwW p l e9 s m b9 below meth c H locs cel slo (F0 m 348 ls []) := by
  have hx := F.1
  have hb := F.2.1
  have hf00 : F9 0 0 = nI n := hL.lt.f00
  have hf01 : F9 0 1 = nI cm := hL.lt.f01
  have hn64 := hL.lt.n64
  have hcm10 := hL.lt.cm10
  have hf6 : ∀ x, x ∈ [q 0, q 1, q 2, q 3, q 4, q 5] → x ∈ lA q ∧ s.heap.size ≤ x := fun x hx => by
    have h : x ∈ lA q := by simp only [List.mem_cons, List.not_mem_nil, or_false] at hx; rcases hx with e | e | e | e | e | e <;> rw [e] <;> exact lA_in q (by decide)
    exact ⟨h, hq x h⟩
  refine lv_aload hx hb dL_law_348 (lv_at hl 7 rfl) ?_
  refine lv_iload hx hb dL_law_350 (lv_at hl 1 rfl) ?_
  refine cg_ald F hK hA 8 40 rfl th rfl (by omega) (by decide) dL_law_352 ?_
  refine lv_iload hx hb dL_law_353 (lv_at hl 0 rfl) ?_
  refine lv_iconst (v := 1) hx hb dL_law_355 (by decide) ?_
  refine lw_add hx hb (i := f) (j := 1) dL_law_356 ?_
  refine lv_icmp_eq (tgt := 364) hx hb dL_law_357 (by decide) (fun c_1 => ?_) (fun c_1 => ?_)
  · skip
    refine lv_iconst (v := 0) hx hb dL_law_364 (by decide) ?_
    refine lv_istore (lv' := [(22, .int 0), (18, .int (nI f)), (19, .int (nI th)), (20, .int (nI ck)), (17, .int (nI y)), (14, .int (nI tn)), (12, .ref (q 10)), (11, .ref (q 9)), (10, .ref (q 8)), (9, .ref (q 7)), (8, .ref (q 6)), (7, .ref (q 5)), (6, .ref (q 4)), (5, .ref (q 3)), (4, .ref (q 2)), (3, .ref (q 1)), (2, .ref (q 0)), (1, .ref (u 30)), (0, .ref b9)]) hx hb dL_law_365 hl (by decide) rfl (fun ls hl => ?_)
    refine lv_aload_n hx hb dL_law_367 rfl (lv_at hl 17 rfl) ?_
    refine lv_iconst (v := 0) hx hb dL_law_368 (by decide) ?_
    refine lv_iload hx hb dL_law_369 (lv_at hl 1 rfl) ?_
    refine lv_iload hx hb dL_law_371 (lv_at hl 2 rfl) ?_
    refine lv_iconst (v := 0) hx hb dL_law_373 (by decide) ?_
    refine ix_does (val := (-13)) (cs' := cs) (op := cPut cs (nI f) (nI th)) F hK hX hNz (fun x h => h) hA hC R9 hS [.ref (u 30), .int 0, .int (nI f), .int (nI th), .int 0] (fun V pq sp cn e sz b L w nx z0 h1 h2 h3 h4 h5 h6 h7 h8 => by subst h1; exact ld_put hfl h2 (nI f) (nI th) 0 h3 h4 h5 h6 h7 h8) (dp_no hL hf hth c_1) (vx_cwSW 5 F.2.2.2.2 gL_law_L_does rfl rfl rfl (by decide +kernel) ⟨Nat.le_of_ble_eq_true rfl, Nat.le_of_ble_eq_true rfl⟩) rfl hl.1 rfl (lv_room (Nat.le_of_ble_eq_true rfl)) ⟨by show _ ≤ 600086; omega, by show _ ≤ 7301442; omega⟩ dL_law_374 (fun H locs hA hC hS => ?_)
    refine lv_iload hx hb dL_law_377 (lv_at hl 0 rfl) ?_
    refine lv_if_eq (tgt := 392) hx hb dL_law_379 (by decide) (fun _ => ?_) (fun z9 => absurd (by decide) z9)
    refine lv_bipush (v := (-13)) hx hb dL_law_392 (by decide) ?_
    refine lv_icmp_ne (tgt := 401) hx hb dL_law_394 (by decide) (fun z9 => absurd z9 (by decide)) (fun _ => ?_)
    refine lv_iconst (v := 1) hx hb dL_law_397 (by decide) ?_
    refine lv_goto (tgt := 402) hx hb dL_law_398 (by decide) ?_
    refine lv_istore (lv' := [(13, .int 1), (22, .int 0), (18, .int (nI f)), (19, .int (nI th)), (20, .int (nI ck)), (17, .int (nI y)), (14, .int (nI tn)), (12, .ref (q 10)), (11, .ref (q 9)), (10, .ref (q 8)), (9, .ref (q 7)), (8, .ref (q 6)), (7, .ref (q 5)), (6, .ref (q 4)), (5, .ref (q 3)), (4, .ref (q 2)), (3, .ref (q 1)), (2, .ref (q 0)), (1, .ref (u 30)), (0, .ref b9)]) hx hb dL_law_402 hl (by decide) rfl (fun ls hl => ?_)
    refine lv_iload hx hb dL_law_404 (lv_at hl 1 rfl) ?_
    refine lv_if_eq (tgt := 428) hx hb dL_law_406 (by decide) (fun _ => ?_) (fun z9 => absurd (by decide) z9)
    refine lv_goto (tgt := 1430) hx hb dL_law_428 (by decide) ?_
    exact kk _ _ _ _ _ _ H locs _ _ ls (R9) (hL.lt) hA hC hS (by omega) (by omega) (lv_sub hl [0, 5, 6, 7, 8, 9, 10, 11, 12, 13, 14, 15, 16, 17, 18, 19] rfl)
  · skip
    refine lv_iconst (v := 1) hx hb dL_law_360 (by decide) ?_
    refine lv_goto (tgt := 365) hx hb dL_law_361 (by decide) ?_
    refine lv_istore (lv' := [(22, .int 1), (18, .int (nI f)), (19, .int (nI th)), (20, .int (nI ck)), (17, .int (nI y)), (14, .int (nI tn)), (12, .ref (q 10)), (11, .ref (q 9)), (10, .ref (q 8)), (9, .ref (q 7)), (8, .ref (q 6)), (7, .ref (q 5)), (6, .ref (q 4)), (5, .ref (q 3)), (4, .ref (q 2)), (3, .ref (q 1)), (2, .ref (q 0)), (1, .ref (u 30)), (0, .ref b9)]) hx hb dL_law_365 hl (by decide) rfl (fun ls hl => ?_)
    refine lv_aload_n hx hb dL_law_367 rfl (lv_at hl 17 rfl) ?_
    refine lv_iconst (v := 0) hx hb dL_law_368 (by decide) ?_
    refine lv_iload hx hb dL_law_369 (lv_at hl 1 rfl) ?_
    refine lv_iload hx hb dL_law_371 (lv_at hl 2 rfl) ?_
    refine lv_iconst (v := 0) hx hb dL_law_373 (by decide) ?_
    obtain ⟨cs2, ev9, R2⟩ := dp_yes R9 hL hf hth (by omega) c_1
    refine ix_does (val := (F9 5 f + 1)) (cs' := cs2) (op := cPut cs (nI f) (nI th)) F hK hX hNz (fun x h => h) hA hC R9 hS [.ref (u 30), .int 0, .int (nI f), .int (nI th), .int 0] (fun V pq sp cn e sz b L w nx z0 h1 h2 h3 h4 h5 h6 h7 h8 => by subst h1; exact ld_put hfl h2 (nI f) (nI th) 0 h3 h4 h5 h6 h7 h8) (ev9) (vx_cwSW 5 F.2.2.2.2 gL_law_L_does rfl rfl rfl (by decide +kernel) ⟨Nat.le_of_ble_eq_true rfl, Nat.le_of_ble_eq_true rfl⟩) rfl hl.1 rfl (lv_room (Nat.le_of_ble_eq_true rfl)) ⟨by show _ ≤ 600086; omega, by show _ ≤ 7301442; omega⟩ dL_law_374 (fun H locs hA hC hS => ?_)
    refine lv_iload hx hb dL_law_377 (lv_at hl 0 rfl) ?_
    refine lv_if_eq (tgt := 392) hx hb dL_law_379 (by decide) (fun z9 => absurd z9 (by decide)) (fun _ => ?_)
    refine lv_aload hx hb dL_law_382 (lv_at hl 11 rfl) ?_
    refine lv_iload hx hb dL_law_384 (lv_at hl 1 rfl) ?_
    refine cg_ald F hK hA 5 5 rfl f rfl (by omega) (by decide) dL_law_386 ?_
    refine lv_iconst (v := 1) hx hb dL_law_387 (by decide) ?_
    refine lv_iadd hx hb dL_law_388 ?_
    refine lv_goto (tgt := 394) hx hb dL_law_389 (by decide) ?_
    refine lv_icmp_ne (tgt := 401) hx hb dL_law_394 (by decide) (fun z9 => absurd (rfl) z9) (fun _ => ?_)
    refine lv_iconst (v := 1) hx hb dL_law_397 (by decide) ?_
    refine lv_goto (tgt := 402) hx hb dL_law_398 (by decide) ?_
    refine lv_istore (lv' := [(13, .int 1), (22, .int 1), (18, .int (nI f)), (19, .int (nI th)), (20, .int (nI ck)), (17, .int (nI y)), (14, .int (nI tn)), (12, .ref (q 10)), (11, .ref (q 9)), (10, .ref (q 8)), (9, .ref (q 7)), (8, .ref (q 6)), (7, .ref (q 5)), (6, .ref (q 4)), (5, .ref (q 3)), (4, .ref (q 2)), (3, .ref (q 1)), (2, .ref (q 0)), (1, .ref (u 30)), (0, .ref b9)]) hx hb dL_law_402 hl (by decide) rfl (fun ls hl => ?_)
    refine lv_iload hx hb dL_law_404 (lv_at hl 1 rfl) ?_
    refine lv_if_eq (tgt := 428) hx hb dL_law_406 (by decide) (fun z9 => absurd z9 (by decide)) (fun _ => ?_)
    refine lv_aload_n hx hb dL_law_409 rfl (lv_at hl 17 rfl) ?_
    refine lv_aload_n hx hb dL_law_410 rfl (lv_at hl 16 rfl) ?_
    refine lv_aload hx hb dL_law_411 (lv_at hl 15 rfl) ?_
    refine lv_aload hx hb dL_law_413 (lv_at hl 14 rfl) ?_
    refine lv_aload hx hb dL_law_415 (lv_at hl 13 rfl) ?_
    refine lv_aload hx hb dL_law_417 (lv_at hl 12 rfl) ?_
    refine lv_iload hx hb dL_law_419 (lv_at hl 2 rfl) ?_
    refine lv_iconst (v := 0) hx hb dL_law_421 (by decide) ?_
    refine lv_iload hx hb dL_law_422 (lv_at hl 3 rfl) ?_
    refine lv_iconst (v := 0) hx hb dL_law_424 (by decide) ?_
    refine ix_la F hK hA hC hS [.ref (q 0), .ref (q 1), .ref (q 2), .ref (q 3), .ref (q 4), .ref (q 5), .int (nI f), .int 0, .int (nI th), .int 0] (la_writes (n := n) hN f 0 th 0 (by first | exact hf00 | (simp only [lWr_at, upA_at]; simp; exact hf00)) (by omega) hf) hf6 (va_cwS 10 F.2.2.2.2 gL_law_L_writes rfl rfl rfl (by decide +kernel) ⟨Nat.le_of_ble_eq_true rfl, Nat.le_of_ble_eq_true rfl⟩) rfl hl.1 rfl (lv_room (Nat.le_of_ble_eq_true rfl)) ⟨by show _ ≤ 600086; omega, by show _ ≤ 7301442; omega⟩ dL_law_425 (fun H locs hA hC hS => ?_)
    refine lv_goto (tgt := 1430) hx hb dL_law_428 (by decide) ?_
    exact kk _ _ _ _ _ _ H locs _ _ ls (R2) (lT_wr hL.lt (lK_of R9.inv) (by omega) hf (kd := 0) (by omega) (by omega) hth (-1)) hA hC hS (by omega) (by omega) (lv_sub hl [0, 5, 6, 7, 8, 9, 10, 11, 12, 13, 14, 15, 16, 17, 18, 19] rfl)
set_option maxHeartbeats 8000000 in
set_option maxRecDepth 100000 in
theorem lf_take {p : Program} {l : Launch} {e9 : Env} {s : State} {m : MethodId} {b9 : Nat} {below : List Frame} {meth : Method} {c : Code} {D : va_G} {u q : Nat → Nat} {cI cII : ClassId} {sa : Nat → Nat} (hfl : l.stackTraces = false) (F : CallFix p m c cL_law 26 s #[Value.ref b9] lw_tbl RL) (hK : va_K D vwCl (cT cI cII) s) (hX : xF (fun x => s.heap.size ≤ x) sa s) (hNz : wzN s) (hN : (lA q).Nodup) (hq : ∀ x, x ∈ lA q → s.heap.size ≤ x) {n cm : Nat} {a : Nat → Nat → Int32} {kn : Nat → Bool} {cs : CS} {l9 : List Nat} {F9 : FF} {f th ck y tn : Nat} {H : Heap} {locs : List Loc} {cel slo : Nat} {ls : Array Slot}  (hf : f < 5) (hth : th < 40) (hck : (cm = 0 → ck = 0) ∧ (0 < cm → ck < cm)) (hy : y < 134217728) (R9 : tRel n cm a kn cs) (hL : LV n cm a kn f l9 F9 (rdA (frV f) (cs.1 12) cs.2.2)) (hcel : cel ≤ 590000) (hslo : slo ≤ 7000000) (hA : va_P D vwCl (lX q cI F9) H) (hC : sW D u cI cII (fun x => s.heap.size ≤ x) (fun y => y ∈ lA q) cs H) (hS : va_S (fun x => s.heap.size ≤ x) s.heap H locs) (hn : n < 43) (kk : ∀ (n1 cm1 : Nat) (a1 : Nat → Nat → Int32) (kn1 : Nat → Bool) (cs1 : CS) (F1 : FF) (H : Heap) (locs : List Loc) (cel1 slo1 : Nat) (ls : Array Slot), tRel n1 cm1 a1 kn1 cs1 → lT n1 cm1 a1 kn1 F1 → va_P D vwCl (lX q cI F1) H → sW D u cI cII (fun x => s.heap.size ≤ x) (fun y => y ∈ lA q) cs1 H → va_S (fun x => s.heap.size ≤ x) s.heap H locs → cel1 ≤ cel + 46 → slo1 ≤ slo + 440 → lv_has ls 26 [(13, .int 1), (17, .int (nI y)), (14, .int (nI tn)), (12, .ref (q 10)), (11, .ref (q 9)), (10, .ref (q 8)), (9, .ref (q 7)), (8, .ref (q 6)), (7, .ref (q 5)), (6, .ref (q 4)), (5, .ref (q 3)), (4, .ref (q 2)), (3, .ref (q 1)), (2, .ref (q 0)), (1, .ref (u 30)), (0, .ref b9)] → lwW p l e9 s m b9 below meth c H locs cel1 slo1 (F0 m 1430 ls [])) (hl : lv_has ls 26 [(18, .int (nI f)), (19, .int (nI th)), (20, .int (nI ck)), (17, .int (nI y)), (14, .int (nI tn)), (12, .ref (q 10)), (11, .ref (q 9)), (10, .ref (q 8)), (9, .ref (q 7)), (8, .ref (q 6)), (7, .ref (q 5)), (6, .ref (q 4)), (5, .ref (q 3)), (4, .ref (q 2)), (3, .ref (q 1)), (2, .ref (q 0)), (1, .ref (u 30)), (0, .ref b9)]) : lwW p l e9 s m b9 below meth c H locs cel slo (F0 m 443 ls []) := by
  have hx := F.1
  have hb := F.2.1
  have hf00 : F9 0 0 = nI n := hL.lt.f00
  have hf01 : F9 0 1 = nI cm := hL.lt.f01
  have hn64 := hL.lt.n64
  have hcm10 := hL.lt.cm10
  have hf6 : ∀ x, x ∈ [q 0, q 1, q 2, q 3, q 4, q 5] → x ∈ lA q ∧ s.heap.size ≤ x := fun x hx => by
    have h : x ∈ lA q := by simp only [List.mem_cons, List.not_mem_nil, or_false] at hx; rcases hx with e | e | e | e | e | e <;> rw [e] <;> exact lA_in q (by decide)
    exact ⟨h, hq x h⟩
  refine lv_aload hx hb dL_law_443 (lv_at hl 7 rfl) ?_
  refine lv_iload hx hb dL_law_445 (lv_at hl 1 rfl) ?_
  refine cg_ald F hK hA 8 40 rfl th rfl (by omega) (by decide) dL_law_447 ?_
  refine lv_if_ne (tgt := 456) hx hb dL_law_448 (by decide) (fun c_1 => ?_) (fun c_1 => ?_)
  · skip
    refine lv_aload hx hb dL_law_456 (lv_at hl 7 rfl) ?_
    refine lv_iload hx hb dL_law_458 (lv_at hl 1 rfl) ?_
    refine cg_ald F hK hA 8 40 rfl th rfl (by omega) (by decide) dL_law_460 ?_
    refine lv_iconst (v := 1) hx hb dL_law_461 (by decide) ?_
    refine lv_isub hx hb dL_law_462 ?_
    obtain ⟨w9, hw9, ew9, cs2, ev9, R2⟩ := dt_yes R9 hL hf hth (by omega) c_1
    refine lw_N w9 ew9 ?_
    refine lv_istore (lv' := [(22, .int (nI w9)), (18, .int (nI f)), (19, .int (nI th)), (20, .int (nI ck)), (17, .int (nI y)), (14, .int (nI tn)), (12, .ref (q 10)), (11, .ref (q 9)), (10, .ref (q 8)), (9, .ref (q 7)), (8, .ref (q 6)), (7, .ref (q 5)), (6, .ref (q 4)), (5, .ref (q 3)), (4, .ref (q 2)), (3, .ref (q 1)), (2, .ref (q 0)), (1, .ref (u 30)), (0, .ref b9)]) hx hb dL_law_463 hl (by decide) rfl (fun ls hl => ?_)
    refine lv_aload_n hx hb dL_law_465 rfl (lv_at hl 17 rfl) ?_
    refine lv_iconst (v := 1) hx hb dL_law_466 (by decide) ?_
    refine lv_iload hx hb dL_law_467 (lv_at hl 1 rfl) ?_
    refine lv_iload hx hb dL_law_469 (lv_at hl 2 rfl) ?_
    refine lv_iconst (v := 0) hx hb dL_law_471 (by decide) ?_
    refine ix_does (val := nI w9) (cs' := cs2) (op := cTake cs (nI f) (nI th)) F hK hX hNz (fun x h => h) hA hC R9 hS [.ref (u 30), .int 1, .int (nI f), .int (nI th), .int 0] (fun V pq sp cn e sz b L w nx z0 h1 h2 h3 h4 h5 h6 h7 h8 => by subst h1; exact ld_take hfl h2 (nI f) (nI th) 0 h3 h4 h5 h6 h7 h8) (ev9) (vx_cwSW 5 F.2.2.2.2 gL_law_L_does rfl rfl rfl (by decide +kernel) ⟨Nat.le_of_ble_eq_true rfl, Nat.le_of_ble_eq_true rfl⟩) rfl hl.1 rfl (lv_room (Nat.le_of_ble_eq_true rfl)) ⟨by show _ ≤ 600086; omega, by show _ ≤ 7301442; omega⟩ dL_law_472 (fun H locs hA hC hS => ?_)
    refine lv_iload hx hb dL_law_475 (lv_at hl 0 rfl) ?_
    refine lv_icmp_ne (tgt := 484) hx hb dL_law_477 (by decide) (fun z9 => absurd (rfl) z9) (fun _ => ?_)
    refine lv_iconst (v := 1) hx hb dL_law_480 (by decide) ?_
    refine lv_goto (tgt := 485) hx hb dL_law_481 (by decide) ?_
    refine lv_istore (lv' := [(13, .int 1), (22, .int (nI w9)), (18, .int (nI f)), (19, .int (nI th)), (20, .int (nI ck)), (17, .int (nI y)), (14, .int (nI tn)), (12, .ref (q 10)), (11, .ref (q 9)), (10, .ref (q 8)), (9, .ref (q 7)), (8, .ref (q 6)), (7, .ref (q 5)), (6, .ref (q 4)), (5, .ref (q 3)), (4, .ref (q 2)), (3, .ref (q 1)), (2, .ref (q 0)), (1, .ref (u 30)), (0, .ref b9)]) hx hb dL_law_485 hl (by decide) rfl (fun ls hl => ?_)
    refine lv_iload hx hb dL_law_487 (lv_at hl 1 rfl) ?_
    refine lv_if_lt (tgt := 511) hx hb dL_law_489 (by decide) (fun z9 => absurd z9 (nI_nlt0 (by omega))) (fun _ => ?_)
    refine lv_aload_n hx hb dL_law_492 rfl (lv_at hl 17 rfl) ?_
    refine lv_aload_n hx hb dL_law_493 rfl (lv_at hl 16 rfl) ?_
    refine lv_aload hx hb dL_law_494 (lv_at hl 15 rfl) ?_
    refine lv_aload hx hb dL_law_496 (lv_at hl 14 rfl) ?_
    refine lv_aload hx hb dL_law_498 (lv_at hl 13 rfl) ?_
    refine lv_aload hx hb dL_law_500 (lv_at hl 12 rfl) ?_
    refine lv_iload hx hb dL_law_502 (lv_at hl 2 rfl) ?_
    refine lv_iconst (v := 1) hx hb dL_law_504 (by decide) ?_
    refine lv_iload hx hb dL_law_505 (lv_at hl 3 rfl) ?_
    refine lv_iconst (v := 0) hx hb dL_law_507 (by decide) ?_
    refine ix_la F hK hA hC hS [.ref (q 0), .ref (q 1), .ref (q 2), .ref (q 3), .ref (q 4), .ref (q 5), .int (nI f), .int 1, .int (nI th), .int 0] (la_writes (n := n) hN f 1 th 0 (by first | exact hf00 | (simp only [lWr_at, upA_at]; simp; exact hf00)) (by omega) hf) hf6 (va_cwS 10 F.2.2.2.2 gL_law_L_writes rfl rfl rfl (by decide +kernel) ⟨Nat.le_of_ble_eq_true rfl, Nat.le_of_ble_eq_true rfl⟩) rfl hl.1 rfl (lv_room (Nat.le_of_ble_eq_true rfl)) ⟨by show _ ≤ 600086; omega, by show _ ≤ 7301442; omega⟩ dL_law_508 (fun H locs hA hC hS => ?_)
    refine lv_goto (tgt := 1430) hx hb dL_law_511 (by decide) ?_
    exact kk _ _ _ _ _ _ H locs _ _ ls (R2) (lT_wr hL.lt (lK_of R9.inv) (by omega) hf (kd := 1) (by omega) (by omega) hth (-1)) hA hC hS (by omega) (by omega) (lv_sub hl [0, 5, 6, 7, 8, 9, 10, 11, 12, 13, 14, 15, 16, 17, 18, 19] rfl)
  · skip
    refine lv_bipush (v := (-13)) hx hb dL_law_451 (by decide) ?_
    refine lv_goto (tgt := 463) hx hb dL_law_453 (by decide) ?_
    refine lv_istore (lv' := [(22, .int (-13)), (18, .int (nI f)), (19, .int (nI th)), (20, .int (nI ck)), (17, .int (nI y)), (14, .int (nI tn)), (12, .ref (q 10)), (11, .ref (q 9)), (10, .ref (q 8)), (9, .ref (q 7)), (8, .ref (q 6)), (7, .ref (q 5)), (6, .ref (q 4)), (5, .ref (q 3)), (4, .ref (q 2)), (3, .ref (q 1)), (2, .ref (q 0)), (1, .ref (u 30)), (0, .ref b9)]) hx hb dL_law_463 hl (by decide) rfl (fun ls hl => ?_)
    refine lv_aload_n hx hb dL_law_465 rfl (lv_at hl 17 rfl) ?_
    refine lv_iconst (v := 1) hx hb dL_law_466 (by decide) ?_
    refine lv_iload hx hb dL_law_467 (lv_at hl 1 rfl) ?_
    refine lv_iload hx hb dL_law_469 (lv_at hl 2 rfl) ?_
    refine lv_iconst (v := 0) hx hb dL_law_471 (by decide) ?_
    refine ix_does (val := (-13)) (cs' := cs) (op := cTake cs (nI f) (nI th)) F hK hX hNz (fun x h => h) hA hC R9 hS [.ref (u 30), .int 1, .int (nI f), .int (nI th), .int 0] (fun V pq sp cn e sz b L w nx z0 h1 h2 h3 h4 h5 h6 h7 h8 => by subst h1; exact ld_take hfl h2 (nI f) (nI th) 0 h3 h4 h5 h6 h7 h8) (dt_no hL hf hth c_1) (vx_cwSW 5 F.2.2.2.2 gL_law_L_does rfl rfl rfl (by decide +kernel) ⟨Nat.le_of_ble_eq_true rfl, Nat.le_of_ble_eq_true rfl⟩) rfl hl.1 rfl (lv_room (Nat.le_of_ble_eq_true rfl)) ⟨by show _ ≤ 600086; omega, by show _ ≤ 7301442; omega⟩ dL_law_472 (fun H locs hA hC hS => ?_)
    refine lv_iload hx hb dL_law_475 (lv_at hl 0 rfl) ?_
    refine lv_icmp_ne (tgt := 484) hx hb dL_law_477 (by decide) (fun z9 => absurd z9 (by decide)) (fun _ => ?_)
    refine lv_iconst (v := 1) hx hb dL_law_480 (by decide) ?_
    refine lv_goto (tgt := 485) hx hb dL_law_481 (by decide) ?_
    refine lv_istore (lv' := [(13, .int 1), (22, .int (-13)), (18, .int (nI f)), (19, .int (nI th)), (20, .int (nI ck)), (17, .int (nI y)), (14, .int (nI tn)), (12, .ref (q 10)), (11, .ref (q 9)), (10, .ref (q 8)), (9, .ref (q 7)), (8, .ref (q 6)), (7, .ref (q 5)), (6, .ref (q 4)), (5, .ref (q 3)), (4, .ref (q 2)), (3, .ref (q 1)), (2, .ref (q 0)), (1, .ref (u 30)), (0, .ref b9)]) hx hb dL_law_485 hl (by decide) rfl (fun ls hl => ?_)
    refine lv_iload hx hb dL_law_487 (lv_at hl 1 rfl) ?_
    refine lv_if_lt (tgt := 511) hx hb dL_law_489 (by decide) (fun _ => ?_) (fun z9 => absurd (by decide) z9)
    refine lv_goto (tgt := 1430) hx hb dL_law_511 (by decide) ?_
    exact kk _ _ _ _ _ _ H locs _ _ ls (R9) (hL.lt) hA hC hS (by omega) (by omega) (lv_sub hl [0, 5, 6, 7, 8, 9, 10, 11, 12, 13, 14, 15, 16, 17, 18, 19] rfl)
set_option maxHeartbeats 8000000 in
set_option maxRecDepth 100000 in
theorem lf_guest {p : Program} {l : Launch} {e9 : Env} {s : State} {m : MethodId} {b9 : Nat} {below : List Frame} {meth : Method} {c : Code} {D : va_G} {u q : Nat → Nat} {cI cII : ClassId} {sa : Nat → Nat} (hfl : l.stackTraces = false) (F : CallFix p m c cL_law 26 s #[Value.ref b9] lw_tbl RL) (hK : va_K D vwCl (cT cI cII) s) (hX : xF (fun x => s.heap.size ≤ x) sa s) (hNz : wzN s) (hN : (lA q).Nodup) (hq : ∀ x, x ∈ lA q → s.heap.size ≤ x) {n cm : Nat} {a : Nat → Nat → Int32} {kn : Nat → Bool} {cs : CS} {l9 : List Nat} {F9 : FF} {f th ck y tn : Nat} {H : Heap} {locs : List Loc} {cel slo : Nat} {ls : Array Slot}  (hf : f < 5) (hth : th < 40) (hck : (cm = 0 → ck = 0) ∧ (0 < cm → ck < cm)) (hy : y < 134217728) (R9 : tRel n cm a kn cs) (hL : LV n cm a kn f l9 F9 (rdA (frV f) (cs.1 12) cs.2.2)) (hcel : cel ≤ 590000) (hslo : slo ≤ 7000000) (hA : va_P D vwCl (lX q cI F9) H) (hC : sW D u cI cII (fun x => s.heap.size ≤ x) (fun y => y ∈ lA q) cs H) (hS : va_S (fun x => s.heap.size ≤ x) s.heap H locs) (hn : n < 43) (kk : ∀ (n1 cm1 : Nat) (a1 : Nat → Nat → Int32) (kn1 : Nat → Bool) (cs1 : CS) (F1 : FF) (H : Heap) (locs : List Loc) (cel1 slo1 : Nat) (ls : Array Slot), tRel n1 cm1 a1 kn1 cs1 → lT n1 cm1 a1 kn1 F1 → va_P D vwCl (lX q cI F1) H → sW D u cI cII (fun x => s.heap.size ≤ x) (fun y => y ∈ lA q) cs1 H → va_S (fun x => s.heap.size ≤ x) s.heap H locs → cel1 ≤ cel + 46 → slo1 ≤ slo + 440 → lv_has ls 26 [(13, .int 1), (17, .int (nI y)), (14, .int (nI tn)), (12, .ref (q 10)), (11, .ref (q 9)), (10, .ref (q 8)), (9, .ref (q 7)), (8, .ref (q 6)), (7, .ref (q 5)), (6, .ref (q 4)), (5, .ref (q 3)), (4, .ref (q 2)), (3, .ref (q 1)), (2, .ref (q 0)), (1, .ref (u 30)), (0, .ref b9)] → lwW p l e9 s m b9 below meth c H locs cel1 slo1 (F0 m 1430 ls [])) (hl : lv_has ls 26 [(18, .int (nI f)), (19, .int (nI th)), (20, .int (nI ck)), (17, .int (nI y)), (14, .int (nI tn)), (12, .ref (q 10)), (11, .ref (q 9)), (10, .ref (q 8)), (9, .ref (q 7)), (8, .ref (q 6)), (7, .ref (q 5)), (6, .ref (q 4)), (5, .ref (q 3)), (4, .ref (q 2)), (3, .ref (q 1)), (2, .ref (q 0)), (1, .ref (u 30)), (0, .ref b9)]) : lwW p l e9 s m b9 below meth c H locs cel slo (F0 m 526 ls []) := by
  have hx := F.1
  have hb := F.2.1
  have hf00 : F9 0 0 = nI n := hL.lt.f00
  have hf01 : F9 0 1 = nI cm := hL.lt.f01
  have hn64 := hL.lt.n64
  have hcm10 := hL.lt.cm10
  have hf6 : ∀ x, x ∈ [q 0, q 1, q 2, q 3, q 4, q 5] → x ∈ lA q ∧ s.heap.size ≤ x := fun x hx => by
    have h : x ∈ lA q := by simp only [List.mem_cons, List.not_mem_nil, or_false] at hx; rcases hx with e | e | e | e | e | e <;> rw [e] <;> exact lA_in q (by decide)
    exact ⟨h, hq x h⟩
  refine lv_iload hx hb dL_law_526 (lv_at hl 3 rfl) ?_
  refine lv_iconst (v := 5) hx hb dL_law_528 (by decide) ?_
  refine lw_divN hx hb (i := y) (j := 5) (by omega) (by omega) (by omega) dL_law_529 ?_
  refine lv_iconst (v := 4) hx hb dL_law_530 (by decide) ?_
  refine lw_remN hx hb (i := (y / 5)) (j := 4) (by omega) (by omega) (by omega) dL_law_531 ?_
  refine lv_istore (lv' := [(22, .int (nI ((y / 5) % 4))), (18, .int (nI f)), (19, .int (nI th)), (20, .int (nI ck)), (17, .int (nI y)), (14, .int (nI tn)), (12, .ref (q 10)), (11, .ref (q 9)), (10, .ref (q 8)), (9, .ref (q 7)), (8, .ref (q 6)), (7, .ref (q 5)), (6, .ref (q 4)), (5, .ref (q 3)), (4, .ref (q 2)), (3, .ref (q 1)), (2, .ref (q 0)), (1, .ref (u 30)), (0, .ref b9)]) hx hb dL_law_532 hl (by decide) rfl (fun ls hl => ?_)
  refine lv_iload hx hb dL_law_534 (lv_at hl 4 rfl) ?_
  refine lv_bipush (v := 20) hx hb dL_law_536 (by decide) ?_
  refine lw_divN hx hb (i := y) (j := 20) (by omega) (by omega) (by omega) dL_law_538 ?_
  refine lv_bipush (v := 10) hx hb dL_law_539 (by decide) ?_
  refine lw_remN hx hb (i := (y / 20)) (j := 10) (by omega) (by omega) (by omega) dL_law_541 ?_
  refine lv_istore (lv' := [(23, .int (nI ((y / 20) % 10))), (22, .int (nI ((y / 5) % 4))), (18, .int (nI f)), (19, .int (nI th)), (20, .int (nI ck)), (17, .int (nI y)), (14, .int (nI tn)), (12, .ref (q 10)), (11, .ref (q 9)), (10, .ref (q 8)), (9, .ref (q 7)), (8, .ref (q 6)), (7, .ref (q 5)), (6, .ref (q 4)), (5, .ref (q 3)), (4, .ref (q 2)), (3, .ref (q 1)), (2, .ref (q 0)), (1, .ref (u 30)), (0, .ref b9)]) hx hb dL_law_542 hl (by decide) rfl (fun ls hl => ?_)
  refine lv_iload hx hb dL_law_544 (lv_at hl 0 rfl) ?_
  refine lv_iload hx hb dL_law_546 (lv_at hl 5 rfl) ?_
  refine lv_sipush (v := 200) hx hb dL_law_548 (by decide) ?_
  refine lw_divN hx hb (i := y) (j := 200) (by omega) (by omega) (by omega) dL_law_551 ?_
  refine lv_iconst (v := 5) hx hb dL_law_552 (by decide) ?_
  refine lw_remN hx hb (i := (y / 200)) (j := 5) (by omega) (by omega) (by omega) dL_law_553 ?_
  refine lw_add hx hb (i := ((y / 20) % 10)) (j := ((y / 200) % 5)) dL_law_554 ?_
  refine lv_istore (lv' := [(24, .int (nI (((y / 20) % 10) + ((y / 200) % 5)))), (23, .int (nI ((y / 20) % 10))), (22, .int (nI ((y / 5) % 4))), (18, .int (nI f)), (19, .int (nI th)), (20, .int (nI ck)), (17, .int (nI y)), (14, .int (nI tn)), (12, .ref (q 10)), (11, .ref (q 9)), (10, .ref (q 8)), (9, .ref (q 7)), (8, .ref (q 6)), (7, .ref (q 5)), (6, .ref (q 4)), (5, .ref (q 3)), (4, .ref (q 2)), (3, .ref (q 1)), (2, .ref (q 0)), (1, .ref (u 30)), (0, .ref b9)]) hx hb dL_law_555 hl (by decide) rfl (fun ls hl => ?_)
  refine lv_iload hx hb dL_law_557 (lv_at hl 6 rfl) ?_
  refine lv_bipush (v := 7) hx hb dL_law_559 (by decide) ?_
  refine lw_divN hx hb (i := y) (j := 7) (by omega) (by omega) (by omega) dL_law_561 ?_
  refine lv_iconst (v := 4) hx hb dL_law_562 (by decide) ?_
  refine lw_remN hx hb (i := (y / 7)) (j := 4) (by omega) (by omega) (by omega) dL_law_563 ?_
  refine lw_zle (tgt := 571) hx hb ((y / 7) % 4) (by omega) dL_law_564 (by decide) (fun c_1 => ?_) (fun c_1 => ?_)
  · skip
    refine lv_iload hx hb dL_law_571 (lv_at hl 6 rfl) ?_
    refine lv_bipush (v := 28) hx hb dL_law_573 (by decide) ?_
    refine lw_divN hx hb (i := y) (j := 28) (by omega) (by omega) (by omega) dL_law_575 ?_
    refine lv_sipush (v := 256) hx hb dL_law_576 (by decide) ?_
    refine lw_remN hx hb (i := (y / 28)) (j := 256) (by omega) (by omega) (by omega) dL_law_579 ?_
    refine lv_istore (lv' := [(25, .int (nI ((y / 28) % 256))), (24, .int (nI (((y / 20) % 10) + ((y / 200) % 5)))), (23, .int (nI ((y / 20) % 10))), (22, .int (nI ((y / 5) % 4))), (18, .int (nI f)), (19, .int (nI th)), (20, .int (nI ck)), (17, .int (nI y)), (14, .int (nI tn)), (12, .ref (q 10)), (11, .ref (q 9)), (10, .ref (q 8)), (9, .ref (q 7)), (8, .ref (q 6)), (7, .ref (q 5)), (6, .ref (q 4)), (5, .ref (q 3)), (4, .ref (q 2)), (3, .ref (q 1)), (2, .ref (q 0)), (1, .ref (u 30)), (0, .ref b9)]) hx hb dL_law_580 hl (by decide) rfl (fun ls hl => ?_)
    refine lv_aload_n hx hb dL_law_582 rfl (lv_at hl 20 rfl) ?_
    refine lv_iload hx hb dL_law_583 (lv_at hl 4 rfl) ?_
    refine lv_iload hx hb dL_law_585 (lv_at hl 3 rfl) ?_
    refine lv_iload hx hb dL_law_587 (lv_at hl 2 rfl) ?_
    refine lv_iload hx hb dL_law_589 (lv_at hl 1 rfl) ?_
    refine lv_iload hx hb dL_law_591 (lv_at hl 0 rfl) ?_
    obtain ⟨cs2, ev9, R2⟩ := dg_yes R9 hL.lt hf (g := ((y / 5) % 4)) (d1 := ((y / 20) % 10)) (d2 := (((y / 20) % 10) + ((y / 200) % 5))) (ds := ((y / 28) % 256)) (by omega) (by omega) (by omega) (by omega) (by omega)
    refine ix_tell (val := (F9 5 f + 1)) (cs' := cs2) F hK hX (fun x h => h) hA hC R9 hS [.int (nI f), .int (nI ((y / 5) % 4)), .int (nI ((y / 20) % 10)), .int (nI (((y / 20) % 10) + ((y / 200) % 5))), .int (nI ((y / 28) % 256))] (sm_eq (ev9) (sm_guest hfl (nI f) (nI ((y / 5) % 4)) (nI ((y / 20) % 10)) (nI (((y / 20) % 10) + ((y / 200) % 5))) (nI ((y / 28) % 256)))) (cwV 5 F.2.2.2.2 gL_law_X3_guest rfl rfl rfl (by decide +kernel) ⟨Nat.le_of_ble_eq_true rfl, Nat.le_of_ble_eq_true rfl⟩) rfl hl.1 rfl (lv_room (Nat.le_of_ble_eq_true rfl)) ⟨by show _ ≤ 600086; omega, by show _ ≤ 7301442; omega⟩ dL_law_593 (fun H locs hA hC hS => ?_)
    refine lv_aload hx hb dL_law_596 (lv_at hl 14 rfl) ?_
    refine lv_iload hx hb dL_law_598 (lv_at hl 4 rfl) ?_
    refine cg_ald F hK hA 5 5 rfl f rfl (by omega) (by decide) dL_law_600 ?_
    refine lv_iconst (v := 1) hx hb dL_law_601 (by decide) ?_
    refine lv_iadd hx hb dL_law_602 ?_
    refine lv_icmp_ne (tgt := 610) hx hb dL_law_603 (by decide) (fun z9 => absurd (rfl) z9) (fun _ => ?_)
    refine lv_iconst (v := 1) hx hb dL_law_606 (by decide) ?_
    refine lv_goto (tgt := 611) hx hb dL_law_607 (by decide) ?_
    refine lv_istore (lv' := [(13, .int 1), (25, .int (nI ((y / 28) % 256))), (24, .int (nI (((y / 20) % 10) + ((y / 200) % 5)))), (23, .int (nI ((y / 20) % 10))), (22, .int (nI ((y / 5) % 4))), (18, .int (nI f)), (19, .int (nI th)), (20, .int (nI ck)), (17, .int (nI y)), (14, .int (nI tn)), (12, .ref (q 10)), (11, .ref (q 9)), (10, .ref (q 8)), (9, .ref (q 7)), (8, .ref (q 6)), (7, .ref (q 5)), (6, .ref (q 4)), (5, .ref (q 3)), (4, .ref (q 2)), (3, .ref (q 1)), (2, .ref (q 0)), (1, .ref (u 30)), (0, .ref b9)]) hx hb dL_law_611 hl (by decide) rfl (fun ls hl => ?_)
    refine lv_aload_n hx hb dL_law_613 rfl (lv_at hl 20 rfl) ?_
    refine lv_aload_n hx hb dL_law_614 rfl (lv_at hl 19 rfl) ?_
    refine lv_aload hx hb dL_law_615 (lv_at hl 18 rfl) ?_
    refine lv_aload hx hb dL_law_617 (lv_at hl 17 rfl) ?_
    refine lv_aload hx hb dL_law_619 (lv_at hl 16 rfl) ?_
    refine lv_aload hx hb dL_law_621 (lv_at hl 15 rfl) ?_
    refine lv_iload hx hb dL_law_623 (lv_at hl 5 rfl) ?_
    refine lv_iconst (v := 2) hx hb dL_law_625 (by decide) ?_
    refine lv_iload hx hb dL_law_626 (lv_at hl 4 rfl) ?_
    refine lv_iload hx hb dL_law_628 (lv_at hl 3 rfl) ?_
    refine lv_bipush (v := 100) hx hb dL_law_630 (by decide) ?_
    refine lv_iload hx hb dL_law_632 (lv_at hl 2 rfl) ?_
    refine lw_mul hx hb (i := 100) (j := (((y / 20) % 10) + ((y / 200) % 5))) dL_law_634 ?_
    refine lw_add hx hb (i := ((y / 20) % 10)) (j := (100 * (((y / 20) % 10) + ((y / 200) % 5)))) dL_law_635 ?_
    refine lv_sipush (v := 10000) hx hb dL_law_636 (by decide) ?_
    refine lv_iload hx hb dL_law_639 (lv_at hl 1 rfl) ?_
    refine lw_mul hx hb (i := 10000) (j := ((y / 28) % 256)) dL_law_641 ?_
    refine lw_add hx hb (i := (((y / 20) % 10) + (100 * (((y / 20) % 10) + ((y / 200) % 5))))) (j := (10000 * ((y / 28) % 256))) dL_law_642 ?_
    refine ix_la F hK hA hC hS [.ref (q 0), .ref (q 1), .ref (q 2), .ref (q 3), .ref (q 4), .ref (q 5), .int (nI f), .int 2, .int (nI ((y / 5) % 4)), .int (nI ((((y / 20) % 10) + (100 * (((y / 20) % 10) + ((y / 200) % 5)))) + (10000 * ((y / 28) % 256))))] (la_writes (n := n) hN f 2 ((y / 5) % 4) (nI ((((y / 20) % 10) + (100 * (((y / 20) % 10) + ((y / 200) % 5)))) + (10000 * ((y / 28) % 256)))) (by first | exact hf00 | (simp only [lWr_at, upA_at]; simp; exact hf00)) (by omega) hf) hf6 (va_cwS 10 F.2.2.2.2 gL_law_L_writes rfl rfl rfl (by decide +kernel) ⟨Nat.le_of_ble_eq_true rfl, Nat.le_of_ble_eq_true rfl⟩) rfl hl.1 rfl (lv_room (Nat.le_of_ble_eq_true rfl)) ⟨by show _ ≤ 600086; omega, by show _ ≤ 7301442; omega⟩ dL_law_643 (fun H locs hA hC hS => ?_)
    refine lv_goto (tgt := 1430) hx hb dL_law_646 (by decide) ?_
    exact kk _ _ _ _ _ _ H locs _ _ ls (R2) (lT_gu hL.lt (lK_of R9.inv) (by omega) hf (g := ((y / 5) % 4)) (d1 := ((y / 20) % 10)) (d2 := (((y / 20) % 10) + ((y / 200) % 5))) (ds := ((y / 28) % 256)) (by omega) (by omega) (by omega) (by omega)) hA hC hS (by omega) (by omega) (lv_sub hl [0, 8, 9, 10, 11, 12, 13, 14, 15, 16, 17, 18, 19, 20, 21, 22] rfl)
  · skip
    refine lv_iconst (v := 0) hx hb dL_law_567 (by decide) ?_
    refine lv_goto (tgt := 580) hx hb dL_law_568 (by decide) ?_
    refine lw_N 0 rfl ?_
    refine lv_istore (lv' := [(25, .int (nI 0)), (24, .int (nI (((y / 20) % 10) + ((y / 200) % 5)))), (23, .int (nI ((y / 20) % 10))), (22, .int (nI ((y / 5) % 4))), (18, .int (nI f)), (19, .int (nI th)), (20, .int (nI ck)), (17, .int (nI y)), (14, .int (nI tn)), (12, .ref (q 10)), (11, .ref (q 9)), (10, .ref (q 8)), (9, .ref (q 7)), (8, .ref (q 6)), (7, .ref (q 5)), (6, .ref (q 4)), (5, .ref (q 3)), (4, .ref (q 2)), (3, .ref (q 1)), (2, .ref (q 0)), (1, .ref (u 30)), (0, .ref b9)]) hx hb dL_law_580 hl (by decide) rfl (fun ls hl => ?_)
    refine lv_aload_n hx hb dL_law_582 rfl (lv_at hl 20 rfl) ?_
    refine lv_iload hx hb dL_law_583 (lv_at hl 4 rfl) ?_
    refine lv_iload hx hb dL_law_585 (lv_at hl 3 rfl) ?_
    refine lv_iload hx hb dL_law_587 (lv_at hl 2 rfl) ?_
    refine lv_iload hx hb dL_law_589 (lv_at hl 1 rfl) ?_
    refine lv_iload hx hb dL_law_591 (lv_at hl 0 rfl) ?_
    obtain ⟨cs2, ev9, R2⟩ := dg_yes R9 hL.lt hf (g := ((y / 5) % 4)) (d1 := ((y / 20) % 10)) (d2 := (((y / 20) % 10) + ((y / 200) % 5))) (ds := 0) (by omega) (by omega) (by omega) (by omega) (by omega)
    refine ix_tell (val := (F9 5 f + 1)) (cs' := cs2) F hK hX (fun x h => h) hA hC R9 hS [.int (nI f), .int (nI ((y / 5) % 4)), .int (nI ((y / 20) % 10)), .int (nI (((y / 20) % 10) + ((y / 200) % 5))), .int (nI 0)] (sm_eq (ev9) (sm_guest hfl (nI f) (nI ((y / 5) % 4)) (nI ((y / 20) % 10)) (nI (((y / 20) % 10) + ((y / 200) % 5))) (nI 0))) (cwV 5 F.2.2.2.2 gL_law_X3_guest rfl rfl rfl (by decide +kernel) ⟨Nat.le_of_ble_eq_true rfl, Nat.le_of_ble_eq_true rfl⟩) rfl hl.1 rfl (lv_room (Nat.le_of_ble_eq_true rfl)) ⟨by show _ ≤ 600086; omega, by show _ ≤ 7301442; omega⟩ dL_law_593 (fun H locs hA hC hS => ?_)
    refine lv_aload hx hb dL_law_596 (lv_at hl 14 rfl) ?_
    refine lv_iload hx hb dL_law_598 (lv_at hl 4 rfl) ?_
    refine cg_ald F hK hA 5 5 rfl f rfl (by omega) (by decide) dL_law_600 ?_
    refine lv_iconst (v := 1) hx hb dL_law_601 (by decide) ?_
    refine lv_iadd hx hb dL_law_602 ?_
    refine lv_icmp_ne (tgt := 610) hx hb dL_law_603 (by decide) (fun z9 => absurd (rfl) z9) (fun _ => ?_)
    refine lv_iconst (v := 1) hx hb dL_law_606 (by decide) ?_
    refine lv_goto (tgt := 611) hx hb dL_law_607 (by decide) ?_
    refine lv_istore (lv' := [(13, .int 1), (25, .int (nI 0)), (24, .int (nI (((y / 20) % 10) + ((y / 200) % 5)))), (23, .int (nI ((y / 20) % 10))), (22, .int (nI ((y / 5) % 4))), (18, .int (nI f)), (19, .int (nI th)), (20, .int (nI ck)), (17, .int (nI y)), (14, .int (nI tn)), (12, .ref (q 10)), (11, .ref (q 9)), (10, .ref (q 8)), (9, .ref (q 7)), (8, .ref (q 6)), (7, .ref (q 5)), (6, .ref (q 4)), (5, .ref (q 3)), (4, .ref (q 2)), (3, .ref (q 1)), (2, .ref (q 0)), (1, .ref (u 30)), (0, .ref b9)]) hx hb dL_law_611 hl (by decide) rfl (fun ls hl => ?_)
    refine lv_aload_n hx hb dL_law_613 rfl (lv_at hl 20 rfl) ?_
    refine lv_aload_n hx hb dL_law_614 rfl (lv_at hl 19 rfl) ?_
    refine lv_aload hx hb dL_law_615 (lv_at hl 18 rfl) ?_
    refine lv_aload hx hb dL_law_617 (lv_at hl 17 rfl) ?_
    refine lv_aload hx hb dL_law_619 (lv_at hl 16 rfl) ?_
    refine lv_aload hx hb dL_law_621 (lv_at hl 15 rfl) ?_
    refine lv_iload hx hb dL_law_623 (lv_at hl 5 rfl) ?_
    refine lv_iconst (v := 2) hx hb dL_law_625 (by decide) ?_
    refine lv_iload hx hb dL_law_626 (lv_at hl 4 rfl) ?_
    refine lv_iload hx hb dL_law_628 (lv_at hl 3 rfl) ?_
    refine lv_bipush (v := 100) hx hb dL_law_630 (by decide) ?_
    refine lv_iload hx hb dL_law_632 (lv_at hl 2 rfl) ?_
    refine lw_mul hx hb (i := 100) (j := (((y / 20) % 10) + ((y / 200) % 5))) dL_law_634 ?_
    refine lw_add hx hb (i := ((y / 20) % 10)) (j := (100 * (((y / 20) % 10) + ((y / 200) % 5)))) dL_law_635 ?_
    refine lv_sipush (v := 10000) hx hb dL_law_636 (by decide) ?_
    refine lv_iload hx hb dL_law_639 (lv_at hl 1 rfl) ?_
    refine lw_mul hx hb (i := 10000) (j := 0) dL_law_641 ?_
    refine lw_add hx hb (i := (((y / 20) % 10) + (100 * (((y / 20) % 10) + ((y / 200) % 5))))) (j := (10000 * 0)) dL_law_642 ?_
    refine ix_la F hK hA hC hS [.ref (q 0), .ref (q 1), .ref (q 2), .ref (q 3), .ref (q 4), .ref (q 5), .int (nI f), .int 2, .int (nI ((y / 5) % 4)), .int (nI ((((y / 20) % 10) + (100 * (((y / 20) % 10) + ((y / 200) % 5)))) + (10000 * 0)))] (la_writes (n := n) hN f 2 ((y / 5) % 4) (nI ((((y / 20) % 10) + (100 * (((y / 20) % 10) + ((y / 200) % 5)))) + (10000 * 0))) (by first | exact hf00 | (simp only [lWr_at, upA_at]; simp; exact hf00)) (by omega) hf) hf6 (va_cwS 10 F.2.2.2.2 gL_law_L_writes rfl rfl rfl (by decide +kernel) ⟨Nat.le_of_ble_eq_true rfl, Nat.le_of_ble_eq_true rfl⟩) rfl hl.1 rfl (lv_room (Nat.le_of_ble_eq_true rfl)) ⟨by show _ ≤ 600086; omega, by show _ ≤ 7301442; omega⟩ dL_law_643 (fun H locs hA hC hS => ?_)
    refine lv_goto (tgt := 1430) hx hb dL_law_646 (by decide) ?_
    exact kk _ _ _ _ _ _ H locs _ _ ls (R2) (lT_gu hL.lt (lK_of R9.inv) (by omega) hf (g := ((y / 5) % 4)) (d1 := ((y / 20) % 10)) (d2 := (((y / 20) % 10) + ((y / 200) % 5))) (ds := 0) (by omega) (by omega) (by omega) (by omega)) hA hC hS (by omega) (by omega) (lv_sub hl [0, 8, 9, 10, 11, 12, 13, 14, 15, 16, 17, 18, 19, 20, 21, 22] rfl)
set_option maxHeartbeats 8000000 in
set_option maxRecDepth 100000 in
theorem lf_plan {p : Program} {l : Launch} {e9 : Env} {s : State} {m : MethodId} {b9 : Nat} {below : List Frame} {meth : Method} {c : Code} {D : va_G} {u q : Nat → Nat} {cI cII : ClassId} {sa : Nat → Nat} (hfl : l.stackTraces = false) (F : CallFix p m c cL_law 26 s #[Value.ref b9] lw_tbl RL) (hK : va_K D vwCl (cT cI cII) s) (hX : xF (fun x => s.heap.size ≤ x) sa s) (hNz : wzN s) (hN : (lA q).Nodup) (hq : ∀ x, x ∈ lA q → s.heap.size ≤ x) {n cm : Nat} {a : Nat → Nat → Int32} {kn : Nat → Bool} {cs : CS} {l9 : List Nat} {F9 : FF} {f th ck y tn : Nat} {H : Heap} {locs : List Loc} {cel slo : Nat} {ls : Array Slot}  (hf : f < 5) (hth : th < 40) (hck : (cm = 0 → ck = 0) ∧ (0 < cm → ck < cm)) (hy : y < 134217728) (R9 : tRel n cm a kn cs) (hL : LV n cm a kn f l9 F9 (rdA (frV f) (cs.1 12) cs.2.2)) (hcel : cel ≤ 590000) (hslo : slo ≤ 7000000) (hA : va_P D vwCl (lX q cI F9) H) (hC : sW D u cI cII (fun x => s.heap.size ≤ x) (fun y => y ∈ lA q) cs H) (hS : va_S (fun x => s.heap.size ≤ x) s.heap H locs) (hn : n < 43) (hcm : cm < 10) (kk : ∀ (n1 cm1 : Nat) (a1 : Nat → Nat → Int32) (kn1 : Nat → Bool) (cs1 : CS) (F1 : FF) (H : Heap) (locs : List Loc) (cel1 slo1 : Nat) (ls : Array Slot), tRel n1 cm1 a1 kn1 cs1 → lT n1 cm1 a1 kn1 F1 → va_P D vwCl (lX q cI F1) H → sW D u cI cII (fun x => s.heap.size ≤ x) (fun y => y ∈ lA q) cs1 H → va_S (fun x => s.heap.size ≤ x) s.heap H locs → cel1 ≤ cel + 46 → slo1 ≤ slo + 440 → lv_has ls 26 [(13, .int 1), (17, .int (nI y)), (14, .int (nI tn)), (12, .ref (q 10)), (11, .ref (q 9)), (10, .ref (q 8)), (9, .ref (q 7)), (8, .ref (q 6)), (7, .ref (q 5)), (6, .ref (q 4)), (5, .ref (q 3)), (4, .ref (q 2)), (3, .ref (q 1)), (2, .ref (q 0)), (1, .ref (u 30)), (0, .ref b9)] → lwW p l e9 s m b9 below meth c H locs cel1 slo1 (F0 m 1430 ls [])) (hl : lv_has ls 26 [(18, .int (nI f)), (19, .int (nI th)), (20, .int (nI ck)), (17, .int (nI y)), (14, .int (nI tn)), (12, .ref (q 10)), (11, .ref (q 9)), (10, .ref (q 8)), (9, .ref (q 7)), (8, .ref (q 6)), (7, .ref (q 5)), (6, .ref (q 4)), (5, .ref (q 3)), (4, .ref (q 2)), (3, .ref (q 1)), (2, .ref (q 0)), (1, .ref (u 30)), (0, .ref b9)]) : lwW p l e9 s m b9 below meth c H locs cel slo (F0 m 669 ls []) := by
  have hx := F.1
  have hb := F.2.1
  have hf00 : F9 0 0 = nI n := hL.lt.f00
  have hf01 : F9 0 1 = nI cm := hL.lt.f01
  have hn64 := hL.lt.n64
  have hcm10 := hL.lt.cm10
  have hf6 : ∀ x, x ∈ [q 0, q 1, q 2, q 3, q 4, q 5] → x ∈ lA q ∧ s.heap.size ≤ x := fun x hx => by
    have h : x ∈ lA q := by simp only [List.mem_cons, List.not_mem_nil, or_false] at hx; rcases hx with e | e | e | e | e | e <;> rw [e] <;> exact lA_in q (by decide)
    exact ⟨h, hq x h⟩
  refine lv_iload hx hb dL_law_669 (lv_at hl 3 rfl) ?_
  refine lv_iconst (v := 5) hx hb dL_law_671 (by decide) ?_
  refine lw_divN hx hb (i := y) (j := 5) (by omega) (by omega) (by omega) dL_law_672 ?_
  refine lv_iconst (v := 3) hx hb dL_law_673 (by decide) ?_
  refine lw_remN hx hb (i := (y / 5)) (j := 3) (by omega) (by omega) (by omega) dL_law_674 ?_
  refine lv_istore (lv' := [(22, .int (nI ((y / 5) % 3))), (18, .int (nI f)), (19, .int (nI th)), (20, .int (nI ck)), (17, .int (nI y)), (14, .int (nI tn)), (12, .ref (q 10)), (11, .ref (q 9)), (10, .ref (q 8)), (9, .ref (q 7)), (8, .ref (q 6)), (7, .ref (q 5)), (6, .ref (q 4)), (5, .ref (q 3)), (4, .ref (q 2)), (3, .ref (q 1)), (2, .ref (q 0)), (1, .ref (u 30)), (0, .ref b9)]) hx hb dL_law_675 hl (by decide) rfl (fun ls hl => ?_)
  refine lv_iload hx hb dL_law_677 (lv_at hl 4 rfl) ?_
  refine lv_bipush (v := 15) hx hb dL_law_679 (by decide) ?_
  refine lw_divN hx hb (i := y) (j := 15) (by omega) (by omega) (by omega) dL_law_681 ?_
  refine lv_bipush (v := 12) hx hb dL_law_682 (by decide) ?_
  refine lw_remN hx hb (i := (y / 15)) (j := 12) (by omega) (by omega) (by omega) dL_law_684 ?_
  refine lv_istore (lv' := [(23, .int (nI ((y / 15) % 12))), (22, .int (nI ((y / 5) % 3))), (18, .int (nI f)), (19, .int (nI th)), (20, .int (nI ck)), (17, .int (nI y)), (14, .int (nI tn)), (12, .ref (q 10)), (11, .ref (q 9)), (10, .ref (q 8)), (9, .ref (q 7)), (8, .ref (q 6)), (7, .ref (q 5)), (6, .ref (q 4)), (5, .ref (q 3)), (4, .ref (q 2)), (3, .ref (q 1)), (2, .ref (q 0)), (1, .ref (u 30)), (0, .ref b9)]) hx hb dL_law_685 hl (by decide) rfl (fun ls hl => ?_)
  refine lv_aload hx hb dL_law_687 (lv_at hl 13 rfl) ?_
  refine lv_aload hx hb dL_law_689 (lv_at hl 11 rfl) ?_
  refine lv_aload hx hb dL_law_691 (lv_at hl 7 rfl) ?_
  refine lv_iload hx hb dL_law_693 (lv_at hl 1 rfl) ?_
  refine lv_iload hx hb dL_law_695 (lv_at hl 0 rfl) ?_
  refine ro_callS F hK [.ref (q 4), .ref (q 6), .ref (q 10), .int (nI ((y / 5) % 3)), .int (nI ((y / 15) % 12))] (lc_isDisliked hA ((y / 5) % 3) (nI ((y / 15) % 12)) hL.gok (d_ok hL.gok _) (by omega)) (va_cwS 5 F.2.2.2.2 gL_law_L_isDisliked rfl rfl rfl (by decide +kernel) ⟨Nat.le_of_ble_eq_true rfl, Nat.le_of_ble_eq_true rfl⟩) rfl hl.1 rfl (lv_room (Nat.le_of_ble_eq_true rfl)) ⟨by show _ ≤ 600086; omega, by show _ ≤ 7301442; omega⟩ dL_law_697 ?_
  refine lw_bne (tgt := 707) hx hb dL_law_700 (by decide) (fun c_1 => ?_) (fun c_1 => ?_)
  · skip
    refine lv_iconst (v := 0) hx hb dL_law_707 (by decide) ?_
    refine lv_istore (lv' := [(24, .int 0), (23, .int (nI ((y / 15) % 12))), (22, .int (nI ((y / 5) % 3))), (18, .int (nI f)), (19, .int (nI th)), (20, .int (nI ck)), (17, .int (nI y)), (14, .int (nI tn)), (12, .ref (q 10)), (11, .ref (q 9)), (10, .ref (q 8)), (9, .ref (q 7)), (8, .ref (q 6)), (7, .ref (q 5)), (6, .ref (q 4)), (5, .ref (q 3)), (4, .ref (q 2)), (3, .ref (q 1)), (2, .ref (q 0)), (1, .ref (u 30)), (0, .ref b9)]) hx hb dL_law_708 hl (by decide) rfl (fun ls hl => ?_)
    refine lv_aload_n hx hb dL_law_710 rfl (lv_at hl 19 rfl) ?_
    refine lv_iconst (v := 3) hx hb dL_law_711 (by decide) ?_
    refine lv_iload hx hb dL_law_712 (lv_at hl 3 rfl) ?_
    refine lv_iload hx hb dL_law_714 (lv_at hl 2 rfl) ?_
    refine lv_iload hx hb dL_law_716 (lv_at hl 1 rfl) ?_
    refine ix_does (val := (-13)) (cs' := cs) (op := cPlan cs (nI f) (nI ((y / 5) % 3)) (nI ((y / 15) % 12))) F hK hX hNz (fun x h => h) hA hC R9 hS [.ref (u 30), .int 3, .int (nI f), .int (nI ((y / 5) % 3)), .int (nI ((y / 15) % 12))] (fun V pq sp cn e sz b L w nx z0 h1 h2 h3 h4 h5 h6 h7 h8 => by subst h1; exact ld_plan hfl h2 (nI f) (nI ((y / 5) % 3)) (nI ((y / 15) % 12)) h3 h4 h5 h6 h7 h8) (dpl_no R9 hL hf (by omega) (by omega) c_1) (vx_cwSW 5 F.2.2.2.2 gL_law_L_does rfl rfl rfl (by decide +kernel) ⟨Nat.le_of_ble_eq_true rfl, Nat.le_of_ble_eq_true rfl⟩) rfl hl.1 rfl (lv_room (Nat.le_of_ble_eq_true rfl)) ⟨by show _ ≤ 600086; omega, by show _ ≤ 7301442; omega⟩ dL_law_718 (fun H locs hA hC hS => ?_)
    refine lv_iload hx hb dL_law_721 (lv_at hl 0 rfl) ?_
    refine lv_if_eq (tgt := 732) hx hb dL_law_723 (by decide) (fun _ => ?_) (fun z9 => absurd (by decide) z9)
    refine lv_bipush (v := (-13)) hx hb dL_law_732 (by decide) ?_
    refine lv_icmp_ne (tgt := 741) hx hb dL_law_734 (by decide) (fun z9 => absurd z9 (by decide)) (fun _ => ?_)
    refine lv_iconst (v := 1) hx hb dL_law_737 (by decide) ?_
    refine lv_goto (tgt := 742) hx hb dL_law_738 (by decide) ?_
    refine lv_istore (lv' := [(13, .int 1), (24, .int 0), (23, .int (nI ((y / 15) % 12))), (22, .int (nI ((y / 5) % 3))), (18, .int (nI f)), (19, .int (nI th)), (20, .int (nI ck)), (17, .int (nI y)), (14, .int (nI tn)), (12, .ref (q 10)), (11, .ref (q 9)), (10, .ref (q 8)), (9, .ref (q 7)), (8, .ref (q 6)), (7, .ref (q 5)), (6, .ref (q 4)), (5, .ref (q 3)), (4, .ref (q 2)), (3, .ref (q 1)), (2, .ref (q 0)), (1, .ref (u 30)), (0, .ref b9)]) hx hb dL_law_742 hl (by decide) rfl (fun ls hl => ?_)
    refine lv_iload hx hb dL_law_744 (lv_at hl 1 rfl) ?_
    refine lv_if_eq (tgt := 798) hx hb dL_law_746 (by decide) (fun _ => ?_) (fun z9 => absurd (by decide) z9)
    refine lv_goto (tgt := 1430) hx hb dL_law_798 (by decide) ?_
    exact kk _ _ _ _ _ _ H locs _ _ ls (R9) (hL.lt) hA hC hS (by omega) (by omega) (lv_sub hl [0, 7, 8, 9, 10, 11, 12, 13, 14, 15, 16, 17, 18, 19, 20, 21] rfl)
  · skip
    refine lv_iconst (v := 1) hx hb dL_law_703 (by decide) ?_
    refine lv_goto (tgt := 708) hx hb dL_law_704 (by decide) ?_
    refine lv_istore (lv' := [(24, .int 1), (23, .int (nI ((y / 15) % 12))), (22, .int (nI ((y / 5) % 3))), (18, .int (nI f)), (19, .int (nI th)), (20, .int (nI ck)), (17, .int (nI y)), (14, .int (nI tn)), (12, .ref (q 10)), (11, .ref (q 9)), (10, .ref (q 8)), (9, .ref (q 7)), (8, .ref (q 6)), (7, .ref (q 5)), (6, .ref (q 4)), (5, .ref (q 3)), (4, .ref (q 2)), (3, .ref (q 1)), (2, .ref (q 0)), (1, .ref (u 30)), (0, .ref b9)]) hx hb dL_law_708 hl (by decide) rfl (fun ls hl => ?_)
    refine lv_aload_n hx hb dL_law_710 rfl (lv_at hl 19 rfl) ?_
    refine lv_iconst (v := 3) hx hb dL_law_711 (by decide) ?_
    refine lv_iload hx hb dL_law_712 (lv_at hl 3 rfl) ?_
    refine lv_iload hx hb dL_law_714 (lv_at hl 2 rfl) ?_
    refine lv_iload hx hb dL_law_716 (lv_at hl 1 rfl) ?_
    obtain ⟨cs2, ev9, R2⟩ := dpl_yes R9 hL hf (r := y / 5 % 3) (d := y / 15 % 12) (by omega) (by omega) (by omega) hcm c_1
    refine ix_does (val := nI cm) (cs' := cs2) (op := cPlan cs (nI f) (nI ((y / 5) % 3)) (nI ((y / 15) % 12))) F hK hX hNz (fun x h => h) hA hC R9 hS [.ref (u 30), .int 3, .int (nI f), .int (nI ((y / 5) % 3)), .int (nI ((y / 15) % 12))] (fun V pq sp cn e sz b L w nx z0 h1 h2 h3 h4 h5 h6 h7 h8 => by subst h1; exact ld_plan hfl h2 (nI f) (nI ((y / 5) % 3)) (nI ((y / 15) % 12)) h3 h4 h5 h6 h7 h8) (ev9) (vx_cwSW 5 F.2.2.2.2 gL_law_L_does rfl rfl rfl (by decide +kernel) ⟨Nat.le_of_ble_eq_true rfl, Nat.le_of_ble_eq_true rfl⟩) rfl hl.1 rfl (lv_room (Nat.le_of_ble_eq_true rfl)) ⟨by show _ ≤ 600086; omega, by show _ ≤ 7301442; omega⟩ dL_law_718 (fun H locs hA hC hS => ?_)
    refine lv_iload hx hb dL_law_721 (lv_at hl 0 rfl) ?_
    refine lv_if_eq (tgt := 732) hx hb dL_law_723 (by decide) (fun z9 => absurd z9 (by decide)) (fun _ => ?_)
    refine lv_aload_n hx hb dL_law_726 rfl (lv_at hl 18 rfl) ?_
    refine lv_iconst (v := 1) hx hb dL_law_727 (by decide) ?_
    refine cg_ald F hK hA 0 2 rfl 1 rfl (by omega) (by decide) dL_law_728 ?_
    refine lw_N cm hf01 ?_
    refine lv_goto (tgt := 734) hx hb dL_law_729 (by decide) ?_
    refine lv_icmp_ne (tgt := 741) hx hb dL_law_734 (by decide) (fun z9 => absurd (rfl) z9) (fun _ => ?_)
    refine lv_iconst (v := 1) hx hb dL_law_737 (by decide) ?_
    refine lv_goto (tgt := 742) hx hb dL_law_738 (by decide) ?_
    refine lv_istore (lv' := [(13, .int 1), (24, .int 1), (23, .int (nI ((y / 15) % 12))), (22, .int (nI ((y / 5) % 3))), (18, .int (nI f)), (19, .int (nI th)), (20, .int (nI ck)), (17, .int (nI y)), (14, .int (nI tn)), (12, .ref (q 10)), (11, .ref (q 9)), (10, .ref (q 8)), (9, .ref (q 7)), (8, .ref (q 6)), (7, .ref (q 5)), (6, .ref (q 4)), (5, .ref (q 3)), (4, .ref (q 2)), (3, .ref (q 1)), (2, .ref (q 0)), (1, .ref (u 30)), (0, .ref b9)]) hx hb dL_law_742 hl (by decide) rfl (fun ls hl => ?_)
    refine lv_iload hx hb dL_law_744 (lv_at hl 1 rfl) ?_
    refine lv_if_eq (tgt := 798) hx hb dL_law_746 (by decide) (fun z9 => absurd z9 (by decide)) (fun _ => ?_)
    refine lv_aload hx hb dL_law_749 (lv_at hl 12 rfl) ?_
    refine lv_iconst (v := 2) hx hb dL_law_751 (by decide) ?_
    refine lv_aload_n hx hb dL_law_752 rfl (lv_at hl 19 rfl) ?_
    refine lv_iconst (v := 1) hx hb dL_law_753 (by decide) ?_
    refine cg_ald F hK hA 0 2 rfl 1 rfl (by omega) (by decide) dL_law_754 ?_
    refine lw_N cm hf01 ?_
    refine lw_mul hx hb (i := 2) (j := cm) dL_law_755 ?_
    refine lv_iload hx hb dL_law_756 (lv_at hl 3 rfl) ?_
    refine ix_ast F hK hN hA hC hS 7 20 (by decide) (hq _ (lA_in q (by decide))) rfl (2 * cm) rfl (by omega) (by decide) rfl dL_law_758 (fun H locs hA hC hS => ?_)
    refine lv_aload hx hb dL_law_759 (lv_at hl 12 rfl) ?_
    refine lv_iconst (v := 2) hx hb dL_law_761 (by decide) ?_
    refine lv_aload_n hx hb dL_law_762 rfl (lv_at hl 19 rfl) ?_
    refine lv_iconst (v := 1) hx hb dL_law_763 (by decide) ?_
    refine cg_ald F hK hA 0 2 rfl 1 rfl (by omega) (by decide) dL_law_764 ?_
    refine lw_N cm (by first | exact hf01 | (simp only [lWr_at, upA_at]; simp; exact hf01)) ?_
    refine lw_mul hx hb (i := 2) (j := cm) dL_law_765 ?_
    refine lv_iconst (v := 1) hx hb dL_law_766 (by decide) ?_
    refine lw_add hx hb (i := (2 * cm)) (j := 1) dL_law_767 ?_
    refine lv_iload hx hb dL_law_768 (lv_at hl 2 rfl) ?_
    refine ix_ast F hK hN hA hC hS 7 20 (by decide) (hq _ (lA_in q (by decide))) rfl ((2 * cm) + 1) rfl (by omega) (by decide) rfl dL_law_770 (fun H locs hA hC hS => ?_)
    refine lv_aload_n hx hb dL_law_771 rfl (lv_at hl 19 rfl) ?_
    refine lv_aload_n hx hb dL_law_772 rfl (lv_at hl 18 rfl) ?_
    refine lv_aload hx hb dL_law_773 (lv_at hl 17 rfl) ?_
    refine lv_aload hx hb dL_law_775 (lv_at hl 16 rfl) ?_
    refine lv_aload hx hb dL_law_777 (lv_at hl 15 rfl) ?_
    refine lv_aload hx hb dL_law_779 (lv_at hl 14 rfl) ?_
    refine lv_iload hx hb dL_law_781 (lv_at hl 4 rfl) ?_
    refine lv_iconst (v := 3) hx hb dL_law_783 (by decide) ?_
    refine lv_aload_n hx hb dL_law_784 rfl (lv_at hl 19 rfl) ?_
    refine lv_iconst (v := 1) hx hb dL_law_785 (by decide) ?_
    refine cg_ald F hK hA 0 2 rfl 1 rfl (by omega) (by decide) dL_law_786 ?_
    refine lw_N cm (by first | exact hf01 | (simp only [lWr_at, upA_at]; simp; exact hf01)) ?_
    refine lv_iconst (v := 0) hx hb dL_law_787 (by decide) ?_
    refine ix_la F hK hA hC hS [.ref (q 0), .ref (q 1), .ref (q 2), .ref (q 3), .ref (q 4), .ref (q 5), .int (nI f), .int 3, .int (nI cm), .int 0] (la_writes (n := n) hN f 3 cm 0 (by first | exact hf00 | (simp only [lWr_at, upA_at]; simp; exact hf00)) (by omega) hf) hf6 (va_cwS 10 F.2.2.2.2 gL_law_L_writes rfl rfl rfl (by decide +kernel) ⟨Nat.le_of_ble_eq_true rfl, Nat.le_of_ble_eq_true rfl⟩) rfl hl.1 rfl (lv_room (Nat.le_of_ble_eq_true rfl)) ⟨by show _ ≤ 600086; omega, by show _ ≤ 7301442; omega⟩ dL_law_788 (fun H locs hA hC hS => ?_)
    refine lv_aload_n hx hb dL_law_791 rfl (lv_at hl 19 rfl) ?_
    refine lv_iconst (v := 1) hx hb dL_law_792 (by decide) ?_
    refine lv_dup2_11 hx hb dL_law_793 rfl rfl ?_
    refine cg_ald F hK hA 0 2 rfl 1 rfl (by omega) (by decide) dL_law_794 ?_
    refine lw_N cm (by first | exact hf01 | (simp only [lWr_at, upA_at]; simp; exact hf01)) ?_
    refine lv_iconst (v := 1) hx hb dL_law_795 (by decide) ?_
    refine lw_add hx hb (i := cm) (j := 1) dL_law_796 ?_
    refine ix_ast F hK hN hA hC hS 0 2 (by decide) (hq _ (lA_in q (by decide))) rfl 1 rfl (by omega) (by decide) rfl dL_law_797 (fun H locs hA hC hS => ?_)
    refine lv_goto (tgt := 1430) hx hb dL_law_798 (by decide) ?_
    exact kk _ _ _ _ _ _ H locs _ _ ls (R2) (lT_pl hL.lt (lK_of R9.inv) (by omega) hcm hf (by omega)) hA hC hS (by omega) (by omega) (lv_sub hl [0, 7, 8, 9, 10, 11, 12, 13, 14, 15, 16, 17, 18, 19, 20, 21] rfl)
