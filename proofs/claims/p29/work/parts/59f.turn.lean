/-! a turn, and the end -/
set_option maxHeartbeats 8000000 in
set_option maxRecDepth 100000 in
theorem lf_tail {p : Program} {l : Launch} {e9 : Env} {s : State} {m : MethodId} {b9 : Nat} {below : List Frame} {meth : Method} {c : Code} {D : va_G} {u q : Nat → Nat} {cI cII : ClassId} {sa : Nat → Nat} (hfl : l.stackTraces = false) (F : CallFix p m c cL_law 26 s #[Value.ref b9] lw_tbl RL) (hK : va_K D vwCl (cT cI cII) s) (hX : xF (fun x => s.heap.size ≤ x) sa s) (hNz : wzN s) (hN : (lA q).Nodup) (hq : ∀ x, x ∈ lA q → s.heap.size ≤ x) {n cm : Nat} {a : Nat → Nat → Int32} {kn : Nat → Bool} {cs : CS} {F9 : FF} {H : Heap} {locs : List Loc} {cel slo : Nat} {ls : Array Slot} {y t : Nat} (ht : t < 110) (hy : y < 134217728) (R9 : tRel n cm a kn cs) (E : lT n cm a kn F9) (hcel : cel ≤ 580000) (hslo : slo ≤ 6900000) (hA : va_P D vwCl (lX q cI F9) H) (hC : sW D u cI cII (fun x => s.heap.size ≤ x) (fun y => y ∈ lA q) cs H) (hS : va_S (fun x => s.heap.size ≤ x) s.heap H locs) (kk : ∀ (n1 cm1 : Nat) (a1 : Nat → Nat → Int32) (kn1 : Nat → Bool) (cs1 : CS) (F1 : FF) (H : Heap) (locs : List Loc) (cel1 slo1 : Nat) (ls : Array Slot), tRel n1 cm1 a1 kn1 cs1 → lT n1 cm1 a1 kn1 F1 → va_P D vwCl (lX q cI F1) H → sW D u cI cII (fun x => s.heap.size ≤ x) (fun y => y ∈ lA q) cs1 H → va_S (fun x => s.heap.size ≤ x) s.heap H locs → cel1 ≤ cel + 400 → slo1 ≤ slo + 2600 → lv_has ls 26 [(13, .int 1), (14, .int (nI (t + 1))), (12, .ref (q 10)), (11, .ref (q 9)), (10, .ref (q 8)), (9, .ref (q 7)), (8, .ref (q 6)), (7, .ref (q 5)), (6, .ref (q 4)), (5, .ref (q 3)), (4, .ref (q 2)), (3, .ref (q 1)), (2, .ref (q 0)), (1, .ref (u 30)), (0, .ref b9)] → lwW p l e9 s m b9 below meth c H locs cel1 slo1 (F0 m 94 ls [])) (hl : lv_has ls 26 [(13, .int 1), (17, .int (nI y)), (14, .int (nI t)), (12, .ref (q 10)), (11, .ref (q 9)), (10, .ref (q 8)), (9, .ref (q 7)), (8, .ref (q 6)), (7, .ref (q 5)), (6, .ref (q 4)), (5, .ref (q 3)), (4, .ref (q 2)), (3, .ref (q 1)), (2, .ref (q 0)), (1, .ref (u 30)), (0, .ref b9)]) : lwW p l e9 s m b9 below meth c H locs cel slo (F0 m 1430 ls []) := by
  have hx := F.1
  have hb := F.2.1
  have hf00 : F9 0 0 = nI n := E.f00
  have hf01 : F9 0 1 = nI cm := E.f01
  have hn64 := E.n64
  have hcm10 := E.cm10
  refine lv_iload hx hb dL_law_1430 (lv_at hl 0 rfl) ?_
  refine lv_if_eq (tgt := 1470) hx hb dL_law_1432 (by decide) (fun z9 => absurd z9 (by decide)) (fun _ => ?_)
  refine lv_iload hx hb dL_law_1435 (lv_at hl 2 rfl) ?_
  refine lv_iconst (v := 4) hx hb dL_law_1437 (by decide) ?_
  refine lw_remN hx hb (i := t) (j := 4) (by omega) (by omega) (by omega) dL_law_1438 ?_
  refine lv_iconst (v := 3) hx hb dL_law_1439 (by decide) ?_
  refine lw_lt (tgt := 1466) hx hb (t % 4) 3 (by omega) (by omega) dL_law_1440 (by decide) (fun c_1 => ?_) (fun c_1 => ?_)
  · skip
    have mc_1 : ¬ 3 ≤ (t % 4) := by omega
    refine lv_iconst (v := 1) hx hb dL_law_1466 (by decide) ?_
    refine lv_goto (tgt := 1471) hx hb dL_law_1467 (by decide) ?_
    refine lv_istore (lv' := [(13, .int 1), (17, .int (nI y)), (14, .int (nI t)), (12, .ref (q 10)), (11, .ref (q 9)), (10, .ref (q 8)), (9, .ref (q 7)), (8, .ref (q 6)), (7, .ref (q 5)), (6, .ref (q 4)), (5, .ref (q 3)), (4, .ref (q 2)), (3, .ref (q 1)), (2, .ref (q 0)), (1, .ref (u 30)), (0, .ref b9)]) hx hb dL_law_1471 hl (by decide) rfl (fun ls hl => ?_)
    refine lv_iinc (v := nI (t + 1)) (lv' := [(14, .int (nI (t + 1))), (13, .int 1), (17, .int (nI y)), (12, .ref (q 10)), (11, .ref (q 9)), (10, .ref (q 8)), (9, .ref (q 7)), (8, .ref (q 6)), (7, .ref (q 5)), (6, .ref (q 4)), (5, .ref (q 3)), (4, .ref (q 2)), (3, .ref (q 1)), (2, .ref (q 0)), (1, .ref (u 30)), (0, .ref b9)]) hx hb dL_law_1473 hl (k := 2) rfl (show nI t + Int32.ofInt 1 = _ from nI_add t 1) (by decide) rfl (fun ls hl => ?_)
    refine lv_goto (tgt := 94) hx hb dL_law_1476 (by decide) ?_
    exact kk _ _ _ _ _ _ H locs _ _ ls R9 E hA hC hS (by omega) (by omega) (lv_sub hl [1, 0, 3, 4, 5, 6, 7, 8, 9, 10, 11, 12, 13, 14, 15] rfl)
  · skip
    have mc_1 : ¬ (t % 4) < 3 := by omega
    refine lv_aload_n hx hb dL_law_1443 rfl (lv_at hl 14 rfl) ?_
    refine lv_aload_n hx hb dL_law_1444 rfl (lv_at hl 13 rfl) ?_
    refine lv_aload_n hx hb dL_law_1445 rfl (lv_at hl 12 rfl) ?_
    refine lv_aload hx hb dL_law_1446 (lv_at hl 11 rfl) ?_
    refine lv_aload hx hb dL_law_1448 (lv_at hl 10 rfl) ?_
    refine lv_aload hx hb dL_law_1450 (lv_at hl 9 rfl) ?_
    refine lv_aload hx hb dL_law_1452 (lv_at hl 8 rfl) ?_
    refine lv_aload hx hb dL_law_1454 (lv_at hl 7 rfl) ?_
    refine lv_aload hx hb dL_law_1456 (lv_at hl 6 rfl) ?_
    refine lv_iload hx hb dL_law_1458 (lv_at hl 1 rfl) ?_
    refine ix_seen hfl F hK hX (fun x h => h) hN hA hC R9 E hS y (by omega) (va_cwS 10 F.2.2.2.2 gL_law_L_isSeen rfl rfl rfl (by decide +kernel) ⟨Nat.le_of_ble_eq_true rfl, Nat.le_of_ble_eq_true rfl⟩) hl.1 rfl (lv_room (Nat.le_of_ble_eq_true rfl)) ⟨by show _ ≤ 600086; omega, by show _ ≤ 7301442; omega⟩ dL_law_1460 (fun H locs hA hC hS => ?_)
    refine lv_if_eq (tgt := 1470) hx hb dL_law_1463 (by decide) (fun z9 => absurd z9 (by decide)) (fun _ => ?_)
    refine lv_iconst (v := 1) hx hb dL_law_1466 (by decide) ?_
    refine lv_goto (tgt := 1471) hx hb dL_law_1467 (by decide) ?_
    refine lv_istore (lv' := [(13, .int 1), (17, .int (nI y)), (14, .int (nI t)), (12, .ref (q 10)), (11, .ref (q 9)), (10, .ref (q 8)), (9, .ref (q 7)), (8, .ref (q 6)), (7, .ref (q 5)), (6, .ref (q 4)), (5, .ref (q 3)), (4, .ref (q 2)), (3, .ref (q 1)), (2, .ref (q 0)), (1, .ref (u 30)), (0, .ref b9)]) hx hb dL_law_1471 hl (by decide) rfl (fun ls hl => ?_)
    refine lv_iinc (v := nI (t + 1)) (lv' := [(14, .int (nI (t + 1))), (13, .int 1), (17, .int (nI y)), (12, .ref (q 10)), (11, .ref (q 9)), (10, .ref (q 8)), (9, .ref (q 7)), (8, .ref (q 6)), (7, .ref (q 5)), (6, .ref (q 4)), (5, .ref (q 3)), (4, .ref (q 2)), (3, .ref (q 1)), (2, .ref (q 0)), (1, .ref (u 30)), (0, .ref b9)]) hx hb dL_law_1473 hl (k := 2) rfl (show nI t + Int32.ofInt 1 = _ from nI_add t 1) (by decide) rfl (fun ls hl => ?_)
    refine lv_goto (tgt := 94) hx hb dL_law_1476 (by decide) ?_
    exact kk _ _ _ _ _ _ H locs _ _ ls R9 E hA hC hS (by omega) (by omega) (lv_sub hl [1, 0, 3, 4, 5, 6, 7, 8, 9, 10, 11, 12, 13, 14, 15] rfl)
set_option maxHeartbeats 8000000 in
set_option maxRecDepth 100000 in
theorem lf_turn {p : Program} {l : Launch} {e9 : Env} {s : State} {m : MethodId} {b9 : Nat} {below : List Frame} {meth : Method} {c : Code} {D : va_G} {u q : Nat → Nat} {cI cII : ClassId} {sa : Nat → Nat} (hfl : l.stackTraces = false) (F : CallFix p m c cL_law 26 s #[Value.ref b9] lw_tbl RL) (hK : va_K D vwCl (cT cI cII) s) (hX : xF (fun x => s.heap.size ≤ x) sa s) (hNz : wzN s) (hN : (lA q).Nodup) (hq : ∀ x, x ∈ lA q → s.heap.size ≤ x) {n cm : Nat} {a : Nat → Nat → Int32} {kn : Nat → Bool} {cs : CS} {F9 : FF} {H : Heap} {locs : List Loc} {cel slo : Nat} {ls : Array Slot} {t : Nat} {L9 : Nat} {xs : Nat → Int32} (hsx : va_X b9 L9 xs s s.heap) (hb9 : b9 < s.heap.size) (hL9 : L9 ≤ 260) (ht : t < 110) (R9 : tRel n cm a kn cs) (E : lT n cm a kn F9) (hcel : cel ≤ 570000) (hslo : slo ≤ 6800000) (hA : va_P D vwCl (lX q cI F9) H) (hC : sW D u cI cII (fun x => s.heap.size ≤ x) (fun y => y ∈ lA q) cs H) (hS : va_S (fun x => s.heap.size ≤ x) s.heap H locs) (kk : ∀ (n1 cm1 : Nat) (a1 : Nat → Nat → Int32) (kn1 : Nat → Bool) (cs1 : CS) (F1 : FF) (H : Heap) (locs : List Loc) (cel1 slo1 : Nat) (ls : Array Slot), tRel n1 cm1 a1 kn1 cs1 → lT n1 cm1 a1 kn1 F1 → va_P D vwCl (lX q cI F1) H → sW D u cI cII (fun x => s.heap.size ≤ x) (fun y => y ∈ lA q) cs1 H → va_S (fun x => s.heap.size ≤ x) s.heap H locs → cel1 ≤ cel + 446 → slo1 ≤ slo + 3040 → lv_has ls 26 [(13, .int 1), (14, .int (nI (t + 1))), (12, .ref (q 10)), (11, .ref (q 9)), (10, .ref (q 8)), (9, .ref (q 7)), (8, .ref (q 6)), (7, .ref (q 5)), (6, .ref (q 4)), (5, .ref (q 3)), (4, .ref (q 2)), (3, .ref (q 1)), (2, .ref (q 0)), (1, .ref (u 30)), (0, .ref b9)] → lwW p l e9 s m b9 below meth c H locs cel1 slo1 (F0 m 94 ls [])) (hl : lv_has ls 26 [(13, .int 1), (14, .int (nI t)), (12, .ref (q 10)), (11, .ref (q 9)), (10, .ref (q 8)), (9, .ref (q 7)), (8, .ref (q 6)), (7, .ref (q 5)), (6, .ref (q 4)), (5, .ref (q 3)), (4, .ref (q 2)), (3, .ref (q 1)), (2, .ref (q 0)), (1, .ref (u 30)), (0, .ref b9)]) : lwW p l e9 s m b9 below meth c H locs cel slo (F0 m 94 ls []) := by
  have hx := F.1
  have hb := F.2.1
  have hf00 : F9 0 0 = nI n := E.f00
  have hf01 : F9 0 1 = nI cm := E.f01
  have hn64 := E.n64
  have hcm10 := E.cm10
  refine lv_iload hx hb dL_law_94 (lv_at hl 1 rfl) ?_
  refine lv_bipush (v := 110) hx hb dL_law_96 (by decide) ?_
  refine lw_ge (tgt := 1479) hx hb t 110 (by omega) (by omega) dL_law_98 (by decide) (fun z9 => by first | exact absurd ht z9 | exact absurd z9 ht | exact Bool.noConfusion (ht.symm.trans z9) | omega) (fun _ => ?_)
  refine lv_iload hx hb dL_law_101 (lv_at hl 0 rfl) ?_
  refine lv_if_eq (tgt := 1479) hx hb dL_law_103 (by decide) (fun z9 => absurd z9 (by decide)) (fun _ => ?_)
  have J144_u_2 : ∀ (z : Nat) (H : Heap) (locs : List Loc) (ls : Array Slot), (z < 2147483648) → va_P D vwCl (lX q cI F9) H → sW D u cI cII (fun x => s.heap.size ≤ x) (fun y => y ∈ lA q) cs H → va_S (fun x => s.heap.size ≤ x) s.heap H locs → lv_has ls 26 [(13, .int 1), (14, .int (nI t)), (12, .ref (q 10)), (11, .ref (q 9)), (10, .ref (q 8)), (9, .ref (q 7)), (8, .ref (q 6)), (7, .ref (q 5)), (6, .ref (q 4)), (5, .ref (q 3)), (4, .ref (q 2)), (3, .ref (q 1)), (2, .ref (q 0)), (1, .ref (u 30)), (0, .ref b9)] → lwW p l e9 s m b9 below meth c H locs cel slo (F0 m 144 ls [.int (nI z)]) := by
    intro z H locs ls hz hA hC hS hl
    refine lv_istore (lv' := [(15, .int (nI z)), (13, .int 1), (14, .int (nI t)), (12, .ref (q 10)), (11, .ref (q 9)), (10, .ref (q 8)), (9, .ref (q 7)), (8, .ref (q 6)), (7, .ref (q 5)), (6, .ref (q 4)), (5, .ref (q 3)), (4, .ref (q 2)), (3, .ref (q 1)), (2, .ref (q 0)), (1, .ref (u 30)), (0, .ref b9)]) hx hb dL_law_144 hl (by decide) rfl (fun ls hl => ?_)
    have J161_u_3 : ∀ (kind : Nat) (H : Heap) (locs : List Loc) (ls : Array Slot), (kind < 24) → va_P D vwCl (lX q cI F9) H → sW D u cI cII (fun x => s.heap.size ≤ x) (fun y => y ∈ lA q) cs H → va_S (fun x => s.heap.size ≤ x) s.heap H locs → lv_has ls 26 [(15, .int (nI z)), (13, .int 1), (14, .int (nI t)), (12, .ref (q 10)), (11, .ref (q 9)), (10, .ref (q 8)), (9, .ref (q 7)), (8, .ref (q 6)), (7, .ref (q 5)), (6, .ref (q 4)), (5, .ref (q 3)), (4, .ref (q 2)), (3, .ref (q 1)), (2, .ref (q 0)), (1, .ref (u 30)), (0, .ref b9)] → lwW p l e9 s m b9 below meth c H locs cel slo (F0 m 161 ls [.int (nI kind)]) := by
      intro kind H locs ls hkd hA hC hS hl
      refine lv_istore (lv' := [(16, .int (nI kind)), (15, .int (nI z)), (13, .int 1), (14, .int (nI t)), (12, .ref (q 10)), (11, .ref (q 9)), (10, .ref (q 8)), (9, .ref (q 7)), (8, .ref (q 6)), (7, .ref (q 5)), (6, .ref (q 4)), (5, .ref (q 3)), (4, .ref (q 2)), (3, .ref (q 1)), (2, .ref (q 0)), (1, .ref (u 30)), (0, .ref b9)]) hx hb dL_law_161 hl (by decide) rfl (fun ls hl => ?_)
      refine lv_iload hx hb dL_law_163 (lv_at hl 1 rfl) ?_
      refine lv_bipush (v := 24) hx hb dL_law_165 (by decide) ?_
      refine lw_divN hx hb (i := z) (j := 24) (by omega) (by omega) (by omega) dL_law_167 ?_
      refine lv_istore (lv' := [(17, .int (nI (z / 24))), (16, .int (nI kind)), (15, .int (nI z)), (13, .int 1), (14, .int (nI t)), (12, .ref (q 10)), (11, .ref (q 9)), (10, .ref (q 8)), (9, .ref (q 7)), (8, .ref (q 6)), (7, .ref (q 5)), (6, .ref (q 4)), (5, .ref (q 3)), (4, .ref (q 2)), (3, .ref (q 1)), (2, .ref (q 0)), (1, .ref (u 30)), (0, .ref b9)]) hx hb dL_law_168 hl (by decide) rfl (fun ls hl => ?_)
      obtain ⟨y, hyz⟩ : ∃ y, y = z / 24 := ⟨_, rfl⟩
      rw [← hyz] at hl
      have hy : y < 134217728 := by omega
      refine lv_iload hx hb dL_law_170 (lv_at hl 0 rfl) ?_
      refine lv_iconst (v := 5) hx hb dL_law_172 (by decide) ?_
      refine lw_remN hx hb (i := y) (j := 5) (by omega) (by omega) (by omega) dL_law_173 ?_
      refine lv_istore (lv' := [(18, .int (nI (y % 5))), (17, .int (nI y)), (16, .int (nI kind)), (15, .int (nI z)), (13, .int 1), (14, .int (nI t)), (12, .ref (q 10)), (11, .ref (q 9)), (10, .ref (q 8)), (9, .ref (q 7)), (8, .ref (q 6)), (7, .ref (q 5)), (6, .ref (q 4)), (5, .ref (q 3)), (4, .ref (q 2)), (3, .ref (q 1)), (2, .ref (q 0)), (1, .ref (u 30)), (0, .ref b9)]) hx hb dL_law_174 hl (by decide) rfl (fun ls hl => ?_)
      have J204_u_4 : ∀ (th : Nat) (H : Heap) (locs : List Loc) (ls : Array Slot), (th < 40) → va_P D vwCl (lX q cI F9) H → sW D u cI cII (fun x => s.heap.size ≤ x) (fun y => y ∈ lA q) cs H → va_S (fun x => s.heap.size ≤ x) s.heap H locs → lv_has ls 26 [(18, .int (nI (y % 5))), (17, .int (nI y)), (16, .int (nI kind)), (15, .int (nI z)), (13, .int 1), (14, .int (nI t)), (12, .ref (q 10)), (11, .ref (q 9)), (10, .ref (q 8)), (9, .ref (q 7)), (8, .ref (q 6)), (7, .ref (q 5)), (6, .ref (q 4)), (5, .ref (q 3)), (4, .ref (q 2)), (3, .ref (q 1)), (2, .ref (q 0)), (1, .ref (u 30)), (0, .ref b9)] → lwW p l e9 s m b9 below meth c H locs cel slo (F0 m 204 ls [.int (nI th)]) := by
        intro th H locs ls hth hA hC hS hl
        refine lv_istore (lv' := [(19, .int (nI th)), (18, .int (nI (y % 5))), (17, .int (nI y)), (16, .int (nI kind)), (15, .int (nI z)), (13, .int 1), (14, .int (nI t)), (12, .ref (q 10)), (11, .ref (q 9)), (10, .ref (q 8)), (9, .ref (q 7)), (8, .ref (q 6)), (7, .ref (q 5)), (6, .ref (q 4)), (5, .ref (q 3)), (4, .ref (q 2)), (3, .ref (q 1)), (2, .ref (q 0)), (1, .ref (u 30)), (0, .ref b9)]) hx hb dL_law_204 hl (by decide) rfl (fun ls hl => ?_)
        have J224_u_5 : ∀ (ck : Nat) (H : Heap) (locs : List Loc) (ls : Array Slot), ((cm = 0 → ck = 0) ∧ (0 < cm → ck < cm)) → va_P D vwCl (lX q cI F9) H → sW D u cI cII (fun x => s.heap.size ≤ x) (fun y => y ∈ lA q) cs H → va_S (fun x => s.heap.size ≤ x) s.heap H locs → lv_has ls 26 [(19, .int (nI th)), (18, .int (nI (y % 5))), (17, .int (nI y)), (16, .int (nI kind)), (15, .int (nI z)), (13, .int 1), (14, .int (nI t)), (12, .ref (q 10)), (11, .ref (q 9)), (10, .ref (q 8)), (9, .ref (q 7)), (8, .ref (q 6)), (7, .ref (q 5)), (6, .ref (q 4)), (5, .ref (q 3)), (4, .ref (q 2)), (3, .ref (q 1)), (2, .ref (q 0)), (1, .ref (u 30)), (0, .ref b9)] → lwW p l e9 s m b9 below meth c H locs cel slo (F0 m 224 ls [.int (nI ck)]) := by
          intro ck H locs ls hck hA hC hS hl
          refine lv_istore (lv' := [(20, .int (nI ck)), (19, .int (nI th)), (18, .int (nI (y % 5))), (17, .int (nI y)), (16, .int (nI kind)), (15, .int (nI z)), (13, .int 1), (14, .int (nI t)), (12, .ref (q 10)), (11, .ref (q 9)), (10, .ref (q 8)), (9, .ref (q 7)), (8, .ref (q 6)), (7, .ref (q 5)), (6, .ref (q 4)), (5, .ref (q 3)), (4, .ref (q 2)), (3, .ref (q 1)), (2, .ref (q 0)), (1, .ref (u 30)), (0, .ref b9)]) hx hb dL_law_224 hl (by decide) rfl (fun ls hl => ?_)
          refine lv_aload_n hx hb dL_law_226 rfl (lv_at hl 18 rfl) ?_
          refine lv_aload_n hx hb dL_law_227 rfl (lv_at hl 17 rfl) ?_
          refine lv_aload hx hb dL_law_228 (lv_at hl 16 rfl) ?_
          refine lv_aload hx hb dL_law_230 (lv_at hl 15 rfl) ?_
          refine lv_aload hx hb dL_law_232 (lv_at hl 14 rfl) ?_
          refine lv_iload hx hb dL_law_234 (lv_at hl 2 rfl) ?_
          refine lv_aload hx hb dL_law_236 (lv_at hl 10 rfl) ?_
          refine lv_aload hx hb dL_law_238 (lv_at hl 9 rfl) ?_
          refine lv_aload hx hb dL_law_240 (lv_at hl 8 rfl) ?_
          obtain ⟨l9, ⟨hl9a, hl9b, hl9c⟩, hL⟩ := lays_V R9 E (v := y % 5) (by omega)
          have hf8 : ∀ x, x ∈ [q 8, q 9, q 10] → x ∈ lA q ∧ s.heap.size ≤ x := fun x hx => by
            have h : x ∈ lA q := by simp only [List.mem_cons, List.not_mem_nil, or_false] at hx; rcases hx with e | e | e <;> rw [e] <;> exact lA_in q (by decide)
            exact ⟨h, hq x h⟩
          refine ix_la F hK hA hC hS [.ref (q 0), .ref (q 1), .ref (q 2), .ref (q 3), .ref (q 4), .int (nI (y % 5)), .ref (q 8), .ref (q 9), .ref (q 10)] (la_lays (l9 := l9) hN (y % 5) E.f00 E.n64 (by omega) (lw_ok R9.inv E) hl9a hl9b hl9c) hf8 (va_cwS 9 F.2.2.2.2 gL_law_L_lays rfl rfl rfl (by decide +kernel) ⟨Nat.le_of_ble_eq_true rfl, Nat.le_of_ble_eq_true rfl⟩) rfl hl.1 rfl (lv_room (Nat.le_of_ble_eq_true rfl)) ⟨by show _ ≤ 600086; omega, by show _ ≤ 7301442; omega⟩ dL_law_242 (fun H locs hA hC hS => ?_)
          generalize lLy F9 l9 = G at hA hL
          have hg00 : G 0 0 = nI n := hL.lt.f00
          refine lv_aload_n hx hb dL_law_245 rfl (lv_at hl 18 rfl) ?_
          refine lv_iconst (v := 0) hx hb dL_law_246 (by decide) ?_
          refine cg_ald F hK hA 0 2 rfl 0 rfl (by omega) (by decide) dL_law_247 ?_
          refine lw_N n hg00 ?_
          refine lv_bipush (v := 43) hx hb dL_law_248 (by decide) ?_
          refine lw_ge (tgt := 257) hx hb n 43 (by omega) (by omega) dL_law_250 (by decide) (fun c_6 => ?_) (fun c_6 => ?_)
          · skip
            have mc_6 : ¬ n < 43 := by omega
            refine lv_iconst (v := 0) hx hb dL_law_257 (by decide) ?_
            refine lv_istore (lv' := [(21, .int 0), (20, .int (nI ck)), (19, .int (nI th)), (18, .int (nI (y % 5))), (17, .int (nI y)), (16, .int (nI kind)), (15, .int (nI z)), (13, .int 1), (14, .int (nI t)), (12, .ref (q 10)), (11, .ref (q 9)), (10, .ref (q 8)), (9, .ref (q 7)), (8, .ref (q 6)), (7, .ref (q 5)), (6, .ref (q 4)), (5, .ref (q 3)), (4, .ref (q 2)), (3, .ref (q 1)), (2, .ref (q 0)), (1, .ref (u 30)), (0, .ref b9)]) hx hb dL_law_258 hl (by decide) rfl (fun ls hl => ?_)
            exact lf_go (room := false) hfl F hK hX hNz hN hq (by omega) hth hck hy R9 hL (by omega) (by omega) hA hC hS hkd (fun z => by cases z) (fun n1 cm1 a1 kn1 cs1 F1 H locs cel1 slo1 ls R1 E1 hA hC hS hce1 hsl1 hl => lf_tail hfl F hK hX hNz hN hq ht hy R1 E1 (by omega) (by omega) hA hC hS (fun n2 cm2 a2 kn2 cs2 F2 H locs cel2 slo2 ls R2 E2 hA hC hS hce2 hsl2 hl => kk n2 cm2 a2 kn2 cs2 F2 H locs cel2 slo2 ls R2 E2 hA hC hS (by omega) (by omega) hl) hl) (lv_sub hl [0, 5, 3, 2, 1, 4, 8, 9, 10, 11, 12, 13, 14, 15, 16, 17, 18, 19, 20, 21] rfl)
          · skip
            have mc_6 : ¬ 43 ≤ n := by omega
            refine lv_iconst (v := 1) hx hb dL_law_253 (by decide) ?_
            refine lv_goto (tgt := 258) hx hb dL_law_254 (by decide) ?_
            refine lv_istore (lv' := [(21, .int 1), (20, .int (nI ck)), (19, .int (nI th)), (18, .int (nI (y % 5))), (17, .int (nI y)), (16, .int (nI kind)), (15, .int (nI z)), (13, .int 1), (14, .int (nI t)), (12, .ref (q 10)), (11, .ref (q 9)), (10, .ref (q 8)), (9, .ref (q 7)), (8, .ref (q 6)), (7, .ref (q 5)), (6, .ref (q 4)), (5, .ref (q 3)), (4, .ref (q 2)), (3, .ref (q 1)), (2, .ref (q 0)), (1, .ref (u 30)), (0, .ref b9)]) hx hb dL_law_258 hl (by decide) rfl (fun ls hl => ?_)
            exact lf_go (room := true) hfl F hK hX hNz hN hq (by omega) hth hck hy R9 hL (by omega) (by omega) hA hC hS hkd (fun _ => by omega) (fun n1 cm1 a1 kn1 cs1 F1 H locs cel1 slo1 ls R1 E1 hA hC hS hce1 hsl1 hl => lf_tail hfl F hK hX hNz hN hq ht hy R1 E1 (by omega) (by omega) hA hC hS (fun n2 cm2 a2 kn2 cs2 F2 H locs cel2 slo2 ls R2 E2 hA hC hS hce2 hsl2 hl => kk n2 cm2 a2 kn2 cs2 F2 H locs cel2 slo2 ls R2 E2 hA hC hS (by omega) (by omega) hl) hl) (lv_sub hl [0, 5, 3, 2, 1, 4, 8, 9, 10, 11, 12, 13, 14, 15, 16, 17, 18, 19, 20, 21] rfl)
        refine lv_aload_n hx hb dL_law_206 rfl (lv_at hl 17 rfl) ?_
        refine lv_iconst (v := 1) hx hb dL_law_207 (by decide) ?_
        refine cg_ald F hK hA 0 2 rfl 1 rfl (by omega) (by decide) dL_law_208 ?_
        refine lw_N cm hf01 ?_
        refine lw_zne (tgt := 216) hx hb cm (by omega) dL_law_209 (by decide) (fun c_7 => ?_) (fun c_7 => ?_)
        · skip
          refine lv_iload hx hb dL_law_216 (lv_at hl 2 rfl) ?_
          refine lv_iconst (v := 5) hx hb dL_law_218 (by decide) ?_
          refine lw_divN hx hb (i := y) (j := 5) (by omega) (by omega) (by omega) dL_law_219 ?_
          refine lv_aload_n hx hb dL_law_220 rfl (lv_at hl 17 rfl) ?_
          refine lv_iconst (v := 1) hx hb dL_law_221 (by decide) ?_
          refine cg_ald F hK hA 0 2 rfl 1 rfl (by omega) (by decide) dL_law_222 ?_
          refine lw_N cm hf01 ?_
          refine lw_remN hx hb (i := (y / 5)) (j := cm) (by omega) (by omega) (by omega) dL_law_223 ?_
          exact J224_u_5 ((y / 5) % cm) _ _ ls (⟨fun h => absurd h c_7, fun h => Nat.mod_lt _ h⟩) hA hC hS (lv_sub hl [0, 1, 2, 3, 4, 5, 6, 7, 8, 9, 10, 11, 12, 13, 14, 15, 16, 17, 18, 19] rfl)
        · skip
          refine lv_iconst (v := 0) hx hb dL_law_212 (by decide) ?_
          refine lv_goto (tgt := 224) hx hb dL_law_213 (by decide) ?_
          exact J224_u_5 0 _ _ ls (⟨fun _ => rfl, fun h => by omega⟩) hA hC hS (lv_sub hl [0, 1, 2, 3, 4, 5, 6, 7, 8, 9, 10, 11, 12, 13, 14, 15, 16, 17, 18, 19] rfl)
      refine lv_iload hx hb dL_law_176 (lv_at hl 1 rfl) ?_
      refine lv_iconst (v := 5) hx hb dL_law_178 (by decide) ?_
      refine lw_divN hx hb (i := y) (j := 5) (by omega) (by omega) (by omega) dL_law_179 ?_
      refine lv_iconst (v := 3) hx hb dL_law_180 (by decide) ?_
      refine lw_remN hx hb (i := (y / 5)) (j := 3) (by omega) (by omega) (by omega) dL_law_181 ?_
      refine lw_zne (tgt := 196) hx hb ((y / 5) % 3) (by omega) dL_law_182 (by decide) (fun c_8 => ?_) (fun c_8 => ?_)
      · skip
        refine lv_iload hx hb dL_law_196 (lv_at hl 1 rfl) ?_
        refine lv_bipush (v := 15) hx hb dL_law_198 (by decide) ?_
        refine lw_divN hx hb (i := y) (j := 15) (by omega) (by omega) (by omega) dL_law_200 ?_
        refine lv_bipush (v := 12) hx hb dL_law_201 (by decide) ?_
        refine lw_remN hx hb (i := (y / 15)) (j := 12) (by omega) (by omega) (by omega) dL_law_203 ?_
        exact J204_u_4 ((y / 15) % 12) _ _ ls (by first | omega | assumption) hA hC hS (lv_sub hl [0, 1, 2, 3, 4, 5, 6, 7, 8, 9, 10, 11, 12, 13, 14, 15, 16, 17, 18] rfl)
      · skip
        refine lv_iload hx hb dL_law_185 (lv_at hl 1 rfl) ?_
        refine lv_bipush (v := 15) hx hb dL_law_187 (by decide) ?_
        refine lw_divN hx hb (i := y) (j := 15) (by omega) (by omega) (by omega) dL_law_189 ?_
        refine lv_bipush (v := 40) hx hb dL_law_190 (by decide) ?_
        refine lw_remN hx hb (i := (y / 15)) (j := 40) (by omega) (by omega) (by omega) dL_law_192 ?_
        refine lv_goto (tgt := 204) hx hb dL_law_193 (by decide) ?_
        exact J204_u_4 ((y / 15) % 40) _ _ ls (by first | omega | assumption) hA hC hS (lv_sub hl [0, 1, 2, 3, 4, 5, 6, 7, 8, 9, 10, 11, 12, 13, 14, 15, 16, 17, 18] rfl)
    refine lv_iload hx hb dL_law_146 (lv_at hl 2 rfl) ?_
    refine lv_iconst (v := 4) hx hb dL_law_148 (by decide) ?_
    refine lw_ge (tgt := 156) hx hb t 4 (by omega) (by omega) dL_law_149 (by decide) (fun c_9 => ?_) (fun c_9 => ?_)
    · skip
      have mc_9 : ¬ t < 4 := by omega
      refine lv_iload hx hb dL_law_156 (lv_at hl 0 rfl) ?_
      refine lv_bipush (v := 24) hx hb dL_law_158 (by decide) ?_
      refine lw_remN hx hb (i := z) (j := 24) (by omega) (by omega) (by omega) dL_law_160 ?_
      exact J161_u_3 (z % 24) _ _ ls (by first | omega | assumption) hA hC hS (lv_sub hl [0, 1, 2, 3, 4, 5, 6, 7, 8, 9, 10, 11, 12, 13, 14, 15] rfl)
    · skip
      have mc_9 : ¬ 4 ≤ t := by omega
      refine lv_iconst (v := 0) hx hb dL_law_152 (by decide) ?_
      refine lv_goto (tgt := 161) hx hb dL_law_153 (by decide) ?_
      exact J161_u_3 0 _ _ ls (by first | omega | assumption) hA hC hS (lv_sub hl [0, 1, 2, 3, 4, 5, 6, 7, 8, 9, 10, 11, 12, 13, 14, 15] rfl)
  refine lv_iload hx hb dL_law_106 (lv_at hl 1 rfl) ?_
  refine lv_aload_n hx hb dL_law_108 rfl (lv_at hl 14 rfl) ?_
  refine va_slen (A := (fun x => s.heap.size ≤ x)) hx hb hsx hb9 (Nat.not_le.mpr hb9) hS dL_law_109 ?_
  refine lw_N L9 rfl ?_
  refine lw_ge (tgt := 123) hx hb t L9 (by omega) (by omega) dL_law_110 (by decide) (fun c_10 => ?_) (fun c_10 => ?_)
  · skip
    have mc_10 : ¬ t < L9 := by omega
    refine lv_ldc (v := 47017) hx hb F.2.2.2.1 (F.2.2.2.2 (.constant RL 144 (47017)) (by decide +kernel)) dL_law_123 ?_
    refine lv_iload hx hb dL_law_125 (lv_at hl 1 rfl) ?_
    refine lw_mul hx hb (i := 47017) (j := t) dL_law_127 ?_
    refine lv_iload hx hb dL_law_128 (lv_at hl 1 rfl) ?_
    refine lw_mul hx hb (i := (47017 * t)) (j := t) dL_law_130 ?_
    refine lv_sipush (v := 8009) hx hb dL_law_131 (by decide) ?_
    refine lv_iload hx hb dL_law_134 (lv_at hl 1 rfl) ?_
    refine lw_mul hx hb (i := 8009) (j := t) dL_law_136 ?_
    refine lw_add hx hb (i := ((47017 * t) * t)) (j := (8009 * t)) dL_law_137 ?_
    refine lv_bipush (v := 23) hx hb dL_law_138 (by decide) ?_
    refine lw_add hx hb (i := (((47017 * t) * t) + (8009 * t))) (j := 23) dL_law_140 ?_
    refine lv_ldc (v := 2147483647) hx hb F.2.2.2.1 (F.2.2.2.2 (.constant RL 143 (2147483647)) (by decide +kernel)) dL_law_141 ?_
    refine lv_iand hx hb dL_law_143 ?_
    obtain ⟨z2, hz2, ez2⟩ := pk_andE (nI ((((47017 * t) * t) + (8009 * t)) + 23)) (m := 2147483647) 31 (by decide)
    have hz2 : z2 < 2147483648 := hz2
    refine lw_N z2 ez2 ?_
    exact J144_u_2 z2 _ _ ls (by first | omega | assumption) hA hC hS (lv_sub hl [0, 1, 2, 3, 4, 5, 6, 7, 8, 9, 10, 11, 12, 13, 14] rfl)
  · skip
    have mc_10 : ¬ L9 ≤ t := by omega
    refine lv_aload_n hx hb dL_law_113 rfl (lv_at hl 14 rfl) ?_
    refine lv_iload hx hb dL_law_114 (lv_at hl 1 rfl) ?_
    refine va_sld (A := (fun x => s.heap.size ≤ x)) hx hb hsx hb9 (Nat.not_le.mpr hb9) hS (vp_in_nI (n := t) (by omega) (by omega)) dL_law_116 ?_
    refine lw_E (xs t) (by rw [nI_clamp (by omega)]) ?_
    refine lv_ldc (v := 2147483647) hx hb F.2.2.2.1 (F.2.2.2.2 (.constant RL 143 (2147483647)) (by decide +kernel)) dL_law_117 ?_
    refine lv_iand hx hb dL_law_119 ?_
    obtain ⟨z1, hz1, ez1⟩ := pk_andE (xs t) (m := 2147483647) 31 (by decide)
    have hz1 : z1 < 2147483648 := hz1
    refine lw_N z1 ez1 ?_
    refine lv_goto (tgt := 144) hx hb dL_law_120 (by decide) ?_
    exact J144_u_2 z1 _ _ ls (by first | omega | assumption) hA hC hS (lv_sub hl [0, 1, 2, 3, 4, 5, 6, 7, 8, 9, 10, 11, 12, 13, 14] rfl)
set_option maxHeartbeats 8000000 in
set_option maxRecDepth 100000 in
theorem lf_end {p : Program} {l : Launch} {e9 : Env} {s : State} {m : MethodId} {b9 : Nat} {below : List Frame} {meth : Method} {c : Code} {D : va_G} {u q : Nat → Nat} {cI cII : ClassId} {sa : Nat → Nat} (hfl : l.stackTraces = false) (F : CallFix p m c cL_law 26 s #[Value.ref b9] lw_tbl RL) (hK : va_K D vwCl (cT cI cII) s) (hX : xF (fun x => s.heap.size ≤ x) sa s) (hNz : wzN s) (hN : (lA q).Nodup) (hq : ∀ x, x ∈ lA q → s.heap.size ≤ x) (hr : meth.sig.returnType = ret) (hlocks : meth.locks = false) {n cm : Nat} {a : Nat → Nat → Int32} {kn : Nat → Bool} {cs : CS} {F9 : FF} {H : Heap} {locs : List Loc} {cel slo : Nat} {ls : Array Slot} {t : Nat} (ht : 110 ≤ t) (ht2 : t ≤ 110) (R9 : tRel n cm a kn cs) (E : lT n cm a kn F9) (hcel : cel ≤ 580000) (hslo : slo ≤ 6900000) (hA : va_P D vwCl (lX q cI F9) H) (hC : sW D u cI cII (fun x => s.heap.size ≤ x) (fun y => y ∈ lA q) cs H) (hS : va_S (fun x => s.heap.size ≤ x) s.heap H locs) (hl : lv_has ls 26 [(13, .int 1), (14, .int (nI t)), (12, .ref (q 10)), (11, .ref (q 9)), (10, .ref (q 8)), (9, .ref (q 7)), (8, .ref (q 6)), (7, .ref (q 5)), (6, .ref (q 4)), (5, .ref (q 3)), (4, .ref (q 2)), (3, .ref (q 1)), (2, .ref (q 0)), (1, .ref (u 30)), (0, .ref b9)]) : lwW p l e9 s m b9 below meth c H locs cel slo (F0 m 94 ls []) := by
  have hx := F.1
  have hb := F.2.1
  have hf00 : F9 0 0 = nI n := E.f00
  have hf01 : F9 0 1 = nI cm := E.f01
  have hn64 := E.n64
  have hcm10 := E.cm10
  refine lv_iload hx hb dL_law_94 (lv_at hl 1 rfl) ?_
  refine lv_bipush (v := 110) hx hb dL_law_96 (by decide) ?_
  refine lw_ge (tgt := 1479) hx hb t 110 (by omega) (by omega) dL_law_98 (by decide) (fun _ => ?_) (fun z9 => by first | exact absurd ht z9 | exact absurd z9 ht | exact Bool.noConfusion (ht.symm.trans z9) | omega)
  refine lv_iload hx hb dL_law_1479 (lv_at hl 0 rfl) ?_
  refine lv_if_eq (tgt := 1511) hx hb dL_law_1481 (by decide) (fun z9 => absurd z9 (by decide)) (fun _ => ?_)
  refine lv_aload_n hx hb dL_law_1484 rfl (lv_at hl 13 rfl) ?_
  refine lv_aload_n hx hb dL_law_1485 rfl (lv_at hl 12 rfl) ?_
  refine lv_aload_n hx hb dL_law_1486 rfl (lv_at hl 11 rfl) ?_
  refine lv_aload hx hb dL_law_1487 (lv_at hl 10 rfl) ?_
  refine lv_aload hx hb dL_law_1489 (lv_at hl 9 rfl) ?_
  refine lv_aload hx hb dL_law_1491 (lv_at hl 8 rfl) ?_
  refine lv_aload hx hb dL_law_1493 (lv_at hl 7 rfl) ?_
  refine lv_aload hx hb dL_law_1495 (lv_at hl 6 rfl) ?_
  refine lv_aload hx hb dL_law_1497 (lv_at hl 5 rfl) ?_
  refine lv_bipush (v := 7) hx hb dL_law_1499 (by decide) ?_
  refine ix_seen hfl F hK hX (fun x h => h) hN hA hC R9 E hS 7 (by omega) (va_cwS 10 F.2.2.2.2 gL_law_L_isSeen rfl rfl rfl (by decide +kernel) ⟨Nat.le_of_ble_eq_true rfl, Nat.le_of_ble_eq_true rfl⟩) hl.1 rfl (lv_room (Nat.le_of_ble_eq_true rfl)) ⟨by show _ ≤ 600086; omega, by show _ ≤ 7301442; omega⟩ dL_law_1501 (fun H locs hA hC hS => ?_)
  refine lv_if_eq (tgt := 1511) hx hb dL_law_1504 (by decide) (fun z9 => absurd z9 (by decide)) (fun _ => ?_)
  refine lv_iconst (v := 1) hx hb dL_law_1507 (by decide) ?_
  refine lv_goto (tgt := 1512) hx hb dL_law_1508 (by decide) ?_
  refine va_forget (fun z hz => hS.2.2 z hz) ?_
  refine W.widen (k := 600086) (n := 7301442) (by omega) (by omega) ?_
  exact lw_ret hx hb hr hlocks dL_law_1512
set_option maxRecDepth 100000 in
theorem lw_loop {p : Program} {l : Launch} {e9 : Env} {s : State} {m : MethodId} {b9 : Nat} {below : List Frame} {meth : Method} {c : Code} {D : va_G} {u q : Nat → Nat} {cI cII : ClassId} {sa : Nat → Nat} (hfl : l.stackTraces = false) (F : CallFix p m c cL_law 26 s #[Value.ref b9] lw_tbl RL) (hK : va_K D vwCl (cT cI cII) s) (hX : xF (fun x => s.heap.size ≤ x) sa s) (hNz : wzN s) (hN : (lA q).Nodup) (hq : ∀ x, x ∈ lA q → s.heap.size ≤ x) (hr : meth.sig.returnType = ret) (hlocks : meth.locks = false) {L9 : Nat} {xs : Nat → Int32} (hsx : va_X b9 L9 xs s s.heap) (hb9 : b9 < s.heap.size) (hL9 : L9 ≤ 260) : ∀ (r t n cm : Nat) (a : Nat → Nat → Int32) (kn : Nat → Bool) (cs : CS) (F9 : FF) (H : Heap) (locs : List Loc) (cel slo : Nat) (ls : Array Slot), 110 < r + t → t ≤ 110 → tRel n cm a kn cs → lT n cm a kn F9 → cel ≤ 1000 + 446 * t → slo ≤ 10000 + 3040 * t → va_P D vwCl (lX q cI F9) H → sW D u cI cII (fun x => s.heap.size ≤ x) (fun y => y ∈ lA q) cs H → va_S (fun x => s.heap.size ≤ x) s.heap H locs → lv_has ls 26 [(13, .int 1), (14, .int (nI t)), (12, .ref (q 10)), (11, .ref (q 9)), (10, .ref (q 8)), (9, .ref (q 7)), (8, .ref (q 6)), (7, .ref (q 5)), (6, .ref (q 4)), (5, .ref (q 3)), (4, .ref (q 2)), (3, .ref (q 1)), (2, .ref (q 0)), (1, .ref (u 30)), (0, .ref b9)] → lwW p l e9 s m b9 below meth c H locs cel slo (F0 m 94 ls []) := by
  intro r
  induction r with
  | zero => intro t n cm a kn cs F9 H locs cel slo ls h1 h2; exact absurd h1 (by omega)
  | succ r ih =>
    intro t n cm a kn cs F9 H locs cel slo ls h1 h2 R9 E hce hsl hA hC hS hl
    have hb1 : cel ≤ 570000 := by omega
    have hb2 : slo ≤ 6800000 := by omega
    by_cases ht : t < 110
    · exact lf_turn hfl F hK hX hNz hN hq hsx hb9 hL9 ht R9 E hb1 hb2 hA hC hS (fun n1 cm1 a1 kn1 cs1 F1 H locs cel1 slo1 ls R1 E1 hA hC hS hce1 hsl1 hl => by
        have g1 : cel1 ≤ 1000 + 446 * (t + 1) := by omega
        have g2 : slo1 ≤ 10000 + 3040 * (t + 1) := by omega
        exact ih (t + 1) n1 cm1 a1 kn1 cs1 F1 H locs cel1 slo1 ls (by omega) (by omega) R1 E1 g1 g2 hA hC hS hl) hl
    · exact lf_end hfl F hK hX hNz hN hq hr hlocks (by omega) h2 R9 E (Nat.le_trans hb1 (Nat.le_of_ble_eq_true rfl)) (Nat.le_trans hb2 (Nat.le_of_ble_eq_true rfl)) hA hC hS hl
