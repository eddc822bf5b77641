/-! which deed it is -/
set_option maxHeartbeats 8000000 in
set_option maxRecDepth 100000 in
theorem lf_go {p : Program} {l : Launch} {e9 : Env} {s : State} {m : MethodId} {b9 : Nat} {below : List Frame} {meth : Method} {c : Code} {D : va_G} {u q : Nat → Nat} {cI cII : ClassId} {sa : Nat → Nat} (hfl : l.stackTraces = false) (F : CallFix p m c cL_law 26 s #[Value.ref b9] lw_tbl RL) (hK : va_K D vwCl (cT cI cII) s) (hX : xF (fun x => s.heap.size ≤ x) sa s) (hNz : wzN s) (hN : (lA q).Nodup) (hq : ∀ x, x ∈ lA q → s.heap.size ≤ x) {n cm : Nat} {a : Nat → Nat → Int32} {kn : Nat → Bool} {cs : CS} {l9 : List Nat} {F9 : FF} {f th ck y tn : Nat} {H : Heap} {locs : List Loc} {cel slo : Nat} {ls : Array Slot} {kind : Nat} {room : Bool} (hf : f < 5) (hth : th < 40) (hck : (cm = 0 → ck = 0) ∧ (0 < cm → ck < cm)) (hy : y < 134217728) (R9 : tRel n cm a kn cs) (hL : LV n cm a kn f l9 F9 (rdA (frV f) (cs.1 12) cs.2.2)) (hcel : cel ≤ 590000) (hslo : slo ≤ 7000000) (hA : va_P D vwCl (lX q cI F9) H) (hC : sW D u cI cII (fun x => s.heap.size ≤ x) (fun y => y ∈ lA q) cs H) (hS : va_S (fun x => s.heap.size ≤ x) s.heap H locs) (hkd : kind < 24) (hroom : room = true → n < 43) (kk : ∀ (n1 cm1 : Nat) (a1 : Nat → Nat → Int32) (kn1 : Nat → Bool) (cs1 : CS) (F1 : FF) (H : Heap) (locs : List Loc) (cel1 slo1 : Nat) (ls : Array Slot), tRel n1 cm1 a1 kn1 cs1 → lT n1 cm1 a1 kn1 F1 → va_P D vwCl (lX q cI F1) H → sW D u cI cII (fun x => s.heap.size ≤ x) (fun y => y ∈ lA q) cs1 H → va_S (fun x => s.heap.size ≤ x) s.heap H locs → cel1 ≤ cel + 46 → slo1 ≤ slo + 440 → lv_has ls 26 [(13, .int 1), (17, .int (nI y)), (14, .int (nI tn)), (12, .ref (q 10)), (11, .ref (q 9)), (10, .ref (q 8)), (9, .ref (q 7)), (8, .ref (q 6)), (7, .ref (q 5)), (6, .ref (q 4)), (5, .ref (q 3)), (4, .ref (q 2)), (3, .ref (q 1)), (2, .ref (q 0)), (1, .ref (u 30)), (0, .ref b9)] → lwW p l e9 s m b9 below meth c H locs cel1 slo1 (F0 m 1430 ls [])) (hl : lv_has ls 26 [(21, .int (bI room)), (16, .int (nI kind)), (18, .int (nI f)), (19, .int (nI th)), (20, .int (nI ck)), (17, .int (nI y)), (14, .int (nI tn)), (12, .ref (q 10)), (11, .ref (q 9)), (10, .ref (q 8)), (9, .ref (q 7)), (8, .ref (q 6)), (7, .ref (q 5)), (6, .ref (q 4)), (5, .ref (q 3)), (4, .ref (q 2)), (3, .ref (q 1)), (2, .ref (q 0)), (1, .ref (u 30)), (0, .ref b9)]) : lwW p l e9 s m b9 below meth c H locs cel slo (F0 m 260 ls []) := by
  have hx := F.1
  have hb := F.2.1
  have hf00 : F9 0 0 = nI n := hL.lt.f00
  have hf01 : F9 0 1 = nI cm := hL.lt.f01
  have hn64 := hL.lt.n64
  have hcm10 := hL.lt.cm10
  have hf6 : ∀ x, x ∈ [q 0, q 1, q 2, q 3, q 4, q 5] → x ∈ lA q ∧ s.heap.size ≤ x := fun x hx => by
    have h : x ∈ lA q := by simp only [List.mem_cons, List.not_mem_nil, or_false] at hx; rcases hx with e | e | e | e | e | e <;> rw [e] <;> exact lA_in q (by decide)
    exact ⟨h, hq x h⟩
  refine lv_iload hx hb dL_law_260 (lv_at hl 1 rfl) ?_
  refine lw_zne (tgt := 336) hx hb kind (by omega) dL_law_262 (by decide) (fun c_1 => ?_) (fun c_1 => ?_)
  · skip
    refine lv_iload hx hb dL_law_336 (lv_at hl 1 rfl) ?_
    refine lv_bipush (v := 7) hx hb dL_law_338 (by decide) ?_
    refine lw_ge (tgt := 431) hx hb kind 7 (by omega) (by omega) dL_law_340 (by decide) (fun c_2 => ?_) (fun c_2 => ?_)
    · skip
      have mc_2 : ¬ kind < 7 := by omega
      refine lv_iload hx hb dL_law_431 (lv_at hl 1 rfl) ?_
      refine lv_bipush (v := 7) hx hb dL_law_433 (by decide) ?_
      refine lw_ne (tgt := 514) hx hb kind 7 (by omega) (by omega) dL_law_435 (by decide) (fun c_3 => ?_) (fun c_3 => ?_)
      · skip
        refine lv_iload hx hb dL_law_514 (lv_at hl 1 rfl) ?_
        refine lv_bipush (v := 10) hx hb dL_law_516 (by decide) ?_
        refine lw_ge (tgt := 649) hx hb kind 10 (by omega) (by omega) dL_law_518 (by decide) (fun c_4 => ?_) (fun c_4 => ?_)
        · skip
          have mc_4 : ¬ kind < 10 := by omega
          refine lv_iload hx hb dL_law_649 (lv_at hl 1 rfl) ?_
          refine lv_bipush (v := 12) hx hb dL_law_651 (by decide) ?_
          refine lw_ge (tgt := 801) hx hb kind 12 (by omega) (by omega) dL_law_653 (by decide) (fun c_5 => ?_) (fun c_5 => ?_)
          · skip
            have mc_5 : ¬ kind < 12 := by omega
            refine lv_iload hx hb dL_law_801 (lv_at hl 1 rfl) ?_
            refine lv_bipush (v := 16) hx hb dL_law_803 (by decide) ?_
            refine lw_ge (tgt := 987) hx hb kind 16 (by omega) (by omega) dL_law_805 (by decide) (fun c_6 => ?_) (fun c_6 => ?_)
            · skip
              have mc_6 : ¬ kind < 16 := by omega
              refine lv_iload hx hb dL_law_987 (lv_at hl 1 rfl) ?_
              refine lv_bipush (v := 19) hx hb dL_law_989 (by decide) ?_
              refine lw_ge (tgt := 1240) hx hb kind 19 (by omega) (by omega) dL_law_991 (by decide) (fun c_7 => ?_) (fun c_7 => ?_)
              · skip
                have mc_7 : ¬ kind < 19 := by omega
                refine lv_iload hx hb dL_law_1240 (lv_at hl 5 rfl) ?_
                refine lv_iconst (v := 5) hx hb dL_law_1242 (by decide) ?_
                refine lw_divN hx hb (i := y) (j := 5) (by omega) (by omega) (by omega) dL_law_1243 ?_
                refine lv_iconst (v := 5) hx hb dL_law_1244 (by decide) ?_
                refine lw_remN hx hb (i := (y / 5)) (j := 5) (by omega) (by omega) (by omega) dL_law_1245 ?_
                refine lv_istore (lv' := [(22, .int (nI ((y / 5) % 5))), (21, .int (bI room)), (16, .int (nI kind)), (18, .int (nI f)), (19, .int (nI th)), (20, .int (nI ck)), (17, .int (nI y)), (14, .int (nI tn)), (12, .ref (q 10)), (11, .ref (q 9)), (10, .ref (q 8)), (9, .ref (q 7)), (8, .ref (q 6)), (7, .ref (q 5)), (6, .ref (q 4)), (5, .ref (q 3)), (4, .ref (q 2)), (3, .ref (q 1)), (2, .ref (q 0)), (1, .ref (u 30)), (0, .ref b9)]) hx hb dL_law_1246 hl (by decide) rfl (fun ls hl => ?_)
                by_cases hfo : f = y / 5 % 5
                · rw [← hfo] at hl
                  exact lf_meetSame hfl F hK hX hNz hN hq hf hth hck hy R9 hL hcel hslo hA hC hS kk (lv_sub hl [0, 3, 4, 5, 6, 7, 8, 9, 10, 11, 12, 13, 14, 15, 16, 17, 18, 19, 20] rfl)
                · exact lf_meetDiff hfl F hK hX hNz hN hq hf hth hck hy R9 hL hcel hslo hA hC hS (by omega) hfo kk (lv_sub hl [0, 3, 4, 5, 6, 7, 8, 9, 10, 11, 12, 13, 14, 15, 16, 17, 18, 19, 20] rfl)
              · skip
                have mc_7 : ¬ 19 ≤ kind := by omega
                refine lv_iload hx hb dL_law_994 (lv_at hl 0 rfl) ?_
                refine lw_beq (tgt := 1240) hx hb dL_law_996 (by decide) (fun c_8 => ?_) (fun c_8 => ?_)
                · skip
                  refine lv_iload hx hb dL_law_1240 (lv_at hl 5 rfl) ?_
                  refine lv_iconst (v := 5) hx hb dL_law_1242 (by decide) ?_
                  refine lw_divN hx hb (i := y) (j := 5) (by omega) (by omega) (by omega) dL_law_1243 ?_
                  refine lv_iconst (v := 5) hx hb dL_law_1244 (by decide) ?_
                  refine lw_remN hx hb (i := (y / 5)) (j := 5) (by omega) (by omega) (by omega) dL_law_1245 ?_
                  refine lv_istore (lv' := [(22, .int (nI ((y / 5) % 5))), (21, .int (bI room)), (16, .int (nI kind)), (18, .int (nI f)), (19, .int (nI th)), (20, .int (nI ck)), (17, .int (nI y)), (14, .int (nI tn)), (12, .ref (q 10)), (11, .ref (q 9)), (10, .ref (q 8)), (9, .ref (q 7)), (8, .ref (q 6)), (7, .ref (q 5)), (6, .ref (q 4)), (5, .ref (q 3)), (4, .ref (q 2)), (3, .ref (q 1)), (2, .ref (q 0)), (1, .ref (u 30)), (0, .ref b9)]) hx hb dL_law_1246 hl (by decide) rfl (fun ls hl => ?_)
                  by_cases hfo : f = y / 5 % 5
                  · rw [← hfo] at hl
                    exact lf_meetSame hfl F hK hX hNz hN hq hf hth hck hy R9 hL hcel hslo hA hC hS kk (lv_sub hl [0, 3, 4, 5, 6, 7, 8, 9, 10, 11, 12, 13, 14, 15, 16, 17, 18, 19, 20] rfl)
                  · exact lf_meetDiff hfl F hK hX hNz hN hq hf hth hck hy R9 hL hcel hslo hA hC hS (by omega) hfo kk (lv_sub hl [0, 3, 4, 5, 6, 7, 8, 9, 10, 11, 12, 13, 14, 15, 16, 17, 18, 19, 20] rfl)
                · skip
                  refine lv_iload hx hb dL_law_999 (lv_at hl 1 rfl) ?_
                  refine lv_bipush (v := 16) hx hb dL_law_1001 (by decide) ?_
                  refine lw_ne (tgt := 1010) hx hb kind 16 (by omega) (by omega) dL_law_1003 (by decide) (fun c_9 => ?_) (fun c_9 => ?_)
                  · skip
                    refine lv_iconst (v := 0) hx hb dL_law_1010 (by decide) ?_
                    refine lv_istore (lv' := [(22, .int 0), (21, .int (bI room)), (16, .int (nI kind)), (18, .int (nI f)), (19, .int (nI th)), (20, .int (nI ck)), (17, .int (nI y)), (14, .int (nI tn)), (12, .ref (q 10)), (11, .ref (q 9)), (10, .ref (q 8)), (9, .ref (q 7)), (8, .ref (q 6)), (7, .ref (q 5)), (6, .ref (q 4)), (5, .ref (q 3)), (4, .ref (q 2)), (3, .ref (q 1)), (2, .ref (q 0)), (1, .ref (u 30)), (0, .ref b9)]) hx hb dL_law_1011 hl (by decide) rfl (fun ls hl => ?_)
                    exact lf_bake hfl F hK hX hNz hN hq hf hth hck hy R9 hL hcel hslo hA hC hS (hroom c_8) kk (lv_sub hl [0, 3, 4, 5, 6, 7, 8, 9, 10, 11, 12, 13, 14, 15, 16, 17, 18, 19, 20] rfl)
                  · skip
                    refine lv_iconst (v := 1) hx hb dL_law_1006 (by decide) ?_
                    refine lv_goto (tgt := 1011) hx hb dL_law_1007 (by decide) ?_
                    refine lv_istore (lv' := [(22, .int 1), (21, .int (bI room)), (16, .int (nI kind)), (18, .int (nI f)), (19, .int (nI th)), (20, .int (nI ck)), (17, .int (nI y)), (14, .int (nI tn)), (12, .ref (q 10)), (11, .ref (q 9)), (10, .ref (q 8)), (9, .ref (q 7)), (8, .ref (q 6)), (7, .ref (q 5)), (6, .ref (q 4)), (5, .ref (q 3)), (4, .ref (q 2)), (3, .ref (q 1)), (2, .ref (q 0)), (1, .ref (u 30)), (0, .ref b9)]) hx hb dL_law_1011 hl (by decide) rfl (fun ls hl => ?_)
                    exact lf_drop hfl F hK hX hNz hN hq hf hth hck hy R9 hL hcel hslo hA hC hS (hroom c_8) kk (lv_sub hl [0, 3, 4, 5, 6, 7, 8, 9, 10, 11, 12, 13, 14, 15, 16, 17, 18, 19, 20] rfl)
            · skip
              have mc_6 : ¬ 16 ≤ kind := by omega
              refine lv_iload hx hb dL_law_808 (lv_at hl 0 rfl) ?_
              refine lw_beq (tgt := 987) hx hb dL_law_810 (by decide) (fun c_10 => ?_) (fun c_10 => ?_)
              · skip
                refine lv_iload hx hb dL_law_987 (lv_at hl 1 rfl) ?_
                refine lv_bipush (v := 19) hx hb dL_law_989 (by decide) ?_
                refine lw_ge (tgt := 1240) hx hb kind 19 (by omega) (by omega) dL_law_991 (by decide) (fun c_11 => ?_) (fun c_11 => ?_)
                · skip
                  have mc_11 : ¬ kind < 19 := by omega
                  refine lv_iload hx hb dL_law_1240 (lv_at hl 5 rfl) ?_
                  refine lv_iconst (v := 5) hx hb dL_law_1242 (by decide) ?_
                  refine lw_divN hx hb (i := y) (j := 5) (by omega) (by omega) (by omega) dL_law_1243 ?_
                  refine lv_iconst (v := 5) hx hb dL_law_1244 (by decide) ?_
                  refine lw_remN hx hb (i := (y / 5)) (j := 5) (by omega) (by omega) (by omega) dL_law_1245 ?_
                  refine lv_istore (lv' := [(22, .int (nI ((y / 5) % 5))), (21, .int (bI room)), (16, .int (nI kind)), (18, .int (nI f)), (19, .int (nI th)), (20, .int (nI ck)), (17, .int (nI y)), (14, .int (nI tn)), (12, .ref (q 10)), (11, .ref (q 9)), (10, .ref (q 8)), (9, .ref (q 7)), (8, .ref (q 6)), (7, .ref (q 5)), (6, .ref (q 4)), (5, .ref (q 3)), (4, .ref (q 2)), (3, .ref (q 1)), (2, .ref (q 0)), (1, .ref (u 30)), (0, .ref b9)]) hx hb dL_law_1246 hl (by decide) rfl (fun ls hl => ?_)
                  by_cases hfo : f = y / 5 % 5
                  · rw [← hfo] at hl
                    exact lf_meetSame hfl F hK hX hNz hN hq hf hth hck hy R9 hL hcel hslo hA hC hS kk (lv_sub hl [0, 3, 4, 5, 6, 7, 8, 9, 10, 11, 12, 13, 14, 15, 16, 17, 18, 19, 20] rfl)
                  · exact lf_meetDiff hfl F hK hX hNz hN hq hf hth hck hy R9 hL hcel hslo hA hC hS (by omega) hfo kk (lv_sub hl [0, 3, 4, 5, 6, 7, 8, 9, 10, 11, 12, 13, 14, 15, 16, 17, 18, 19, 20] rfl)
                · skip
                  have mc_11 : ¬ 19 ≤ kind := by omega
                  refine lv_iload hx hb dL_law_994 (lv_at hl 0 rfl) ?_
                  refine lw_beq (tgt := 1240) hx hb dL_law_996 (by decide) (fun _ => ?_) (fun z9 => Bool.noConfusion (c_10.symm.trans z9))
                  refine lv_iload hx hb dL_law_1240 (lv_at hl 5 rfl) ?_
                  refine lv_iconst (v := 5) hx hb dL_law_1242 (by decide) ?_
                  refine lw_divN hx hb (i := y) (j := 5) (by omega) (by omega) (by omega) dL_law_1243 ?_
                  refine lv_iconst (v := 5) hx hb dL_law_1244 (by decide) ?_
                  refine lw_remN hx hb (i := (y / 5)) (j := 5) (by omega) (by omega) (by omega) dL_law_1245 ?_
                  refine lv_istore (lv' := [(22, .int (nI ((y / 5) % 5))), (21, .int (bI room)), (16, .int (nI kind)), (18, .int (nI f)), (19, .int (nI th)), (20, .int (nI ck)), (17, .int (nI y)), (14, .int (nI tn)), (12, .ref (q 10)), (11, .ref (q 9)), (10, .ref (q 8)), (9, .ref (q 7)), (8, .ref (q 6)), (7, .ref (q 5)), (6, .ref (q 4)), (5, .ref (q 3)), (4, .ref (q 2)), (3, .ref (q 1)), (2, .ref (q 0)), (1, .ref (u 30)), (0, .ref b9)]) hx hb dL_law_1246 hl (by decide) rfl (fun ls hl => ?_)
                  by_cases hfo : f = y / 5 % 5
                  · rw [← hfo] at hl
                    exact lf_meetSame hfl F hK hX hNz hN hq hf hth hck hy R9 hL hcel hslo hA hC hS kk (lv_sub hl [0, 3, 4, 5, 6, 7, 8, 9, 10, 11, 12, 13, 14, 15, 16, 17, 18, 19, 20] rfl)
                  · exact lf_meetDiff hfl F hK hX hNz hN hq hf hth hck hy R9 hL hcel hslo hA hC hS (by omega) hfo kk (lv_sub hl [0, 3, 4, 5, 6, 7, 8, 9, 10, 11, 12, 13, 14, 15, 16, 17, 18, 19, 20] rfl)
              · skip
                exact lf_keep hfl F hK hX hNz hN hq hf hth hck hy R9 hL hcel hslo hA hC hS (hroom c_10) kk (lv_sub hl [2, 3, 4, 5, 6, 7, 8, 9, 10, 11, 12, 13, 14, 15, 16, 17, 18, 19] rfl)
          · skip
            have mc_5 : ¬ 12 ≤ kind := by omega
            refine lv_iload hx hb dL_law_656 (lv_at hl 0 rfl) ?_
            refine lw_beq (tgt := 801) hx hb dL_law_658 (by decide) (fun c_12 => ?_) (fun c_12 => ?_)
            · skip
              refine lv_iload hx hb dL_law_801 (lv_at hl 1 rfl) ?_
              refine lv_bipush (v := 16) hx hb dL_law_803 (by decide) ?_
              refine lw_ge (tgt := 987) hx hb kind 16 (by omega) (by omega) dL_law_805 (by decide) (fun c_13 => ?_) (fun c_13 => ?_)
              · skip
                have mc_13 : ¬ kind < 16 := by omega
                refine lv_iload hx hb dL_law_987 (lv_at hl 1 rfl) ?_
                refine lv_bipush (v := 19) hx hb dL_law_989 (by decide) ?_
                refine lw_ge (tgt := 1240) hx hb kind 19 (by omega) (by omega) dL_law_991 (by decide) (fun c_14 => ?_) (fun c_14 => ?_)
                · skip
                  have mc_14 : ¬ kind < 19 := by omega
                  refine lv_iload hx hb dL_law_1240 (lv_at hl 5 rfl) ?_
                  refine lv_iconst (v := 5) hx hb dL_law_1242 (by decide) ?_
                  refine lw_divN hx hb (i := y) (j := 5) (by omega) (by omega) (by omega) dL_law_1243 ?_
                  refine lv_iconst (v := 5) hx hb dL_law_1244 (by decide) ?_
                  refine lw_remN hx hb (i := (y / 5)) (j := 5) (by omega) (by omega) (by omega) dL_law_1245 ?_
                  refine lv_istore (lv' := [(22, .int (nI ((y / 5) % 5))), (21, .int (bI room)), (16, .int (nI kind)), (18, .int (nI f)), (19, .int (nI th)), (20, .int (nI ck)), (17, .int (nI y)), (14, .int (nI tn)), (12, .ref (q 10)), (11, .ref (q 9)), (10, .ref (q 8)), (9, .ref (q 7)), (8, .ref (q 6)), (7, .ref (q 5)), (6, .ref (q 4)), (5, .ref (q 3)), (4, .ref (q 2)), (3, .ref (q 1)), (2, .ref (q 0)), (1, .ref (u 30)), (0, .ref b9)]) hx hb dL_law_1246 hl (by decide) rfl (fun ls hl => ?_)
                  by_cases hfo : f = y / 5 % 5
                  · rw [← hfo] at hl
                    exact lf_meetSame hfl F hK hX hNz hN hq hf hth hck hy R9 hL hcel hslo hA hC hS kk (lv_sub hl [0, 3, 4, 5, 6, 7, 8, 9, 10, 11, 12, 13, 14, 15, 16, 17, 18, 19, 20] rfl)
                  · exact lf_meetDiff hfl F hK hX hNz hN hq hf hth hck hy R9 hL hcel hslo hA hC hS (by omega) hfo kk (lv_sub hl [0, 3, 4, 5, 6, 7, 8, 9, 10, 11, 12, 13, 14, 15, 16, 17, 18, 19, 20] rfl)
                · skip
                  have mc_14 : ¬ 19 ≤ kind := by omega
                  refine lv_iload hx hb dL_law_994 (lv_at hl 0 rfl) ?_
                  refine lw_beq (tgt := 1240) hx hb dL_law_996 (by decide) (fun _ => ?_) (fun z9 => Bool.noConfusion (c_12.symm.trans z9))
                  refine lv_iload hx hb dL_law_1240 (lv_at hl 5 rfl) ?_
                  refine lv_iconst (v := 5) hx hb dL_law_1242 (by decide) ?_
                  refine lw_divN hx hb (i := y) (j := 5) (by omega) (by omega) (by omega) dL_law_1243 ?_
                  refine lv_iconst (v := 5) hx hb dL_law_1244 (by decide) ?_
                  refine lw_remN hx hb (i := (y / 5)) (j := 5) (by omega) (by omega) (by omega) dL_law_1245 ?_
                  refine lv_istore (lv' := [(22, .int (nI ((y / 5) % 5))), (21, .int (bI room)), (16, .int (nI kind)), (18, .int (nI f)), (19, .int (nI th)), (20, .int (nI ck)), (17, .int (nI y)), (14, .int (nI tn)), (12, .ref (q 10)), (11, .ref (q 9)), (10, .ref (q 8)), (9, .ref (q 7)), (8, .ref (q 6)), (7, .ref (q 5)), (6, .ref (q 4)), (5, .ref (q 3)), (4, .ref (q 2)), (3, .ref (q 1)), (2, .ref (q 0)), (1, .ref (u 30)), (0, .ref b9)]) hx hb dL_law_1246 hl (by decide) rfl (fun ls hl => ?_)
                  by_cases hfo : f = y / 5 % 5
                  · rw [← hfo] at hl
                    exact lf_meetSame hfl F hK hX hNz hN hq hf hth hck hy R9 hL hcel hslo hA hC hS kk (lv_sub hl [0, 3, 4, 5, 6, 7, 8, 9, 10, 11, 12, 13, 14, 15, 16, 17, 18, 19, 20] rfl)
                  · exact lf_meetDiff hfl F hK hX hNz hN hq hf hth hck hy R9 hL hcel hslo hA hC hS (by omega) hfo kk (lv_sub hl [0, 3, 4, 5, 6, 7, 8, 9, 10, 11, 12, 13, 14, 15, 16, 17, 18, 19, 20] rfl)
              · skip
                have mc_13 : ¬ 16 ≤ kind := by omega
                refine lv_iload hx hb dL_law_808 (lv_at hl 0 rfl) ?_
                refine lw_beq (tgt := 987) hx hb dL_law_810 (by decide) (fun _ => ?_) (fun z9 => Bool.noConfusion (c_12.symm.trans z9))
                refine lv_iload hx hb dL_law_987 (lv_at hl 1 rfl) ?_
                refine lv_bipush (v := 19) hx hb dL_law_989 (by decide) ?_
                refine lw_ge (tgt := 1240) hx hb kind 19 (by omega) (by omega) dL_law_991 (by decide) (fun c_15 => ?_) (fun c_15 => ?_)
                · skip
                  have mc_15 : ¬ kind < 19 := by omega
                  refine lv_iload hx hb dL_law_1240 (lv_at hl 5 rfl) ?_
                  refine lv_iconst (v := 5) hx hb dL_law_1242 (by decide) ?_
                  refine lw_divN hx hb (i := y) (j := 5) (by omega) (by omega) (by omega) dL_law_1243 ?_
                  refine lv_iconst (v := 5) hx hb dL_law_1244 (by decide) ?_
                  refine lw_remN hx hb (i := (y / 5)) (j := 5) (by omega) (by omega) (by omega) dL_law_1245 ?_
                  refine lv_istore (lv' := [(22, .int (nI ((y / 5) % 5))), (21, .int (bI room)), (16, .int (nI kind)), (18, .int (nI f)), (19, .int (nI th)), (20, .int (nI ck)), (17, .int (nI y)), (14, .int (nI tn)), (12, .ref (q 10)), (11, .ref (q 9)), (10, .ref (q 8)), (9, .ref (q 7)), (8, .ref (q 6)), (7, .ref (q 5)), (6, .ref (q 4)), (5, .ref (q 3)), (4, .ref (q 2)), (3, .ref (q 1)), (2, .ref (q 0)), (1, .ref (u 30)), (0, .ref b9)]) hx hb dL_law_1246 hl (by decide) rfl (fun ls hl => ?_)
                  by_cases hfo : f = y / 5 % 5
                  · rw [← hfo] at hl
                    exact lf_meetSame hfl F hK hX hNz hN hq hf hth hck hy R9 hL hcel hslo hA hC hS kk (lv_sub hl [0, 3, 4, 5, 6, 7, 8, 9, 10, 11, 12, 13, 14, 15, 16, 17, 18, 19, 20] rfl)
                  · exact lf_meetDiff hfl F hK hX hNz hN hq hf hth hck hy R9 hL hcel hslo hA hC hS (by omega) hfo kk (lv_sub hl [0, 3, 4, 5, 6, 7, 8, 9, 10, 11, 12, 13, 14, 15, 16, 17, 18, 19, 20] rfl)
                · skip
                  have mc_15 : ¬ 19 ≤ kind := by omega
                  refine lv_iload hx hb dL_law_994 (lv_at hl 0 rfl) ?_
                  refine lw_beq (tgt := 1240) hx hb dL_law_996 (by decide) (fun _ => ?_) (fun z9 => Bool.noConfusion (c_12.symm.trans z9))
                  refine lv_iload hx hb dL_law_1240 (lv_at hl 5 rfl) ?_
                  refine lv_iconst (v := 5) hx hb dL_law_1242 (by decide) ?_
                  refine lw_divN hx hb (i := y) (j := 5) (by omega) (by omega) (by omega) dL_law_1243 ?_
                  refine lv_iconst (v := 5) hx hb dL_law_1244 (by decide) ?_
                  refine lw_remN hx hb (i := (y / 5)) (j := 5) (by omega) (by omega) (by omega) dL_law_1245 ?_
                  refine lv_istore (lv' := [(22, .int (nI ((y / 5) % 5))), (21, .int (bI room)), (16, .int (nI kind)), (18, .int (nI f)), (19, .int (nI th)), (20, .int (nI ck)), (17, .int (nI y)), (14, .int (nI tn)), (12, .ref (q 10)), (11, .ref (q 9)), (10, .ref (q 8)), (9, .ref (q 7)), (8, .ref (q 6)), (7, .ref (q 5)), (6, .ref (q 4)), (5, .ref (q 3)), (4, .ref (q 2)), (3, .ref (q 1)), (2, .ref (q 0)), (1, .ref (u 30)), (0, .ref b9)]) hx hb dL_law_1246 hl (by decide) rfl (fun ls hl => ?_)
                  by_cases hfo : f = y / 5 % 5
                  · rw [← hfo] at hl
                    exact lf_meetSame hfl F hK hX hNz hN hq hf hth hck hy R9 hL hcel hslo hA hC hS kk (lv_sub hl [0, 3, 4, 5, 6, 7, 8, 9, 10, 11, 12, 13, 14, 15, 16, 17, 18, 19, 20] rfl)
                  · exact lf_meetDiff hfl F hK hX hNz hN hq hf hth hck hy R9 hL hcel hslo hA hC hS (by omega) hfo kk (lv_sub hl [0, 3, 4, 5, 6, 7, 8, 9, 10, 11, 12, 13, 14, 15, 16, 17, 18, 19, 20] rfl)
            · skip
              refine lv_aload_n hx hb dL_law_661 rfl (lv_at hl 17 rfl) ?_
              refine lv_iconst (v := 1) hx hb dL_law_662 (by decide) ?_
              refine cg_ald F hK hA 0 2 rfl 1 rfl (by omega) (by decide) dL_law_663 ?_
              refine lw_N cm hf01 ?_
              refine lv_bipush (v := 10) hx hb dL_law_664 (by decide) ?_
              refine lw_ge (tgt := 801) hx hb cm 10 (by omega) (by omega) dL_law_666 (by decide) (fun c_16 => ?_) (fun c_16 => ?_)
              · skip
                have mc_16 : ¬ cm < 10 := by omega
                refine lv_iload hx hb dL_law_801 (lv_at hl 1 rfl) ?_
                refine lv_bipush (v := 16) hx hb dL_law_803 (by decide) ?_
                refine lw_ge (tgt := 987) hx hb kind 16 (by omega) (by omega) dL_law_805 (by decide) (fun c_17 => ?_) (fun c_17 => ?_)
                · skip
                  have mc_17 : ¬ kind < 16 := by omega
                  refine lv_iload hx hb dL_law_987 (lv_at hl 1 rfl) ?_
                  refine lv_bipush (v := 19) hx hb dL_law_989 (by decide) ?_
                  refine lw_ge (tgt := 1240) hx hb kind 19 (by omega) (by omega) dL_law_991 (by decide) (fun c_18 => ?_) (fun c_18 => ?_)
                  · skip
                    have mc_18 : ¬ kind < 19 := by omega
                    refine lv_iload hx hb dL_law_1240 (lv_at hl 5 rfl) ?_
                    refine lv_iconst (v := 5) hx hb dL_law_1242 (by decide) ?_
                    refine lw_divN hx hb (i := y) (j := 5) (by omega) (by omega) (by omega) dL_law_1243 ?_
                    refine lv_iconst (v := 5) hx hb dL_law_1244 (by decide) ?_
                    refine lw_remN hx hb (i := (y / 5)) (j := 5) (by omega) (by omega) (by omega) dL_law_1245 ?_
                    refine lv_istore (lv' := [(22, .int (nI ((y / 5) % 5))), (21, .int (bI room)), (16, .int (nI kind)), (18, .int (nI f)), (19, .int (nI th)), (20, .int (nI ck)), (17, .int (nI y)), (14, .int (nI tn)), (12, .ref (q 10)), (11, .ref (q 9)), (10, .ref (q 8)), (9, .ref (q 7)), (8, .ref (q 6)), (7, .ref (q 5)), (6, .ref (q 4)), (5, .ref (q 3)), (4, .ref (q 2)), (3, .ref (q 1)), (2, .ref (q 0)), (1, .ref (u 30)), (0, .ref b9)]) hx hb dL_law_1246 hl (by decide) rfl (fun ls hl => ?_)
                    by_cases hfo : f = y / 5 % 5
                    · rw [← hfo] at hl
                      exact lf_meetSame hfl F hK hX hNz hN hq hf hth hck hy R9 hL hcel hslo hA hC hS kk (lv_sub hl [0, 3, 4, 5, 6, 7, 8, 9, 10, 11, 12, 13, 14, 15, 16, 17, 18, 19, 20] rfl)
                    · exact lf_meetDiff hfl F hK hX hNz hN hq hf hth hck hy R9 hL hcel hslo hA hC hS (by omega) hfo kk (lv_sub hl [0, 3, 4, 5, 6, 7, 8, 9, 10, 11, 12, 13, 14, 15, 16, 17, 18, 19, 20] rfl)
                  · skip
                    have mc_18 : ¬ 19 ≤ kind := by omega
                    refine lv_iload hx hb dL_law_994 (lv_at hl 0 rfl) ?_
                    refine lw_beq (tgt := 1240) hx hb dL_law_996 (by decide) (fun z9 => Bool.noConfusion (c_12.symm.trans z9)) (fun _ => ?_)
                    refine lv_iload hx hb dL_law_999 (lv_at hl 1 rfl) ?_
                    refine lv_bipush (v := 16) hx hb dL_law_1001 (by decide) ?_
                    refine lw_ne (tgt := 1010) hx hb kind 16 (by omega) (by omega) dL_law_1003 (by decide) (fun c_19 => ?_) (fun c_19 => ?_)
                    · skip
                      refine lv_iconst (v := 0) hx hb dL_law_1010 (by decide) ?_
                      refine lv_istore (lv' := [(22, .int 0), (21, .int (bI room)), (16, .int (nI kind)), (18, .int (nI f)), (19, .int (nI th)), (20, .int (nI ck)), (17, .int (nI y)), (14, .int (nI tn)), (12, .ref (q 10)), (11, .ref (q 9)), (10, .ref (q 8)), (9, .ref (q 7)), (8, .ref (q 6)), (7, .ref (q 5)), (6, .ref (q 4)), (5, .ref (q 3)), (4, .ref (q 2)), (3, .ref (q 1)), (2, .ref (q 0)), (1, .ref (u 30)), (0, .ref b9)]) hx hb dL_law_1011 hl (by decide) rfl (fun ls hl => ?_)
                      exact lf_bake hfl F hK hX hNz hN hq hf hth hck hy R9 hL hcel hslo hA hC hS (hroom c_12) kk (lv_sub hl [0, 3, 4, 5, 6, 7, 8, 9, 10, 11, 12, 13, 14, 15, 16, 17, 18, 19, 20] rfl)
                    · skip
                      refine lv_iconst (v := 1) hx hb dL_law_1006 (by decide) ?_
                      refine lv_goto (tgt := 1011) hx hb dL_law_1007 (by decide) ?_
                      refine lv_istore (lv' := [(22, .int 1), (21, .int (bI room)), (16, .int (nI kind)), (18, .int (nI f)), (19, .int (nI th)), (20, .int (nI ck)), (17, .int (nI y)), (14, .int (nI tn)), (12, .ref (q 10)), (11, .ref (q 9)), (10, .ref (q 8)), (9, .ref (q 7)), (8, .ref (q 6)), (7, .ref (q 5)), (6, .ref (q 4)), (5, .ref (q 3)), (4, .ref (q 2)), (3, .ref (q 1)), (2, .ref (q 0)), (1, .ref (u 30)), (0, .ref b9)]) hx hb dL_law_1011 hl (by decide) rfl (fun ls hl => ?_)
                      exact lf_drop hfl F hK hX hNz hN hq hf hth hck hy R9 hL hcel hslo hA hC hS (hroom c_12) kk (lv_sub hl [0, 3, 4, 5, 6, 7, 8, 9, 10, 11, 12, 13, 14, 15, 16, 17, 18, 19, 20] rfl)
                · skip
                  have mc_17 : ¬ 16 ≤ kind := by omega
                  refine lv_iload hx hb dL_law_808 (lv_at hl 0 rfl) ?_
                  refine lw_beq (tgt := 987) hx hb dL_law_810 (by decide) (fun z9 => Bool.noConfusion (c_12.symm.trans z9)) (fun _ => ?_)
                  exact lf_keep hfl F hK hX hNz hN hq hf hth hck hy R9 hL hcel hslo hA hC hS (hroom c_12) kk (lv_sub hl [2, 3, 4, 5, 6, 7, 8, 9, 10, 11, 12, 13, 14, 15, 16, 17, 18, 19] rfl)
              · skip
                have mc_16 : ¬ 10 ≤ cm := by omega
                exact lf_plan hfl F hK hX hNz hN hq hf hth hck hy R9 hL hcel hslo hA hC hS (hroom c_12) (by omega) kk (lv_sub hl [2, 3, 4, 5, 6, 7, 8, 9, 10, 11, 12, 13, 14, 15, 16, 17, 18, 19] rfl)
        · skip
          have mc_4 : ¬ 10 ≤ kind := by omega
          refine lv_iload hx hb dL_law_521 (lv_at hl 0 rfl) ?_
          refine lw_beq (tgt := 649) hx hb dL_law_523 (by decide) (fun c_20 => ?_) (fun c_20 => ?_)
          · skip
            refine lv_iload hx hb dL_law_649 (lv_at hl 1 rfl) ?_
            refine lv_bipush (v := 12) hx hb dL_law_651 (by decide) ?_
            refine lw_ge (tgt := 801) hx hb kind 12 (by omega) (by omega) dL_law_653 (by decide) (fun c_21 => ?_) (fun c_21 => ?_)
            · skip
              have mc_21 : ¬ kind < 12 := by omega
              refine lv_iload hx hb dL_law_801 (lv_at hl 1 rfl) ?_
              refine lv_bipush (v := 16) hx hb dL_law_803 (by decide) ?_
              refine lw_ge (tgt := 987) hx hb kind 16 (by omega) (by omega) dL_law_805 (by decide) (fun c_22 => ?_) (fun c_22 => ?_)
              · skip
                have mc_22 : ¬ kind < 16 := by omega
                refine lv_iload hx hb dL_law_987 (lv_at hl 1 rfl) ?_
                refine lv_bipush (v := 19) hx hb dL_law_989 (by decide) ?_
                refine lw_ge (tgt := 1240) hx hb kind 19 (by omega) (by omega) dL_law_991 (by decide) (fun c_23 => ?_) (fun c_23 => ?_)
                · skip
                  have mc_23 : ¬ kind < 19 := by omega
                  refine lv_iload hx hb dL_law_1240 (lv_at hl 5 rfl) ?_
                  refine lv_iconst (v := 5) hx hb dL_law_1242 (by decide) ?_
                  refine lw_divN hx hb (i := y) (j := 5) (by omega) (by omega) (by omega) dL_law_1243 ?_
                  refine lv_iconst (v := 5) hx hb dL_law_1244 (by decide) ?_
                  refine lw_remN hx hb (i := (y / 5)) (j := 5) (by omega) (by omega) (by omega) dL_law_1245 ?_
                  refine lv_istore (lv' := [(22, .int (nI ((y / 5) % 5))), (21, .int (bI room)), (16, .int (nI kind)), (18, .int (nI f)), (19, .int (nI th)), (20, .int (nI ck)), (17, .int (nI y)), (14, .int (nI tn)), (12, .ref (q 10)), (11, .ref (q 9)), (10, .ref (q 8)), (9, .ref (q 7)), (8, .ref (q 6)), (7, .ref (q 5)), (6, .ref (q 4)), (5, .ref (q 3)), (4, .ref (q 2)), (3, .ref (q 1)), (2, .ref (q 0)), (1, .ref (u 30)), (0, .ref b9)]) hx hb dL_law_1246 hl (by decide) rfl (fun ls hl => ?_)
                  by_cases hfo : f = y / 5 % 5
                  · rw [← hfo] at hl
                    exact lf_meetSame hfl F hK hX hNz hN hq hf hth hck hy R9 hL hcel hslo hA hC hS kk (lv_sub hl [0, 3, 4, 5, 6, 7, 8, 9, 10, 11, 12, 13, 14, 15, 16, 17, 18, 19, 20] rfl)
                  · exact lf_meetDiff hfl F hK hX hNz hN hq hf hth hck hy R9 hL hcel hslo hA hC hS (by omega) hfo kk (lv_sub hl [0, 3, 4, 5, 6, 7, 8, 9, 10, 11, 12, 13, 14, 15, 16, 17, 18, 19, 20] rfl)
                · skip
                  have mc_23 : ¬ 19 ≤ kind := by omega
                  refine lv_iload hx hb dL_law_994 (lv_at hl 0 rfl) ?_
                  refine lw_beq (tgt := 1240) hx hb dL_law_996 (by decide) (fun _ => ?_) (fun z9 => Bool.noConfusion (c_20.symm.trans z9))
                  refine lv_iload hx hb dL_law_1240 (lv_at hl 5 rfl) ?_
                  refine lv_iconst (v := 5) hx hb dL_law_1242 (by decide) ?_
                  refine lw_divN hx hb (i := y) (j := 5) (by omega) (by omega) (by omega) dL_law_1243 ?_
                  refine lv_iconst (v := 5) hx hb dL_law_1244 (by decide) ?_
                  refine lw_remN hx hb (i := (y / 5)) (j := 5) (by omega) (by omega) (by omega) dL_law_1245 ?_
                  refine lv_istore (lv' := [(22, .int (nI ((y / 5) % 5))), (21, .int (bI room)), (16, .int (nI kind)), (18, .int (nI f)), (19, .int (nI th)), (20, .int (nI ck)), (17, .int (nI y)), (14, .int (nI tn)), (12, .ref (q 10)), (11, .ref (q 9)), (10, .ref (q 8)), (9, .ref (q 7)), (8, .ref (q 6)), (7, .ref (q 5)), (6, .ref (q 4)), (5, .ref (q 3)), (4, .ref (q 2)), (3, .ref (q 1)), (2, .ref (q 0)), (1, .ref (u 30)), (0, .ref b9)]) hx hb dL_law_1246 hl (by decide) rfl (fun ls hl => ?_)
                  by_cases hfo : f = y / 5 % 5
                  · rw [← hfo] at hl
                    exact lf_meetSame hfl F hK hX hNz hN hq hf hth hck hy R9 hL hcel hslo hA hC hS kk (lv_sub hl [0, 3, 4, 5, 6, 7, 8, 9, 10, 11, 12, 13, 14, 15, 16, 17, 18, 19, 20] rfl)
                  · exact lf_meetDiff hfl F hK hX hNz hN hq hf hth hck hy R9 hL hcel hslo hA hC hS (by omega) hfo kk (lv_sub hl [0, 3, 4, 5, 6, 7, 8, 9, 10, 11, 12, 13, 14, 15, 16, 17, 18, 19, 20] rfl)
              · skip
                have mc_22 : ¬ 16 ≤ kind := by omega
                refine lv_iload hx hb dL_law_808 (lv_at hl 0 rfl) ?_
                refine lw_beq (tgt := 987) hx hb dL_law_810 (by decide) (fun _ => ?_) (fun z9 => Bool.noConfusion (c_20.symm.trans z9))
                refine lv_iload hx hb dL_law_987 (lv_at hl 1 rfl) ?_
                refine lv_bipush (v := 19) hx hb dL_law_989 (by decide) ?_
                refine lw_ge (tgt := 1240) hx hb kind 19 (by omega) (by omega) dL_law_991 (by decide) (fun c_24 => ?_) (fun c_24 => ?_)
                · skip
                  have mc_24 : ¬ kind < 19 := by omega
                  refine lv_iload hx hb dL_law_1240 (lv_at hl 5 rfl) ?_
                  refine lv_iconst (v := 5) hx hb dL_law_1242 (by decide) ?_
                  refine lw_divN hx hb (i := y) (j := 5) (by omega) (by omega) (by omega) dL_law_1243 ?_
                  refine lv_iconst (v := 5) hx hb dL_law_1244 (by decide) ?_
                  refine lw_remN hx hb (i := (y / 5)) (j := 5) (by omega) (by omega) (by omega) dL_law_1245 ?_
                  refine lv_istore (lv' := [(22, .int (nI ((y / 5) % 5))), (21, .int (bI room)), (16, .int (nI kind)), (18, .int (nI f)), (19, .int (nI th)), (20, .int (nI ck)), (17, .int (nI y)), (14, .int (nI tn)), (12, .ref (q 10)), (11, .ref (q 9)), (10, .ref (q 8)), (9, .ref (q 7)), (8, .ref (q 6)), (7, .ref (q 5)), (6, .ref (q 4)), (5, .ref (q 3)), (4, .ref (q 2)), (3, .ref (q 1)), (2, .ref (q 0)), (1, .ref (u 30)), (0, .ref b9)]) hx hb dL_law_1246 hl (by decide) rfl (fun ls hl => ?_)
                  by_cases hfo : f = y / 5 % 5
                  · rw [← hfo] at hl
                    exact lf_meetSame hfl F hK hX hNz hN hq hf hth hck hy R9 hL hcel hslo hA hC hS kk (lv_sub hl [0, 3, 4, 5, 6, 7, 8, 9, 10, 11, 12, 13, 14, 15, 16, 17, 18, 19, 20] rfl)
                  · exact lf_meetDiff hfl F hK hX hNz hN hq hf hth hck hy R9 hL hcel hslo hA hC hS (by omega) hfo kk (lv_sub hl [0, 3, 4, 5, 6, 7, 8, 9, 10, 11, 12, 13, 14, 15, 16, 17, 18, 19, 20] rfl)
                · skip
                  have mc_24 : ¬ 19 ≤ kind := by omega
                  refine lv_iload hx hb dL_law_994 (lv_at hl 0 rfl) ?_
                  refine lw_beq (tgt := 1240) hx hb dL_law_996 (by decide) (fun _ => ?_) (fun z9 => Bool.noConfusion (c_20.symm.trans z9))
                  refine lv_iload hx hb dL_law_1240 (lv_at hl 5 rfl) ?_
                  refine lv_iconst (v := 5) hx hb dL_law_1242 (by decide) ?_
                  refine lw_divN hx hb (i := y) (j := 5) (by omega) (by omega) (by omega) dL_law_1243 ?_
                  refine lv_iconst (v := 5) hx hb dL_law_1244 (by decide) ?_
                  refine lw_remN hx hb (i := (y / 5)) (j := 5) (by omega) (by omega) (by omega) dL_law_1245 ?_
                  refine lv_istore (lv' := [(22, .int (nI ((y / 5) % 5))), (21, .int (bI room)), (16, .int (nI kind)), (18, .int (nI f)), (19, .int (nI th)), (20, .int (nI ck)), (17, .int (nI y)), (14, .int (nI tn)), (12, .ref (q 10)), (11, .ref (q 9)), (10, .ref (q 8)), (9, .ref (q 7)), (8, .ref (q 6)), (7, .ref (q 5)), (6, .ref (q 4)), (5, .ref (q 3)), (4, .ref (q 2)), (3, .ref (q 1)), (2, .ref (q 0)), (1, .ref (u 30)), (0, .ref b9)]) hx hb dL_law_1246 hl (by decide) rfl (fun ls hl => ?_)
                  by_cases hfo : f = y / 5 % 5
                  · rw [← hfo] at hl
                    exact lf_meetSame hfl F hK hX hNz hN hq hf hth hck hy R9 hL hcel hslo hA hC hS kk (lv_sub hl [0, 3, 4, 5, 6, 7, 8, 9, 10, 11, 12, 13, 14, 15, 16, 17, 18, 19, 20] rfl)
                  · exact lf_meetDiff hfl F hK hX hNz hN hq hf hth hck hy R9 hL hcel hslo hA hC hS (by omega) hfo kk (lv_sub hl [0, 3, 4, 5, 6, 7, 8, 9, 10, 11, 12, 13, 14, 15, 16, 17, 18, 19, 20] rfl)
            · skip
              have mc_21 : ¬ 12 ≤ kind := by omega
              refine lv_iload hx hb dL_law_656 (lv_at hl 0 rfl) ?_
              refine lw_beq (tgt := 801) hx hb dL_law_658 (by decide) (fun _ => ?_) (fun z9 => Bool.noConfusion (c_20.symm.trans z9))
              refine lv_iload hx hb dL_law_801 (lv_at hl 1 rfl) ?_
              refine lv_bipush (v := 16) hx hb dL_law_803 (by decide) ?_
              refine lw_ge (tgt := 987) hx hb kind 16 (by omega) (by omega) dL_law_805 (by decide) (fun c_25 => ?_) (fun c_25 => ?_)
              · skip
                have mc_25 : ¬ kind < 16 := by omega
                refine lv_iload hx hb dL_law_987 (lv_at hl 1 rfl) ?_
                refine lv_bipush (v := 19) hx hb dL_law_989 (by decide) ?_
                refine lw_ge (tgt := 1240) hx hb kind 19 (by omega) (by omega) dL_law_991 (by decide) (fun c_26 => ?_) (fun c_26 => ?_)
                · skip
                  have mc_26 : ¬ kind < 19 := by omega
                  refine lv_iload hx hb dL_law_1240 (lv_at hl 5 rfl) ?_
                  refine lv_iconst (v := 5) hx hb dL_law_1242 (by decide) ?_
                  refine lw_divN hx hb (i := y) (j := 5) (by omega) (by omega) (by omega) dL_law_1243 ?_
                  refine lv_iconst (v := 5) hx hb dL_law_1244 (by decide) ?_
                  refine lw_remN hx hb (i := (y / 5)) (j := 5) (by omega) (by omega) (by omega) dL_law_1245 ?_
                  refine lv_istore (lv' := [(22, .int (nI ((y / 5) % 5))), (21, .int (bI room)), (16, .int (nI kind)), (18, .int (nI f)), (19, .int (nI th)), (20, .int (nI ck)), (17, .int (nI y)), (14, .int (nI tn)), (12, .ref (q 10)), (11, .ref (q 9)), (10, .ref (q 8)), (9, .ref (q 7)), (8, .ref (q 6)), (7, .ref (q 5)), (6, .ref (q 4)), (5, .ref (q 3)), (4, .ref (q 2)), (3, .ref (q 1)), (2, .ref (q 0)), (1, .ref (u 30)), (0, .ref b9)]) hx hb dL_law_1246 hl (by decide) rfl (fun ls hl => ?_)
                  by_cases hfo : f = y / 5 % 5
                  · rw [← hfo] at hl
                    exact lf_meetSame hfl F hK hX hNz hN hq hf hth hck hy R9 hL hcel hslo hA hC hS kk (lv_sub hl [0, 3, 4, 5, 6, 7, 8, 9, 10, 11, 12, 13, 14, 15, 16, 17, 18, 19, 20] rfl)
                  · exact lf_meetDiff hfl F hK hX hNz hN hq hf hth hck hy R9 hL hcel hslo hA hC hS (by omega) hfo kk (lv_sub hl [0, 3, 4, 5, 6, 7, 8, 9, 10, 11, 12, 13, 14, 15, 16, 17, 18, 19, 20] rfl)
                · skip
                  have mc_26 : ¬ 19 ≤ kind := by omega
                  refine lv_iload hx hb dL_law_994 (lv_at hl 0 rfl) ?_
                  refine lw_beq (tgt := 1240) hx hb dL_law_996 (by decide) (fun _ => ?_) (fun z9 => Bool.noConfusion (c_20.symm.trans z9))
                  refine lv_iload hx hb dL_law_1240 (lv_at hl 5 rfl) ?_
                  refine lv_iconst (v := 5) hx hb dL_law_1242 (by decide) ?_
                  refine lw_divN hx hb (i := y) (j := 5) (by omega) (by omega) (by omega) dL_law_1243 ?_
                  refine lv_iconst (v := 5) hx hb dL_law_1244 (by decide) ?_
                  refine lw_remN hx hb (i := (y / 5)) (j := 5) (by omega) (by omega) (by omega) dL_law_1245 ?_
                  refine lv_istore (lv' := [(22, .int (nI ((y / 5) % 5))), (21, .int (bI room)), (16, .int (nI kind)), (18, .int (nI f)), (19, .int (nI th)), (20, .int (nI ck)), (17, .int (nI y)), (14, .int (nI tn)), (12, .ref (q 10)), (11, .ref (q 9)), (10, .ref (q 8)), (9, .ref (q 7)), (8, .ref (q 6)), (7, .ref (q 5)), (6, .ref (q 4)), (5, .ref (q 3)), (4, .ref (q 2)), (3, .ref (q 1)), (2, .ref (q 0)), (1, .ref (u 30)), (0, .ref b9)]) hx hb dL_law_1246 hl (by decide) rfl (fun ls hl => ?_)
                  by_cases hfo : f = y / 5 % 5
                  · rw [← hfo] at hl
                    exact lf_meetSame hfl F hK hX hNz hN hq hf hth hck hy R9 hL hcel hslo hA hC hS kk (lv_sub hl [0, 3, 4, 5, 6, 7, 8, 9, 10, 11, 12, 13, 14, 15, 16, 17, 18, 19, 20] rfl)
                  · exact lf_meetDiff hfl F hK hX hNz hN hq hf hth hck hy R9 hL hcel hslo hA hC hS (by omega) hfo kk (lv_sub hl [0, 3, 4, 5, 6, 7, 8, 9, 10, 11, 12, 13, 14, 15, 16, 17, 18, 19, 20] rfl)
              · skip
                have mc_25 : ¬ 16 ≤ kind := by omega
                refine lv_iload hx hb dL_law_808 (lv_at hl 0 rfl) ?_
                refine lw_beq (tgt := 987) hx hb dL_law_810 (by decide) (fun _ => ?_) (fun z9 => Bool.noConfusion (c_20.symm.trans z9))
                refine lv_iload hx hb dL_law_987 (lv_at hl 1 rfl) ?_
                refine lv_bipush (v := 19) hx hb dL_law_989 (by decide) ?_
                refine lw_ge (tgt := 1240) hx hb kind 19 (by omega) (by omega) dL_law_991 (by decide) (fun c_27 => ?_) (fun c_27 => ?_)
                · skip
                  have mc_27 : ¬ kind < 19 := by omega
                  refine lv_iload hx hb dL_law_1240 (lv_at hl 5 rfl) ?_
                  refine lv_iconst (v := 5) hx hb dL_law_1242 (by decide) ?_
                  refine lw_divN hx hb (i := y) (j := 5) (by omega) (by omega) (by omega) dL_law_1243 ?_
                  refine lv_iconst (v := 5) hx hb dL_law_1244 (by decide) ?_
                  refine lw_remN hx hb (i := (y / 5)) (j := 5) (by omega) (by omega) (by omega) dL_law_1245 ?_
                  refine lv_istore (lv' := [(22, .int (nI ((y / 5) % 5))), (21, .int (bI room)), (16, .int (nI kind)), (18, .int (nI f)), (19, .int (nI th)), (20, .int (nI ck)), (17, .int (nI y)), (14, .int (nI tn)), (12, .ref (q 10)), (11, .ref (q 9)), (10, .ref (q 8)), (9, .ref (q 7)), (8, .ref (q 6)), (7, .ref (q 5)), (6, .ref (q 4)), (5, .ref (q 3)), (4, .ref (q 2)), (3, .ref (q 1)), (2, .ref (q 0)), (1, .ref (u 30)), (0, .ref b9)]) hx hb dL_law_1246 hl (by decide) rfl (fun ls hl => ?_)
                  by_cases hfo : f = y / 5 % 5
                  · rw [← hfo] at hl
                    exact lf_meetSame hfl F hK hX hNz hN hq hf hth hck hy R9 hL hcel hslo hA hC hS kk (lv_sub hl [0, 3, 4, 5, 6, 7, 8, 9, 10, 11, 12, 13, 14, 15, 16, 17, 18, 19, 20] rfl)
                  · exact lf_meetDiff hfl F hK hX hNz hN hq hf hth hck hy R9 hL hcel hslo hA hC hS (by omega) hfo kk (lv_sub hl [0, 3, 4, 5, 6, 7, 8, 9, 10, 11, 12, 13, 14, 15, 16, 17, 18, 19, 20] rfl)
                · skip
                  have mc_27 : ¬ 19 ≤ kind := by omega
                  refine lv_iload hx hb dL_law_994 (lv_at hl 0 rfl) ?_
                  refine lw_beq (tgt := 1240) hx hb dL_law_996 (by decide) (fun _ => ?_) (fun z9 => Bool.noConfusion (c_20.symm.trans z9))
                  refine lv_iload hx hb dL_law_1240 (lv_at hl 5 rfl) ?_
                  refine lv_iconst (v := 5) hx hb dL_law_1242 (by decide) ?_
                  refine lw_divN hx hb (i := y) (j := 5) (by omega) (by omega) (by omega) dL_law_1243 ?_
                  refine lv_iconst (v := 5) hx hb dL_law_1244 (by decide) ?_
                  refine lw_remN hx hb (i := (y / 5)) (j := 5) (by omega) (by omega) (by omega) dL_law_1245 ?_
                  refine lv_istore (lv' := [(22, .int (nI ((y / 5) % 5))), (21, .int (bI room)), (16, .int (nI kind)), (18, .int (nI f)), (19, .int (nI th)), (20, .int (nI ck)), (17, .int (nI y)), (14, .int (nI tn)), (12, .ref (q 10)), (11, .ref (q 9)), (10, .ref (q 8)), (9, .ref (q 7)), (8, .ref (q 6)), (7, .ref (q 5)), (6, .ref (q 4)), (5, .ref (q 3)), (4, .ref (q 2)), (3, .ref (q 1)), (2, .ref (q 0)), (1, .ref (u 30)), (0, .ref b9)]) hx hb dL_law_1246 hl (by decide) rfl (fun ls hl => ?_)
                  by_cases hfo : f = y / 5 % 5
                  · rw [← hfo] at hl
                    exact lf_meetSame hfl F hK hX hNz hN hq hf hth hck hy R9 hL hcel hslo hA hC hS kk (lv_sub hl [0, 3, 4, 5, 6, 7, 8, 9, 10, 11, 12, 13, 14, 15, 16, 17, 18, 19, 20] rfl)
                  · exact lf_meetDiff hfl F hK hX hNz hN hq hf hth hck hy R9 hL hcel hslo hA hC hS (by omega) hfo kk (lv_sub hl [0, 3, 4, 5, 6, 7, 8, 9, 10, 11, 12, 13, 14, 15, 16, 17, 18, 19, 20] rfl)
          · skip
            exact lf_guest hfl F hK hX hNz hN hq hf hth hck hy R9 hL hcel hslo hA hC hS (hroom c_20) kk (lv_sub hl [2, 3, 4, 5, 6, 7, 8, 9, 10, 11, 12, 13, 14, 15, 16, 17, 18, 19] rfl)
      · skip
        refine lv_iload hx hb dL_law_438 (lv_at hl 0 rfl) ?_
        refine lw_beq (tgt := 514) hx hb dL_law_440 (by decide) (fun c_28 => ?_) (fun c_28 => ?_)
        · skip
          refine lv_iload hx hb dL_law_514 (lv_at hl 1 rfl) ?_
          refine lv_bipush (v := 10) hx hb dL_law_516 (by decide) ?_
          refine lw_ge (tgt := 649) hx hb kind 10 (by omega) (by omega) dL_law_518 (by decide) (fun c_29 => ?_) (fun c_29 => ?_)
          · skip
            have mc_29 : ¬ kind < 10 := by omega
            refine lv_iload hx hb dL_law_649 (lv_at hl 1 rfl) ?_
            refine lv_bipush (v := 12) hx hb dL_law_651 (by decide) ?_
            refine lw_ge (tgt := 801) hx hb kind 12 (by omega) (by omega) dL_law_653 (by decide) (fun c_30 => ?_) (fun c_30 => ?_)
            · skip
              have mc_30 : ¬ kind < 12 := by omega
              refine lv_iload hx hb dL_law_801 (lv_at hl 1 rfl) ?_
              refine lv_bipush (v := 16) hx hb dL_law_803 (by decide) ?_
              refine lw_ge (tgt := 987) hx hb kind 16 (by omega) (by omega) dL_law_805 (by decide) (fun c_31 => ?_) (fun c_31 => ?_)
              · skip
                have mc_31 : ¬ kind < 16 := by omega
                refine lv_iload hx hb dL_law_987 (lv_at hl 1 rfl) ?_
                refine lv_bipush (v := 19) hx hb dL_law_989 (by decide) ?_
                refine lw_ge (tgt := 1240) hx hb kind 19 (by omega) (by omega) dL_law_991 (by decide) (fun c_32 => ?_) (fun c_32 => ?_)
                · skip
                  have mc_32 : ¬ kind < 19 := by omega
                  refine lv_iload hx hb dL_law_1240 (lv_at hl 5 rfl) ?_
                  refine lv_iconst (v := 5) hx hb dL_law_1242 (by decide) ?_
                  refine lw_divN hx hb (i := y) (j := 5) (by omega) (by omega) (by omega) dL_law_1243 ?_
                  refine lv_iconst (v := 5) hx hb dL_law_1244 (by decide) ?_
                  refine lw_remN hx hb (i := (y / 5)) (j := 5) (by omega) (by omega) (by omega) dL_law_1245 ?_
                  refine lv_istore (lv' := [(22, .int (nI ((y / 5) % 5))), (21, .int (bI room)), (16, .int (nI kind)), (18, .int (nI f)), (19, .int (nI th)), (20, .int (nI ck)), (17, .int (nI y)), (14, .int (nI tn)), (12, .ref (q 10)), (11, .ref (q 9)), (10, .ref (q 8)), (9, .ref (q 7)), (8, .ref (q 6)), (7, .ref (q 5)), (6, .ref (q 4)), (5, .ref (q 3)), (4, .ref (q 2)), (3, .ref (q 1)), (2, .ref (q 0)), (1, .ref (u 30)), (0, .ref b9)]) hx hb dL_law_1246 hl (by decide) rfl (fun ls hl => ?_)
                  by_cases hfo : f = y / 5 % 5
                  · rw [← hfo] at hl
                    exact lf_meetSame hfl F hK hX hNz hN hq hf hth hck hy R9 hL hcel hslo hA hC hS kk (lv_sub hl [0, 3, 4, 5, 6, 7, 8, 9, 10, 11, 12, 13, 14, 15, 16, 17, 18, 19, 20] rfl)
                  · exact lf_meetDiff hfl F hK hX hNz hN hq hf hth hck hy R9 hL hcel hslo hA hC hS (by omega) hfo kk (lv_sub hl [0, 3, 4, 5, 6, 7, 8, 9, 10, 11, 12, 13, 14, 15, 16, 17, 18, 19, 20] rfl)
                · skip
                  have mc_32 : ¬ 19 ≤ kind := by omega
                  refine lv_iload hx hb dL_law_994 (lv_at hl 0 rfl) ?_
                  refine lw_beq (tgt := 1240) hx hb dL_law_996 (by decide) (fun _ => ?_) (fun z9 => Bool.noConfusion (c_28.symm.trans z9))
                  refine lv_iload hx hb dL_law_1240 (lv_at hl 5 rfl) ?_
                  refine lv_iconst (v := 5) hx hb dL_law_1242 (by decide) ?_
                  refine lw_divN hx hb (i := y) (j := 5) (by omega) (by omega) (by omega) dL_law_1243 ?_
                  refine lv_iconst (v := 5) hx hb dL_law_1244 (by decide) ?_
                  refine lw_remN hx hb (i := (y / 5)) (j := 5) (by omega) (by omega) (by omega) dL_law_1245 ?_
                  refine lv_istore (lv' := [(22, .int (nI ((y / 5) % 5))), (21, .int (bI room)), (16, .int (nI kind)), (18, .int (nI f)), (19, .int (nI th)), (20, .int (nI ck)), (17, .int (nI y)), (14, .int (nI tn)), (12, .ref (q 10)), (11, .ref (q 9)), (10, .ref (q 8)), (9, .ref (q 7)), (8, .ref (q 6)), (7, .ref (q 5)), (6, .ref (q 4)), (5, .ref (q 3)), (4, .ref (q 2)), (3, .ref (q 1)), (2, .ref (q 0)), (1, .ref (u 30)), (0, .ref b9)]) hx hb dL_law_1246 hl (by decide) rfl (fun ls hl => ?_)
                  by_cases hfo : f = y / 5 % 5
                  · rw [← hfo] at hl
                    exact lf_meetSame hfl F hK hX hNz hN hq hf hth hck hy R9 hL hcel hslo hA hC hS kk (lv_sub hl [0, 3, 4, 5, 6, 7, 8, 9, 10, 11, 12, 13, 14, 15, 16, 17, 18, 19, 20] rfl)
                  · exact lf_meetDiff hfl F hK hX hNz hN hq hf hth hck hy R9 hL hcel hslo hA hC hS (by omega) hfo kk (lv_sub hl [0, 3, 4, 5, 6, 7, 8, 9, 10, 11, 12, 13, 14, 15, 16, 17, 18, 19, 20] rfl)
              · skip
                have mc_31 : ¬ 16 ≤ kind := by omega
                refine lv_iload hx hb dL_law_808 (lv_at hl 0 rfl) ?_
                refine lw_beq (tgt := 987) hx hb dL_law_810 (by decide) (fun _ => ?_) (fun z9 => Bool.noConfusion (c_28.symm.trans z9))
                refine lv_iload hx hb dL_law_987 (lv_at hl 1 rfl) ?_
                refine lv_bipush (v := 19) hx hb dL_law_989 (by decide) ?_
                refine lw_ge (tgt := 1240) hx hb kind 19 (by omega) (by omega) dL_law_991 (by decide) (fun c_33 => ?_) (fun c_33 => ?_)
                · skip
                  have mc_33 : ¬ kind < 19 := by omega
                  refine lv_iload hx hb dL_law_1240 (lv_at hl 5 rfl) ?_
                  refine lv_iconst (v := 5) hx hb dL_law_1242 (by decide) ?_
                  refine lw_divN hx hb (i := y) (j := 5) (by omega) (by omega) (by omega) dL_law_1243 ?_
                  refine lv_iconst (v := 5) hx hb dL_law_1244 (by decide) ?_
                  refine lw_remN hx hb (i := (y / 5)) (j := 5) (by omega) (by omega) (by omega) dL_law_1245 ?_
                  refine lv_istore (lv' := [(22, .int (nI ((y / 5) % 5))), (21, .int (bI room)), (16, .int (nI kind)), (18, .int (nI f)), (19, .int (nI th)), (20, .int (nI ck)), (17, .int (nI y)), (14, .int (nI tn)), (12, .ref (q 10)), (11, .ref (q 9)), (10, .ref (q 8)), (9, .ref (q 7)), (8, .ref (q 6)), (7, .ref (q 5)), (6, .ref (q 4)), (5, .ref (q 3)), (4, .ref (q 2)), (3, .ref (q 1)), (2, .ref (q 0)), (1, .ref (u 30)), (0, .ref b9)]) hx hb dL_law_1246 hl (by decide) rfl (fun ls hl => ?_)
                  by_cases hfo : f = y / 5 % 5
                  · rw [← hfo] at hl
                    exact lf_meetSame hfl F hK hX hNz hN hq hf hth hck hy R9 hL hcel hslo hA hC hS kk (lv_sub hl [0, 3, 4, 5, 6, 7, 8, 9, 10, 11, 12, 13, 14, 15, 16, 17, 18, 19, 20] rfl)
                  · exact lf_meetDiff hfl F hK hX hNz hN hq hf hth hck hy R9 hL hcel hslo hA hC hS (by omega) hfo kk (lv_sub hl [0, 3, 4, 5, 6, 7, 8, 9, 10, 11, 12, 13, 14, 15, 16, 17, 18, 19, 20] rfl)
                · skip
                  have mc_33 : ¬ 19 ≤ kind := by omega
                  refine lv_iload hx hb dL_law_994 (lv_at hl 0 rfl) ?_
                  refine lw_beq (tgt := 1240) hx hb dL_law_996 (by decide) (fun _ => ?_) (fun z9 => Bool.noConfusion (c_28.symm.trans z9))
                  refine lv_iload hx hb dL_law_1240 (lv_at hl 5 rfl) ?_
                  refine lv_iconst (v := 5) hx hb dL_law_1242 (by decide) ?_
                  refine lw_divN hx hb (i := y) (j := 5) (by omega) (by omega) (by omega) dL_law_1243 ?_
                  refine lv_iconst (v := 5) hx hb dL_law_1244 (by decide) ?_
                  refine lw_remN hx hb (i := (y / 5)) (j := 5) (by omega) (by omega) (by omega) dL_law_1245 ?_
                  refine lv_istore (lv' := [(22, .int (nI ((y / 5) % 5))), (21, .int (bI room)), (16, .int (nI kind)), (18, .int (nI f)), (19, .int (nI th)), (20, .int (nI ck)), (17, .int (nI y)), (14, .int (nI tn)), (12, .ref (q 10)), (11, .ref (q 9)), (10, .ref (q 8)), (9, .ref (q 7)), (8, .ref (q 6)), (7, .ref (q 5)), (6, .ref (q 4)), (5, .ref (q 3)), (4, .ref (q 2)), (3, .ref (q 1)), (2, .ref (q 0)), (1, .ref (u 30)), (0, .ref b9)]) hx hb dL_law_1246 hl (by decide) rfl (fun ls hl => ?_)
                  by_cases hfo : f = y / 5 % 5
                  · rw [← hfo] at hl
                    exact lf_meetSame hfl F hK hX hNz hN hq hf hth hck hy R9 hL hcel hslo hA hC hS kk (lv_sub hl [0, 3, 4, 5, 6, 7, 8, 9, 10, 11, 12, 13, 14, 15, 16, 17, 18, 19, 20] rfl)
                  · exact lf_meetDiff hfl F hK hX hNz hN hq hf hth hck hy R9 hL hcel hslo hA hC hS (by omega) hfo kk (lv_sub hl [0, 3, 4, 5, 6, 7, 8, 9, 10, 11, 12, 13, 14, 15, 16, 17, 18, 19, 20] rfl)
            · skip
              have mc_30 : ¬ 12 ≤ kind := by omega
              refine lv_iload hx hb dL_law_656 (lv_at hl 0 rfl) ?_
              refine lw_beq (tgt := 801) hx hb dL_law_658 (by decide) (fun _ => ?_) (fun z9 => Bool.noConfusion (c_28.symm.trans z9))
              refine lv_iload hx hb dL_law_801 (lv_at hl 1 rfl) ?_
              refine lv_bipush (v := 16) hx hb dL_law_803 (by decide) ?_
              refine lw_ge (tgt := 987) hx hb kind 16 (by omega) (by omega) dL_law_805 (by decide) (fun c_34 => ?_) (fun c_34 => ?_)
              · skip
                have mc_34 : ¬ kind < 16 := by omega
                refine lv_iload hx hb dL_law_987 (lv_at hl 1 rfl) ?_
                refine lv_bipush (v := 19) hx hb dL_law_989 (by decide) ?_
                refine lw_ge (tgt := 1240) hx hb kind 19 (by omega) (by omega) dL_law_991 (by decide) (fun c_35 => ?_) (fun c_35 => ?_)
                · skip
                  have mc_35 : ¬ kind < 19 := by omega
                  refine lv_iload hx hb dL_law_1240 (lv_at hl 5 rfl) ?_
                  refine lv_iconst (v := 5) hx hb dL_law_1242 (by decide) ?_
                  refine lw_divN hx hb (i := y) (j := 5) (by omega) (by omega) (by omega) dL_law_1243 ?_
                  refine lv_iconst (v := 5) hx hb dL_law_1244 (by decide) ?_
                  refine lw_remN hx hb (i := (y / 5)) (j := 5) (by omega) (by omega) (by omega) dL_law_1245 ?_
                  refine lv_istore (lv' := [(22, .int (nI ((y / 5) % 5))), (21, .int (bI room)), (16, .int (nI kind)), (18, .int (nI f)), (19, .int (nI th)), (20, .int (nI ck)), (17, .int (nI y)), (14, .int (nI tn)), (12, .ref (q 10)), (11, .ref (q 9)), (10, .ref (q 8)), (9, .ref (q 7)), (8, .ref (q 6)), (7, .ref (q 5)), (6, .ref (q 4)), (5, .ref (q 3)), (4, .ref (q 2)), (3, .ref (q 1)), (2, .ref (q 0)), (1, .ref (u 30)), (0, .ref b9)]) hx hb dL_law_1246 hl (by decide) rfl (fun ls hl => ?_)
                  by_cases hfo : f = y / 5 % 5
                  · rw [← hfo] at hl
                    exact lf_meetSame hfl F hK hX hNz hN hq hf hth hck hy R9 hL hcel hslo hA hC hS kk (lv_sub hl [0, 3, 4, 5, 6, 7, 8, 9, 10, 11, 12, 13, 14, 15, 16, 17, 18, 19, 20] rfl)
                  · exact lf_meetDiff hfl F hK hX hNz hN hq hf hth hck hy R9 hL hcel hslo hA hC hS (by omega) hfo kk (lv_sub hl [0, 3, 4, 5, 6, 7, 8, 9, 10, 11, 12, 13, 14, 15, 16, 17, 18, 19, 20] rfl)
                · skip
                  have mc_35 : ¬ 19 ≤ kind := by omega
                  refine lv_iload hx hb dL_law_994 (lv_at hl 0 rfl) ?_
                  refine lw_beq (tgt := 1240) hx hb dL_law_996 (by decide) (fun _ => ?_) (fun z9 => Bool.noConfusion (c_28.symm.trans z9))
                  refine lv_iload hx hb dL_law_1240 (lv_at hl 5 rfl) ?_
                  refine lv_iconst (v := 5) hx hb dL_law_1242 (by decide) ?_
                  refine lw_divN hx hb (i := y) (j := 5) (by omega) (by omega) (by omega) dL_law_1243 ?_
                  refine lv_iconst (v := 5) hx hb dL_law_1244 (by decide) ?_
                  refine lw_remN hx hb (i := (y / 5)) (j := 5) (by omega) (by omega) (by omega) dL_law_1245 ?_
                  refine lv_istore (lv' := [(22, .int (nI ((y / 5) % 5))), (21, .int (bI room)), (16, .int (nI kind)), (18, .int (nI f)), (19, .int (nI th)), (20, .int (nI ck)), (17, .int (nI y)), (14, .int (nI tn)), (12, .ref (q 10)), (11, .ref (q 9)), (10, .ref (q 8)), (9, .ref (q 7)), (8, .ref (q 6)), (7, .ref (q 5)), (6, .ref (q 4)), (5, .ref (q 3)), (4, .ref (q 2)), (3, .ref (q 1)), (2, .ref (q 0)), (1, .ref (u 30)), (0, .ref b9)]) hx hb dL_law_1246 hl (by decide) rfl (fun ls hl => ?_)
                  by_cases hfo : f = y / 5 % 5
                  · rw [← hfo] at hl
                    exact lf_meetSame hfl F hK hX hNz hN hq hf hth hck hy R9 hL hcel hslo hA hC hS kk (lv_sub hl [0, 3, 4, 5, 6, 7, 8, 9, 10, 11, 12, 13, 14, 15, 16, 17, 18, 19, 20] rfl)
                  · exact lf_meetDiff hfl F hK hX hNz hN hq hf hth hck hy R9 hL hcel hslo hA hC hS (by omega) hfo kk (lv_sub hl [0, 3, 4, 5, 6, 7, 8, 9, 10, 11, 12, 13, 14, 15, 16, 17, 18, 19, 20] rfl)
              · skip
                have mc_34 : ¬ 16 ≤ kind := by omega
                refine lv_iload hx hb dL_law_808 (lv_at hl 0 rfl) ?_
                refine lw_beq (tgt := 987) hx hb dL_law_810 (by decide) (fun _ => ?_) (fun z9 => Bool.noConfusion (c_28.symm.trans z9))
                refine lv_iload hx hb dL_law_987 (lv_at hl 1 rfl) ?_
                refine lv_bipush (v := 19) hx hb dL_law_989 (by decide) ?_
                refine lw_ge (tgt := 1240) hx hb kind 19 (by omega) (by omega) dL_law_991 (by decide) (fun c_36 => ?_) (fun c_36 => ?_)
                · skip
                  have mc_36 : ¬ kind < 19 := by omega
                  refine lv_iload hx hb dL_law_1240 (lv_at hl 5 rfl) ?_
                  refine lv_iconst (v := 5) hx hb dL_law_1242 (by decide) ?_
                  refine lw_divN hx hb (i := y) (j := 5) (by omega) (by omega) (by omega) dL_law_1243 ?_
                  refine lv_iconst (v := 5) hx hb dL_law_1244 (by decide) ?_
                  refine lw_remN hx hb (i := (y / 5)) (j := 5) (by omega) (by omega) (by omega) dL_law_1245 ?_
                  refine lv_istore (lv' := [(22, .int (nI ((y / 5) % 5))), (21, .int (bI room)), (16, .int (nI kind)), (18, .int (nI f)), (19, .int (nI th)), (20, .int (nI ck)), (17, .int (nI y)), (14, .int (nI tn)), (12, .ref (q 10)), (11, .ref (q 9)), (10, .ref (q 8)), (9, .ref (q 7)), (8, .ref (q 6)), (7, .ref (q 5)), (6, .ref (q 4)), (5, .ref (q 3)), (4, .ref (q 2)), (3, .ref (q 1)), (2, .ref (q 0)), (1, .ref (u 30)), (0, .ref b9)]) hx hb dL_law_1246 hl (by decide) rfl (fun ls hl => ?_)
                  by_cases hfo : f = y / 5 % 5
                  · rw [← hfo] at hl
                    exact lf_meetSame hfl F hK hX hNz hN hq hf hth hck hy R9 hL hcel hslo hA hC hS kk (lv_sub hl [0, 3, 4, 5, 6, 7, 8, 9, 10, 11, 12, 13, 14, 15, 16, 17, 18, 19, 20] rfl)
                  · exact lf_meetDiff hfl F hK hX hNz hN hq hf hth hck hy R9 hL hcel hslo hA hC hS (by omega) hfo kk (lv_sub hl [0, 3, 4, 5, 6, 7, 8, 9, 10, 11, 12, 13, 14, 15, 16, 17, 18, 19, 20] rfl)
                · skip
                  have mc_36 : ¬ 19 ≤ kind := by omega
                  refine lv_iload hx hb dL_law_994 (lv_at hl 0 rfl) ?_
                  refine lw_beq (tgt := 1240) hx hb dL_law_996 (by decide) (fun _ => ?_) (fun z9 => Bool.noConfusion (c_28.symm.trans z9))
                  refine lv_iload hx hb dL_law_1240 (lv_at hl 5 rfl) ?_
                  refine lv_iconst (v := 5) hx hb dL_law_1242 (by decide) ?_
                  refine lw_divN hx hb (i := y) (j := 5) (by omega) (by omega) (by omega) dL_law_1243 ?_
                  refine lv_iconst (v := 5) hx hb dL_law_1244 (by decide) ?_
                  refine lw_remN hx hb (i := (y / 5)) (j := 5) (by omega) (by omega) (by omega) dL_law_1245 ?_
                  refine lv_istore (lv' := [(22, .int (nI ((y / 5) % 5))), (21, .int (bI room)), (16, .int (nI kind)), (18, .int (nI f)), (19, .int (nI th)), (20, .int (nI ck)), (17, .int (nI y)), (14, .int (nI tn)), (12, .ref (q 10)), (11, .ref (q 9)), (10, .ref (q 8)), (9, .ref (q 7)), (8, .ref (q 6)), (7, .ref (q 5)), (6, .ref (q 4)), (5, .ref (q 3)), (4, .ref (q 2)), (3, .ref (q 1)), (2, .ref (q 0)), (1, .ref (u 30)), (0, .ref b9)]) hx hb dL_law_1246 hl (by decide) rfl (fun ls hl => ?_)
                  by_cases hfo : f = y / 5 % 5
                  · rw [← hfo] at hl
                    exact lf_meetSame hfl F hK hX hNz hN hq hf hth hck hy R9 hL hcel hslo hA hC hS kk (lv_sub hl [0, 3, 4, 5, 6, 7, 8, 9, 10, 11, 12, 13, 14, 15, 16, 17, 18, 19, 20] rfl)
                  · exact lf_meetDiff hfl F hK hX hNz hN hq hf hth hck hy R9 hL hcel hslo hA hC hS (by omega) hfo kk (lv_sub hl [0, 3, 4, 5, 6, 7, 8, 9, 10, 11, 12, 13, 14, 15, 16, 17, 18, 19, 20] rfl)
          · skip
            have mc_29 : ¬ 10 ≤ kind := by omega
            refine lv_iload hx hb dL_law_521 (lv_at hl 0 rfl) ?_
            refine lw_beq (tgt := 649) hx hb dL_law_523 (by decide) (fun _ => ?_) (fun z9 => Bool.noConfusion (c_28.symm.trans z9))
            refine lv_iload hx hb dL_law_649 (lv_at hl 1 rfl) ?_
            refine lv_bipush (v := 12) hx hb dL_law_651 (by decide) ?_
            refine lw_ge (tgt := 801) hx hb kind 12 (by omega) (by omega) dL_law_653 (by decide) (fun c_37 => ?_) (fun c_37 => ?_)
            · skip
              have mc_37 : ¬ kind < 12 := by omega
              refine lv_iload hx hb dL_law_801 (lv_at hl 1 rfl) ?_
              refine lv_bipush (v := 16) hx hb dL_law_803 (by decide) ?_
              refine lw_ge (tgt := 987) hx hb kind 16 (by omega) (by omega) dL_law_805 (by decide) (fun c_38 => ?_) (fun c_38 => ?_)
              · skip
                have mc_38 : ¬ kind < 16 := by omega
                refine lv_iload hx hb dL_law_987 (lv_at hl 1 rfl) ?_
                refine lv_bipush (v := 19) hx hb dL_law_989 (by decide) ?_
                refine lw_ge (tgt := 1240) hx hb kind 19 (by omega) (by omega) dL_law_991 (by decide) (fun c_39 => ?_) (fun c_39 => ?_)
                · skip
                  have mc_39 : ¬ kind < 19 := by omega
                  refine lv_iload hx hb dL_law_1240 (lv_at hl 5 rfl) ?_
                  refine lv_iconst (v := 5) hx hb dL_law_1242 (by decide) ?_
                  refine lw_divN hx hb (i := y) (j := 5) (by omega) (by omega) (by omega) dL_law_1243 ?_
                  refine lv_iconst (v := 5) hx hb dL_law_1244 (by decide) ?_
                  refine lw_remN hx hb (i := (y / 5)) (j := 5) (by omega) (by omega) (by omega) dL_law_1245 ?_
                  refine lv_istore (lv' := [(22, .int (nI ((y / 5) % 5))), (21, .int (bI room)), (16, .int (nI kind)), (18, .int (nI f)), (19, .int (nI th)), (20, .int (nI ck)), (17, .int (nI y)), (14, .int (nI tn)), (12, .ref (q 10)), (11, .ref (q 9)), (10, .ref (q 8)), (9, .ref (q 7)), (8, .ref (q 6)), (7, .ref (q 5)), (6, .ref (q 4)), (5, .ref (q 3)), (4, .ref (q 2)), (3, .ref (q 1)), (2, .ref (q 0)), (1, .ref (u 30)), (0, .ref b9)]) hx hb dL_law_1246 hl (by decide) rfl (fun ls hl => ?_)
                  by_cases hfo : f = y / 5 % 5
                  · rw [← hfo] at hl
                    exact lf_meetSame hfl F hK hX hNz hN hq hf hth hck hy R9 hL hcel hslo hA hC hS kk (lv_sub hl [0, 3, 4, 5, 6, 7, 8, 9, 10, 11, 12, 13, 14, 15, 16, 17, 18, 19, 20] rfl)
                  · exact lf_meetDiff hfl F hK hX hNz hN hq hf hth hck hy R9 hL hcel hslo hA hC hS (by omega) hfo kk (lv_sub hl [0, 3, 4, 5, 6, 7, 8, 9, 10, 11, 12, 13, 14, 15, 16, 17, 18, 19, 20] rfl)
                · skip
                  have mc_39 : ¬ 19 ≤ kind := by omega
                  refine lv_iload hx hb dL_law_994 (lv_at hl 0 rfl) ?_
                  refine lw_beq (tgt := 1240) hx hb dL_law_996 (by decide) (fun _ => ?_) (fun z9 => Bool.noConfusion (c_28.symm.trans z9))
                  refine lv_iload hx hb dL_law_1240 (lv_at hl 5 rfl) ?_
                  refine lv_iconst (v := 5) hx hb dL_law_1242 (by decide) ?_
                  refine lw_divN hx hb (i := y) (j := 5) (by omega) (by omega) (by omega) dL_law_1243 ?_
                  refine lv_iconst (v := 5) hx hb dL_law_1244 (by decide) ?_
                  refine lw_remN hx hb (i := (y / 5)) (j := 5) (by omega) (by omega) (by omega) dL_law_1245 ?_
                  refine lv_istore (lv' := [(22, .int (nI ((y / 5) % 5))), (21, .int (bI room)), (16, .int (nI kind)), (18, .int (nI f)), (19, .int (nI th)), (20, .int (nI ck)), (17, .int (nI y)), (14, .int (nI tn)), (12, .ref (q 10)), (11, .ref (q 9)), (10, .ref (q 8)), (9, .ref (q 7)), (8, .ref (q 6)), (7, .ref (q 5)), (6, .ref (q 4)), (5, .ref (q 3)), (4, .ref (q 2)), (3, .ref (q 1)), (2, .ref (q 0)), (1, .ref (u 30)), (0, .ref b9)]) hx hb dL_law_1246 hl (by decide) rfl (fun ls hl => ?_)
                  by_cases hfo : f = y / 5 % 5
                  · rw [← hfo] at hl
                    exact lf_meetSame hfl F hK hX hNz hN hq hf hth hck hy R9 hL hcel hslo hA hC hS kk (lv_sub hl [0, 3, 4, 5, 6, 7, 8, 9, 10, 11, 12, 13, 14, 15, 16, 17, 18, 19, 20] rfl)
                  · exact lf_meetDiff hfl F hK hX hNz hN hq hf hth hck hy R9 hL hcel hslo hA hC hS (by omega) hfo kk (lv_sub hl [0, 3, 4, 5, 6, 7, 8, 9, 10, 11, 12, 13, 14, 15, 16, 17, 18, 19, 20] rfl)
              · skip
                have mc_38 : ¬ 16 ≤ kind := by omega
                refine lv_iload hx hb dL_law_808 (lv_at hl 0 rfl) ?_
                refine lw_beq (tgt := 987) hx hb dL_law_810 (by decide) (fun _ => ?_) (fun z9 => Bool.noConfusion (c_28.symm.trans z9))
                refine lv_iload hx hb dL_law_987 (lv_at hl 1 rfl) ?_
                refine lv_bipush (v := 19) hx hb dL_law_989 (by decide) ?_
                refine lw_ge (tgt := 1240) hx hb kind 19 (by omega) (by omega) dL_law_991 (by decide) (fun c_40 => ?_) (fun c_40 => ?_)
                · skip
                  have mc_40 : ¬ kind < 19 := by omega
                  refine lv_iload hx hb dL_law_1240 (lv_at hl 5 rfl) ?_
                  refine lv_iconst (v := 5) hx hb dL_law_1242 (by decide) ?_
                  refine lw_divN hx hb (i := y) (j := 5) (by omega) (by omega) (by omega) dL_law_1243 ?_
                  refine lv_iconst (v := 5) hx hb dL_law_1244 (by decide) ?_
                  refine lw_remN hx hb (i := (y / 5)) (j := 5) (by omega) (by omega) (by omega) dL_law_1245 ?_
                  refine lv_istore (lv' := [(22, .int (nI ((y / 5) % 5))), (21, .int (bI room)), (16, .int (nI kind)), (18, .int (nI f)), (19, .int (nI th)), (20, .int (nI ck)), (17, .int (nI y)), (14, .int (nI tn)), (12, .ref (q 10)), (11, .ref (q 9)), (10, .ref (q 8)), (9, .ref (q 7)), (8, .ref (q 6)), (7, .ref (q 5)), (6, .ref (q 4)), (5, .ref (q 3)), (4, .ref (q 2)), (3, .ref (q 1)), (2, .ref (q 0)), (1, .ref (u 30)), (0, .ref b9)]) hx hb dL_law_1246 hl (by decide) rfl (fun ls hl => ?_)
                  by_cases hfo : f = y / 5 % 5
                  · rw [← hfo] at hl
                    exact lf_meetSame hfl F hK hX hNz hN hq hf hth hck hy R9 hL hcel hslo hA hC hS kk (lv_sub hl [0, 3, 4, 5, 6, 7, 8, 9, 10, 11, 12, 13, 14, 15, 16, 17, 18, 19, 20] rfl)
                  · exact lf_meetDiff hfl F hK hX hNz hN hq hf hth hck hy R9 hL hcel hslo hA hC hS (by omega) hfo kk (lv_sub hl [0, 3, 4, 5, 6, 7, 8, 9, 10, 11, 12, 13, 14, 15, 16, 17, 18, 19, 20] rfl)
                · skip
                  have mc_40 : ¬ 19 ≤ kind := by omega
                  refine lv_iload hx hb dL_law_994 (lv_at hl 0 rfl) ?_
                  refine lw_beq (tgt := 1240) hx hb dL_law_996 (by decide) (fun _ => ?_) (fun z9 => Bool.noConfusion (c_28.symm.trans z9))
                  refine lv_iload hx hb dL_law_1240 (lv_at hl 5 rfl) ?_
                  refine lv_iconst (v := 5) hx hb dL_law_1242 (by decide) ?_
                  refine lw_divN hx hb (i := y) (j := 5) (by omega) (by omega) (by omega) dL_law_1243 ?_
                  refine lv_iconst (v := 5) hx hb dL_law_1244 (by decide) ?_
                  refine lw_remN hx hb (i := (y / 5)) (j := 5) (by omega) (by omega) (by omega) dL_law_1245 ?_
                  refine lv_istore (lv' := [(22, .int (nI ((y / 5) % 5))), (21, .int (bI room)), (16, .int (nI kind)), (18, .int (nI f)), (19, .int (nI th)), (20, .int (nI ck)), (17, .int (nI y)), (14, .int (nI tn)), (12, .ref (q 10)), (11, .ref (q 9)), (10, .ref (q 8)), (9, .ref (q 7)), (8, .ref (q 6)), (7, .ref (q 5)), (6, .ref (q 4)), (5, .ref (q 3)), (4, .ref (q 2)), (3, .ref (q 1)), (2, .ref (q 0)), (1, .ref (u 30)), (0, .ref b9)]) hx hb dL_law_1246 hl (by decide) rfl (fun ls hl => ?_)
                  by_cases hfo : f = y / 5 % 5
                  · rw [← hfo] at hl
                    exact lf_meetSame hfl F hK hX hNz hN hq hf hth hck hy R9 hL hcel hslo hA hC hS kk (lv_sub hl [0, 3, 4, 5, 6, 7, 8, 9, 10, 11, 12, 13, 14, 15, 16, 17, 18, 19, 20] rfl)
                  · exact lf_meetDiff hfl F hK hX hNz hN hq hf hth hck hy R9 hL hcel hslo hA hC hS (by omega) hfo kk (lv_sub hl [0, 3, 4, 5, 6, 7, 8, 9, 10, 11, 12, 13, 14, 15, 16, 17, 18, 19, 20] rfl)
            · skip
              have mc_37 : ¬ 12 ≤ kind := by omega
              refine lv_iload hx hb dL_law_656 (lv_at hl 0 rfl) ?_
              refine lw_beq (tgt := 801) hx hb dL_law_658 (by decide) (fun _ => ?_) (fun z9 => Bool.noConfusion (c_28.symm.trans z9))
              refine lv_iload hx hb dL_law_801 (lv_at hl 1 rfl) ?_
              refine lv_bipush (v := 16) hx hb dL_law_803 (by decide) ?_
              refine lw_ge (tgt := 987) hx hb kind 16 (by omega) (by omega) dL_law_805 (by decide) (fun c_41 => ?_) (fun c_41 => ?_)
              · skip
                have mc_41 : ¬ kind < 16 := by omega
                refine lv_iload hx hb dL_law_987 (lv_at hl 1 rfl) ?_
                refine lv_bipush (v := 19) hx hb dL_law_989 (by decide) ?_
                refine lw_ge (tgt := 1240) hx hb kind 19 (by omega) (by omega) dL_law_991 (by decide) (fun c_42 => ?_) (fun c_42 => ?_)
                · skip
                  have mc_42 : ¬ kind < 19 := by omega
                  refine lv_iload hx hb dL_law_1240 (lv_at hl 5 rfl) ?_
                  refine lv_iconst (v := 5) hx hb dL_law_1242 (by decide) ?_
                  refine lw_divN hx hb (i := y) (j := 5) (by omega) (by omega) (by omega) dL_law_1243 ?_
                  refine lv_iconst (v := 5) hx hb dL_law_1244 (by decide) ?_
                  refine lw_remN hx hb (i := (y / 5)) (j := 5) (by omega) (by omega) (by omega) dL_law_1245 ?_
                  refine lv_istore (lv' := [(22, .int (nI ((y / 5) % 5))), (21, .int (bI room)), (16, .int (nI kind)), (18, .int (nI f)), (19, .int (nI th)), (20, .int (nI ck)), (17, .int (nI y)), (14, .int (nI tn)), (12, .ref (q 10)), (11, .ref (q 9)), (10, .ref (q 8)), (9, .ref (q 7)), (8, .ref (q 6)), (7, .ref (q 5)), (6, .ref (q 4)), (5, .ref (q 3)), (4, .ref (q 2)), (3, .ref (q 1)), (2, .ref (q 0)), (1, .ref (u 30)), (0, .ref b9)]) hx hb dL_law_1246 hl (by decide) rfl (fun ls hl => ?_)
                  by_cases hfo : f = y / 5 % 5
                  · rw [← hfo] at hl
                    exact lf_meetSame hfl F hK hX hNz hN hq hf hth hck hy R9 hL hcel hslo hA hC hS kk (lv_sub hl [0, 3, 4, 5, 6, 7, 8, 9, 10, 11, 12, 13, 14, 15, 16, 17, 18, 19, 20] rfl)
                  · exact lf_meetDiff hfl F hK hX hNz hN hq hf hth hck hy R9 hL hcel hslo hA hC hS (by omega) hfo kk (lv_sub hl [0, 3, 4, 5, 6, 7, 8, 9, 10, 11, 12, 13, 14, 15, 16, 17, 18, 19, 20] rfl)
                · skip
                  have mc_42 : ¬ 19 ≤ kind := by omega
                  refine lv_iload hx hb dL_law_994 (lv_at hl 0 rfl) ?_
                  refine lw_beq (tgt := 1240) hx hb dL_law_996 (by decide) (fun _ => ?_) (fun z9 => Bool.noConfusion (c_28.symm.trans z9))
                  refine lv_iload hx hb dL_law_1240 (lv_at hl 5 rfl) ?_
                  refine lv_iconst (v := 5) hx hb dL_law_1242 (by decide) ?_
                  refine lw_divN hx hb (i := y) (j := 5) (by omega) (by omega) (by omega) dL_law_1243 ?_
                  refine lv_iconst (v := 5) hx hb dL_law_1244 (by decide) ?_
                  refine lw_remN hx hb (i := (y / 5)) (j := 5) (by omega) (by omega) (by omega) dL_law_1245 ?_
                  refine lv_istore (lv' := [(22, .int (nI ((y / 5) % 5))), (21, .int (bI room)), (16, .int (nI kind)), (18, .int (nI f)), (19, .int (nI th)), (20, .int (nI ck)), (17, .int (nI y)), (14, .int (nI tn)), (12, .ref (q 10)), (11, .ref (q 9)), (10, .ref (q 8)), (9, .ref (q 7)), (8, .ref (q 6)), (7, .ref (q 5)), (6, .ref (q 4)), (5, .ref (q 3)), (4, .ref (q 2)), (3, .ref (q 1)), (2, .ref (q 0)), (1, .ref (u 30)), (0, .ref b9)]) hx hb dL_law_1246 hl (by decide) rfl (fun ls hl => ?_)
                  by_cases hfo : f = y / 5 % 5
                  · rw [← hfo] at hl
                    exact lf_meetSame hfl F hK hX hNz hN hq hf hth hck hy R9 hL hcel hslo hA hC hS kk (lv_sub hl [0, 3, 4, 5, 6, 7, 8, 9, 10, 11, 12, 13, 14, 15, 16, 17, 18, 19, 20] rfl)
                  · exact lf_meetDiff hfl F hK hX hNz hN hq hf hth hck hy R9 hL hcel hslo hA hC hS (by omega) hfo kk (lv_sub hl [0, 3, 4, 5, 6, 7, 8, 9, 10, 11, 12, 13, 14, 15, 16, 17, 18, 19, 20] rfl)
              · skip
                have mc_41 : ¬ 16 ≤ kind := by omega
                refine lv_iload hx hb dL_law_808 (lv_at hl 0 rfl) ?_
                refine lw_beq (tgt := 987) hx hb dL_law_810 (by decide) (fun _ => ?_) (fun z9 => Bool.noConfusion (c_28.symm.trans z9))
                refine lv_iload hx hb dL_law_987 (lv_at hl 1 rfl) ?_
                refine lv_bipush (v := 19) hx hb dL_law_989 (by decide) ?_
                refine lw_ge (tgt := 1240) hx hb kind 19 (by omega) (by omega) dL_law_991 (by decide) (fun c_43 => ?_) (fun c_43 => ?_)
                · skip
                  have mc_43 : ¬ kind < 19 := by omega
                  refine lv_iload hx hb dL_law_1240 (lv_at hl 5 rfl) ?_
                  refine lv_iconst (v := 5) hx hb dL_law_1242 (by decide) ?_
                  refine lw_divN hx hb (i := y) (j := 5) (by omega) (by omega) (by omega) dL_law_1243 ?_
                  refine lv_iconst (v := 5) hx hb dL_law_1244 (by decide) ?_
                  refine lw_remN hx hb (i := (y / 5)) (j := 5) (by omega) (by omega) (by omega) dL_law_1245 ?_
                  refine lv_istore (lv' := [(22, .int (nI ((y / 5) % 5))), (21, .int (bI room)), (16, .int (nI kind)), (18, .int (nI f)), (19, .int (nI th)), (20, .int (nI ck)), (17, .int (nI y)), (14, .int (nI tn)), (12, .ref (q 10)), (11, .ref (q 9)), (10, .ref (q 8)), (9, .ref (q 7)), (8, .ref (q 6)), (7, .ref (q 5)), (6, .ref (q 4)), (5, .ref (q 3)), (4, .ref (q 2)), (3, .ref (q 1)), (2, .ref (q 0)), (1, .ref (u 30)), (0, .ref b9)]) hx hb dL_law_1246 hl (by decide) rfl (fun ls hl => ?_)
                  by_cases hfo : f = y / 5 % 5
                  · rw [← hfo] at hl
                    exact lf_meetSame hfl F hK hX hNz hN hq hf hth hck hy R9 hL hcel hslo hA hC hS kk (lv_sub hl [0, 3, 4, 5, 6, 7, 8, 9, 10, 11, 12, 13, 14, 15, 16, 17, 18, 19, 20] rfl)
                  · exact lf_meetDiff hfl F hK hX hNz hN hq hf hth hck hy R9 hL hcel hslo hA hC hS (by omega) hfo kk (lv_sub hl [0, 3, 4, 5, 6, 7, 8, 9, 10, 11, 12, 13, 14, 15, 16, 17, 18, 19, 20] rfl)
                · skip
                  have mc_43 : ¬ 19 ≤ kind := by omega
                  refine lv_iload hx hb dL_law_994 (lv_at hl 0 rfl) ?_
                  refine lw_beq (tgt := 1240) hx hb dL_law_996 (by decide) (fun _ => ?_) (fun z9 => Bool.noConfusion (c_28.symm.trans z9))
                  refine lv_iload hx hb dL_law_1240 (lv_at hl 5 rfl) ?_
                  refine lv_iconst (v := 5) hx hb dL_law_1242 (by decide) ?_
                  refine lw_divN hx hb (i := y) (j := 5) (by omega) (by omega) (by omega) dL_law_1243 ?_
                  refine lv_iconst (v := 5) hx hb dL_law_1244 (by decide) ?_
                  refine lw_remN hx hb (i := (y / 5)) (j := 5) (by omega) (by omega) (by omega) dL_law_1245 ?_
                  refine lv_istore (lv' := [(22, .int (nI ((y / 5) % 5))), (21, .int (bI room)), (16, .int (nI kind)), (18, .int (nI f)), (19, .int (nI th)), (20, .int (nI ck)), (17, .int (nI y)), (14, .int (nI tn)), (12, .ref (q 10)), (11, .ref (q 9)), (10, .ref (q 8)), (9, .ref (q 7)), (8, .ref (q 6)), (7, .ref (q 5)), (6, .ref (q 4)), (5, .ref (q 3)), (4, .ref (q 2)), (3, .ref (q 1)), (2, .ref (q 0)), (1, .ref (u 30)), (0, .ref b9)]) hx hb dL_law_1246 hl (by decide) rfl (fun ls hl => ?_)
                  by_cases hfo : f = y / 5 % 5
                  · rw [← hfo] at hl
                    exact lf_meetSame hfl F hK hX hNz hN hq hf hth hck hy R9 hL hcel hslo hA hC hS kk (lv_sub hl [0, 3, 4, 5, 6, 7, 8, 9, 10, 11, 12, 13, 14, 15, 16, 17, 18, 19, 20] rfl)
                  · exact lf_meetDiff hfl F hK hX hNz hN hq hf hth hck hy R9 hL hcel hslo hA hC hS (by omega) hfo kk (lv_sub hl [0, 3, 4, 5, 6, 7, 8, 9, 10, 11, 12, 13, 14, 15, 16, 17, 18, 19, 20] rfl)
        · skip
          exact lf_take hfl F hK hX hNz hN hq hf hth hck hy R9 hL hcel hslo hA hC hS (hroom c_28) kk (lv_sub hl [2, 3, 4, 5, 6, 7, 8, 9, 10, 11, 12, 13, 14, 15, 16, 17, 18, 19] rfl)
    · skip
      have mc_2 : ¬ 7 ≤ kind := by omega
      refine lv_iload hx hb dL_law_343 (lv_at hl 0 rfl) ?_
      refine lw_beq (tgt := 431) hx hb dL_law_345 (by decide) (fun c_44 => ?_) (fun c_44 => ?_)
      · skip
        refine lv_iload hx hb dL_law_431 (lv_at hl 1 rfl) ?_
        refine lv_bipush (v := 7) hx hb dL_law_433 (by decide) ?_
        refine lw_ne (tgt := 514) hx hb kind 7 (by omega) (by omega) dL_law_435 (by decide) (fun c_45 => ?_) (fun c_45 => ?_)
        · skip
          refine lv_iload hx hb dL_law_514 (lv_at hl 1 rfl) ?_
          refine lv_bipush (v := 10) hx hb dL_law_516 (by decide) ?_
          refine lw_ge (tgt := 649) hx hb kind 10 (by omega) (by omega) dL_law_518 (by decide) (fun c_46 => ?_) (fun c_46 => ?_)
          · skip
            have mc_46 : ¬ kind < 10 := by omega
            refine lv_iload hx hb dL_law_649 (lv_at hl 1 rfl) ?_
            refine lv_bipush (v := 12) hx hb dL_law_651 (by decide) ?_
            refine lw_ge (tgt := 801) hx hb kind 12 (by omega) (by omega) dL_law_653 (by decide) (fun c_47 => ?_) (fun c_47 => ?_)
            · skip
              have mc_47 : ¬ kind < 12 := by omega
              refine lv_iload hx hb dL_law_801 (lv_at hl 1 rfl) ?_
              refine lv_bipush (v := 16) hx hb dL_law_803 (by decide) ?_
              refine lw_ge (tgt := 987) hx hb kind 16 (by omega) (by omega) dL_law_805 (by decide) (fun c_48 => ?_) (fun c_48 => ?_)
              · skip
                have mc_48 : ¬ kind < 16 := by omega
                refine lv_iload hx hb dL_law_987 (lv_at hl 1 rfl) ?_
                refine lv_bipush (v := 19) hx hb dL_law_989 (by decide) ?_
                refine lw_ge (tgt := 1240) hx hb kind 19 (by omega) (by omega) dL_law_991 (by decide) (fun c_49 => ?_) (fun c_49 => ?_)
                · skip
                  have mc_49 : ¬ kind < 19 := by omega
                  refine lv_iload hx hb dL_law_1240 (lv_at hl 5 rfl) ?_
                  refine lv_iconst (v := 5) hx hb dL_law_1242 (by decide) ?_
                  refine lw_divN hx hb (i := y) (j := 5) (by omega) (by omega) (by omega) dL_law_1243 ?_
                  refine lv_iconst (v := 5) hx hb dL_law_1244 (by decide) ?_
                  refine lw_remN hx hb (i := (y / 5)) (j := 5) (by omega) (by omega) (by omega) dL_law_1245 ?_
                  refine lv_istore (lv' := [(22, .int (nI ((y / 5) % 5))), (21, .int (bI room)), (16, .int (nI kind)), (18, .int (nI f)), (19, .int (nI th)), (20, .int (nI ck)), (17, .int (nI y)), (14, .int (nI tn)), (12, .ref (q 10)), (11, .ref (q 9)), (10, .ref (q 8)), (9, .ref (q 7)), (8, .ref (q 6)), (7, .ref (q 5)), (6, .ref (q 4)), (5, .ref (q 3)), (4, .ref (q 2)), (3, .ref (q 1)), (2, .ref (q 0)), (1, .ref (u 30)), (0, .ref b9)]) hx hb dL_law_1246 hl (by decide) rfl (fun ls hl => ?_)
                  by_cases hfo : f = y / 5 % 5
                  · rw [← hfo] at hl
                    exact lf_meetSame hfl F hK hX hNz hN hq hf hth hck hy R9 hL hcel hslo hA hC hS kk (lv_sub hl [0, 3, 4, 5, 6, 7, 8, 9, 10, 11, 12, 13, 14, 15, 16, 17, 18, 19, 20] rfl)
                  · exact lf_meetDiff hfl F hK hX hNz hN hq hf hth hck hy R9 hL hcel hslo hA hC hS (by omega) hfo kk (lv_sub hl [0, 3, 4, 5, 6, 7, 8, 9, 10, 11, 12, 13, 14, 15, 16, 17, 18, 19, 20] rfl)
                · skip
                  have mc_49 : ¬ 19 ≤ kind := by omega
                  refine lv_iload hx hb dL_law_994 (lv_at hl 0 rfl) ?_
                  refine lw_beq (tgt := 1240) hx hb dL_law_996 (by decide) (fun _ => ?_) (fun z9 => Bool.noConfusion (c_44.symm.trans z9))
                  refine lv_iload hx hb dL_law_1240 (lv_at hl 5 rfl) ?_
                  refine lv_iconst (v := 5) hx hb dL_law_1242 (by decide) ?_
                  refine lw_divN hx hb (i := y) (j := 5) (by omega) (by omega) (by omega) dL_law_1243 ?_
                  refine lv_iconst (v := 5) hx hb dL_law_1244 (by decide) ?_
                  refine lw_remN hx hb (i := (y / 5)) (j := 5) (by omega) (by omega) (by omega) dL_law_1245 ?_
                  refine lv_istore (lv' := [(22, .int (nI ((y / 5) % 5))), (21, .int (bI room)), (16, .int (nI kind)), (18, .int (nI f)), (19, .int (nI th)), (20, .int (nI ck)), (17, .int (nI y)), (14, .int (nI tn)), (12, .ref (q 10)), (11, .ref (q 9)), (10, .ref (q 8)), (9, .ref (q 7)), (8, .ref (q 6)), (7, .ref (q 5)), (6, .ref (q 4)), (5, .ref (q 3)), (4, .ref (q 2)), (3, .ref (q 1)), (2, .ref (q 0)), (1, .ref (u 30)), (0, .ref b9)]) hx hb dL_law_1246 hl (by decide) rfl (fun ls hl => ?_)
                  by_cases hfo : f = y / 5 % 5
                  · rw [← hfo] at hl
                    exact lf_meetSame hfl F hK hX hNz hN hq hf hth hck hy R9 hL hcel hslo hA hC hS kk (lv_sub hl [0, 3, 4, 5, 6, 7, 8, 9, 10, 11, 12, 13, 14, 15, 16, 17, 18, 19, 20] rfl)
                  · exact lf_meetDiff hfl F hK hX hNz hN hq hf hth hck hy R9 hL hcel hslo hA hC hS (by omega) hfo kk (lv_sub hl [0, 3, 4, 5, 6, 7, 8, 9, 10, 11, 12, 13, 14, 15, 16, 17, 18, 19, 20] rfl)
              · skip
                have mc_48 : ¬ 16 ≤ kind := by omega
                refine lv_iload hx hb dL_law_808 (lv_at hl 0 rfl) ?_
                refine lw_beq (tgt := 987) hx hb dL_law_810 (by decide) (fun _ => ?_) (fun z9 => Bool.noConfusion (c_44.symm.trans z9))
                refine lv_iload hx hb dL_law_987 (lv_at hl 1 rfl) ?_
                refine lv_bipush (v := 19) hx hb dL_law_989 (by decide) ?_
                refine lw_ge (tgt := 1240) hx hb kind 19 (by omega) (by omega) dL_law_991 (by decide) (fun c_50 => ?_) (fun c_50 => ?_)
                · skip
                  have mc_50 : ¬ kind < 19 := by omega
                  refine lv_iload hx hb dL_law_1240 (lv_at hl 5 rfl) ?_
                  refine lv_iconst (v := 5) hx hb dL_law_1242 (by decide) ?_
                  refine lw_divN hx hb (i := y) (j := 5) (by omega) (by omega) (by omega) dL_law_1243 ?_
                  refine lv_iconst (v := 5) hx hb dL_law_1244 (by decide) ?_
                  refine lw_remN hx hb (i := (y / 5)) (j := 5) (by omega) (by omega) (by omega) dL_law_1245 ?_
                  refine lv_istore (lv' := [(22, .int (nI ((y / 5) % 5))), (21, .int (bI room)), (16, .int (nI kind)), (18, .int (nI f)), (19, .int (nI th)), (20, .int (nI ck)), (17, .int (nI y)), (14, .int (nI tn)), (12, .ref (q 10)), (11, .ref (q 9)), (10, .ref (q 8)), (9, .ref (q 7)), (8, .ref (q 6)), (7, .ref (q 5)), (6, .ref (q 4)), (5, .ref (q 3)), (4, .ref (q 2)), (3, .ref (q 1)), (2, .ref (q 0)), (1, .ref (u 30)), (0, .ref b9)]) hx hb dL_law_1246 hl (by decide) rfl (fun ls hl => ?_)
                  by_cases hfo : f = y / 5 % 5
                  · rw [← hfo] at hl
                    exact lf_meetSame hfl F hK hX hNz hN hq hf hth hck hy R9 hL hcel hslo hA hC hS kk (lv_sub hl [0, 3, 4, 5, 6, 7, 8, 9, 10, 11, 12, 13, 14, 15, 16, 17, 18, 19, 20] rfl)
                  · exact lf_meetDiff hfl F hK hX hNz hN hq hf hth hck hy R9 hL hcel hslo hA hC hS (by omega) hfo kk (lv_sub hl [0, 3, 4, 5, 6, 7, 8, 9, 10, 11, 12, 13, 14, 15, 16, 17, 18, 19, 20] rfl)
                · skip
                  have mc_50 : ¬ 19 ≤ kind := by omega
                  refine lv_iload hx hb dL_law_994 (lv_at hl 0 rfl) ?_
                  refine lw_beq (tgt := 1240) hx hb dL_law_996 (by decide) (fun _ => ?_) (fun z9 => Bool.noConfusion (c_44.symm.trans z9))
                  refine lv_iload hx hb dL_law_1240 (lv_at hl 5 rfl) ?_
                  refine lv_iconst (v := 5) hx hb dL_law_1242 (by decide) ?_
                  refine lw_divN hx hb (i := y) (j := 5) (by omega) (by omega) (by omega) dL_law_1243 ?_
                  refine lv_iconst (v := 5) hx hb dL_law_1244 (by decide) ?_
                  refine lw_remN hx hb (i := (y / 5)) (j := 5) (by omega) (by omega) (by omega) dL_law_1245 ?_
                  refine lv_istore (lv' := [(22, .int (nI ((y / 5) % 5))), (21, .int (bI room)), (16, .int (nI kind)), (18, .int (nI f)), (19, .int (nI th)), (20, .int (nI ck)), (17, .int (nI y)), (14, .int (nI tn)), (12, .ref (q 10)), (11, .ref (q 9)), (10, .ref (q 8)), (9, .ref (q 7)), (8, .ref (q 6)), (7, .ref (q 5)), (6, .ref (q 4)), (5, .ref (q 3)), (4, .ref (q 2)), (3, .ref (q 1)), (2, .ref (q 0)), (1, .ref (u 30)), (0, .ref b9)]) hx hb dL_law_1246 hl (by decide) rfl (fun ls hl => ?_)
                  by_cases hfo : f = y / 5 % 5
                  · rw [← hfo] at hl
                    exact lf_meetSame hfl F hK hX hNz hN hq hf hth hck hy R9 hL hcel hslo hA hC hS kk (lv_sub hl [0, 3, 4, 5, 6, 7, 8, 9, 10, 11, 12, 13, 14, 15, 16, 17, 18, 19, 20] rfl)
                  · exact lf_meetDiff hfl F hK hX hNz hN hq hf hth hck hy R9 hL hcel hslo hA hC hS (by omega) hfo kk (lv_sub hl [0, 3, 4, 5, 6, 7, 8, 9, 10, 11, 12, 13, 14, 15, 16, 17, 18, 19, 20] rfl)
            · skip
              have mc_47 : ¬ 12 ≤ kind := by omega
              refine lv_iload hx hb dL_law_656 (lv_at hl 0 rfl) ?_
              refine lw_beq (tgt := 801) hx hb dL_law_658 (by decide) (fun _ => ?_) (fun z9 => Bool.noConfusion (c_44.symm.trans z9))
              refine lv_iload hx hb dL_law_801 (lv_at hl 1 rfl) ?_
              refine lv_bipush (v := 16) hx hb dL_law_803 (by decide) ?_
              refine lw_ge (tgt := 987) hx hb kind 16 (by omega) (by omega) dL_law_805 (by decide) (fun c_51 => ?_) (fun c_51 => ?_)
              · skip
                have mc_51 : ¬ kind < 16 := by omega
                refine lv_iload hx hb dL_law_987 (lv_at hl 1 rfl) ?_
                refine lv_bipush (v := 19) hx hb dL_law_989 (by decide) ?_
                refine lw_ge (tgt := 1240) hx hb kind 19 (by omega) (by omega) dL_law_991 (by decide) (fun c_52 => ?_) (fun c_52 => ?_)
                · skip
                  have mc_52 : ¬ kind < 19 := by omega
                  refine lv_iload hx hb dL_law_1240 (lv_at hl 5 rfl) ?_
                  refine lv_iconst (v := 5) hx hb dL_law_1242 (by decide) ?_
                  refine lw_divN hx hb (i := y) (j := 5) (by omega) (by omega) (by omega) dL_law_1243 ?_
                  refine lv_iconst (v := 5) hx hb dL_law_1244 (by decide) ?_
                  refine lw_remN hx hb (i := (y / 5)) (j := 5) (by omega) (by omega) (by omega) dL_law_1245 ?_
                  refine lv_istore (lv' := [(22, .int (nI ((y / 5) % 5))), (21, .int (bI room)), (16, .int (nI kind)), (18, .int (nI f)), (19, .int (nI th)), (20, .int (nI ck)), (17, .int (nI y)), (14, .int (nI tn)), (12, .ref (q 10)), (11, .ref (q 9)), (10, .ref (q 8)), (9, .ref (q 7)), (8, .ref (q 6)), (7, .ref (q 5)), (6, .ref (q 4)), (5, .ref (q 3)), (4, .ref (q 2)), (3, .ref (q 1)), (2, .ref (q 0)), (1, .ref (u 30)), (0, .ref b9)]) hx hb dL_law_1246 hl (by decide) rfl (fun ls hl => ?_)
                  by_cases hfo : f = y / 5 % 5
                  · rw [← hfo] at hl
                    exact lf_meetSame hfl F hK hX hNz hN hq hf hth hck hy R9 hL hcel hslo hA hC hS kk (lv_sub hl [0, 3, 4, 5, 6, 7, 8, 9, 10, 11, 12, 13, 14, 15, 16, 17, 18, 19, 20] rfl)
                  · exact lf_meetDiff hfl F hK hX hNz hN hq hf hth hck hy R9 hL hcel hslo hA hC hS (by omega) hfo kk (lv_sub hl [0, 3, 4, 5, 6, 7, 8, 9, 10, 11, 12, 13, 14, 15, 16, 17, 18, 19, 20] rfl)
                · skip
                  have mc_52 : ¬ 19 ≤ kind := by omega
                  refine lv_iload hx hb dL_law_994 (lv_at hl 0 rfl) ?_
                  refine lw_beq (tgt := 1240) hx hb dL_law_996 (by decide) (fun _ => ?_) (fun z9 => Bool.noConfusion (c_44.symm.trans z9))
                  refine lv_iload hx hb dL_law_1240 (lv_at hl 5 rfl) ?_
                  refine lv_iconst (v := 5) hx hb dL_law_1242 (by decide) ?_
                  refine lw_divN hx hb (i := y) (j := 5) (by omega) (by omega) (by omega) dL_law_1243 ?_
                  refine lv_iconst (v := 5) hx hb dL_law_1244 (by decide) ?_
                  refine lw_remN hx hb (i := (y / 5)) (j := 5) (by omega) (by omega) (by omega) dL_law_1245 ?_
                  refine lv_istore (lv' := [(22, .int (nI ((y / 5) % 5))), (21, .int (bI room)), (16, .int (nI kind)), (18, .int (nI f)), (19, .int (nI th)), (20, .int (nI ck)), (17, .int (nI y)), (14, .int (nI tn)), (12, .ref (q 10)), (11, .ref (q 9)), (10, .ref (q 8)), (9, .ref (q 7)), (8, .ref (q 6)), (7, .ref (q 5)), (6, .ref (q 4)), (5, .ref (q 3)), (4, .ref (q 2)), (3, .ref (q 1)), (2, .ref (q 0)), (1, .ref (u 30)), (0, .ref b9)]) hx hb dL_law_1246 hl (by decide) rfl (fun ls hl => ?_)
                  by_cases hfo : f = y / 5 % 5
                  · rw [← hfo] at hl
                    exact lf_meetSame hfl F hK hX hNz hN hq hf hth hck hy R9 hL hcel hslo hA hC hS kk (lv_sub hl [0, 3, 4, 5, 6, 7, 8, 9, 10, 11, 12, 13, 14, 15, 16, 17, 18, 19, 20] rfl)
                  · exact lf_meetDiff hfl F hK hX hNz hN hq hf hth hck hy R9 hL hcel hslo hA hC hS (by omega) hfo kk (lv_sub hl [0, 3, 4, 5, 6, 7, 8, 9, 10, 11, 12, 13, 14, 15, 16, 17, 18, 19, 20] rfl)
              · skip
                have mc_51 : ¬ 16 ≤ kind := by omega
                refine lv_iload hx hb dL_law_808 (lv_at hl 0 rfl) ?_
                refine lw_beq (tgt := 987) hx hb dL_law_810 (by decide) (fun _ => ?_) (fun z9 => Bool.noConfusion (c_44.symm.trans z9))
                refine lv_iload hx hb dL_law_987 (lv_at hl 1 rfl) ?_
                refine lv_bipush (v := 19) hx hb dL_law_989 (by decide) ?_
                refine lw_ge (tgt := 1240) hx hb kind 19 (by omega) (by omega) dL_law_991 (by decide) (fun c_53 => ?_) (fun c_53 => ?_)
                · skip
                  have mc_53 : ¬ kind < 19 := by omega
                  refine lv_iload hx hb dL_law_1240 (lv_at hl 5 rfl) ?_
                  refine lv_iconst (v := 5) hx hb dL_law_1242 (by decide) ?_
                  refine lw_divN hx hb (i := y) (j := 5) (by omega) (by omega) (by omega) dL_law_1243 ?_
                  refine lv_iconst (v := 5) hx hb dL_law_1244 (by decide) ?_
                  refine lw_remN hx hb (i := (y / 5)) (j := 5) (by omega) (by omega) (by omega) dL_law_1245 ?_
                  refine lv_istore (lv' := [(22, .int (nI ((y / 5) % 5))), (21, .int (bI room)), (16, .int (nI kind)), (18, .int (nI f)), (19, .int (nI th)), (20, .int (nI ck)), (17, .int (nI y)), (14, .int (nI tn)), (12, .ref (q 10)), (11, .ref (q 9)), (10, .ref (q 8)), (9, .ref (q 7)), (8, .ref (q 6)), (7, .ref (q 5)), (6, .ref (q 4)), (5, .ref (q 3)), (4, .ref (q 2)), (3, .ref (q 1)), (2, .ref (q 0)), (1, .ref (u 30)), (0, .ref b9)]) hx hb dL_law_1246 hl (by decide) rfl (fun ls hl => ?_)
                  by_cases hfo : f = y / 5 % 5
                  · rw [← hfo] at hl
                    exact lf_meetSame hfl F hK hX hNz hN hq hf hth hck hy R9 hL hcel hslo hA hC hS kk (lv_sub hl [0, 3, 4, 5, 6, 7, 8, 9, 10, 11, 12, 13, 14, 15, 16, 17, 18, 19, 20] rfl)
                  · exact lf_meetDiff hfl F hK hX hNz hN hq hf hth hck hy R9 hL hcel hslo hA hC hS (by omega) hfo kk (lv_sub hl [0, 3, 4, 5, 6, 7, 8, 9, 10, 11, 12, 13, 14, 15, 16, 17, 18, 19, 20] rfl)
                · skip
                  have mc_53 : ¬ 19 ≤ kind := by omega
                  refine lv_iload hx hb dL_law_994 (lv_at hl 0 rfl) ?_
                  refine lw_beq (tgt := 1240) hx hb dL_law_996 (by decide) (fun _ => ?_) (fun z9 => Bool.noConfusion (c_44.symm.trans z9))
                  refine lv_iload hx hb dL_law_1240 (lv_at hl 5 rfl) ?_
                  refine lv_iconst (v := 5) hx hb dL_law_1242 (by decide) ?_
                  refine lw_divN hx hb (i := y) (j := 5) (by omega) (by omega) (by omega) dL_law_1243 ?_
                  refine lv_iconst (v := 5) hx hb dL_law_1244 (by decide) ?_
                  refine lw_remN hx hb (i := (y / 5)) (j := 5) (by omega) (by omega) (by omega) dL_law_1245 ?_
                  refine lv_istore (lv' := [(22, .int (nI ((y / 5) % 5))), (21, .int (bI room)), (16, .int (nI kind)), (18, .int (nI f)), (19, .int (nI th)), (20, .int (nI ck)), (17, .int (nI y)), (14, .int (nI tn)), (12, .ref (q 10)), (11, .ref (q 9)), (10, .ref (q 8)), (9, .ref (q 7)), (8, .ref (q 6)), (7, .ref (q 5)), (6, .ref (q 4)), (5, .ref (q 3)), (4, .ref (q 2)), (3, .ref (q 1)), (2, .ref (q 0)), (1, .ref (u 30)), (0, .ref b9)]) hx hb dL_law_1246 hl (by decide) rfl (fun ls hl => ?_)
                  by_cases hfo : f = y / 5 % 5
                  · rw [← hfo] at hl
                    exact lf_meetSame hfl F hK hX hNz hN hq hf hth hck hy R9 hL hcel hslo hA hC hS kk (lv_sub hl [0, 3, 4, 5, 6, 7, 8, 9, 10, 11, 12, 13, 14, 15, 16, 17, 18, 19, 20] rfl)
                  · exact lf_meetDiff hfl F hK hX hNz hN hq hf hth hck hy R9 hL hcel hslo hA hC hS (by omega) hfo kk (lv_sub hl [0, 3, 4, 5, 6, 7, 8, 9, 10, 11, 12, 13, 14, 15, 16, 17, 18, 19, 20] rfl)
          · skip
            have mc_46 : ¬ 10 ≤ kind := by omega
            refine lv_iload hx hb dL_law_521 (lv_at hl 0 rfl) ?_
            refine lw_beq (tgt := 649) hx hb dL_law_523 (by decide) (fun _ => ?_) (fun z9 => Bool.noConfusion (c_44.symm.trans z9))
            refine lv_iload hx hb dL_law_649 (lv_at hl 1 rfl) ?_
            refine lv_bipush (v := 12) hx hb dL_law_651 (by decide) ?_
            refine lw_ge (tgt := 801) hx hb kind 12 (by omega) (by omega) dL_law_653 (by decide) (fun c_54 => ?_) (fun c_54 => ?_)
            · skip
              have mc_54 : ¬ kind < 12 := by omega
              refine lv_iload hx hb dL_law_801 (lv_at hl 1 rfl) ?_
              refine lv_bipush (v := 16) hx hb dL_law_803 (by decide) ?_
              refine lw_ge (tgt := 987) hx hb kind 16 (by omega) (by omega) dL_law_805 (by decide) (fun c_55 => ?_) (fun c_55 => ?_)
              · skip
                have mc_55 : ¬ kind < 16 := by omega
                refine lv_iload hx hb dL_law_987 (lv_at hl 1 rfl) ?_
                refine lv_bipush (v := 19) hx hb dL_law_989 (by decide) ?_
                refine lw_ge (tgt := 1240) hx hb kind 19 (by omega) (by omega) dL_law_991 (by decide) (fun c_56 => ?_) (fun c_56 => ?_)
                · skip
                  have mc_56 : ¬ kind < 19 := by omega
                  refine lv_iload hx hb dL_law_1240 (lv_at hl 5 rfl) ?_
                  refine lv_iconst (v := 5) hx hb dL_law_1242 (by decide) ?_
                  refine lw_divN hx hb (i := y) (j := 5) (by omega) (by omega) (by omega) dL_law_1243 ?_
                  refine lv_iconst (v := 5) hx hb dL_law_1244 (by decide) ?_
                  refine lw_remN hx hb (i := (y / 5)) (j := 5) (by omega) (by omega) (by omega) dL_law_1245 ?_
                  refine lv_istore (lv' := [(22, .int (nI ((y / 5) % 5))), (21, .int (bI room)), (16, .int (nI kind)), (18, .int (nI f)), (19, .int (nI th)), (20, .int (nI ck)), (17, .int (nI y)), (14, .int (nI tn)), (12, .ref (q 10)), (11, .ref (q 9)), (10, .ref (q 8)), (9, .ref (q 7)), (8, .ref (q 6)), (7, .ref (q 5)), (6, .ref (q 4)), (5, .ref (q 3)), (4, .ref (q 2)), (3, .ref (q 1)), (2, .ref (q 0)), (1, .ref (u 30)), (0, .ref b9)]) hx hb dL_law_1246 hl (by decide) rfl (fun ls hl => ?_)
                  by_cases hfo : f = y / 5 % 5
                  · rw [← hfo] at hl
                    exact lf_meetSame hfl F hK hX hNz hN hq hf hth hck hy R9 hL hcel hslo hA hC hS kk (lv_sub hl [0, 3, 4, 5, 6, 7, 8, 9, 10, 11, 12, 13, 14, 15, 16, 17, 18, 19, 20] rfl)
                  · exact lf_meetDiff hfl F hK hX hNz hN hq hf hth hck hy R9 hL hcel hslo hA hC hS (by omega) hfo kk (lv_sub hl [0, 3, 4, 5, 6, 7, 8, 9, 10, 11, 12, 13, 14, 15, 16, 17, 18, 19, 20] rfl)
                · skip
                  have mc_56 : ¬ 19 ≤ kind := by omega
                  refine lv_iload hx hb dL_law_994 (lv_at hl 0 rfl) ?_
                  refine lw_beq (tgt := 1240) hx hb dL_law_996 (by decide) (fun _ => ?_) (fun z9 => Bool.noConfusion (c_44.symm.trans z9))
                  refine lv_iload hx hb dL_law_1240 (lv_at hl 5 rfl) ?_
                  refine lv_iconst (v := 5) hx hb dL_law_1242 (by decide) ?_
                  refine lw_divN hx hb (i := y) (j := 5) (by omega) (by omega) (by omega) dL_law_1243 ?_
                  refine lv_iconst (v := 5) hx hb dL_law_1244 (by decide) ?_
                  refine lw_remN hx hb (i := (y / 5)) (j := 5) (by omega) (by omega) (by omega) dL_law_1245 ?_
                  refine lv_istore (lv' := [(22, .int (nI ((y / 5) % 5))), (21, .int (bI room)), (16, .int (nI kind)), (18, .int (nI f)), (19, .int (nI th)), (20, .int (nI ck)), (17, .int (nI y)), (14, .int (nI tn)), (12, .ref (q 10)), (11, .ref (q 9)), (10, .ref (q 8)), (9, .ref (q 7)), (8, .ref (q 6)), (7, .ref (q 5)), (6, .ref (q 4)), (5, .ref (q 3)), (4, .ref (q 2)), (3, .ref (q 1)), (2, .ref (q 0)), (1, .ref (u 30)), (0, .ref b9)]) hx hb dL_law_1246 hl (by decide) rfl (fun ls hl => ?_)
                  by_cases hfo : f = y / 5 % 5
                  · rw [← hfo] at hl
                    exact lf_meetSame hfl F hK hX hNz hN hq hf hth hck hy R9 hL hcel hslo hA hC hS kk (lv_sub hl [0, 3, 4, 5, 6, 7, 8, 9, 10, 11, 12, 13, 14, 15, 16, 17, 18, 19, 20] rfl)
                  · exact lf_meetDiff hfl F hK hX hNz hN hq hf hth hck hy R9 hL hcel hslo hA hC hS (by omega) hfo kk (lv_sub hl [0, 3, 4, 5, 6, 7, 8, 9, 10, 11, 12, 13, 14, 15, 16, 17, 18, 19, 20] rfl)
              · skip
                have mc_55 : ¬ 16 ≤ kind := by omega
                refine lv_iload hx hb dL_law_808 (lv_at hl 0 rfl) ?_
                refine lw_beq (tgt := 987) hx hb dL_law_810 (by decide) (fun _ => ?_) (fun z9 => Bool.noConfusion (c_44.symm.trans z9))
                refine lv_iload hx hb dL_law_987 (lv_at hl 1 rfl) ?_
                refine lv_bipush (v := 19) hx hb dL_law_989 (by decide) ?_
                refine lw_ge (tgt := 1240) hx hb kind 19 (by omega) (by omega) dL_law_991 (by decide) (fun c_57 => ?_) (fun c_57 => ?_)
                · skip
                  have mc_57 : ¬ kind < 19 := by omega
                  refine lv_iload hx hb dL_law_1240 (lv_at hl 5 rfl) ?_
                  refine lv_iconst (v := 5) hx hb dL_law_1242 (by decide) ?_
                  refine lw_divN hx hb (i := y) (j := 5) (by omega) (by omega) (by omega) dL_law_1243 ?_
                  refine lv_iconst (v := 5) hx hb dL_law_1244 (by decide) ?_
                  refine lw_remN hx hb (i := (y / 5)) (j := 5) (by omega) (by omega) (by omega) dL_law_1245 ?_
                  refine lv_istore (lv' := [(22, .int (nI ((y / 5) % 5))), (21, .int (bI room)), (16, .int (nI kind)), (18, .int (nI f)), (19, .int (nI th)), (20, .int (nI ck)), (17, .int (nI y)), (14, .int (nI tn)), (12, .ref (q 10)), (11, .ref (q 9)), (10, .ref (q 8)), (9, .ref (q 7)), (8, .ref (q 6)), (7, .ref (q 5)), (6, .ref (q 4)), (5, .ref (q 3)), (4, .ref (q 2)), (3, .ref (q 1)), (2, .ref (q 0)), (1, .ref (u 30)), (0, .ref b9)]) hx hb dL_law_1246 hl (by decide) rfl (fun ls hl => ?_)
                  by_cases hfo : f = y / 5 % 5
                  · rw [← hfo] at hl
                    exact lf_meetSame hfl F hK hX hNz hN hq hf hth hck hy R9 hL hcel hslo hA hC hS kk (lv_sub hl [0, 3, 4, 5, 6, 7, 8, 9, 10, 11, 12, 13, 14, 15, 16, 17, 18, 19, 20] rfl)
                  · exact lf_meetDiff hfl F hK hX hNz hN hq hf hth hck hy R9 hL hcel hslo hA hC hS (by omega) hfo kk (lv_sub hl [0, 3, 4, 5, 6, 7, 8, 9, 10, 11, 12, 13, 14, 15, 16, 17, 18, 19, 20] rfl)
                · skip
                  have mc_57 : ¬ 19 ≤ kind := by omega
                  refine lv_iload hx hb dL_law_994 (lv_at hl 0 rfl) ?_
                  refine lw_beq (tgt := 1240) hx hb dL_law_996 (by decide) (fun _ => ?_) (fun z9 => Bool.noConfusion (c_44.symm.trans z9))
                  refine lv_iload hx hb dL_law_1240 (lv_at hl 5 rfl) ?_
                  refine lv_iconst (v := 5) hx hb dL_law_1242 (by decide) ?_
                  refine lw_divN hx hb (i := y) (j := 5) (by omega) (by omega) (by omega) dL_law_1243 ?_
                  refine lv_iconst (v := 5) hx hb dL_law_1244 (by decide) ?_
                  refine lw_remN hx hb (i := (y / 5)) (j := 5) (by omega) (by omega) (by omega) dL_law_1245 ?_
                  refine lv_istore (lv' := [(22, .int (nI ((y / 5) % 5))), (21, .int (bI room)), (16, .int (nI kind)), (18, .int (nI f)), (19, .int (nI th)), (20, .int (nI ck)), (17, .int (nI y)), (14, .int (nI tn)), (12, .ref (q 10)), (11, .ref (q 9)), (10, .ref (q 8)), (9, .ref (q 7)), (8, .ref (q 6)), (7, .ref (q 5)), (6, .ref (q 4)), (5, .ref (q 3)), (4, .ref (q 2)), (3, .ref (q 1)), (2, .ref (q 0)), (1, .ref (u 30)), (0, .ref b9)]) hx hb dL_law_1246 hl (by decide) rfl (fun ls hl => ?_)
                  by_cases hfo : f = y / 5 % 5
                  · rw [← hfo] at hl
                    exact lf_meetSame hfl F hK hX hNz hN hq hf hth hck hy R9 hL hcel hslo hA hC hS kk (lv_sub hl [0, 3, 4, 5, 6, 7, 8, 9, 10, 11, 12, 13, 14, 15, 16, 17, 18, 19, 20] rfl)
                  · exact lf_meetDiff hfl F hK hX hNz hN hq hf hth hck hy R9 hL hcel hslo hA hC hS (by omega) hfo kk (lv_sub hl [0, 3, 4, 5, 6, 7, 8, 9, 10, 11, 12, 13, 14, 15, 16, 17, 18, 19, 20] rfl)
            · skip
              have mc_54 : ¬ 12 ≤ kind := by omega
              refine lv_iload hx hb dL_law_656 (lv_at hl 0 rfl) ?_
              refine lw_beq (tgt := 801) hx hb dL_law_658 (by decide) (fun _ => ?_) (fun z9 => Bool.noConfusion (c_44.symm.trans z9))
              refine lv_iload hx hb dL_law_801 (lv_at hl 1 rfl) ?_
              refine lv_bipush (v := 16) hx hb dL_law_803 (by decide) ?_
              refine lw_ge (tgt := 987) hx hb kind 16 (by omega) (by omega) dL_law_805 (by decide) (fun c_58 => ?_) (fun c_58 => ?_)
              · skip
                have mc_58 : ¬ kind < 16 := by omega
                refine lv_iload hx hb dL_law_987 (lv_at hl 1 rfl) ?_
                refine lv_bipush (v := 19) hx hb dL_law_989 (by decide) ?_
                refine lw_ge (tgt := 1240) hx hb kind 19 (by omega) (by omega) dL_law_991 (by decide) (fun c_59 => ?_) (fun c_59 => ?_)
                · skip
                  have mc_59 : ¬ kind < 19 := by omega
                  refine lv_iload hx hb dL_law_1240 (lv_at hl 5 rfl) ?_
                  refine lv_iconst (v := 5) hx hb dL_law_1242 (by decide) ?_
                  refine lw_divN hx hb (i := y) (j := 5) (by omega) (by omega) (by omega) dL_law_1243 ?_
                  refine lv_iconst (v := 5) hx hb dL_law_1244 (by decide) ?_
                  refine lw_remN hx hb (i := (y / 5)) (j := 5) (by omega) (by omega) (by omega) dL_law_1245 ?_
                  refine lv_istore (lv' := [(22, .int (nI ((y / 5) % 5))), (21, .int (bI room)), (16, .int (nI kind)), (18, .int (nI f)), (19, .int (nI th)), (20, .int (nI ck)), (17, .int (nI y)), (14, .int (nI tn)), (12, .ref (q 10)), (11, .ref (q 9)), (10, .ref (q 8)), (9, .ref (q 7)), (8, .ref (q 6)), (7, .ref (q 5)), (6, .ref (q 4)), (5, .ref (q 3)), (4, .ref (q 2)), (3, .ref (q 1)), (2, .ref (q 0)), (1, .ref (u 30)), (0, .ref b9)]) hx hb dL_law_1246 hl (by decide) rfl (fun ls hl => ?_)
                  by_cases hfo : f = y / 5 % 5
                  · rw [← hfo] at hl
                    exact lf_meetSame hfl F hK hX hNz hN hq hf hth hck hy R9 hL hcel hslo hA hC hS kk (lv_sub hl [0, 3, 4, 5, 6, 7, 8, 9, 10, 11, 12, 13, 14, 15, 16, 17, 18, 19, 20] rfl)
                  · exact lf_meetDiff hfl F hK hX hNz hN hq hf hth hck hy R9 hL hcel hslo hA hC hS (by omega) hfo kk (lv_sub hl [0, 3, 4, 5, 6, 7, 8, 9, 10, 11, 12, 13, 14, 15, 16, 17, 18, 19, 20] rfl)
                · skip
                  have mc_59 : ¬ 19 ≤ kind := by omega
                  refine lv_iload hx hb dL_law_994 (lv_at hl 0 rfl) ?_
                  refine lw_beq (tgt := 1240) hx hb dL_law_996 (by decide) (fun _ => ?_) (fun z9 => Bool.noConfusion (c_44.symm.trans z9))
                  refine lv_iload hx hb dL_law_1240 (lv_at hl 5 rfl) ?_
                  refine lv_iconst (v := 5) hx hb dL_law_1242 (by decide) ?_
                  refine lw_divN hx hb (i := y) (j := 5) (by omega) (by omega) (by omega) dL_law_1243 ?_
                  refine lv_iconst (v := 5) hx hb dL_law_1244 (by decide) ?_
                  refine lw_remN hx hb (i := (y / 5)) (j := 5) (by omega) (by omega) (by omega) dL_law_1245 ?_
                  refine lv_istore (lv' := [(22, .int (nI ((y / 5) % 5))), (21, .int (bI room)), (16, .int (nI kind)), (18, .int (nI f)), (19, .int (nI th)), (20, .int (nI ck)), (17, .int (nI y)), (14, .int (nI tn)), (12, .ref (q 10)), (11, .ref (q 9)), (10, .ref (q 8)), (9, .ref (q 7)), (8, .ref (q 6)), (7, .ref (q 5)), (6, .ref (q 4)), (5, .ref (q 3)), (4, .ref (q 2)), (3, .ref (q 1)), (2, .ref (q 0)), (1, .ref (u 30)), (0, .ref b9)]) hx hb dL_law_1246 hl (by decide) rfl (fun ls hl => ?_)
                  by_cases hfo : f = y / 5 % 5
                  · rw [← hfo] at hl
                    exact lf_meetSame hfl F hK hX hNz hN hq hf hth hck hy R9 hL hcel hslo hA hC hS kk (lv_sub hl [0, 3, 4, 5, 6, 7, 8, 9, 10, 11, 12, 13, 14, 15, 16, 17, 18, 19, 20] rfl)
                  · exact lf_meetDiff hfl F hK hX hNz hN hq hf hth hck hy R9 hL hcel hslo hA hC hS (by omega) hfo kk (lv_sub hl [0, 3, 4, 5, 6, 7, 8, 9, 10, 11, 12, 13, 14, 15, 16, 17, 18, 19, 20] rfl)
              · skip
                have mc_58 : ¬ 16 ≤ kind := by omega
                refine lv_iload hx hb dL_law_808 (lv_at hl 0 rfl) ?_
                refine lw_beq (tgt := 987) hx hb dL_law_810 (by decide) (fun _ => ?_) (fun z9 => Bool.noConfusion (c_44.symm.trans z9))
                refine lv_iload hx hb dL_law_987 (lv_at hl 1 rfl) ?_
                refine lv_bipush (v := 19) hx hb dL_law_989 (by decide) ?_
                refine lw_ge (tgt := 1240) hx hb kind 19 (by omega) (by omega) dL_law_991 (by decide) (fun c_60 => ?_) (fun c_60 => ?_)
                · skip
                  have mc_60 : ¬ kind < 19 := by omega
                  refine lv_iload hx hb dL_law_1240 (lv_at hl 5 rfl) ?_
                  refine lv_iconst (v := 5) hx hb dL_law_1242 (by decide) ?_
                  refine lw_divN hx hb (i := y) (j := 5) (by omega) (by omega) (by omega) dL_law_1243 ?_
                  refine lv_iconst (v := 5) hx hb dL_law_1244 (by decide) ?_
                  refine lw_remN hx hb (i := (y / 5)) (j := 5) (by omega) (by omega) (by omega) dL_law_1245 ?_
                  refine lv_istore (lv' := [(22, .int (nI ((y / 5) % 5))), (21, .int (bI room)), (16, .int (nI kind)), (18, .int (nI f)), (19, .int (nI th)), (20, .int (nI ck)), (17, .int (nI y)), (14, .int (nI tn)), (12, .ref (q 10)), (11, .ref (q 9)), (10, .ref (q 8)), (9, .ref (q 7)), (8, .ref (q 6)), (7, .ref (q 5)), (6, .ref (q 4)), (5, .ref (q 3)), (4, .ref (q 2)), (3, .ref (q 1)), (2, .ref (q 0)), (1, .ref (u 30)), (0, .ref b9)]) hx hb dL_law_1246 hl (by decide) rfl (fun ls hl => ?_)
                  by_cases hfo : f = y / 5 % 5
                  · rw [← hfo] at hl
                    exact lf_meetSame hfl F hK hX hNz hN hq hf hth hck hy R9 hL hcel hslo hA hC hS kk (lv_sub hl [0, 3, 4, 5, 6, 7, 8, 9, 10, 11, 12, 13, 14, 15, 16, 17, 18, 19, 20] rfl)
                  · exact lf_meetDiff hfl F hK hX hNz hN hq hf hth hck hy R9 hL hcel hslo hA hC hS (by omega) hfo kk (lv_sub hl [0, 3, 4, 5, 6, 7, 8, 9, 10, 11, 12, 13, 14, 15, 16, 17, 18, 19, 20] rfl)
                · skip
                  have mc_60 : ¬ 19 ≤ kind := by omega
                  refine lv_iload hx hb dL_law_994 (lv_at hl 0 rfl) ?_
                  refine lw_beq (tgt := 1240) hx hb dL_law_996 (by decide) (fun _ => ?_) (fun z9 => Bool.noConfusion (c_44.symm.trans z9))
                  refine lv_iload hx hb dL_law_1240 (lv_at hl 5 rfl) ?_
                  refine lv_iconst (v := 5) hx hb dL_law_1242 (by decide) ?_
                  refine lw_divN hx hb (i := y) (j := 5) (by omega) (by omega) (by omega) dL_law_1243 ?_
                  refine lv_iconst (v := 5) hx hb dL_law_1244 (by decide) ?_
                  refine lw_remN hx hb (i := (y / 5)) (j := 5) (by omega) (by omega) (by omega) dL_law_1245 ?_
                  refine lv_istore (lv' := [(22, .int (nI ((y / 5) % 5))), (21, .int (bI room)), (16, .int (nI kind)), (18, .int (nI f)), (19, .int (nI th)), (20, .int (nI ck)), (17, .int (nI y)), (14, .int (nI tn)), (12, .ref (q 10)), (11, .ref (q 9)), (10, .ref (q 8)), (9, .ref (q 7)), (8, .ref (q 6)), (7, .ref (q 5)), (6, .ref (q 4)), (5, .ref (q 3)), (4, .ref (q 2)), (3, .ref (q 1)), (2, .ref (q 0)), (1, .ref (u 30)), (0, .ref b9)]) hx hb dL_law_1246 hl (by decide) rfl (fun ls hl => ?_)
                  by_cases hfo : f = y / 5 % 5
                  · rw [← hfo] at hl
                    exact lf_meetSame hfl F hK hX hNz hN hq hf hth hck hy R9 hL hcel hslo hA hC hS kk (lv_sub hl [0, 3, 4, 5, 6, 7, 8, 9, 10, 11, 12, 13, 14, 15, 16, 17, 18, 19, 20] rfl)
                  · exact lf_meetDiff hfl F hK hX hNz hN hq hf hth hck hy R9 hL hcel hslo hA hC hS (by omega) hfo kk (lv_sub hl [0, 3, 4, 5, 6, 7, 8, 9, 10, 11, 12, 13, 14, 15, 16, 17, 18, 19, 20] rfl)
        · skip
          refine lv_iload hx hb dL_law_438 (lv_at hl 0 rfl) ?_
          refine lw_beq (tgt := 514) hx hb dL_law_440 (by decide) (fun _ => ?_) (fun z9 => Bool.noConfusion (c_44.symm.trans z9))
          refine lv_iload hx hb dL_law_514 (lv_at hl 1 rfl) ?_
          refine lv_bipush (v := 10) hx hb dL_law_516 (by decide) ?_
          refine lw_ge (tgt := 649) hx hb kind 10 (by omega) (by omega) dL_law_518 (by decide) (fun c_61 => ?_) (fun c_61 => ?_)
          · skip
            have mc_61 : ¬ kind < 10 := by omega
            refine lv_iload hx hb dL_law_649 (lv_at hl 1 rfl) ?_
            refine lv_bipush (v := 12) hx hb dL_law_651 (by decide) ?_
            refine lw_ge (tgt := 801) hx hb kind 12 (by omega) (by omega) dL_law_653 (by decide) (fun c_62 => ?_) (fun c_62 => ?_)
            · skip
              have mc_62 : ¬ kind < 12 := by omega
              refine lv_iload hx hb dL_law_801 (lv_at hl 1 rfl) ?_
              refine lv_bipush (v := 16) hx hb dL_law_803 (by decide) ?_
              refine lw_ge (tgt := 987) hx hb kind 16 (by omega) (by omega) dL_law_805 (by decide) (fun c_63 => ?_) (fun c_63 => ?_)
              · skip
                have mc_63 : ¬ kind < 16 := by omega
                refine lv_iload hx hb dL_law_987 (lv_at hl 1 rfl) ?_
                refine lv_bipush (v := 19) hx hb dL_law_989 (by decide) ?_
                refine lw_ge (tgt := 1240) hx hb kind 19 (by omega) (by omega) dL_law_991 (by decide) (fun c_64 => ?_) (fun c_64 => ?_)
                · skip
                  have mc_64 : ¬ kind < 19 := by omega
                  refine lv_iload hx hb dL_law_1240 (lv_at hl 5 rfl) ?_
                  refine lv_iconst (v := 5) hx hb dL_law_1242 (by decide) ?_
                  refine lw_divN hx hb (i := y) (j := 5) (by omega) (by omega) (by omega) dL_law_1243 ?_
                  refine lv_iconst (v := 5) hx hb dL_law_1244 (by decide) ?_
                  refine lw_remN hx hb (i := (y / 5)) (j := 5) (by omega) (by omega) (by omega) dL_law_1245 ?_
                  refine lv_istore (lv' := [(22, .int (nI ((y / 5) % 5))), (21, .int (bI room)), (16, .int (nI kind)), (18, .int (nI f)), (19, .int (nI th)), (20, .int (nI ck)), (17, .int (nI y)), (14, .int (nI tn)), (12, .ref (q 10)), (11, .ref (q 9)), (10, .ref (q 8)), (9, .ref (q 7)), (8, .ref (q 6)), (7, .ref (q 5)), (6, .ref (q 4)), (5, .ref (q 3)), (4, .ref (q 2)), (3, .ref (q 1)), (2, .ref (q 0)), (1, .ref (u 30)), (0, .ref b9)]) hx hb dL_law_1246 hl (by decide) rfl (fun ls hl => ?_)
                  by_cases hfo : f = y / 5 % 5
                  · rw [← hfo] at hl
                    exact lf_meetSame hfl F hK hX hNz hN hq hf hth hck hy R9 hL hcel hslo hA hC hS kk (lv_sub hl [0, 3, 4, 5, 6, 7, 8, 9, 10, 11, 12, 13, 14, 15, 16, 17, 18, 19, 20] rfl)
                  · exact lf_meetDiff hfl F hK hX hNz hN hq hf hth hck hy R9 hL hcel hslo hA hC hS (by omega) hfo kk (lv_sub hl [0, 3, 4, 5, 6, 7, 8, 9, 10, 11, 12, 13, 14, 15, 16, 17, 18, 19, 20] rfl)
                · skip
                  have mc_64 : ¬ 19 ≤ kind := by omega
                  refine lv_iload hx hb dL_law_994 (lv_at hl 0 rfl) ?_
                  refine lw_beq (tgt := 1240) hx hb dL_law_996 (by decide) (fun _ => ?_) (fun z9 => Bool.noConfusion (c_44.symm.trans z9))
                  refine lv_iload hx hb dL_law_1240 (lv_at hl 5 rfl) ?_
                  refine lv_iconst (v := 5) hx hb dL_law_1242 (by decide) ?_
                  refine lw_divN hx hb (i := y) (j := 5) (by omega) (by omega) (by omega) dL_law_1243 ?_
                  refine lv_iconst (v := 5) hx hb dL_law_1244 (by decide) ?_
                  refine lw_remN hx hb (i := (y / 5)) (j := 5) (by omega) (by omega) (by omega) dL_law_1245 ?_
                  refine lv_istore (lv' := [(22, .int (nI ((y / 5) % 5))), (21, .int (bI room)), (16, .int (nI kind)), (18, .int (nI f)), (19, .int (nI th)), (20, .int (nI ck)), (17, .int (nI y)), (14, .int (nI tn)), (12, .ref (q 10)), (11, .ref (q 9)), (10, .ref (q 8)), (9, .ref (q 7)), (8, .ref (q 6)), (7, .ref (q 5)), (6, .ref (q 4)), (5, .ref (q 3)), (4, .ref (q 2)), (3, .ref (q 1)), (2, .ref (q 0)), (1, .ref (u 30)), (0, .ref b9)]) hx hb dL_law_1246 hl (by decide) rfl (fun ls hl => ?_)
                  by_cases hfo : f = y / 5 % 5
                  · rw [← hfo] at hl
                    exact lf_meetSame hfl F hK hX hNz hN hq hf hth hck hy R9 hL hcel hslo hA hC hS kk (lv_sub hl [0, 3, 4, 5, 6, 7, 8, 9, 10, 11, 12, 13, 14, 15, 16, 17, 18, 19, 20] rfl)
                  · exact lf_meetDiff hfl F hK hX hNz hN hq hf hth hck hy R9 hL hcel hslo hA hC hS (by omega) hfo kk (lv_sub hl [0, 3, 4, 5, 6, 7, 8, 9, 10, 11, 12, 13, 14, 15, 16, 17, 18, 19, 20] rfl)
              · skip
                have mc_63 : ¬ 16 ≤ kind := by omega
                refine lv_iload hx hb dL_law_808 (lv_at hl 0 rfl) ?_
                refine lw_beq (tgt := 987) hx hb dL_law_810 (by decide) (fun _ => ?_) (fun z9 => Bool.noConfusion (c_44.symm.trans z9))
                refine lv_iload hx hb dL_law_987 (lv_at hl 1 rfl) ?_
                refine lv_bipush (v := 19) hx hb dL_law_989 (by decide) ?_
                refine lw_ge (tgt := 1240) hx hb kind 19 (by omega) (by omega) dL_law_991 (by decide) (fun c_65 => ?_) (fun c_65 => ?_)
                · skip
                  have mc_65 : ¬ kind < 19 := by omega
                  refine lv_iload hx hb dL_law_1240 (lv_at hl 5 rfl) ?_
                  refine lv_iconst (v := 5) hx hb dL_law_1242 (by decide) ?_
                  refine lw_divN hx hb (i := y) (j := 5) (by omega) (by omega) (by omega) dL_law_1243 ?_
                  refine lv_iconst (v := 5) hx hb dL_law_1244 (by decide) ?_
                  refine lw_remN hx hb (i := (y / 5)) (j := 5) (by omega) (by omega) (by omega) dL_law_1245 ?_
                  refine lv_istore (lv' := [(22, .int (nI ((y / 5) % 5))), (21, .int (bI room)), (16, .int (nI kind)), (18, .int (nI f)), (19, .int (nI th)), (20, .int (nI ck)), (17, .int (nI y)), (14, .int (nI tn)), (12, .ref (q 10)), (11, .ref (q 9)), (10, .ref (q 8)), (9, .ref (q 7)), (8, .ref (q 6)), (7, .ref (q 5)), (6, .ref (q 4)), (5, .ref (q 3)), (4, .ref (q 2)), (3, .ref (q 1)), (2, .ref (q 0)), (1, .ref (u 30)), (0, .ref b9)]) hx hb dL_law_1246 hl (by decide) rfl (fun ls hl => ?_)
                  by_cases hfo : f = y / 5 % 5
                  · rw [← hfo] at hl
                    exact lf_meetSame hfl F hK hX hNz hN hq hf hth hck hy R9 hL hcel hslo hA hC hS kk (lv_sub hl [0, 3, 4, 5, 6, 7, 8, 9, 10, 11, 12, 13, 14, 15, 16, 17, 18, 19, 20] rfl)
                  · exact lf_meetDiff hfl F hK hX hNz hN hq hf hth hck hy R9 hL hcel hslo hA hC hS (by omega) hfo kk (lv_sub hl [0, 3, 4, 5, 6, 7, 8, 9, 10, 11, 12, 13, 14, 15, 16, 17, 18, 19, 20] rfl)
                · skip
                  have mc_65 : ¬ 19 ≤ kind := by omega
                  refine lv_iload hx hb dL_law_994 (lv_at hl 0 rfl) ?_
                  refine lw_beq (tgt := 1240) hx hb dL_law_996 (by decide) (fun _ => ?_) (fun z9 => Bool.noConfusion (c_44.symm.trans z9))
                  refine lv_iload hx hb dL_law_1240 (lv_at hl 5 rfl) ?_
                  refine lv_iconst (v := 5) hx hb dL_law_1242 (by decide) ?_
                  refine lw_divN hx hb (i := y) (j := 5) (by omega) (by omega) (by omega) dL_law_1243 ?_
                  refine lv_iconst (v := 5) hx hb dL_law_1244 (by decide) ?_
                  refine lw_remN hx hb (i := (y / 5)) (j := 5) (by omega) (by omega) (by omega) dL_law_1245 ?_
                  refine lv_istore (lv' := [(22, .int (nI ((y / 5) % 5))), (21, .int (bI room)), (16, .int (nI kind)), (18, .int (nI f)), (19, .int (nI th)), (20, .int (nI ck)), (17, .int (nI y)), (14, .int (nI tn)), (12, .ref (q 10)), (11, .ref (q 9)), (10, .ref (q 8)), (9, .ref (q 7)), (8, .ref (q 6)), (7, .ref (q 5)), (6, .ref (q 4)), (5, .ref (q 3)), (4, .ref (q 2)), (3, .ref (q 1)), (2, .ref (q 0)), (1, .ref (u 30)), (0, .ref b9)]) hx hb dL_law_1246 hl (by decide) rfl (fun ls hl => ?_)
                  by_cases hfo : f = y / 5 % 5
                  · rw [← hfo] at hl
                    exact lf_meetSame hfl F hK hX hNz hN hq hf hth hck hy R9 hL hcel hslo hA hC hS kk (lv_sub hl [0, 3, 4, 5, 6, 7, 8, 9, 10, 11, 12, 13, 14, 15, 16, 17, 18, 19, 20] rfl)
                  · exact lf_meetDiff hfl F hK hX hNz hN hq hf hth hck hy R9 hL hcel hslo hA hC hS (by omega) hfo kk (lv_sub hl [0, 3, 4, 5, 6, 7, 8, 9, 10, 11, 12, 13, 14, 15, 16, 17, 18, 19, 20] rfl)
            · skip
              have mc_62 : ¬ 12 ≤ kind := by omega
              refine lv_iload hx hb dL_law_656 (lv_at hl 0 rfl) ?_
              refine lw_beq (tgt := 801) hx hb dL_law_658 (by decide) (fun _ => ?_) (fun z9 => Bool.noConfusion (c_44.symm.trans z9))
              refine lv_iload hx hb dL_law_801 (lv_at hl 1 rfl) ?_
              refine lv_bipush (v := 16) hx hb dL_law_803 (by decide) ?_
              refine lw_ge (tgt := 987) hx hb kind 16 (by omega) (by omega) dL_law_805 (by decide) (fun c_66 => ?_) (fun c_66 => ?_)
              · skip
                have mc_66 : ¬ kind < 16 := by omega
                refine lv_iload hx hb dL_law_987 (lv_at hl 1 rfl) ?_
                refine lv_bipush (v := 19) hx hb dL_law_989 (by decide) ?_
                refine lw_ge (tgt := 1240) hx hb kind 19 (by omega) (by omega) dL_law_991 (by decide) (fun c_67 => ?_) (fun c_67 => ?_)
                · skip
                  have mc_67 : ¬ kind < 19 := by omega
                  refine lv_iload hx hb dL_law_1240 (lv_at hl 5 rfl) ?_
                  refine lv_iconst (v := 5) hx hb dL_law_1242 (by decide) ?_
                  refine lw_divN hx hb (i := y) (j := 5) (by omega) (by omega) (by omega) dL_law_1243 ?_
                  refine lv_iconst (v := 5) hx hb dL_law_1244 (by decide) ?_
                  refine lw_remN hx hb (i := (y / 5)) (j := 5) (by omega) (by omega) (by omega) dL_law_1245 ?_
                  refine lv_istore (lv' := [(22, .int (nI ((y / 5) % 5))), (21, .int (bI room)), (16, .int (nI kind)), (18, .int (nI f)), (19, .int (nI th)), (20, .int (nI ck)), (17, .int (nI y)), (14, .int (nI tn)), (12, .ref (q 10)), (11, .ref (q 9)), (10, .ref (q 8)), (9, .ref (q 7)), (8, .ref (q 6)), (7, .ref (q 5)), (6, .ref (q 4)), (5, .ref (q 3)), (4, .ref (q 2)), (3, .ref (q 1)), (2, .ref (q 0)), (1, .ref (u 30)), (0, .ref b9)]) hx hb dL_law_1246 hl (by decide) rfl (fun ls hl => ?_)
                  by_cases hfo : f = y / 5 % 5
                  · rw [← hfo] at hl
                    exact lf_meetSame hfl F hK hX hNz hN hq hf hth hck hy R9 hL hcel hslo hA hC hS kk (lv_sub hl [0, 3, 4, 5, 6, 7, 8, 9, 10, 11, 12, 13, 14, 15, 16, 17, 18, 19, 20] rfl)
                  · exact lf_meetDiff hfl F hK hX hNz hN hq hf hth hck hy R9 hL hcel hslo hA hC hS (by omega) hfo kk (lv_sub hl [0, 3, 4, 5, 6, 7, 8, 9, 10, 11, 12, 13, 14, 15, 16, 17, 18, 19, 20] rfl)
                · skip
                  have mc_67 : ¬ 19 ≤ kind := by omega
                  refine lv_iload hx hb dL_law_994 (lv_at hl 0 rfl) ?_
                  refine lw_beq (tgt := 1240) hx hb dL_law_996 (by decide) (fun _ => ?_) (fun z9 => Bool.noConfusion (c_44.symm.trans z9))
                  refine lv_iload hx hb dL_law_1240 (lv_at hl 5 rfl) ?_
                  refine lv_iconst (v := 5) hx hb dL_law_1242 (by decide) ?_
                  refine lw_divN hx hb (i := y) (j := 5) (by omega) (by omega) (by omega) dL_law_1243 ?_
                  refine lv_iconst (v := 5) hx hb dL_law_1244 (by decide) ?_
                  refine lw_remN hx hb (i := (y / 5)) (j := 5) (by omega) (by omega) (by omega) dL_law_1245 ?_
                  refine lv_istore (lv' := [(22, .int (nI ((y / 5) % 5))), (21, .int (bI room)), (16, .int (nI kind)), (18, .int (nI f)), (19, .int (nI th)), (20, .int (nI ck)), (17, .int (nI y)), (14, .int (nI tn)), (12, .ref (q 10)), (11, .ref (q 9)), (10, .ref (q 8)), (9, .ref (q 7)), (8, .ref (q 6)), (7, .ref (q 5)), (6, .ref (q 4)), (5, .ref (q 3)), (4, .ref (q 2)), (3, .ref (q 1)), (2, .ref (q 0)), (1, .ref (u 30)), (0, .ref b9)]) hx hb dL_law_1246 hl (by decide) rfl (fun ls hl => ?_)
                  by_cases hfo : f = y / 5 % 5
                  · rw [← hfo] at hl
                    exact lf_meetSame hfl F hK hX hNz hN hq hf hth hck hy R9 hL hcel hslo hA hC hS kk (lv_sub hl [0, 3, 4, 5, 6, 7, 8, 9, 10, 11, 12, 13, 14, 15, 16, 17, 18, 19, 20] rfl)
                  · exact lf_meetDiff hfl F hK hX hNz hN hq hf hth hck hy R9 hL hcel hslo hA hC hS (by omega) hfo kk (lv_sub hl [0, 3, 4, 5, 6, 7, 8, 9, 10, 11, 12, 13, 14, 15, 16, 17, 18, 19, 20] rfl)
              · skip
                have mc_66 : ¬ 16 ≤ kind := by omega
                refine lv_iload hx hb dL_law_808 (lv_at hl 0 rfl) ?_
                refine lw_beq (tgt := 987) hx hb dL_law_810 (by decide) (fun _ => ?_) (fun z9 => Bool.noConfusion (c_44.symm.trans z9))
                refine lv_iload hx hb dL_law_987 (lv_at hl 1 rfl) ?_
                refine lv_bipush (v := 19) hx hb dL_law_989 (by decide) ?_
                refine lw_ge (tgt := 1240) hx hb kind 19 (by omega) (by omega) dL_law_991 (by decide) (fun c_68 => ?_) (fun c_68 => ?_)
                · skip
                  have mc_68 : ¬ kind < 19 := by omega
                  refine lv_iload hx hb dL_law_1240 (lv_at hl 5 rfl) ?_
                  refine lv_iconst (v := 5) hx hb dL_law_1242 (by decide) ?_
                  refine lw_divN hx hb (i := y) (j := 5) (by omega) (by omega) (by omega) dL_law_1243 ?_
                  refine lv_iconst (v := 5) hx hb dL_law_1244 (by decide) ?_
                  refine lw_remN hx hb (i := (y / 5)) (j := 5) (by omega) (by omega) (by omega) dL_law_1245 ?_
                  refine lv_istore (lv' := [(22, .int (nI ((y / 5) % 5))), (21, .int (bI room)), (16, .int (nI kind)), (18, .int (nI f)), (19, .int (nI th)), (20, .int (nI ck)), (17, .int (nI y)), (14, .int (nI tn)), (12, .ref (q 10)), (11, .ref (q 9)), (10, .ref (q 8)), (9, .ref (q 7)), (8, .ref (q 6)), (7, .ref (q 5)), (6, .ref (q 4)), (5, .ref (q 3)), (4, .ref (q 2)), (3, .ref (q 1)), (2, .ref (q 0)), (1, .ref (u 30)), (0, .ref b9)]) hx hb dL_law_1246 hl (by decide) rfl (fun ls hl => ?_)
                  by_cases hfo : f = y / 5 % 5
                  · rw [← hfo] at hl
                    exact lf_meetSame hfl F hK hX hNz hN hq hf hth hck hy R9 hL hcel hslo hA hC hS kk (lv_sub hl [0, 3, 4, 5, 6, 7, 8, 9, 10, 11, 12, 13, 14, 15, 16, 17, 18, 19, 20] rfl)
                  · exact lf_meetDiff hfl F hK hX hNz hN hq hf hth hck hy R9 hL hcel hslo hA hC hS (by omega) hfo kk (lv_sub hl [0, 3, 4, 5, 6, 7, 8, 9, 10, 11, 12, 13, 14, 15, 16, 17, 18, 19, 20] rfl)
                · skip
                  have mc_68 : ¬ 19 ≤ kind := by omega
                  refine lv_iload hx hb dL_law_994 (lv_at hl 0 rfl) ?_
                  refine lw_beq (tgt := 1240) hx hb dL_law_996 (by decide) (fun _ => ?_) (fun z9 => Bool.noConfusion (c_44.symm.trans z9))
                  refine lv_iload hx hb dL_law_1240 (lv_at hl 5 rfl) ?_
                  refine lv_iconst (v := 5) hx hb dL_law_1242 (by decide) ?_
                  refine lw_divN hx hb (i := y) (j := 5) (by omega) (by omega) (by omega) dL_law_1243 ?_
                  refine lv_iconst (v := 5) hx hb dL_law_1244 (by decide) ?_
                  refine lw_remN hx hb (i := (y / 5)) (j := 5) (by omega) (by omega) (by omega) dL_law_1245 ?_
                  refine lv_istore (lv' := [(22, .int (nI ((y / 5) % 5))), (21, .int (bI room)), (16, .int (nI kind)), (18, .int (nI f)), (19, .int (nI th)), (20, .int (nI ck)), (17, .int (nI y)), (14, .int (nI tn)), (12, .ref (q 10)), (11, .ref (q 9)), (10, .ref (q 8)), (9, .ref (q 7)), (8, .ref (q 6)), (7, .ref (q 5)), (6, .ref (q 4)), (5, .ref (q 3)), (4, .ref (q 2)), (3, .ref (q 1)), (2, .ref (q 0)), (1, .ref (u 30)), (0, .ref b9)]) hx hb dL_law_1246 hl (by decide) rfl (fun ls hl => ?_)
                  by_cases hfo : f = y / 5 % 5
                  · rw [← hfo] at hl
                    exact lf_meetSame hfl F hK hX hNz hN hq hf hth hck hy R9 hL hcel hslo hA hC hS kk (lv_sub hl [0, 3, 4, 5, 6, 7, 8, 9, 10, 11, 12, 13, 14, 15, 16, 17, 18, 19, 20] rfl)
                  · exact lf_meetDiff hfl F hK hX hNz hN hq hf hth hck hy R9 hL hcel hslo hA hC hS (by omega) hfo kk (lv_sub hl [0, 3, 4, 5, 6, 7, 8, 9, 10, 11, 12, 13, 14, 15, 16, 17, 18, 19, 20] rfl)
          · skip
            have mc_61 : ¬ 10 ≤ kind := by omega
            refine lv_iload hx hb dL_law_521 (lv_at hl 0 rfl) ?_
            refine lw_beq (tgt := 649) hx hb dL_law_523 (by decide) (fun _ => ?_) (fun z9 => Bool.noConfusion (c_44.symm.trans z9))
            refine lv_iload hx hb dL_law_649 (lv_at hl 1 rfl) ?_
            refine lv_bipush (v := 12) hx hb dL_law_651 (by decide) ?_
            refine lw_ge (tgt := 801) hx hb kind 12 (by omega) (by omega) dL_law_653 (by decide) (fun c_69 => ?_) (fun c_69 => ?_)
            · skip
              have mc_69 : ¬ kind < 12 := by omega
              refine lv_iload hx hb dL_law_801 (lv_at hl 1 rfl) ?_
              refine lv_bipush (v := 16) hx hb dL_law_803 (by decide) ?_
              refine lw_ge (tgt := 987) hx hb kind 16 (by omega) (by omega) dL_law_805 (by decide) (fun c_70 => ?_) (fun c_70 => ?_)
              · skip
                have mc_70 : ¬ kind < 16 := by omega
                refine lv_iload hx hb dL_law_987 (lv_at hl 1 rfl) ?_
                refine lv_bipush (v := 19) hx hb dL_law_989 (by decide) ?_
                refine lw_ge (tgt := 1240) hx hb kind 19 (by omega) (by omega) dL_law_991 (by decide) (fun c_71 => ?_) (fun c_71 => ?_)
                · skip
                  have mc_71 : ¬ kind < 19 := by omega
                  refine lv_iload hx hb dL_law_1240 (lv_at hl 5 rfl) ?_
                  refine lv_iconst (v := 5) hx hb dL_law_1242 (by decide) ?_
                  refine lw_divN hx hb (i := y) (j := 5) (by omega) (by omega) (by omega) dL_law_1243 ?_
                  refine lv_iconst (v := 5) hx hb dL_law_1244 (by decide) ?_
                  refine lw_remN hx hb (i := (y / 5)) (j := 5) (by omega) (by omega) (by omega) dL_law_1245 ?_
                  refine lv_istore (lv' := [(22, .int (nI ((y / 5) % 5))), (21, .int (bI room)), (16, .int (nI kind)), (18, .int (nI f)), (19, .int (nI th)), (20, .int (nI ck)), (17, .int (nI y)), (14, .int (nI tn)), (12, .ref (q 10)), (11, .ref (q 9)), (10, .ref (q 8)), (9, .ref (q 7)), (8, .ref (q 6)), (7, .ref (q 5)), (6, .ref (q 4)), (5, .ref (q 3)), (4, .ref (q 2)), (3, .ref (q 1)), (2, .ref (q 0)), (1, .ref (u 30)), (0, .ref b9)]) hx hb dL_law_1246 hl (by decide) rfl (fun ls hl => ?_)
                  by_cases hfo : f = y / 5 % 5
                  · rw [← hfo] at hl
                    exact lf_meetSame hfl F hK hX hNz hN hq hf hth hck hy R9 hL hcel hslo hA hC hS kk (lv_sub hl [0, 3, 4, 5, 6, 7, 8, 9, 10, 11, 12, 13, 14, 15, 16, 17, 18, 19, 20] rfl)
                  · exact lf_meetDiff hfl F hK hX hNz hN hq hf hth hck hy R9 hL hcel hslo hA hC hS (by omega) hfo kk (lv_sub hl [0, 3, 4, 5, 6, 7, 8, 9, 10, 11, 12, 13, 14, 15, 16, 17, 18, 19, 20] rfl)
                · skip
                  have mc_71 : ¬ 19 ≤ kind := by omega
                  refine lv_iload hx hb dL_law_994 (lv_at hl 0 rfl) ?_
                  refine lw_beq (tgt := 1240) hx hb dL_law_996 (by decide) (fun _ => ?_) (fun z9 => Bool.noConfusion (c_44.symm.trans z9))
                  refine lv_iload hx hb dL_law_1240 (lv_at hl 5 rfl) ?_
                  refine lv_iconst (v := 5) hx hb dL_law_1242 (by decide) ?_
                  refine lw_divN hx hb (i := y) (j := 5) (by omega) (by omega) (by omega) dL_law_1243 ?_
                  refine lv_iconst (v := 5) hx hb dL_law_1244 (by decide) ?_
                  refine lw_remN hx hb (i := (y / 5)) (j := 5) (by omega) (by omega) (by omega) dL_law_1245 ?_
                  refine lv_istore (lv' := [(22, .int (nI ((y / 5) % 5))), (21, .int (bI room)), (16, .int (nI kind)), (18, .int (nI f)), (19, .int (nI th)), (20, .int (nI ck)), (17, .int (nI y)), (14, .int (nI tn)), (12, .ref (q 10)), (11, .ref (q 9)), (10, .ref (q 8)), (9, .ref (q 7)), (8, .ref (q 6)), (7, .ref (q 5)), (6, .ref (q 4)), (5, .ref (q 3)), (4, .ref (q 2)), (3, .ref (q 1)), (2, .ref (q 0)), (1, .ref (u 30)), (0, .ref b9)]) hx hb dL_law_1246 hl (by decide) rfl (fun ls hl => ?_)
                  by_cases hfo : f = y / 5 % 5
                  · rw [← hfo] at hl
                    exact lf_meetSame hfl F hK hX hNz hN hq hf hth hck hy R9 hL hcel hslo hA hC hS kk (lv_sub hl [0, 3, 4, 5, 6, 7, 8, 9, 10, 11, 12, 13, 14, 15, 16, 17, 18, 19, 20] rfl)
                  · exact lf_meetDiff hfl F hK hX hNz hN hq hf hth hck hy R9 hL hcel hslo hA hC hS (by omega) hfo kk (lv_sub hl [0, 3, 4, 5, 6, 7, 8, 9, 10, 11, 12, 13, 14, 15, 16, 17, 18, 19, 20] rfl)
              · skip
                have mc_70 : ¬ 16 ≤ kind := by omega
                refine lv_iload hx hb dL_law_808 (lv_at hl 0 rfl) ?_
                refine lw_beq (tgt := 987) hx hb dL_law_810 (by decide) (fun _ => ?_) (fun z9 => Bool.noConfusion (c_44.symm.trans z9))
                refine lv_iload hx hb dL_law_987 (lv_at hl 1 rfl) ?_
                refine lv_bipush (v := 19) hx hb dL_law_989 (by decide) ?_
                refine lw_ge (tgt := 1240) hx hb kind 19 (by omega) (by omega) dL_law_991 (by decide) (fun c_72 => ?_) (fun c_72 => ?_)
                · skip
                  have mc_72 : ¬ kind < 19 := by omega
                  refine lv_iload hx hb dL_law_1240 (lv_at hl 5 rfl) ?_
                  refine lv_iconst (v := 5) hx hb dL_law_1242 (by decide) ?_
                  refine lw_divN hx hb (i := y) (j := 5) (by omega) (by omega) (by omega) dL_law_1243 ?_
                  refine lv_iconst (v := 5) hx hb dL_law_1244 (by decide) ?_
                  refine lw_remN hx hb (i := (y / 5)) (j := 5) (by omega) (by omega) (by omega) dL_law_1245 ?_
                  refine lv_istore (lv' := [(22, .int (nI ((y / 5) % 5))), (21, .int (bI room)), (16, .int (nI kind)), (18, .int (nI f)), (19, .int (nI th)), (20, .int (nI ck)), (17, .int (nI y)), (14, .int (nI tn)), (12, .ref (q 10)), (11, .ref (q 9)), (10, .ref (q 8)), (9, .ref (q 7)), (8, .ref (q 6)), (7, .ref (q 5)), (6, .ref (q 4)), (5, .ref (q 3)), (4, .ref (q 2)), (3, .ref (q 1)), (2, .ref (q 0)), (1, .ref (u 30)), (0, .ref b9)]) hx hb dL_law_1246 hl (by decide) rfl (fun ls hl => ?_)
                  by_cases hfo : f = y / 5 % 5
                  · rw [← hfo] at hl
                    exact lf_meetSame hfl F hK hX hNz hN hq hf hth hck hy R9 hL hcel hslo hA hC hS kk (lv_sub hl [0, 3, 4, 5, 6, 7, 8, 9, 10, 11, 12, 13, 14, 15, 16, 17, 18, 19, 20] rfl)
                  · exact lf_meetDiff hfl F hK hX hNz hN hq hf hth hck hy R9 hL hcel hslo hA hC hS (by omega) hfo kk (lv_sub hl [0, 3, 4, 5, 6, 7, 8, 9, 10, 11, 12, 13, 14, 15, 16, 17, 18, 19, 20] rfl)
                · skip
                  have mc_72 : ¬ 19 ≤ kind := by omega
                  refine lv_iload hx hb dL_law_994 (lv_at hl 0 rfl) ?_
                  refine lw_beq (tgt := 1240) hx hb dL_law_996 (by decide) (fun _ => ?_) (fun z9 => Bool.noConfusion (c_44.symm.trans z9))
                  refine lv_iload hx hb dL_law_1240 (lv_at hl 5 rfl) ?_
                  refine lv_iconst (v := 5) hx hb dL_law_1242 (by decide) ?_
                  refine lw_divN hx hb (i := y) (j := 5) (by omega) (by omega) (by omega) dL_law_1243 ?_
                  refine lv_iconst (v := 5) hx hb dL_law_1244 (by decide) ?_
                  refine lw_remN hx hb (i := (y / 5)) (j := 5) (by omega) (by omega) (by omega) dL_law_1245 ?_
                  refine lv_istore (lv' := [(22, .int (nI ((y / 5) % 5))), (21, .int (bI room)), (16, .int (nI kind)), (18, .int (nI f)), (19, .int (nI th)), (20, .int (nI ck)), (17, .int (nI y)), (14, .int (nI tn)), (12, .ref (q 10)), (11, .ref (q 9)), (10, .ref (q 8)), (9, .ref (q 7)), (8, .ref (q 6)), (7, .ref (q 5)), (6, .ref (q 4)), (5, .ref (q 3)), (4, .ref (q 2)), (3, .ref (q 1)), (2, .ref (q 0)), (1, .ref (u 30)), (0, .ref b9)]) hx hb dL_law_1246 hl (by decide) rfl (fun ls hl => ?_)
                  by_cases hfo : f = y / 5 % 5
                  · rw [← hfo] at hl
                    exact lf_meetSame hfl F hK hX hNz hN hq hf hth hck hy R9 hL hcel hslo hA hC hS kk (lv_sub hl [0, 3, 4, 5, 6, 7, 8, 9, 10, 11, 12, 13, 14, 15, 16, 17, 18, 19, 20] rfl)
                  · exact lf_meetDiff hfl F hK hX hNz hN hq hf hth hck hy R9 hL hcel hslo hA hC hS (by omega) hfo kk (lv_sub hl [0, 3, 4, 5, 6, 7, 8, 9, 10, 11, 12, 13, 14, 15, 16, 17, 18, 19, 20] rfl)
            · skip
              have mc_69 : ¬ 12 ≤ kind := by omega
              refine lv_iload hx hb dL_law_656 (lv_at hl 0 rfl) ?_
              refine lw_beq (tgt := 801) hx hb dL_law_658 (by decide) (fun _ => ?_) (fun z9 => Bool.noConfusion (c_44.symm.trans z9))
              refine lv_iload hx hb dL_law_801 (lv_at hl 1 rfl) ?_
              refine lv_bipush (v := 16) hx hb dL_law_803 (by decide) ?_
              refine lw_ge (tgt := 987) hx hb kind 16 (by omega) (by omega) dL_law_805 (by decide) (fun c_73 => ?_) (fun c_73 => ?_)
              · skip
                have mc_73 : ¬ kind < 16 := by omega
                refine lv_iload hx hb dL_law_987 (lv_at hl 1 rfl) ?_
                refine lv_bipush (v := 19) hx hb dL_law_989 (by decide) ?_
                refine lw_ge (tgt := 1240) hx hb kind 19 (by omega) (by omega) dL_law_991 (by decide) (fun c_74 => ?_) (fun c_74 => ?_)
                · skip
                  have mc_74 : ¬ kind < 19 := by omega
                  refine lv_iload hx hb dL_law_1240 (lv_at hl 5 rfl) ?_
                  refine lv_iconst (v := 5) hx hb dL_law_1242 (by decide) ?_
                  refine lw_divN hx hb (i := y) (j := 5) (by omega) (by omega) (by omega) dL_law_1243 ?_
                  refine lv_iconst (v := 5) hx hb dL_law_1244 (by decide) ?_
                  refine lw_remN hx hb (i := (y / 5)) (j := 5) (by omega) (by omega) (by omega) dL_law_1245 ?_
                  refine lv_istore (lv' := [(22, .int (nI ((y / 5) % 5))), (21, .int (bI room)), (16, .int (nI kind)), (18, .int (nI f)), (19, .int (nI th)), (20, .int (nI ck)), (17, .int (nI y)), (14, .int (nI tn)), (12, .ref (q 10)), (11, .ref (q 9)), (10, .ref (q 8)), (9, .ref (q 7)), (8, .ref (q 6)), (7, .ref (q 5)), (6, .ref (q 4)), (5, .ref (q 3)), (4, .ref (q 2)), (3, .ref (q 1)), (2, .ref (q 0)), (1, .ref (u 30)), (0, .ref b9)]) hx hb dL_law_1246 hl (by decide) rfl (fun ls hl => ?_)
                  by_cases hfo : f = y / 5 % 5
                  · rw [← hfo] at hl
                    exact lf_meetSame hfl F hK hX hNz hN hq hf hth hck hy R9 hL hcel hslo hA hC hS kk (lv_sub hl [0, 3, 4, 5, 6, 7, 8, 9, 10, 11, 12, 13, 14, 15, 16, 17, 18, 19, 20] rfl)
                  · exact lf_meetDiff hfl F hK hX hNz hN hq hf hth hck hy R9 hL hcel hslo hA hC hS (by omega) hfo kk (lv_sub hl [0, 3, 4, 5, 6, 7, 8, 9, 10, 11, 12, 13, 14, 15, 16, 17, 18, 19, 20] rfl)
                · skip
                  have mc_74 : ¬ 19 ≤ kind := by omega
                  refine lv_iload hx hb dL_law_994 (lv_at hl 0 rfl) ?_
                  refine lw_beq (tgt := 1240) hx hb dL_law_996 (by decide) (fun _ => ?_) (fun z9 => Bool.noConfusion (c_44.symm.trans z9))
                  refine lv_iload hx hb dL_law_1240 (lv_at hl 5 rfl) ?_
                  refine lv_iconst (v := 5) hx hb dL_law_1242 (by decide) ?_
                  refine lw_divN hx hb (i := y) (j := 5) (by omega) (by omega) (by omega) dL_law_1243 ?_
                  refine lv_iconst (v := 5) hx hb dL_law_1244 (by decide) ?_
                  refine lw_remN hx hb (i := (y / 5)) (j := 5) (by omega) (by omega) (by omega) dL_law_1245 ?_
                  refine lv_istore (lv' := [(22, .int (nI ((y / 5) % 5))), (21, .int (bI room)), (16, .int (nI kind)), (18, .int (nI f)), (19, .int (nI th)), (20, .int (nI ck)), (17, .int (nI y)), (14, .int (nI tn)), (12, .ref (q 10)), (11, .ref (q 9)), (10, .ref (q 8)), (9, .ref (q 7)), (8, .ref (q 6)), (7, .ref (q 5)), (6, .ref (q 4)), (5, .ref (q 3)), (4, .ref (q 2)), (3, .ref (q 1)), (2, .ref (q 0)), (1, .ref (u 30)), (0, .ref b9)]) hx hb dL_law_1246 hl (by decide) rfl (fun ls hl => ?_)
                  by_cases hfo : f = y / 5 % 5
                  · rw [← hfo] at hl
                    exact lf_meetSame hfl F hK hX hNz hN hq hf hth hck hy R9 hL hcel hslo hA hC hS kk (lv_sub hl [0, 3, 4, 5, 6, 7, 8, 9, 10, 11, 12, 13, 14, 15, 16, 17, 18, 19, 20] rfl)
                  · exact lf_meetDiff hfl F hK hX hNz hN hq hf hth hck hy R9 hL hcel hslo hA hC hS (by omega) hfo kk (lv_sub hl [0, 3, 4, 5, 6, 7, 8, 9, 10, 11, 12, 13, 14, 15, 16, 17, 18, 19, 20] rfl)
              · skip
                have mc_73 : ¬ 16 ≤ kind := by omega
                refine lv_iload hx hb dL_law_808 (lv_at hl 0 rfl) ?_
                refine lw_beq (tgt := 987) hx hb dL_law_810 (by decide) (fun _ => ?_) (fun z9 => Bool.noConfusion (c_44.symm.trans z9))
                refine lv_iload hx hb dL_law_987 (lv_at hl 1 rfl) ?_
                refine lv_bipush (v := 19) hx hb dL_law_989 (by decide) ?_
                refine lw_ge (tgt := 1240) hx hb kind 19 (by omega) (by omega) dL_law_991 (by decide) (fun c_75 => ?_) (fun c_75 => ?_)
                · skip
                  have mc_75 : ¬ kind < 19 := by omega
                  refine lv_iload hx hb dL_law_1240 (lv_at hl 5 rfl) ?_
                  refine lv_iconst (v := 5) hx hb dL_law_1242 (by decide) ?_
                  refine lw_divN hx hb (i := y) (j := 5) (by omega) (by omega) (by omega) dL_law_1243 ?_
                  refine lv_iconst (v := 5) hx hb dL_law_1244 (by decide) ?_
                  refine lw_remN hx hb (i := (y / 5)) (j := 5) (by omega) (by omega) (by omega) dL_law_1245 ?_
                  refine lv_istore (lv' := [(22, .int (nI ((y / 5) % 5))), (21, .int (bI room)), (16, .int (nI kind)), (18, .int (nI f)), (19, .int (nI th)), (20, .int (nI ck)), (17, .int (nI y)), (14, .int (nI tn)), (12, .ref (q 10)), (11, .ref (q 9)), (10, .ref (q 8)), (9, .ref (q 7)), (8, .ref (q 6)), (7, .ref (q 5)), (6, .ref (q 4)), (5, .ref (q 3)), (4, .ref (q 2)), (3, .ref (q 1)), (2, .ref (q 0)), (1, .ref (u 30)), (0, .ref b9)]) hx hb dL_law_1246 hl (by decide) rfl (fun ls hl => ?_)
                  by_cases hfo : f = y / 5 % 5
                  · rw [← hfo] at hl
                    exact lf_meetSame hfl F hK hX hNz hN hq hf hth hck hy R9 hL hcel hslo hA hC hS kk (lv_sub hl [0, 3, 4, 5, 6, 7, 8, 9, 10, 11, 12, 13, 14, 15, 16, 17, 18, 19, 20] rfl)
                  · exact lf_meetDiff hfl F hK hX hNz hN hq hf hth hck hy R9 hL hcel hslo hA hC hS (by omega) hfo kk (lv_sub hl [0, 3, 4, 5, 6, 7, 8, 9, 10, 11, 12, 13, 14, 15, 16, 17, 18, 19, 20] rfl)
                · skip
                  have mc_75 : ¬ 19 ≤ kind := by omega
                  refine lv_iload hx hb dL_law_994 (lv_at hl 0 rfl) ?_
                  refine lw_beq (tgt := 1240) hx hb dL_law_996 (by decide) (fun _ => ?_) (fun z9 => Bool.noConfusion (c_44.symm.trans z9))
                  refine lv_iload hx hb dL_law_1240 (lv_at hl 5 rfl) ?_
                  refine lv_iconst (v := 5) hx hb dL_law_1242 (by decide) ?_
                  refine lw_divN hx hb (i := y) (j := 5) (by omega) (by omega) (by omega) dL_law_1243 ?_
                  refine lv_iconst (v := 5) hx hb dL_law_1244 (by decide) ?_
                  refine lw_remN hx hb (i := (y / 5)) (j := 5) (by omega) (by omega) (by omega) dL_law_1245 ?_
                  refine lv_istore (lv' := [(22, .int (nI ((y / 5) % 5))), (21, .int (bI room)), (16, .int (nI kind)), (18, .int (nI f)), (19, .int (nI th)), (20, .int (nI ck)), (17, .int (nI y)), (14, .int (nI tn)), (12, .ref (q 10)), (11, .ref (q 9)), (10, .ref (q 8)), (9, .ref (q 7)), (8, .ref (q 6)), (7, .ref (q 5)), (6, .ref (q 4)), (5, .ref (q 3)), (4, .ref (q 2)), (3, .ref (q 1)), (2, .ref (q 0)), (1, .ref (u 30)), (0, .ref b9)]) hx hb dL_law_1246 hl (by decide) rfl (fun ls hl => ?_)
                  by_cases hfo : f = y / 5 % 5
                  · rw [← hfo] at hl
                    exact lf_meetSame hfl F hK hX hNz hN hq hf hth hck hy R9 hL hcel hslo hA hC hS kk (lv_sub hl [0, 3, 4, 5, 6, 7, 8, 9, 10, 11, 12, 13, 14, 15, 16, 17, 18, 19, 20] rfl)
                  · exact lf_meetDiff hfl F hK hX hNz hN hq hf hth hck hy R9 hL hcel hslo hA hC hS (by omega) hfo kk (lv_sub hl [0, 3, 4, 5, 6, 7, 8, 9, 10, 11, 12, 13, 14, 15, 16, 17, 18, 19, 20] rfl)
      · skip
        exact lf_put hfl F hK hX hNz hN hq hf hth hck hy R9 hL hcel hslo hA hC hS (hroom c_44) kk (lv_sub hl [2, 3, 4, 5, 6, 7, 8, 9, 10, 11, 12, 13, 14, 15, 16, 17, 18, 19] rfl)
  · skip
    exact lf_setNeed hfl F hK hX hNz hN hq hf hth hck hy R9 hL hcel hslo hA hC hS  kk (lv_sub hl [2, 3, 4, 5, 6, 7, 8, 9, 10, 11, 12, 13, 14, 15, 16, 17, 18, 19] rfl)
