/-! the deeds: drop, bake -/
set_option maxHeartbeats 8000000 in
set_option maxRecDepth 100000 in
theorem lf_drop {p : Program} {l : Launch} {e9 : Env} {s : State} {m : MethodId} {b9 : Nat} {below : List Frame} {meth : Method} {c : Code} {D : va_G} {u q : Nat → Nat} {cI cII : ClassId} {sa : Nat → Nat} (hfl : l.stackTraces = false) (F : CallFix p m c cL_law 26 s #[Value.ref b9] lw_tbl RL) (hK : va_K D vwCl (cT cI cII) s) (hX : xF (fun x => s.heap.size ≤ x) sa s) (hNz : wzN s) (hN : (lA q).Nodup) (hq : ∀ x, x ∈ lA q → s.heap.size ≤ x) {n cm : Nat} {a : Nat → Nat → Int32} {kn : Nat → Bool} {cs : CS} {l9 : List Nat} {F9 : FF} {f th ck y tn : Nat} {H : Heap} {locs : List Loc} {cel slo : Nat} {ls : Array Slot}  (hf : f < 5) (hth : th < 40) (hck : (cm = 0 → ck = 0) ∧ (0 < cm → ck < cm)) (hy : y < 134217728) (R9 : tRel n cm a kn cs) (hL : LV n cm a kn f l9 F9 (rdA (frV f) (cs.1 12) cs.2.2)) (hcel : cel ≤ 590000) (hslo : slo ≤ 7000000) (hA : va_P D vwCl (lX q cI F9) H) (hC : sW D u cI cII (fun x => s.heap.size ≤ x) (fun y => y ∈ lA q) cs H) (hS : va_S (fun x => s.heap.size ≤ x) s.heap H locs) (hn : n < 43) (kk : ∀ (n1 cm1 : Nat) (a1 : Nat → Nat → Int32) (kn1 : Nat → Bool) (cs1 : CS) (F1 : FF) (H : Heap) (locs : List Loc) (cel1 slo1 : Nat) (ls : Array Slot), tRel n1 cm1 a1 kn1 cs1 → lT n1 cm1 a1 kn1 F1 → va_P D vwCl (lX q cI F1) H → sW D u cI cII (fun x => s.heap.size ≤ x) (fun y => y ∈ lA q) cs1 H → va_S (fun x => s.heap.size ≤ x) s.heap H locs → cel1 ≤ cel + 46 → slo1 ≤ slo + 440 → lv_has ls 26 [(13, .int 1), (17, .int (nI y)), (14, .int (nI tn)), (12, .ref (q 10)), (11, .ref (q 9)), (10, .ref (q 8)), (9, .ref (q 7)), (8, .ref (q 6)), (7, .ref (q 5)), (6, .ref (q 4)), (5, .ref (q 3)), (4, .ref (q 2)), (3, .ref (q 1)), (2, .ref (q 0)), (1, .ref (u 30)), (0, .ref b9)] → lwW p l e9 s m b9 below meth c H locs cel1 slo1 (F0 m 1430 ls [])) (hl : lv_has ls 26 [(22, .int 1), (18, .int (nI f)), (19, .int (nI th)), (20, .int (nI ck)), (17, .int (nI y)), (14, .int (nI tn)), (12, .ref (q 10)), (11, .ref (q 9)), (10, .ref (q 8)), (9, .ref (q 7)), (8, .ref (q 6)), (7, .ref (q 5)), (6, .ref (q 4)), (5, .ref (q 3)), (4, .ref (q 2)), (3, .ref (q 1)), (2, .ref (q 0)), (1, .ref (u 30)), (0, .ref b9)]) : lwW p l e9 s m b9 below meth c H locs cel slo (F0 m 1013 ls []) := by
  have hx := F.1
  have hb := F.2.1
  have hf00 : F9 0 0 = nI n := hL.lt.f00
  have hf01 : F9 0 1 = nI cm := hL.lt.f01
  have hn64 := hL.lt.n64
  have hcm10 := hL.lt.cm10
  have hf6 : ∀ x, x ∈ [q 0, q 1, q 2, q 3, q 4, q 5] → x ∈ lA q ∧ s.heap.size ≤ x := fun x hx => by
    have h : x ∈ lA q := by simp only [List.mem_cons, List.not_mem_nil, or_false] at hx; rcases hx with e | e | e | e | e | e <;> rw [e] <;> exact lA_in q (by decide)
    exact ⟨h, hq x h⟩
  have hgi : gI n F9 := gI_of hL.gr
  have hgo := hL.gok
  refine lv_aload_n hx hb dL_law_1013 rfl (lv_at hl 16 rfl) ?_
  refine lv_iconst (v := 1) hx hb dL_law_1014 (by decide) ?_
  refine cg_ald F hK hA 0 2 rfl 1 rfl (by omega) (by decide) dL_law_1015 ?_
  refine lw_N cm hf01 ?_
  refine lw_zne (tgt := 1024) hx hb cm (by omega) dL_law_1016 (by decide) (fun c_1 => ?_) (fun c_1 => ?_)
  · skip
    refine lv_aload hx hb dL_law_1024 (lv_at hl 6 rfl) ?_
    refine lv_iload hx hb dL_law_1026 (lv_at hl 3 rfl) ?_
    refine ro_callS F hK [.ref (q 10), .int (nI ck)] (lc_isOpen hA ck) (va_cwS 2 F.2.2.2.2 gL_law_L_isOpen rfl rfl rfl (by decide +kernel) ⟨Nat.le_of_ble_eq_true rfl, Nat.le_of_ble_eq_true rfl⟩) rfl hl.1 rfl (lv_room (Nat.le_of_ble_eq_true rfl)) ⟨by show _ ≤ 600086; omega, by show _ ≤ 7301442; omega⟩ dL_law_1028 ?_
    refine lw_beq (tgt := 1038) hx hb dL_law_1031 (by decide) (fun c_2 => ?_) (fun c_2 => ?_)
    · skip
      refine lv_bipush (v := (-13)) hx hb dL_law_1038 (by decide) ?_
      refine lv_istore (lv' := [(23, .int (-13)), (22, .int 1), (18, .int (nI f)), (19, .int (nI th)), (20, .int (nI ck)), (17, .int (nI y)), (14, .int (nI tn)), (12, .ref (q 10)), (11, .ref (q 9)), (10, .ref (q 8)), (9, .ref (q 7)), (8, .ref (q 6)), (7, .ref (q 5)), (6, .ref (q 4)), (5, .ref (q 3)), (4, .ref (q 2)), (3, .ref (q 1)), (2, .ref (q 0)), (1, .ref (u 30)), (0, .ref b9)]) hx hb dL_law_1040 hl (by decide) rfl (fun ls hl => ?_)
      refine lv_iconst (v := 0) hx hb dL_law_1042 (by decide) ?_
      refine lv_istore (lv' := [(24, .int 0), (23, .int (-13)), (22, .int 1), (18, .int (nI f)), (19, .int (nI th)), (20, .int (nI ck)), (17, .int (nI y)), (14, .int (nI tn)), (12, .ref (q 10)), (11, .ref (q 9)), (10, .ref (q 8)), (9, .ref (q 7)), (8, .ref (q 6)), (7, .ref (q 5)), (6, .ref (q 4)), (5, .ref (q 3)), (4, .ref (q 2)), (3, .ref (q 1)), (2, .ref (q 0)), (1, .ref (u 30)), (0, .ref b9)]) hx hb dL_law_1043 hl (by decide) rfl (fun ls hl => ?_)
      refine lv_iload hx hb dL_law_1045 (lv_at hl 0 rfl) ?_
      refine lv_bipush (v := 8) hx hb dL_law_1047 (by decide) ?_
      refine lv_icmp_ge (tgt := 1099) hx hb dL_law_1049 (by decide) (fun z9 => absurd z9 (by decide)) (fun _ => ?_)
      refine lv_iload hx hb dL_law_1052 (lv_at hl 1 rfl) ?_
      refine lv_if_ne (tgt := 1099) hx hb dL_law_1054 (by decide) (fun _ => ?_) (fun z9 => absurd z9 (by decide))
      refine lv_iconst (v := 0) hx hb dL_law_1099 (by decide) ?_
      refine lv_istore (lv' := [(24, .int 0), (23, .int (-13)), (22, .int 1), (18, .int (nI f)), (19, .int (nI th)), (20, .int (nI ck)), (17, .int (nI y)), (14, .int (nI tn)), (12, .ref (q 10)), (11, .ref (q 9)), (10, .ref (q 8)), (9, .ref (q 7)), (8, .ref (q 6)), (7, .ref (q 5)), (6, .ref (q 4)), (5, .ref (q 3)), (4, .ref (q 2)), (3, .ref (q 1)), (2, .ref (q 0)), (1, .ref (u 30)), (0, .ref b9)]) hx hb dL_law_1100 hl (by decide) rfl (fun ls hl => ?_)
      refine lv_iload hx hb dL_law_1102 (lv_at hl 0 rfl) ?_
      refine lv_bipush (v := 40) hx hb dL_law_1104 (by decide) ?_
      refine lv_icmp_ge (tgt := 1171) hx hb dL_law_1106 (by decide) (fun z9 => absurd z9 (by decide)) (fun _ => ?_)
      refine lv_iload hx hb dL_law_1109 (lv_at hl 1 rfl) ?_
      refine lv_if_lt (tgt := 1171) hx hb dL_law_1111 (by decide) (fun _ => ?_) (fun z9 => absurd (by decide) z9)
      refine lv_iload hx hb dL_law_1171 (lv_at hl 1 rfl) ?_
      refine lv_if_lt (tgt := 1205) hx hb dL_law_1173 (by decide) (fun _ => ?_) (fun z9 => absurd (by decide) z9)
      refine lv_aload_n hx hb dL_law_1205 rfl (lv_at hl 19 rfl) ?_
      refine lv_iload hx hb dL_law_1206 (lv_at hl 2 rfl) ?_
      refine lv_if_eq (tgt := 1215) hx hb dL_law_1208 (by decide) (fun z9 => absurd z9 (by decide)) (fun _ => ?_)
      refine lv_iconst (v := 5) hx hb dL_law_1211 (by decide) ?_
      refine lv_goto (tgt := 1217) hx hb dL_law_1212 (by decide) ?_
      refine lv_iload hx hb dL_law_1217 (lv_at hl 3 rfl) ?_
      refine lv_iload hx hb dL_law_1219 (lv_at hl 5 rfl) ?_
      refine lv_iconst (v := 0) hx hb dL_law_1221 (by decide) ?_
      refine ix_does (val := (-13)) (cs' := cs) (op := cDrop cs (nI f) (nI ck)) F hK hX hNz (fun x h => h) hA hC R9 hS [.ref (u 30), .int 5, .int (nI f), .int (nI ck), .int 0] (fun V pq sp cn e sz b L w nx z0 h1 h2 h3 h4 h5 h6 h7 h8 => by subst h1; exact ld_drop hfl h2 (nI f) (nI ck) 0 h3 h4 h5 h6 h7 h8) ((dk_shut R9 hL hf (hck.2 (by omega)) c_2).2.1) (vx_cwSW 5 F.2.2.2.2 gL_law_L_does rfl rfl rfl (by decide +kernel) ⟨Nat.le_of_ble_eq_true rfl, Nat.le_of_ble_eq_true rfl⟩) rfl hl.1 rfl (lv_room (Nat.le_of_ble_eq_true rfl)) ⟨by show _ ≤ 600086; omega, by show _ ≤ 7301442; omega⟩ dL_law_1222 (fun H locs hA hC hS => ?_)
      refine lv_iload hx hb dL_law_1225 (lv_at hl 1 rfl) ?_
      refine lv_icmp_ne (tgt := 1234) hx hb dL_law_1227 (by decide) (fun z9 => absurd z9 (by decide)) (fun _ => ?_)
      refine lv_iconst (v := 1) hx hb dL_law_1230 (by decide) ?_
      refine lv_goto (tgt := 1235) hx hb dL_law_1231 (by decide) ?_
      refine lv_istore (lv' := [(13, .int 1), (24, .int 0), (23, .int (-13)), (22, .int 1), (18, .int (nI f)), (19, .int (nI th)), (20, .int (nI ck)), (17, .int (nI y)), (14, .int (nI tn)), (12, .ref (q 10)), (11, .ref (q 9)), (10, .ref (q 8)), (9, .ref (q 7)), (8, .ref (q 6)), (7, .ref (q 5)), (6, .ref (q 4)), (5, .ref (q 3)), (4, .ref (q 2)), (3, .ref (q 1)), (2, .ref (q 0)), (1, .ref (u 30)), (0, .ref b9)]) hx hb dL_law_1235 hl (by decide) rfl (fun ls hl => ?_)
      refine lv_goto (tgt := 1430) hx hb dL_law_1237 (by decide) ?_
      exact kk _ _ _ _ _ _ H locs _ _ ls (R9) (hL.lt) hA hC hS (by omega) (by omega) (lv_sub hl [0, 7, 8, 9, 10, 11, 12, 13, 14, 15, 16, 17, 18, 19, 20, 21] rfl)
    · skip
      refine lv_iconst (v := 0) hx hb dL_law_1034 (by decide) ?_
      refine lv_goto (tgt := 1040) hx hb dL_law_1035 (by decide) ?_
      have hop : lOp F9 ck = true := c_2
      have hk9 : ck < cm := hck.2 (by omega)
      obtain ⟨rc, hrc6, hrc, -, -⟩ := hL.lt.f7r R9 hk9
      refine lv_istore (lv' := [(23, .int 0), (22, .int 1), (18, .int (nI f)), (19, .int (nI th)), (20, .int (nI ck)), (17, .int (nI y)), (14, .int (nI tn)), (12, .ref (q 10)), (11, .ref (q 9)), (10, .ref (q 8)), (9, .ref (q 7)), (8, .ref (q 6)), (7, .ref (q 5)), (6, .ref (q 4)), (5, .ref (q 3)), (4, .ref (q 2)), (3, .ref (q 1)), (2, .ref (q 0)), (1, .ref (u 30)), (0, .ref b9)]) hx hb dL_law_1040 hl (by decide) rfl (fun ls hl => ?_)
      refine lv_iconst (v := 0) hx hb dL_law_1042 (by decide) ?_
      refine lv_istore (lv' := [(24, .int 0), (23, .int 0), (22, .int 1), (18, .int (nI f)), (19, .int (nI th)), (20, .int (nI ck)), (17, .int (nI y)), (14, .int (nI tn)), (12, .ref (q 10)), (11, .ref (q 9)), (10, .ref (q 8)), (9, .ref (q 7)), (8, .ref (q 6)), (7, .ref (q 5)), (6, .ref (q 4)), (5, .ref (q 3)), (4, .ref (q 2)), (3, .ref (q 1)), (2, .ref (q 0)), (1, .ref (u 30)), (0, .ref b9)]) hx hb dL_law_1043 hl (by decide) rfl (fun ls hl => ?_)
      refine lv_iload hx hb dL_law_1045 (lv_at hl 0 rfl) ?_
      refine lv_bipush (v := 8) hx hb dL_law_1047 (by decide) ?_
      refine lv_icmp_ge (tgt := 1099) hx hb dL_law_1049 (by decide) (fun z9 => absurd z9 (by decide)) (fun _ => ?_)
      refine lv_iload hx hb dL_law_1052 (lv_at hl 1 rfl) ?_
      refine lv_if_ne (tgt := 1099) hx hb dL_law_1054 (by decide) (fun z9 => absurd z9 (by decide)) (fun _ => ?_)
      refine lv_iload hx hb dL_law_1057 (lv_at hl 2 rfl) ?_
      refine lv_if_ne (tgt := 1099) hx hb dL_law_1059 (by decide) (fun _ => ?_) (fun z9 => absurd z9 (by decide))
      refine lv_iconst (v := 0) hx hb dL_law_1099 (by decide) ?_
      refine lv_istore (lv' := [(24, .int 0), (23, .int 0), (22, .int 1), (18, .int (nI f)), (19, .int (nI th)), (20, .int (nI ck)), (17, .int (nI y)), (14, .int (nI tn)), (12, .ref (q 10)), (11, .ref (q 9)), (10, .ref (q 8)), (9, .ref (q 7)), (8, .ref (q 6)), (7, .ref (q 5)), (6, .ref (q 4)), (5, .ref (q 3)), (4, .ref (q 2)), (3, .ref (q 1)), (2, .ref (q 0)), (1, .ref (u 30)), (0, .ref b9)]) hx hb dL_law_1100 hl (by decide) rfl (fun ls hl => ?_)
      have L1102_u_3 : ∀ (k9u_3 : Nat) (d : Nat) (t : Nat) (L : List Nat) (H : Heap) (locs : List Loc) (ls : Array Slot), 40 - t < k9u_3 → (t ≤ 40) → (d = L.length) → (L = foldU (kpStep a kn n f (nI ck)) [] t) → va_P D vwCl (lX q cI F9) H → sW D u cI cII (fun x => s.heap.size ≤ x) (fun y => y ∈ lA q) cs H → va_S (fun x => s.heap.size ≤ x) s.heap H locs → lv_has ls 26 [(24, .int (nI t)), (23, .int (nI d)), (22, .int 1), (18, .int (nI f)), (19, .int (nI th)), (20, .int (nI ck)), (17, .int (nI y)), (14, .int (nI tn)), (12, .ref (q 10)), (11, .ref (q 9)), (10, .ref (q 8)), (9, .ref (q 7)), (8, .ref (q 6)), (7, .ref (q 5)), (6, .ref (q 4)), (5, .ref (q 3)), (4, .ref (q 2)), (3, .ref (q 1)), (2, .ref (q 0)), (1, .ref (u 30)), (0, .ref b9)] → lwW p l e9 s m b9 below meth c H locs cel slo (F0 m 1102 ls []) := by
        intro k9u_3
        induction k9u_3 with
        | zero => intro d t L H locs ls hk; exact absurd hk (Nat.not_lt_zero _)
        | succ k9u_3 ihu_3 =>
          intro d t L H locs ls hk ht hd hLf hA hC hS hl
          have hln : 2 * L.length + 1 ≤ n := by have h1 := lkp_len hLf ht; have h2 := kept_len R9 hf hk9; omega
          refine lv_iload hx hb dL_law_1102 (lv_at hl 0 rfl) ?_
          refine lv_bipush (v := 40) hx hb dL_law_1104 (by decide) ?_
          refine lw_ge (tgt := 1171) hx hb t 40 (by omega) (by omega) dL_law_1106 (by decide) (fun c_4 => ?_) (fun c_4 => ?_)
          · skip
            have mc_4 : ¬ t < 40 := by omega
            refine lv_iload hx hb dL_law_1171 (lv_at hl 1 rfl) ?_
            refine lv_if_lt (tgt := 1205) hx hb dL_law_1173 (by decide) (fun z9 => absurd z9 (nI_nlt0 (by omega))) (fun _ => ?_)
            refine lv_aload_n hx hb dL_law_1176 rfl (lv_at hl 18 rfl) ?_
            refine lv_aload_n hx hb dL_law_1177 rfl (lv_at hl 17 rfl) ?_
            refine lv_aload hx hb dL_law_1178 (lv_at hl 16 rfl) ?_
            refine lv_aload hx hb dL_law_1180 (lv_at hl 15 rfl) ?_
            refine lv_aload hx hb dL_law_1182 (lv_at hl 14 rfl) ?_
            refine lv_aload hx hb dL_law_1184 (lv_at hl 13 rfl) ?_
            refine lv_iload hx hb dL_law_1186 (lv_at hl 3 rfl) ?_
            refine lv_iload hx hb dL_law_1188 (lv_at hl 2 rfl) ?_
            refine lv_if_eq (tgt := 1197) hx hb dL_law_1190 (by decide) (fun z9 => absurd z9 (by decide)) (fun _ => ?_)
            refine lv_iconst (v := 5) hx hb dL_law_1193 (by decide) ?_
            refine lv_goto (tgt := 1199) hx hb dL_law_1194 (by decide) ?_
            refine lv_iload hx hb dL_law_1199 (lv_at hl 5 rfl) ?_
            refine lv_iconst (v := 0) hx hb dL_law_1201 (by decide) ?_
            refine ix_la F hK hA hC hS [.ref (q 0), .ref (q 1), .ref (q 2), .ref (q 3), .ref (q 4), .ref (q 5), .int (nI f), .int 5, .int (nI ck), .int 0] (la_writes (n := n) hN f 5 ck 0 (hf00) (by omega) hf) hf6 (va_cwS 10 F.2.2.2.2 gL_law_L_writes rfl rfl rfl (by decide +kernel) ⟨Nat.le_of_ble_eq_true rfl, Nat.le_of_ble_eq_true rfl⟩) rfl hl.1 rfl (lv_room (Nat.le_of_ble_eq_true rfl)) ⟨by show _ ≤ 600086; omega, by show _ ≤ 7301442; omega⟩ dL_law_1202 (fun H locs hA hC hS => ?_)
            refine lv_aload_n hx hb dL_law_1205 rfl (lv_at hl 19 rfl) ?_
            refine lv_iload hx hb dL_law_1206 (lv_at hl 2 rfl) ?_
            refine lv_if_eq (tgt := 1215) hx hb dL_law_1208 (by decide) (fun z9 => absurd z9 (by decide)) (fun _ => ?_)
            refine lv_iconst (v := 5) hx hb dL_law_1211 (by decide) ?_
            refine lv_goto (tgt := 1217) hx hb dL_law_1212 (by decide) ?_
            refine lv_iload hx hb dL_law_1217 (lv_at hl 3 rfl) ?_
            refine lv_iload hx hb dL_law_1219 (lv_at hl 5 rfl) ?_
            refine lv_iconst (v := 0) hx hb dL_law_1221 (by decide) ?_
            obtain ⟨cs2, ev9, R2⟩ := dd_open R9 hL hf hk9 (by omega) hop
            have e8 : keptL a kn n f (nI ck) = L := by rw [hLf, show t = 40 by omega]; rfl
            rw [e8] at ev9
            refine ix_does (val := nI L.length) (cs' := cs2) (op := cDrop cs (nI f) (nI ck)) F hK hX hNz (fun x h => h) hA hC R9 hS [.ref (u 30), .int 5, .int (nI f), .int (nI ck), .int 0] (fun V pq sp cn e sz b L w nx z0 h1 h2 h3 h4 h5 h6 h7 h8 => by subst h1; exact ld_drop hfl h2 (nI f) (nI ck) 0 h3 h4 h5 h6 h7 h8) (ev9) (vx_cwSW 5 F.2.2.2.2 gL_law_L_does rfl rfl rfl (by decide +kernel) ⟨Nat.le_of_ble_eq_true rfl, Nat.le_of_ble_eq_true rfl⟩) rfl hl.1 rfl (lv_room (Nat.le_of_ble_eq_true rfl)) ⟨by show _ ≤ 600086; omega, by show _ ≤ 7301442; omega⟩ dL_law_1222 (fun H locs hA hC hS => ?_)
            refine lv_iload hx hb dL_law_1225 (lv_at hl 1 rfl) ?_
            refine lv_icmp_ne (tgt := 1234) hx hb dL_law_1227 (by decide) (fun z9 => absurd (congrArg nI hd.symm) z9) (fun _ => ?_)
            refine lv_iconst (v := 1) hx hb dL_law_1230 (by decide) ?_
            refine lv_goto (tgt := 1235) hx hb dL_law_1231 (by decide) ?_
            refine lv_istore (lv' := [(13, .int 1), (24, .int (nI t)), (23, .int (nI d)), (22, .int 1), (18, .int (nI f)), (19, .int (nI th)), (20, .int (nI ck)), (17, .int (nI y)), (14, .int (nI tn)), (12, .ref (q 10)), (11, .ref (q 9)), (10, .ref (q 8)), (9, .ref (q 7)), (8, .ref (q 6)), (7, .ref (q 5)), (6, .ref (q 4)), (5, .ref (q 3)), (4, .ref (q 2)), (3, .ref (q 1)), (2, .ref (q 0)), (1, .ref (u 30)), (0, .ref b9)]) hx hb dL_law_1235 hl (by decide) rfl (fun ls hl => ?_)
            refine lv_goto (tgt := 1430) hx hb dL_law_1237 (by decide) ?_
            exact kk _ _ _ _ _ _ H locs _ _ ls (R2) (lT_wr hL.lt (lK_of R9.inv) (by omega) hf (kd := 5) (by omega) (by omega) (by omega) (-1)) hA hC hS (by omega) (by omega) (lv_sub hl [0, 7, 8, 9, 10, 11, 12, 13, 14, 15, 16, 17, 18, 19, 20, 21] rfl)
          · skip
            have mc_4 : ¬ 40 ≤ t := by omega
            refine lv_iload hx hb dL_law_1109 (lv_at hl 1 rfl) ?_
            refine lv_if_lt (tgt := 1171) hx hb dL_law_1111 (by decide) (fun z9 => absurd z9 (nI_nlt0 (by omega))) (fun _ => ?_)
            refine lv_aload_n hx hb dL_law_1114 rfl (lv_at hl 18 rfl) ?_
            refine lv_aload hx hb dL_law_1115 (lv_at hl 14 rfl) ?_
            refine lv_aload hx hb dL_law_1117 (lv_at hl 11 rfl) ?_
            refine lv_aload hx hb dL_law_1119 (lv_at hl 10 rfl) ?_
            refine lv_aload hx hb dL_law_1121 (lv_at hl 9 rfl) ?_
            refine lv_aload hx hb dL_law_1123 (lv_at hl 8 rfl) ?_
            refine lv_iload hx hb dL_law_1125 (lv_at hl 0 rfl) ?_
            refine ro_callS F hK [.ref (q 0), .ref (q 4), .ref (q 7), .ref (q 8), .ref (q 9), .ref (q 10), .int (nI t)] (lc_kept hA (cm := cm) t hf01 hcm10 hgo (by omega)) (va_cwS 7 F.2.2.2.2 gL_law_L_kept rfl rfl rfl (by decide +kernel) ⟨Nat.le_of_ble_eq_true rfl, Nat.le_of_ble_eq_true rfl⟩) rfl hl.1 rfl (lv_room (Nat.le_of_ble_eq_true rfl)) ⟨by show _ ≤ 600086; omega, by show _ ≤ 7301442; omega⟩ dL_law_1127 ?_
            refine lw_E (keeperB a kn n f (nI t)) (kp_ke R9 hL hf (by omega)) ?_
            refine lv_iload hx hb dL_law_1130 (lv_at hl 5 rfl) ?_
            refine lv_icmp_ne (tgt := 1165) hx hb dL_law_1132 (by decide) (fun c_5 => ?_) (fun c_5 => ?_)
            · skip
              refine lv_iinc (v := nI (t + 1)) (lv' := [(24, .int (nI (t + 1))), (23, .int (nI d)), (22, .int 1), (18, .int (nI f)), (19, .int (nI th)), (20, .int (nI ck)), (17, .int (nI y)), (14, .int (nI tn)), (12, .ref (q 10)), (11, .ref (q 9)), (10, .ref (q 8)), (9, .ref (q 7)), (8, .ref (q 6)), (7, .ref (q 5)), (6, .ref (q 4)), (5, .ref (q 3)), (4, .ref (q 2)), (3, .ref (q 1)), (2, .ref (q 0)), (1, .ref (u 30)), (0, .ref b9)]) hx hb dL_law_1165 hl (k := 0) rfl (show nI t + Int32.ofInt 1 = _ from nI_add t 1) (by decide) rfl (fun ls hl => ?_)
              refine lv_goto (tgt := 1102) hx hb dL_law_1168 (by decide) ?_
              exact ihu_3  d (t + 1) L _ _ ls (by omega) (by first | omega | assumption) (hd) (lkp_no hLf c_5) hA hC hS (lv_sub hl [0, 1, 2, 3, 4, 5, 6, 7, 8, 9, 10, 11, 12, 13, 14, 15, 16, 17, 18, 19, 20] rfl)
            · skip
              refine lv_iinc (v := nI (d + 1)) (lv' := [(23, .int (nI (d + 1))), (24, .int (nI t)), (22, .int 1), (18, .int (nI f)), (19, .int (nI th)), (20, .int (nI ck)), (17, .int (nI y)), (14, .int (nI tn)), (12, .ref (q 10)), (11, .ref (q 9)), (10, .ref (q 8)), (9, .ref (q 7)), (8, .ref (q 6)), (7, .ref (q 5)), (6, .ref (q 4)), (5, .ref (q 3)), (4, .ref (q 2)), (3, .ref (q 1)), (2, .ref (q 0)), (1, .ref (u 30)), (0, .ref b9)]) hx hb dL_law_1135 hl (k := 1) rfl (show nI d + Int32.ofInt 1 = _ from nI_add d 1) (by decide) rfl (fun ls hl => ?_)
              refine lv_iload hx hb dL_law_1138 (lv_at hl 2 rfl) ?_
              refine lv_if_ne (tgt := 1165) hx hb dL_law_1140 (by decide) (fun _ => ?_) (fun z9 => absurd z9 (by decide))
              refine lv_iinc (v := nI (t + 1)) (lv' := [(24, .int (nI (t + 1))), (23, .int (nI (d + 1))), (22, .int 1), (18, .int (nI f)), (19, .int (nI th)), (20, .int (nI ck)), (17, .int (nI y)), (14, .int (nI tn)), (12, .ref (q 10)), (11, .ref (q 9)), (10, .ref (q 8)), (9, .ref (q 7)), (8, .ref (q 6)), (7, .ref (q 5)), (6, .ref (q 4)), (5, .ref (q 3)), (4, .ref (q 2)), (3, .ref (q 1)), (2, .ref (q 0)), (1, .ref (u 30)), (0, .ref b9)]) hx hb dL_law_1165 hl (k := 1) rfl (show nI t + Int32.ofInt 1 = _ from nI_add t 1) (by decide) rfl (fun ls hl => ?_)
              refine lv_goto (tgt := 1102) hx hb dL_law_1168 (by decide) ?_
              exact ihu_3  (d + 1) (t + 1) (L ++ [t]) _ _ ls (by omega) (by first | omega | assumption) (by rw [List.length_append, hd]; rfl) (lkp_yes hLf c_5) hA hC hS (lv_sub hl [0, 1, 2, 3, 4, 5, 6, 7, 8, 9, 10, 11, 12, 13, 14, 15, 16, 17, 18, 19, 20] rfl)
      exact L1102_u_3 _ 0 0 ([]) _ _ ls (Nat.lt_succ_self _) (by first | omega | assumption) (rfl) (rfl) hA hC hS (lv_sub hl [0, 1, 2, 3, 4, 5, 6, 7, 8, 9, 10, 11, 12, 13, 14, 15, 16, 17, 18, 19, 20] rfl)
  · skip
    refine lv_bipush (v := (-11)) hx hb dL_law_1019 (by decide) ?_
    refine lv_goto (tgt := 1040) hx hb dL_law_1021 (by decide) ?_
    refine lv_istore (lv' := [(23, .int (-11)), (22, .int 1), (18, .int (nI f)), (19, .int (nI th)), (20, .int (nI ck)), (17, .int (nI y)), (14, .int (nI tn)), (12, .ref (q 10)), (11, .ref (q 9)), (10, .ref (q 8)), (9, .ref (q 7)), (8, .ref (q 6)), (7, .ref (q 5)), (6, .ref (q 4)), (5, .ref (q 3)), (4, .ref (q 2)), (3, .ref (q 1)), (2, .ref (q 0)), (1, .ref (u 30)), (0, .ref b9)]) hx hb dL_law_1040 hl (by decide) rfl (fun ls hl => ?_)
    refine lv_iconst (v := 0) hx hb dL_law_1042 (by decide) ?_
    refine lv_istore (lv' := [(24, .int 0), (23, .int (-11)), (22, .int 1), (18, .int (nI f)), (19, .int (nI th)), (20, .int (nI ck)), (17, .int (nI y)), (14, .int (nI tn)), (12, .ref (q 10)), (11, .ref (q 9)), (10, .ref (q 8)), (9, .ref (q 7)), (8, .ref (q 6)), (7, .ref (q 5)), (6, .ref (q 4)), (5, .ref (q 3)), (4, .ref (q 2)), (3, .ref (q 1)), (2, .ref (q 0)), (1, .ref (u 30)), (0, .ref b9)]) hx hb dL_law_1043 hl (by decide) rfl (fun ls hl => ?_)
    refine lv_iload hx hb dL_law_1045 (lv_at hl 0 rfl) ?_
    refine lv_bipush (v := 8) hx hb dL_law_1047 (by decide) ?_
    refine lv_icmp_ge (tgt := 1099) hx hb dL_law_1049 (by decide) (fun z9 => absurd z9 (by decide)) (fun _ => ?_)
    refine lv_iload hx hb dL_law_1052 (lv_at hl 1 rfl) ?_
    refine lv_if_ne (tgt := 1099) hx hb dL_law_1054 (by decide) (fun _ => ?_) (fun z9 => absurd z9 (by decide))
    refine lv_iconst (v := 0) hx hb dL_law_1099 (by decide) ?_
    refine lv_istore (lv' := [(24, .int 0), (23, .int (-11)), (22, .int 1), (18, .int (nI f)), (19, .int (nI th)), (20, .int (nI ck)), (17, .int (nI y)), (14, .int (nI tn)), (12, .ref (q 10)), (11, .ref (q 9)), (10, .ref (q 8)), (9, .ref (q 7)), (8, .ref (q 6)), (7, .ref (q 5)), (6, .ref (q 4)), (5, .ref (q 3)), (4, .ref (q 2)), (3, .ref (q 1)), (2, .ref (q 0)), (1, .ref (u 30)), (0, .ref b9)]) hx hb dL_law_1100 hl (by decide) rfl (fun ls hl => ?_)
    refine lv_iload hx hb dL_law_1102 (lv_at hl 0 rfl) ?_
    refine lv_bipush (v := 40) hx hb dL_law_1104 (by decide) ?_
    refine lv_icmp_ge (tgt := 1171) hx hb dL_law_1106 (by decide) (fun z9 => absurd z9 (by decide)) (fun _ => ?_)
    refine lv_iload hx hb dL_law_1109 (lv_at hl 1 rfl) ?_
    refine lv_if_lt (tgt := 1171) hx hb dL_law_1111 (by decide) (fun _ => ?_) (fun z9 => absurd (by decide) z9)
    refine lv_iload hx hb dL_law_1171 (lv_at hl 1 rfl) ?_
    refine lv_if_lt (tgt := 1205) hx hb dL_law_1173 (by decide) (fun _ => ?_) (fun z9 => absurd (by decide) z9)
    refine lv_aload_n hx hb dL_law_1205 rfl (lv_at hl 19 rfl) ?_
    refine lv_iload hx hb dL_law_1206 (lv_at hl 2 rfl) ?_
    refine lv_if_eq (tgt := 1215) hx hb dL_law_1208 (by decide) (fun z9 => absurd z9 (by decide)) (fun _ => ?_)
    refine lv_iconst (v := 5) hx hb dL_law_1211 (by decide) ?_
    refine lv_goto (tgt := 1217) hx hb dL_law_1212 (by decide) ?_
    refine lv_iload hx hb dL_law_1217 (lv_at hl 3 rfl) ?_
    refine lv_iload hx hb dL_law_1219 (lv_at hl 5 rfl) ?_
    refine lv_iconst (v := 0) hx hb dL_law_1221 (by decide) ?_
    refine ix_does (val := (-11)) (cs' := cs) (op := cDrop cs (nI f) (nI ck)) F hK hX hNz (fun x h => h) hA hC R9 hS [.ref (u 30), .int 5, .int (nI f), .int (nI ck), .int 0] (fun V pq sp cn e sz b L w nx z0 h1 h2 h3 h4 h5 h6 h7 h8 => by subst h1; exact ld_drop hfl h2 (nI f) (nI ck) 0 h3 h4 h5 h6 h7 h8) (by have h0 : cm = 0 := c_1; have k0 := hck.1 h0; subst k0; have R0 := R9; rw [h0] at R0; exact (dk_none R0 hf).2.1) (vx_cwSW 5 F.2.2.2.2 gL_law_L_does rfl rfl rfl (by decide +kernel) ⟨Nat.le_of_ble_eq_true rfl, Nat.le_of_ble_eq_true rfl⟩) rfl hl.1 rfl (lv_room (Nat.le_of_ble_eq_true rfl)) ⟨by show _ ≤ 600086; omega, by show _ ≤ 7301442; omega⟩ dL_law_1222 (fun H locs hA hC hS => ?_)
    refine lv_iload hx hb dL_law_1225 (lv_at hl 1 rfl) ?_
    refine lv_icmp_ne (tgt := 1234) hx hb dL_law_1227 (by decide) (fun z9 => absurd z9 (by decide)) (fun _ => ?_)
    refine lv_iconst (v := 1) hx hb dL_law_1230 (by decide) ?_
    refine lv_goto (tgt := 1235) hx hb dL_law_1231 (by decide) ?_
    refine lv_istore (lv' := [(13, .int 1), (24, .int 0), (23, .int (-11)), (22, .int 1), (18, .int (nI f)), (19, .int (nI th)), (20, .int (nI ck)), (17, .int (nI y)), (14, .int (nI tn)), (12, .ref (q 10)), (11, .ref (q 9)), (10, .ref (q 8)), (9, .ref (q 7)), (8, .ref (q 6)), (7, .ref (q 5)), (6, .ref (q 4)), (5, .ref (q 3)), (4, .ref (q 2)), (3, .ref (q 1)), (2, .ref (q 0)), (1, .ref (u 30)), (0, .ref b9)]) hx hb dL_law_1235 hl (by decide) rfl (fun ls hl => ?_)
    refine lv_goto (tgt := 1430) hx hb dL_law_1237 (by decide) ?_
    exact kk _ _ _ _ _ _ H locs _ _ ls (R9) (hL.lt) hA hC hS (by omega) (by omega) (lv_sub hl [0, 7, 8, 9, 10, 11, 12, 13, 14, 15, 16, 17, 18, 19, 20, 21] rfl)
set_option maxHeartbeats 8000000 in
set_option maxRecDepth 100000 in
theorem lf_bake {p : Program} {l : Launch} {e9 : Env} {s : State} {m : MethodId} {b9 : Nat} {below : List Frame} {meth : Method} {c : Code} {D : va_G} {u q : Nat → Nat} {cI cII : ClassId} {sa : Nat → Nat} (hfl : l.stackTraces = false) (F : CallFix p m c cL_law 26 s #[Value.ref b9] lw_tbl RL) (hK : va_K D vwCl (cT cI cII) s) (hX : xF (fun x => s.heap.size ≤ x) sa s) (hNz : wzN s) (hN : (lA q).Nodup) (hq : ∀ x, x ∈ lA q → s.heap.size ≤ x) {n cm : Nat} {a : Nat → Nat → Int32} {kn : Nat → Bool} {cs : CS} {l9 : List Nat} {F9 : FF} {f th ck y tn : Nat} {H : Heap} {locs : List Loc} {cel slo : Nat} {ls : Array Slot}  (hf : f < 5) (hth : th < 40) (hck : (cm = 0 → ck = 0) ∧ (0 < cm → ck < cm)) (hy : y < 134217728) (R9 : tRel n cm a kn cs) (hL : LV n cm a kn f l9 F9 (rdA (frV f) (cs.1 12) cs.2.2)) (hcel : cel ≤ 590000) (hslo : slo ≤ 7000000) (hA : va_P D vwCl (lX q cI F9) H) (hC : sW D u cI cII (fun x => s.heap.size ≤ x) (fun y => y ∈ lA q) cs H) (hS : va_S (fun x => s.heap.size ≤ x) s.heap H locs) (hn : n < 43) (kk : ∀ (n1 cm1 : Nat) (a1 : Nat → Nat → Int32) (kn1 : Nat → Bool) (cs1 : CS) (F1 : FF) (H : Heap) (locs : List Loc) (cel1 slo1 : Nat) (ls : Array Slot), tRel n1 cm1 a1 kn1 cs1 → lT n1 cm1 a1 kn1 F1 → va_P D vwCl (lX q cI F1) H → sW D u cI cII (fun x => s.heap.size ≤ x) (fun y => y ∈ lA q) cs1 H → va_S (fun x => s.heap.size ≤ x) s.heap H locs → cel1 ≤ cel + 46 → slo1 ≤ slo + 440 → lv_has ls 26 [(13, .int 1), (17, .int (nI y)), (14, .int (nI tn)), (12, .ref (q 10)), (11, .ref (q 9)), (10, .ref (q 8)), (9, .ref (q 7)), (8, .ref (q 6)), (7, .ref (q 5)), (6, .ref (q 4)), (5, .ref (q 3)), (4, .ref (q 2)), (3, .ref (q 1)), (2, .ref (q 0)), (1, .ref (u 30)), (0, .ref b9)] → lwW p l e9 s m b9 below meth c H locs cel1 slo1 (F0 m 1430 ls [])) (hl : lv_has ls 26 [(22, .int 0), (18, .int (nI f)), (19, .int (nI th)), (20, .int (nI ck)), (17, .int (nI y)), (14, .int (nI tn)), (12, .ref (q 10)), (11, .ref (q 9)), (10, .ref (q 8)), (9, .ref (q 7)), (8, .ref (q 6)), (7, .ref (q 5)), (6, .ref (q 4)), (5, .ref (q 3)), (4, .ref (q 2)), (3, .ref (q 1)), (2, .ref (q 0)), (1, .ref (u 30)), (0, .ref b9)]) : lwW p l e9 s m b9 below meth c H locs cel slo (F0 m 1013 ls []) := by
  have hx := F.1
  have hb := F.2.1
  have hf00 : F9 0 0 = nI n := hL.lt.f00
  have hf01 : F9 0 1 = nI cm := hL.lt.f01
  have hn64 := hL.lt.n64
  have hcm10 := hL.lt.cm10
  have hf6 : ∀ x, x ∈ [q 0, q 1, q 2, q 3, q 4, q 5] → x ∈ lA q ∧ s.heap.size ≤ x := fun x hx => by
    have h : x ∈ lA q := by simp only [List.mem_cons, List.not_mem_nil, or_false] at hx; rcases hx with e | e | e | e | e | e <;> rw [e] <;> exact lA_in q (by decide)
    exact ⟨h, hq x h⟩
  have hgi : gI n F9 := gI_of hL.gr
  have hgo := hL.gok
  refine lv_aload_n hx hb dL_law_1013 rfl (lv_at hl 16 rfl) ?_
  refine lv_iconst (v := 1) hx hb dL_law_1014 (by decide) ?_
  refine cg_ald F hK hA 0 2 rfl 1 rfl (by omega) (by decide) dL_law_1015 ?_
  refine lw_N cm hf01 ?_
  refine lw_zne (tgt := 1024) hx hb cm (by omega) dL_law_1016 (by decide) (fun c_1 => ?_) (fun c_1 => ?_)
  · skip
    refine lv_aload hx hb dL_law_1024 (lv_at hl 6 rfl) ?_
    refine lv_iload hx hb dL_law_1026 (lv_at hl 3 rfl) ?_
    refine ro_callS F hK [.ref (q 10), .int (nI ck)] (lc_isOpen hA ck) (va_cwS 2 F.2.2.2.2 gL_law_L_isOpen rfl rfl rfl (by decide +kernel) ⟨Nat.le_of_ble_eq_true rfl, Nat.le_of_ble_eq_true rfl⟩) rfl hl.1 rfl (lv_room (Nat.le_of_ble_eq_true rfl)) ⟨by show _ ≤ 600086; omega, by show _ ≤ 7301442; omega⟩ dL_law_1028 ?_
    refine lw_beq (tgt := 1038) hx hb dL_law_1031 (by decide) (fun c_2 => ?_) (fun c_2 => ?_)
    · skip
      refine lv_bipush (v := (-13)) hx hb dL_law_1038 (by decide) ?_
      refine lv_istore (lv' := [(23, .int (-13)), (22, .int 0), (18, .int (nI f)), (19, .int (nI th)), (20, .int (nI ck)), (17, .int (nI y)), (14, .int (nI tn)), (12, .ref (q 10)), (11, .ref (q 9)), (10, .ref (q 8)), (9, .ref (q 7)), (8, .ref (q 6)), (7, .ref (q 5)), (6, .ref (q 4)), (5, .ref (q 3)), (4, .ref (q 2)), (3, .ref (q 1)), (2, .ref (q 0)), (1, .ref (u 30)), (0, .ref b9)]) hx hb dL_law_1040 hl (by decide) rfl (fun ls hl => ?_)
      refine lv_iconst (v := 0) hx hb dL_law_1042 (by decide) ?_
      refine lv_istore (lv' := [(24, .int 0), (23, .int (-13)), (22, .int 0), (18, .int (nI f)), (19, .int (nI th)), (20, .int (nI ck)), (17, .int (nI y)), (14, .int (nI tn)), (12, .ref (q 10)), (11, .ref (q 9)), (10, .ref (q 8)), (9, .ref (q 7)), (8, .ref (q 6)), (7, .ref (q 5)), (6, .ref (q 4)), (5, .ref (q 3)), (4, .ref (q 2)), (3, .ref (q 1)), (2, .ref (q 0)), (1, .ref (u 30)), (0, .ref b9)]) hx hb dL_law_1043 hl (by decide) rfl (fun ls hl => ?_)
      refine lv_iload hx hb dL_law_1045 (lv_at hl 0 rfl) ?_
      refine lv_bipush (v := 8) hx hb dL_law_1047 (by decide) ?_
      refine lv_icmp_ge (tgt := 1099) hx hb dL_law_1049 (by decide) (fun z9 => absurd z9 (by decide)) (fun _ => ?_)
      refine lv_iload hx hb dL_law_1052 (lv_at hl 1 rfl) ?_
      refine lv_if_ne (tgt := 1099) hx hb dL_law_1054 (by decide) (fun _ => ?_) (fun z9 => absurd z9 (by decide))
      refine lv_iconst (v := 0) hx hb dL_law_1099 (by decide) ?_
      refine lv_istore (lv' := [(24, .int 0), (23, .int (-13)), (22, .int 0), (18, .int (nI f)), (19, .int (nI th)), (20, .int (nI ck)), (17, .int (nI y)), (14, .int (nI tn)), (12, .ref (q 10)), (11, .ref (q 9)), (10, .ref (q 8)), (9, .ref (q 7)), (8, .ref (q 6)), (7, .ref (q 5)), (6, .ref (q 4)), (5, .ref (q 3)), (4, .ref (q 2)), (3, .ref (q 1)), (2, .ref (q 0)), (1, .ref (u 30)), (0, .ref b9)]) hx hb dL_law_1100 hl (by decide) rfl (fun ls hl => ?_)
      refine lv_iload hx hb dL_law_1102 (lv_at hl 0 rfl) ?_
      refine lv_bipush (v := 40) hx hb dL_law_1104 (by decide) ?_
      refine lv_icmp_ge (tgt := 1171) hx hb dL_law_1106 (by decide) (fun z9 => absurd z9 (by decide)) (fun _ => ?_)
      refine lv_iload hx hb dL_law_1109 (lv_at hl 1 rfl) ?_
      refine lv_if_lt (tgt := 1171) hx hb dL_law_1111 (by decide) (fun _ => ?_) (fun z9 => absurd (by decide) z9)
      refine lv_iload hx hb dL_law_1171 (lv_at hl 1 rfl) ?_
      refine lv_if_lt (tgt := 1205) hx hb dL_law_1173 (by decide) (fun _ => ?_) (fun z9 => absurd (by decide) z9)
      refine lv_aload_n hx hb dL_law_1205 rfl (lv_at hl 19 rfl) ?_
      refine lv_iload hx hb dL_law_1206 (lv_at hl 2 rfl) ?_
      refine lv_if_eq (tgt := 1215) hx hb dL_law_1208 (by decide) (fun _ => ?_) (fun z9 => absurd (by decide) z9)
      refine lv_bipush (v := 6) hx hb dL_law_1215 (by decide) ?_
      refine lv_iload hx hb dL_law_1217 (lv_at hl 3 rfl) ?_
      refine lv_iload hx hb dL_law_1219 (lv_at hl 5 rfl) ?_
      refine lv_iconst (v := 0) hx hb dL_law_1221 (by decide) ?_
      refine ix_does (val := (-13)) (cs' := cs) (op := cBake cs (nI f) (nI ck)) F hK hX hNz (fun x h => h) hA hC R9 hS [.ref (u 30), .int 6, .int (nI f), .int (nI ck), .int 0] (fun V pq sp cn e sz b L w nx z0 h1 h2 h3 h4 h5 h6 h7 h8 => by subst h1; exact ld_bake hfl h2 (nI f) (nI ck) 0 h3 h4 h5 h6 h7 h8) ((dk_shut R9 hL hf (hck.2 (by omega)) c_2).2.2) (vx_cwSW 5 F.2.2.2.2 gL_law_L_does rfl rfl rfl (by decide +kernel) ⟨Nat.le_of_ble_eq_true rfl, Nat.le_of_ble_eq_true rfl⟩) rfl hl.1 rfl (lv_room (Nat.le_of_ble_eq_true rfl)) ⟨by show _ ≤ 600086; omega, by show _ ≤ 7301442; omega⟩ dL_law_1222 (fun H locs hA hC hS => ?_)
      refine lv_iload hx hb dL_law_1225 (lv_at hl 1 rfl) ?_
      refine lv_icmp_ne (tgt := 1234) hx hb dL_law_1227 (by decide) (fun z9 => absurd z9 (by decide)) (fun _ => ?_)
      refine lv_iconst (v := 1) hx hb dL_law_1230 (by decide) ?_
      refine lv_goto (tgt := 1235) hx hb dL_law_1231 (by decide) ?_
      refine lv_istore (lv' := [(13, .int 1), (24, .int 0), (23, .int (-13)), (22, .int 0), (18, .int (nI f)), (19, .int (nI th)), (20, .int (nI ck)), (17, .int (nI y)), (14, .int (nI tn)), (12, .ref (q 10)), (11, .ref (q 9)), (10, .ref (q 8)), (9, .ref (q 7)), (8, .ref (q 6)), (7, .ref (q 5)), (6, .ref (q 4)), (5, .ref (q 3)), (4, .ref (q 2)), (3, .ref (q 1)), (2, .ref (q 0)), (1, .ref (u 30)), (0, .ref b9)]) hx hb dL_law_1235 hl (by decide) rfl (fun ls hl => ?_)
      refine lv_goto (tgt := 1430) hx hb dL_law_1237 (by decide) ?_
      exact kk _ _ _ _ _ _ H locs _ _ ls (R9) (hL.lt) hA hC hS (by omega) (by omega) (lv_sub hl [0, 7, 8, 9, 10, 11, 12, 13, 14, 15, 16, 17, 18, 19, 20, 21] rfl)
    · skip
      refine lv_iconst (v := 0) hx hb dL_law_1034 (by decide) ?_
      refine lv_goto (tgt := 1040) hx hb dL_law_1035 (by decide) ?_
      have hop : lOp F9 ck = true := c_2
      have hk9 : ck < cm := hck.2 (by omega)
      obtain ⟨rc, hrc6, hrc, -, -⟩ := hL.lt.f7r R9 hk9
      refine lv_istore (lv' := [(23, .int 0), (22, .int 0), (18, .int (nI f)), (19, .int (nI th)), (20, .int (nI ck)), (17, .int (nI y)), (14, .int (nI tn)), (12, .ref (q 10)), (11, .ref (q 9)), (10, .ref (q 8)), (9, .ref (q 7)), (8, .ref (q 6)), (7, .ref (q 5)), (6, .ref (q 4)), (5, .ref (q 3)), (4, .ref (q 2)), (3, .ref (q 1)), (2, .ref (q 0)), (1, .ref (u 30)), (0, .ref b9)]) hx hb dL_law_1040 hl (by decide) rfl (fun ls hl => ?_)
      refine lv_iconst (v := 0) hx hb dL_law_1042 (by decide) ?_
      refine lv_istore (lv' := [(24, .int 0), (23, .int 0), (22, .int 0), (18, .int (nI f)), (19, .int (nI th)), (20, .int (nI ck)), (17, .int (nI y)), (14, .int (nI tn)), (12, .ref (q 10)), (11, .ref (q 9)), (10, .ref (q 8)), (9, .ref (q 7)), (8, .ref (q 6)), (7, .ref (q 5)), (6, .ref (q 4)), (5, .ref (q 3)), (4, .ref (q 2)), (3, .ref (q 1)), (2, .ref (q 0)), (1, .ref (u 30)), (0, .ref b9)]) hx hb dL_law_1043 hl (by decide) rfl (fun ls hl => ?_)
      have L1045_u_3 : ∀ (k9u_3 : Nat) (fo : Nat) (H : Heap) (locs : List Loc) (ls : Array Slot), 8 - fo < k9u_3 → (fo ≤ 8) → (∀ i, i < fo → lLk F9 cm rc ck i ≤ 0) → va_P D vwCl (lX q cI F9) H → sW D u cI cII (fun x => s.heap.size ≤ x) (fun y => y ∈ lA q) cs H → va_S (fun x => s.heap.size ≤ x) s.heap H locs → lv_has ls 26 [(24, .int (nI fo)), (23, .int 0), (22, .int 0), (18, .int (nI f)), (19, .int (nI th)), (20, .int (nI ck)), (17, .int (nI y)), (14, .int (nI tn)), (12, .ref (q 10)), (11, .ref (q 9)), (10, .ref (q 8)), (9, .ref (q 7)), (8, .ref (q 6)), (7, .ref (q 5)), (6, .ref (q 4)), (5, .ref (q 3)), (4, .ref (q 2)), (3, .ref (q 1)), (2, .ref (q 0)), (1, .ref (u 30)), (0, .ref b9)] → lwW p l e9 s m b9 below meth c H locs cel slo (F0 m 1045 ls []) := by
        intro k9u_3
        induction k9u_3 with
        | zero => intro fo H locs ls hk; exact absurd hk (Nat.not_lt_zero _)
        | succ k9u_3 ihu_3 =>
          intro fo H locs ls hk hfo h0 hA hC hS hl
          refine lv_iload hx hb dL_law_1045 (lv_at hl 0 rfl) ?_
          refine lv_bipush (v := 8) hx hb dL_law_1047 (by decide) ?_
          refine lw_ge (tgt := 1099) hx hb fo 8 (by omega) (by omega) dL_law_1049 (by decide) (fun c_4 => ?_) (fun c_4 => ?_)
          · skip
            have mc_4 : ¬ fo < 8 := by omega
            refine lv_iconst (v := 0) hx hb dL_law_1099 (by decide) ?_
            refine lv_istore (lv' := [(24, .int 0), (23, .int 0), (22, .int 0), (18, .int (nI f)), (19, .int (nI th)), (20, .int (nI ck)), (17, .int (nI y)), (14, .int (nI tn)), (12, .ref (q 10)), (11, .ref (q 9)), (10, .ref (q 8)), (9, .ref (q 7)), (8, .ref (q 6)), (7, .ref (q 5)), (6, .ref (q 4)), (5, .ref (q 3)), (4, .ref (q 2)), (3, .ref (q 1)), (2, .ref (q 0)), (1, .ref (u 30)), (0, .ref b9)]) hx hb dL_law_1100 hl (by decide) rfl (fun ls hl => ?_)
            have L1102_u_5 : ∀ (k9u_5 : Nat) (d : Nat) (t : Nat) (L : List Nat) (G1 : FF) (H : Heap) (locs : List Loc) (ls : Array Slot), 40 - t < k9u_5 → (t ≤ 40) → (d = L.length) → (L = foldU (kpStep a kn n f (nI ck)) [] t) → (lJ n cm a kn F9 f 1 ck L G1) → va_P D vwCl (lX q cI G1) H → sW D u cI cII (fun x => s.heap.size ≤ x) (fun y => y ∈ lA q) cs H → va_S (fun x => s.heap.size ≤ x) s.heap H locs → lv_has ls 26 [(24, .int (nI t)), (23, .int (nI d)), (22, .int 0), (18, .int (nI f)), (19, .int (nI th)), (20, .int (nI ck)), (17, .int (nI y)), (14, .int (nI tn)), (12, .ref (q 10)), (11, .ref (q 9)), (10, .ref (q 8)), (9, .ref (q 7)), (8, .ref (q 6)), (7, .ref (q 5)), (6, .ref (q 4)), (5, .ref (q 3)), (4, .ref (q 2)), (3, .ref (q 1)), (2, .ref (q 0)), (1, .ref (u 30)), (0, .ref b9)] → lwW p l e9 s m b9 below meth c H locs cel slo (F0 m 1102 ls []) := by
              intro k9u_5
              induction k9u_5 with
              | zero => intro d t L G1 H locs ls hk; exact absurd hk (Nat.not_lt_zero _)
              | succ k9u_5 ihu_5 =>
                intro d t L G1 H locs ls hk ht hd hLf hJ hA hC hS hl
                have hln : 2 * L.length + 1 ≤ n := by have h1 := lkp_len hLf ht; have h2 := kept_len R9 hf hk9; omega
                refine lv_iload hx hb dL_law_1102 (lv_at hl 0 rfl) ?_
                refine lv_bipush (v := 40) hx hb dL_law_1104 (by decide) ?_
                refine lw_ge (tgt := 1171) hx hb t 40 (by omega) (by omega) dL_law_1106 (by decide) (fun c_6 => ?_) (fun c_6 => ?_)
                · skip
                  have mc_6 : ¬ t < 40 := by omega
                  refine lv_iload hx hb dL_law_1171 (lv_at hl 1 rfl) ?_
                  refine lv_if_lt (tgt := 1205) hx hb dL_law_1173 (by decide) (fun z9 => absurd z9 (nI_nlt0 (by omega))) (fun _ => ?_)
                  refine lv_aload_n hx hb dL_law_1176 rfl (lv_at hl 18 rfl) ?_
                  refine lv_aload_n hx hb dL_law_1177 rfl (lv_at hl 17 rfl) ?_
                  refine lv_aload hx hb dL_law_1178 (lv_at hl 16 rfl) ?_
                  refine lv_aload hx hb dL_law_1180 (lv_at hl 15 rfl) ?_
                  refine lv_aload hx hb dL_law_1182 (lv_at hl 14 rfl) ?_
                  refine lv_aload hx hb dL_law_1184 (lv_at hl 13 rfl) ?_
                  refine lv_iload hx hb dL_law_1186 (lv_at hl 3 rfl) ?_
                  refine lv_iload hx hb dL_law_1188 (lv_at hl 2 rfl) ?_
                  refine lv_if_eq (tgt := 1197) hx hb dL_law_1190 (by decide) (fun _ => ?_) (fun z9 => absurd (by decide) z9)
                  refine lv_bipush (v := 6) hx hb dL_law_1197 (by decide) ?_
                  refine lv_iload hx hb dL_law_1199 (lv_at hl 5 rfl) ?_
                  refine lv_iconst (v := 0) hx hb dL_law_1201 (by decide) ?_
                  refine ix_la F hK hA hC hS [.ref (q 0), .ref (q 1), .ref (q 2), .ref (q 3), .ref (q 4), .ref (q 5), .int (nI f), .int 6, .int (nI ck), .int 0] (la_writes (n := n + L.length) hN f 6 ck 0 (lJ_n hJ) (by omega) hf) hf6 (va_cwS 10 F.2.2.2.2 gL_law_L_writes rfl rfl rfl (by decide +kernel) ⟨Nat.le_of_ble_eq_true rfl, Nat.le_of_ble_eq_true rfl⟩) rfl hl.1 rfl (lv_room (Nat.le_of_ble_eq_true rfl)) ⟨by show _ ≤ 600086; omega, by show _ ≤ 7301442; omega⟩ dL_law_1202 (fun H locs hA hC hS => ?_)
                  refine lv_aload_n hx hb dL_law_1205 rfl (lv_at hl 19 rfl) ?_
                  refine lv_iload hx hb dL_law_1206 (lv_at hl 2 rfl) ?_
                  refine lv_if_eq (tgt := 1215) hx hb dL_law_1208 (by decide) (fun _ => ?_) (fun z9 => absurd (by decide) z9)
                  refine lv_bipush (v := 6) hx hb dL_law_1215 (by decide) ?_
                  refine lv_iload hx hb dL_law_1217 (lv_at hl 3 rfl) ?_
                  refine lv_iload hx hb dL_law_1219 (lv_at hl 5 rfl) ?_
                  refine lv_iconst (v := 0) hx hb dL_law_1221 (by decide) ?_
                  obtain ⟨cs2, ev9, R2⟩ := db_open R9 hL hf hk9 hrc6 hrc (by omega) hop (fun i hi => h0 i (by omega))
                  have e8 : keptL a kn n f (nI ck) = L := by rw [hLf, show t = 40 by omega]; rfl
                  rw [e8] at ev9 R2
                  refine ix_does (val := nI L.length) (cs' := cs2) (op := cBake cs (nI f) (nI ck)) F hK hX hNz (fun x h => h) hA hC R9 hS [.ref (u 30), .int 6, .int (nI f), .int (nI ck), .int 0] (fun V pq sp cn e sz b L w nx z0 h1 h2 h3 h4 h5 h6 h7 h8 => by subst h1; exact ld_bake hfl h2 (nI f) (nI ck) 0 h3 h4 h5 h6 h7 h8) (ev9) (vx_cwSW 5 F.2.2.2.2 gL_law_L_does rfl rfl rfl (by decide +kernel) ⟨Nat.le_of_ble_eq_true rfl, Nat.le_of_ble_eq_true rfl⟩) rfl hl.1 rfl (lv_room (Nat.le_of_ble_eq_true rfl)) ⟨by show _ ≤ 600086; omega, by show _ ≤ 7301442; omega⟩ dL_law_1222 (fun H locs hA hC hS => ?_)
                  refine lv_iload hx hb dL_law_1225 (lv_at hl 1 rfl) ?_
                  refine lv_icmp_ne (tgt := 1234) hx hb dL_law_1227 (by decide) (fun z9 => absurd (congrArg nI hd.symm) z9) (fun _ => ?_)
                  refine lv_iconst (v := 1) hx hb dL_law_1230 (by decide) ?_
                  refine lv_goto (tgt := 1235) hx hb dL_law_1231 (by decide) ?_
                  refine lv_istore (lv' := [(13, .int 1), (24, .int (nI t)), (23, .int (nI d)), (22, .int 0), (18, .int (nI f)), (19, .int (nI th)), (20, .int (nI ck)), (17, .int (nI y)), (14, .int (nI tn)), (12, .ref (q 10)), (11, .ref (q 9)), (10, .ref (q 8)), (9, .ref (q 7)), (8, .ref (q 6)), (7, .ref (q 5)), (6, .ref (q 4)), (5, .ref (q 3)), (4, .ref (q 2)), (3, .ref (q 1)), (2, .ref (q 0)), (1, .ref (u 30)), (0, .ref b9)]) hx hb dL_law_1235 hl (by decide) rfl (fun ls hl => ?_)
                  refine lv_goto (tgt := 1430) hx hb dL_law_1237 (by decide) ?_
                  exact kk _ _ _ _ _ _ H locs _ _ ls (R2) (lJ_e (kd2 := 6) hJ (by omega) hf (by omega) (by omega) (by omega)) hA hC hS (by omega) (by omega) (lv_sub hl [0, 7, 8, 9, 10, 11, 12, 13, 14, 15, 16, 17, 18, 19, 20, 21] rfl)
                · skip
                  have mc_6 : ¬ 40 ≤ t := by omega
                  refine lv_iload hx hb dL_law_1109 (lv_at hl 1 rfl) ?_
                  refine lv_if_lt (tgt := 1171) hx hb dL_law_1111 (by decide) (fun z9 => absurd z9 (nI_nlt0 (by omega))) (fun _ => ?_)
                  refine lv_aload_n hx hb dL_law_1114 rfl (lv_at hl 18 rfl) ?_
                  refine lv_aload hx hb dL_law_1115 (lv_at hl 14 rfl) ?_
                  refine lv_aload hx hb dL_law_1117 (lv_at hl 11 rfl) ?_
                  refine lv_aload hx hb dL_law_1119 (lv_at hl 10 rfl) ?_
                  refine lv_aload hx hb dL_law_1121 (lv_at hl 9 rfl) ?_
                  refine lv_aload hx hb dL_law_1123 (lv_at hl 8 rfl) ?_
                  refine lv_iload hx hb dL_law_1125 (lv_at hl 0 rfl) ?_
                  refine ro_callS F hK [.ref (q 0), .ref (q 4), .ref (q 7), .ref (q 8), .ref (q 9), .ref (q 10), .int (nI t)] (lc_kept hA (cm := cm) t hJ.1.f01 hcm10 (go_cg hJ.2.2 hgo) (by omega)) (va_cwS 7 F.2.2.2.2 gL_law_L_kept rfl rfl rfl (by decide +kernel) ⟨Nat.le_of_ble_eq_true rfl, Nat.le_of_ble_eq_true rfl⟩) rfl hl.1 rfl (lv_room (Nat.le_of_ble_eq_true rfl)) ⟨by show _ ≤ 600086; omega, by show _ ≤ 7301442; omega⟩ dL_law_1127 ?_
                  refine lw_E (keeperB a kn n f (nI t)) ((congrArg oI (kp_cg hJ.2.2 hn64 hgi t)).trans (kp_ke R9 hL hf (by omega))) ?_
                  refine lv_iload hx hb dL_law_1130 (lv_at hl 5 rfl) ?_
                  refine lv_icmp_ne (tgt := 1165) hx hb dL_law_1132 (by decide) (fun c_7 => ?_) (fun c_7 => ?_)
                  · skip
                    refine lv_iinc (v := nI (t + 1)) (lv' := [(24, .int (nI (t + 1))), (23, .int (nI d)), (22, .int 0), (18, .int (nI f)), (19, .int (nI th)), (20, .int (nI ck)), (17, .int (nI y)), (14, .int (nI tn)), (12, .ref (q 10)), (11, .ref (q 9)), (10, .ref (q 8)), (9, .ref (q 7)), (8, .ref (q 6)), (7, .ref (q 5)), (6, .ref (q 4)), (5, .ref (q 3)), (4, .ref (q 2)), (3, .ref (q 1)), (2, .ref (q 0)), (1, .ref (u 30)), (0, .ref b9)]) hx hb dL_law_1165 hl (k := 0) rfl (show nI t + Int32.ofInt 1 = _ from nI_add t 1) (by decide) rfl (fun ls hl => ?_)
                    refine lv_goto (tgt := 1102) hx hb dL_law_1168 (by decide) ?_
                    exact ihu_5  d (t + 1) L G1 _ _ ls (by omega) (by first | omega | assumption) (hd) (lkp_no hLf c_7) (hJ) hA hC hS (lv_sub hl [0, 1, 2, 3, 4, 5, 6, 7, 8, 9, 10, 11, 12, 13, 14, 15, 16, 17, 18, 19, 20] rfl)
                  · skip
                    refine lv_iinc (v := nI (d + 1)) (lv' := [(23, .int (nI (d + 1))), (24, .int (nI t)), (22, .int 0), (18, .int (nI f)), (19, .int (nI th)), (20, .int (nI ck)), (17, .int (nI y)), (14, .int (nI tn)), (12, .ref (q 10)), (11, .ref (q 9)), (10, .ref (q 8)), (9, .ref (q 7)), (8, .ref (q 6)), (7, .ref (q 5)), (6, .ref (q 4)), (5, .ref (q 3)), (4, .ref (q 2)), (3, .ref (q 1)), (2, .ref (q 0)), (1, .ref (u 30)), (0, .ref b9)]) hx hb dL_law_1135 hl (k := 1) rfl (show nI d + Int32.ofInt 1 = _ from nI_add d 1) (by decide) rfl (fun ls hl => ?_)
                    refine lv_iload hx hb dL_law_1138 (lv_at hl 2 rfl) ?_
                    refine lv_if_ne (tgt := 1165) hx hb dL_law_1140 (by decide) (fun z9 => absurd z9 (by decide)) (fun _ => ?_)
                    refine lv_aload_n hx hb dL_law_1143 rfl (lv_at hl 18 rfl) ?_
                    refine lv_aload_n hx hb dL_law_1144 rfl (lv_at hl 17 rfl) ?_
                    refine lv_aload hx hb dL_law_1145 (lv_at hl 16 rfl) ?_
                    refine lv_aload hx hb dL_law_1147 (lv_at hl 15 rfl) ?_
                    refine lv_aload hx hb dL_law_1149 (lv_at hl 14 rfl) ?_
                    refine lv_aload hx hb dL_law_1151 (lv_at hl 13 rfl) ?_
                    refine lv_iload hx hb dL_law_1153 (lv_at hl 3 rfl) ?_
                    refine lv_iconst (v := 1) hx hb dL_law_1155 (by decide) ?_
                    refine lv_iload hx hb dL_law_1156 (lv_at hl 1 rfl) ?_
                    refine lv_iload hx hb dL_law_1158 (lv_at hl 5 rfl) ?_
                    refine lv_iconst (v := 1) hx hb dL_law_1160 (by decide) ?_
                    refine lw_add hx hb (i := ck) (j := 1) dL_law_1161 ?_
                    refine ix_la F hK hA hC hS [.ref (q 0), .ref (q 1), .ref (q 2), .ref (q 3), .ref (q 4), .ref (q 5), .int (nI f), .int 1, .int (nI t), .int (nI (ck + 1))] (la_writes (n := n + L.length) hN f 1 t (nI (ck + 1)) (lJ_n hJ) (by omega) hf) hf6 (va_cwS 10 F.2.2.2.2 gL_law_L_writes rfl rfl rfl (by decide +kernel) ⟨Nat.le_of_ble_eq_true rfl, Nat.le_of_ble_eq_true rfl⟩) rfl hl.1 rfl (lv_room (Nat.le_of_ble_eq_true rfl)) ⟨by show _ ≤ 600086; omega, by show _ ≤ 7301442; omega⟩ dL_law_1162 (fun H locs hA hC hS => ?_)
                    refine lv_iinc (v := nI (t + 1)) (lv' := [(24, .int (nI (t + 1))), (23, .int (nI (d + 1))), (22, .int 0), (18, .int (nI f)), (19, .int (nI th)), (20, .int (nI ck)), (17, .int (nI y)), (14, .int (nI tn)), (12, .ref (q 10)), (11, .ref (q 9)), (10, .ref (q 8)), (9, .ref (q 7)), (8, .ref (q 6)), (7, .ref (q 5)), (6, .ref (q 4)), (5, .ref (q 3)), (4, .ref (q 2)), (3, .ref (q 1)), (2, .ref (q 0)), (1, .ref (u 30)), (0, .ref b9)]) hx hb dL_law_1165 hl (k := 1) rfl (show nI t + Int32.ofInt 1 = _ from nI_add t 1) (by decide) rfl (fun ls hl => ?_)
                    refine lv_goto (tgt := 1102) hx hb dL_law_1168 (by decide) ?_
                    exact ihu_5  (d + 1) (t + 1) (L ++ [t]) (lWr G1 (n + L.length) f 1 t (nI (ck + 1))) _ _ ls (by omega) (by first | omega | assumption) (by rw [List.length_append, hd]; rfl) (lkp_yes hLf c_7) (lJ_s hJ (by omega) hf (by omega) (by omega) (by omega)) hA hC hS (lv_sub hl [0, 1, 2, 3, 4, 5, 6, 7, 8, 9, 10, 11, 12, 13, 14, 15, 16, 17, 18, 19, 20] rfl)
            exact L1102_u_5 _ 0 0 ([]) F9 _ _ ls (Nat.lt_succ_self _) (by first | omega | assumption) (rfl) (rfl) (lJ_0 hL.lt (lK_of R9.inv) 1 ck) hA hC hS (lv_sub hl [0, 1, 2, 3, 4, 5, 6, 7, 8, 9, 10, 11, 12, 13, 14, 15, 16, 17, 18, 19, 20] rfl)
          · skip
            have mc_4 : ¬ 8 ≤ fo := by omega
            refine lv_iload hx hb dL_law_1052 (lv_at hl 1 rfl) ?_
            refine lv_if_ne (tgt := 1099) hx hb dL_law_1054 (by decide) (fun z9 => absurd z9 (by decide)) (fun _ => ?_)
            refine lv_iload hx hb dL_law_1057 (lv_at hl 2 rfl) ?_
            refine lv_if_ne (tgt := 1099) hx hb dL_law_1059 (by decide) (fun z9 => absurd z9 (by decide)) (fun _ => ?_)
            refine lv_aload_n hx hb dL_law_1062 rfl (lv_at hl 18 rfl) ?_
            refine lv_aload hx hb dL_law_1063 (lv_at hl 14 rfl) ?_
            refine lv_aload hx hb dL_law_1065 (lv_at hl 12 rfl) ?_
            refine lv_aload hx hb dL_law_1067 (lv_at hl 11 rfl) ?_
            refine lv_aload hx hb dL_law_1069 (lv_at hl 10 rfl) ?_
            refine lv_aload hx hb dL_law_1071 (lv_at hl 9 rfl) ?_
            refine lv_aload hx hb dL_law_1073 (lv_at hl 8 rfl) ?_
            refine lv_iload hx hb dL_law_1075 (lv_at hl 5 rfl) ?_
            refine lv_iload hx hb dL_law_1077 (lv_at hl 0 rfl) ?_
            refine ro_callS F hK [.ref (q 0), .ref (q 4), .ref (q 6), .ref (q 7), .ref (q 8), .ref (q 9), .ref (q 10), .int (nI ck), .int (nI fo)] (lc_lacks hA (cm := cm) (rc := rc) ck fo hf01 hcm10 hgo (by omega) (by omega) hrc hrc6) (va_cwS 9 F.2.2.2.2 gL_law_L_lacks rfl rfl rfl (by decide +kernel) ⟨Nat.le_of_ble_eq_true rfl, Nat.le_of_ble_eq_true rfl⟩) rfl hl.1 rfl (lv_room (Nat.le_of_ble_eq_true rfl)) ⟨by show _ ≤ 600086; omega, by show _ ≤ 7301442; omega⟩ dL_law_1079 ?_
            refine lv_if_le (tgt := 1090) hx hb dL_law_1082 (by decide) (fun c_8 => ?_) (fun c_8 => ?_)
            · skip
              refine lv_iconst (v := 0) hx hb dL_law_1090 (by decide) ?_
              refine lv_istore (lv' := [(23, .int 0), (24, .int (nI fo)), (22, .int 0), (18, .int (nI f)), (19, .int (nI th)), (20, .int (nI ck)), (17, .int (nI y)), (14, .int (nI tn)), (12, .ref (q 10)), (11, .ref (q 9)), (10, .ref (q 8)), (9, .ref (q 7)), (8, .ref (q 6)), (7, .ref (q 5)), (6, .ref (q 4)), (5, .ref (q 3)), (4, .ref (q 2)), (3, .ref (q 1)), (2, .ref (q 0)), (1, .ref (u 30)), (0, .ref b9)]) hx hb dL_law_1091 hl (by decide) rfl (fun ls hl => ?_)
              refine lv_iinc (v := nI (fo + 1)) (lv' := [(24, .int (nI (fo + 1))), (23, .int 0), (22, .int 0), (18, .int (nI f)), (19, .int (nI th)), (20, .int (nI ck)), (17, .int (nI y)), (14, .int (nI tn)), (12, .ref (q 10)), (11, .ref (q 9)), (10, .ref (q 8)), (9, .ref (q 7)), (8, .ref (q 6)), (7, .ref (q 5)), (6, .ref (q 4)), (5, .ref (q 3)), (4, .ref (q 2)), (3, .ref (q 1)), (2, .ref (q 0)), (1, .ref (u 30)), (0, .ref b9)]) hx hb dL_law_1093 hl (k := 1) rfl (show nI fo + Int32.ofInt 1 = _ from nI_add fo 1) (by decide) rfl (fun ls hl => ?_)
              refine lv_goto (tgt := 1045) hx hb dL_law_1096 (by decide) ?_
              exact ihu_3  (fo + 1) _ _ ls (by omega) (by first | omega | assumption) (fun i hi => by rcases Nat.lt_succ_iff_lt_or_eq.mp hi with e | e; exact h0 i e; rw [e]; exact c_8) hA hC hS (lv_sub hl [0, 1, 2, 3, 4, 5, 6, 7, 8, 9, 10, 11, 12, 13, 14, 15, 16, 17, 18, 19, 20] rfl)
            · skip
              refine lv_bipush (v := (-13)) hx hb dL_law_1085 (by decide) ?_
              refine lv_goto (tgt := 1091) hx hb dL_law_1087 (by decide) ?_
              refine lv_istore (lv' := [(23, .int (-13)), (24, .int (nI fo)), (22, .int 0), (18, .int (nI f)), (19, .int (nI th)), (20, .int (nI ck)), (17, .int (nI y)), (14, .int (nI tn)), (12, .ref (q 10)), (11, .ref (q 9)), (10, .ref (q 8)), (9, .ref (q 7)), (8, .ref (q 6)), (7, .ref (q 5)), (6, .ref (q 4)), (5, .ref (q 3)), (4, .ref (q 2)), (3, .ref (q 1)), (2, .ref (q 0)), (1, .ref (u 30)), (0, .ref b9)]) hx hb dL_law_1091 hl (by decide) rfl (fun ls hl => ?_)
              refine lv_iinc (v := nI (fo + 1)) (lv' := [(24, .int (nI (fo + 1))), (23, .int (-13)), (22, .int 0), (18, .int (nI f)), (19, .int (nI th)), (20, .int (nI ck)), (17, .int (nI y)), (14, .int (nI tn)), (12, .ref (q 10)), (11, .ref (q 9)), (10, .ref (q 8)), (9, .ref (q 7)), (8, .ref (q 6)), (7, .ref (q 5)), (6, .ref (q 4)), (5, .ref (q 3)), (4, .ref (q 2)), (3, .ref (q 1)), (2, .ref (q 0)), (1, .ref (u 30)), (0, .ref b9)]) hx hb dL_law_1093 hl (k := 1) rfl (show nI fo + Int32.ofInt 1 = _ from nI_add fo 1) (by decide) rfl (fun ls hl => ?_)
              refine lv_goto (tgt := 1045) hx hb dL_law_1096 (by decide) ?_
              refine lv_iload hx hb dL_law_1045 (lv_at hl 0 rfl) ?_
              refine lv_bipush (v := 8) hx hb dL_law_1047 (by decide) ?_
              refine lw_ge (tgt := 1099) hx hb (fo + 1) 8 (by omega) (by omega) dL_law_1049 (by decide) (fun c_9 => ?_) (fun c_9 => ?_)
              · skip
                have mc_9 : ¬ (fo + 1) < 8 := by omega
                refine lv_iconst (v := 0) hx hb dL_law_1099 (by decide) ?_
                refine lv_istore (lv' := [(24, .int 0), (23, .int (-13)), (22, .int 0), (18, .int (nI f)), (19, .int (nI th)), (20, .int (nI ck)), (17, .int (nI y)), (14, .int (nI tn)), (12, .ref (q 10)), (11, .ref (q 9)), (10, .ref (q 8)), (9, .ref (q 7)), (8, .ref (q 6)), (7, .ref (q 5)), (6, .ref (q 4)), (5, .ref (q 3)), (4, .ref (q 2)), (3, .ref (q 1)), (2, .ref (q 0)), (1, .ref (u 30)), (0, .ref b9)]) hx hb dL_law_1100 hl (by decide) rfl (fun ls hl => ?_)
                refine lv_iload hx hb dL_law_1102 (lv_at hl 0 rfl) ?_
                refine lv_bipush (v := 40) hx hb dL_law_1104 (by decide) ?_
                refine lv_icmp_ge (tgt := 1171) hx hb dL_law_1106 (by decide) (fun z9 => absurd z9 (by decide)) (fun _ => ?_)
                refine lv_iload hx hb dL_law_1109 (lv_at hl 1 rfl) ?_
                refine lv_if_lt (tgt := 1171) hx hb dL_law_1111 (by decide) (fun _ => ?_) (fun z9 => absurd (by decide) z9)
                refine lv_iload hx hb dL_law_1171 (lv_at hl 1 rfl) ?_
                refine lv_if_lt (tgt := 1205) hx hb dL_law_1173 (by decide) (fun _ => ?_) (fun z9 => absurd (by decide) z9)
                refine lv_aload_n hx hb dL_law_1205 rfl (lv_at hl 19 rfl) ?_
                refine lv_iload hx hb dL_law_1206 (lv_at hl 2 rfl) ?_
                refine lv_if_eq (tgt := 1215) hx hb dL_law_1208 (by decide) (fun _ => ?_) (fun z9 => absurd (by decide) z9)
                refine lv_bipush (v := 6) hx hb dL_law_1215 (by decide) ?_
                refine lv_iload hx hb dL_law_1217 (lv_at hl 3 rfl) ?_
                refine lv_iload hx hb dL_law_1219 (lv_at hl 5 rfl) ?_
                refine lv_iconst (v := 0) hx hb dL_law_1221 (by decide) ?_
                refine ix_does (val := (-13)) (cs' := cs) (op := cBake cs (nI f) (nI ck)) F hK hX hNz (fun x h => h) hA hC R9 hS [.ref (u 30), .int 6, .int (nI f), .int (nI ck), .int 0] (fun V pq sp cn e sz b L w nx z0 h1 h2 h3 h4 h5 h6 h7 h8 => by subst h1; exact ld_bake hfl h2 (nI f) (nI ck) 0 h3 h4 h5 h6 h7 h8) (db_no R9 hL hf hk9 hrc6 hrc hop (fo := fo) (by omega) c_8) (vx_cwSW 5 F.2.2.2.2 gL_law_L_does rfl rfl rfl (by decide +kernel) ⟨Nat.le_of_ble_eq_true rfl, Nat.le_of_ble_eq_true rfl⟩) rfl hl.1 rfl (lv_room (Nat.le_of_ble_eq_true rfl)) ⟨by show _ ≤ 600086; omega, by show _ ≤ 7301442; omega⟩ dL_law_1222 (fun H locs hA hC hS => ?_)
                refine lv_iload hx hb dL_law_1225 (lv_at hl 1 rfl) ?_
                refine lv_icmp_ne (tgt := 1234) hx hb dL_law_1227 (by decide) (fun z9 => absurd z9 (by decide)) (fun _ => ?_)
                refine lv_iconst (v := 1) hx hb dL_law_1230 (by decide) ?_
                refine lv_goto (tgt := 1235) hx hb dL_law_1231 (by decide) ?_
                refine lv_istore (lv' := [(13, .int 1), (24, .int 0), (23, .int (-13)), (22, .int 0), (18, .int (nI f)), (19, .int (nI th)), (20, .int (nI ck)), (17, .int (nI y)), (14, .int (nI tn)), (12, .ref (q 10)), (11, .ref (q 9)), (10, .ref (q 8)), (9, .ref (q 7)), (8, .ref (q 6)), (7, .ref (q 5)), (6, .ref (q 4)), (5, .ref (q 3)), (4, .ref (q 2)), (3, .ref (q 1)), (2, .ref (q 0)), (1, .ref (u 30)), (0, .ref b9)]) hx hb dL_law_1235 hl (by decide) rfl (fun ls hl => ?_)
                refine lv_goto (tgt := 1430) hx hb dL_law_1237 (by decide) ?_
                exact kk _ _ _ _ _ _ H locs _ _ ls (R9) (hL.lt) hA hC hS (by omega) (by omega) (lv_sub hl [0, 7, 8, 9, 10, 11, 12, 13, 14, 15, 16, 17, 18, 19, 20, 21] rfl)
              · skip
                have mc_9 : ¬ 8 ≤ (fo + 1) := by omega
                refine lv_iload hx hb dL_law_1052 (lv_at hl 1 rfl) ?_
                refine lv_if_ne (tgt := 1099) hx hb dL_law_1054 (by decide) (fun _ => ?_) (fun z9 => absurd z9 (by decide))
                refine lv_iconst (v := 0) hx hb dL_law_1099 (by decide) ?_
                refine lv_istore (lv' := [(24, .int 0), (23, .int (-13)), (22, .int 0), (18, .int (nI f)), (19, .int (nI th)), (20, .int (nI ck)), (17, .int (nI y)), (14, .int (nI tn)), (12, .ref (q 10)), (11, .ref (q 9)), (10, .ref (q 8)), (9, .ref (q 7)), (8, .ref (q 6)), (7, .ref (q 5)), (6, .ref (q 4)), (5, .ref (q 3)), (4, .ref (q 2)), (3, .ref (q 1)), (2, .ref (q 0)), (1, .ref (u 30)), (0, .ref b9)]) hx hb dL_law_1100 hl (by decide) rfl (fun ls hl => ?_)
                refine lv_iload hx hb dL_law_1102 (lv_at hl 0 rfl) ?_
                refine lv_bipush (v := 40) hx hb dL_law_1104 (by decide) ?_
                refine lv_icmp_ge (tgt := 1171) hx hb dL_law_1106 (by decide) (fun z9 => absurd z9 (by decide)) (fun _ => ?_)
                refine lv_iload hx hb dL_law_1109 (lv_at hl 1 rfl) ?_
                refine lv_if_lt (tgt := 1171) hx hb dL_law_1111 (by decide) (fun _ => ?_) (fun z9 => absurd (by decide) z9)
                refine lv_iload hx hb dL_law_1171 (lv_at hl 1 rfl) ?_
                refine lv_if_lt (tgt := 1205) hx hb dL_law_1173 (by decide) (fun _ => ?_) (fun z9 => absurd (by decide) z9)
                refine lv_aload_n hx hb dL_law_1205 rfl (lv_at hl 19 rfl) ?_
                refine lv_iload hx hb dL_law_1206 (lv_at hl 2 rfl) ?_
                refine lv_if_eq (tgt := 1215) hx hb dL_law_1208 (by decide) (fun _ => ?_) (fun z9 => absurd (by decide) z9)
                refine lv_bipush (v := 6) hx hb dL_law_1215 (by decide) ?_
                refine lv_iload hx hb dL_law_1217 (lv_at hl 3 rfl) ?_
                refine lv_iload hx hb dL_law_1219 (lv_at hl 5 rfl) ?_
                refine lv_iconst (v := 0) hx hb dL_law_1221 (by decide) ?_
                refine ix_does (val := (-13)) (cs' := cs) (op := cBake cs (nI f) (nI ck)) F hK hX hNz (fun x h => h) hA hC R9 hS [.ref (u 30), .int 6, .int (nI f), .int (nI ck), .int 0] (fun V pq sp cn e sz b L w nx z0 h1 h2 h3 h4 h5 h6 h7 h8 => by subst h1; exact ld_bake hfl h2 (nI f) (nI ck) 0 h3 h4 h5 h6 h7 h8) (db_no R9 hL hf hk9 hrc6 hrc hop (fo := fo) (by omega) c_8) (vx_cwSW 5 F.2.2.2.2 gL_law_L_does rfl rfl rfl (by decide +kernel) ⟨Nat.le_of_ble_eq_true rfl, Nat.le_of_ble_eq_true rfl⟩) rfl hl.1 rfl (lv_room (Nat.le_of_ble_eq_true rfl)) ⟨by show _ ≤ 600086; omega, by show _ ≤ 7301442; omega⟩ dL_law_1222 (fun H locs hA hC hS => ?_)
                refine lv_iload hx hb dL_law_1225 (lv_at hl 1 rfl) ?_
                refine lv_icmp_ne (tgt := 1234) hx hb dL_law_1227 (by decide) (fun z9 => absurd z9 (by decide)) (fun _ => ?_)
                refine lv_iconst (v := 1) hx hb dL_law_1230 (by decide) ?_
                refine lv_goto (tgt := 1235) hx hb dL_law_1231 (by decide) ?_
                refine lv_istore (lv' := [(13, .int 1), (24, .int 0), (23, .int (-13)), (22, .int 0), (18, .int (nI f)), (19, .int (nI th)), (20, .int (nI ck)), (17, .int (nI y)), (14, .int (nI tn)), (12, .ref (q 10)), (11, .ref (q 9)), (10, .ref (q 8)), (9, .ref (q 7)), (8, .ref (q 6)), (7, .ref (q 5)), (6, .ref (q 4)), (5, .ref (q 3)), (4, .ref (q 2)), (3, .ref (q 1)), (2, .ref (q 0)), (1, .ref (u 30)), (0, .ref b9)]) hx hb dL_law_1235 hl (by decide) rfl (fun ls hl => ?_)
                refine lv_goto (tgt := 1430) hx hb dL_law_1237 (by decide) ?_
                exact kk _ _ _ _ _ _ H locs _ _ ls (R9) (hL.lt) hA hC hS (by omega) (by omega) (lv_sub hl [0, 7, 8, 9, 10, 11, 12, 13, 14, 15, 16, 17, 18, 19, 20, 21] rfl)
      exact L1045_u_3 _ 0 _ _ ls (Nat.lt_succ_self _) (by first | omega | assumption) (fun i hi => absurd hi (Nat.not_lt_zero _)) hA hC hS (lv_sub hl [0, 1, 2, 3, 4, 5, 6, 7, 8, 9, 10, 11, 12, 13, 14, 15, 16, 17, 18, 19, 20] rfl)
  · skip
    refine lv_bipush (v := (-11)) hx hb dL_law_1019 (by decide) ?_
    refine lv_goto (tgt := 1040) hx hb dL_law_1021 (by decide) ?_
    refine lv_istore (lv' := [(23, .int (-11)), (22, .int 0), (18, .int (nI f)), (19, .int (nI th)), (20, .int (nI ck)), (17, .int (nI y)), (14, .int (nI tn)), (12, .ref (q 10)), (11, .ref (q 9)), (10, .ref (q 8)), (9, .ref (q 7)), (8, .ref (q 6)), (7, .ref (q 5)), (6, .ref (q 4)), (5, .ref (q 3)), (4, .ref (q 2)), (3, .ref (q 1)), (2, .ref (q 0)), (1, .ref (u 30)), (0, .ref b9)]) hx hb dL_law_1040 hl (by decide) rfl (fun ls hl => ?_)
    refine lv_iconst (v := 0) hx hb dL_law_1042 (by decide) ?_
    refine lv_istore (lv' := [(24, .int 0), (23, .int (-11)), (22, .int 0), (18, .int (nI f)), (19, .int (nI th)), (20, .int (nI ck)), (17, .int (nI y)), (14, .int (nI tn)), (12, .ref (q 10)), (11, .ref (q 9)), (10, .ref (q 8)), (9, .ref (q 7)), (8, .ref (q 6)), (7, .ref (q 5)), (6, .ref (q 4)), (5, .ref (q 3)), (4, .ref (q 2)), (3, .ref (q 1)), (2, .ref (q 0)), (1, .ref (u 30)), (0, .ref b9)]) hx hb dL_law_1043 hl (by decide) rfl (fun ls hl => ?_)
    refine lv_iload hx hb dL_law_1045 (lv_at hl 0 rfl) ?_
    refine lv_bipush (v := 8) hx hb dL_law_1047 (by decide) ?_
    refine lv_icmp_ge (tgt := 1099) hx hb dL_law_1049 (by decide) (fun z9 => absurd z9 (by decide)) (fun _ => ?_)
    refine lv_iload hx hb dL_law_1052 (lv_at hl 1 rfl) ?_
    refine lv_if_ne (tgt := 1099) hx hb dL_law_1054 (by decide) (fun _ => ?_) (fun z9 => absurd z9 (by decide))
    refine lv_iconst (v := 0) hx hb dL_law_1099 (by decide) ?_
    refine lv_istore (lv' := [(24, .int 0), (23, .int (-11)), (22, .int 0), (18, .int (nI f)), (19, .int (nI th)), (20, .int (nI ck)), (17, .int (nI y)), (14, .int (nI tn)), (12, .ref (q 10)), (11, .ref (q 9)), (10, .ref (q 8)), (9, .ref (q 7)), (8, .ref (q 6)), (7, .ref (q 5)), (6, .ref (q 4)), (5, .ref (q 3)), (4, .ref (q 2)), (3, .ref (q 1)), (2, .ref (q 0)), (1, .ref (u 30)), (0, .ref b9)]) hx hb dL_law_1100 hl (by decide) rfl (fun ls hl => ?_)
    refine lv_iload hx hb dL_law_1102 (lv_at hl 0 rfl) ?_
    refine lv_bipush (v := 40) hx hb dL_law_1104 (by decide) ?_
    refine lv_icmp_ge (tgt := 1171) hx hb dL_law_1106 (by decide) (fun z9 => absurd z9 (by decide)) (fun _ => ?_)
    refine lv_iload hx hb dL_law_1109 (lv_at hl 1 rfl) ?_
    refine lv_if_lt (tgt := 1171) hx hb dL_law_1111 (by decide) (fun _ => ?_) (fun z9 => absurd (by decide) z9)
    refine lv_iload hx hb dL_law_1171 (lv_at hl 1 rfl) ?_
    refine lv_if_lt (tgt := 1205) hx hb dL_law_1173 (by decide) (fun _ => ?_) (fun z9 => absurd (by decide) z9)
    refine lv_aload_n hx hb dL_law_1205 rfl (lv_at hl 19 rfl) ?_
    refine lv_iload hx hb dL_law_1206 (lv_at hl 2 rfl) ?_
    refine lv_if_eq (tgt := 1215) hx hb dL_law_1208 (by decide) (fun _ => ?_) (fun z9 => absurd (by decide) z9)
    refine lv_bipush (v := 6) hx hb dL_law_1215 (by decide) ?_
    refine lv_iload hx hb dL_law_1217 (lv_at hl 3 rfl) ?_
    refine lv_iload hx hb dL_law_1219 (lv_at hl 5 rfl) ?_
    refine lv_iconst (v := 0) hx hb dL_law_1221 (by decide) ?_
    refine ix_does (val := (-11)) (cs' := cs) (op := cBake cs (nI f) (nI ck)) F hK hX hNz (fun x h => h) hA hC R9 hS [.ref (u 30), .int 6, .int (nI f), .int (nI ck), .int 0] (fun V pq sp cn e sz b L w nx z0 h1 h2 h3 h4 h5 h6 h7 h8 => by subst h1; exact ld_bake hfl h2 (nI f) (nI ck) 0 h3 h4 h5 h6 h7 h8) (by have h0 : cm = 0 := c_1; have k0 := hck.1 h0; subst k0; have R0 := R9; rw [h0] at R0; exact (dk_none R0 hf).2.2) (vx_cwSW 5 F.2.2.2.2 gL_law_L_does rfl rfl rfl (by decide +kernel) ⟨Nat.le_of_ble_eq_true rfl, Nat.le_of_ble_eq_true rfl⟩) rfl hl.1 rfl (lv_room (Nat.le_of_ble_eq_true rfl)) ⟨by show _ ≤ 600086; omega, by show _ ≤ 7301442; omega⟩ dL_law_1222 (fun H locs hA hC hS => ?_)
    refine lv_iload hx hb dL_law_1225 (lv_at hl 1 rfl) ?_
    refine lv_icmp_ne (tgt := 1234) hx hb dL_law_1227 (by decide) (fun z9 => absurd z9 (by decide)) (fun _ => ?_)
    refine lv_iconst (v := 1) hx hb dL_law_1230 (by decide) ?_
    refine lv_goto (tgt := 1235) hx hb dL_law_1231 (by decide) ?_
    refine lv_istore (lv' := [(13, .int 1), (24, .int 0), (23, .int (-11)), (22, .int 0), (18, .int (nI f)), (19, .int (nI th)), (20, .int (nI ck)), (17, .int (nI y)), (14, .int (nI tn)), (12, .ref (q 10)), (11, .ref (q 9)), (10, .ref (q 8)), (9, .ref (q 7)), (8, .ref (q 6)), (7, .ref (q 5)), (6, .ref (q 4)), (5, .ref (q 3)), (4, .ref (q 2)), (3, .ref (q 1)), (2, .ref (q 0)), (1, .ref (u 30)), (0, .ref b9)]) hx hb dL_law_1235 hl (by decide) rfl (fun ls hl => ?_)
    refine lv_goto (tgt := 1430) hx hb dL_law_1237 (by decide) ?_
    exact kk _ _ _ _ _ _ H locs _ _ ls (R9) (hL.lt) hA hC hS (by omega) (by omega) (lv_sub hl [0, 7, 8, 9, 10, 11, 12, 13, 14, 15, 16, 17, 18, 19, 20, 21] rfl)
