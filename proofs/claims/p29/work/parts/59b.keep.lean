/-! the deeds: keep -/
set_option maxHeartbeats 8000000 in
set_option maxRecDepth 100000 in
theorem lf_keep {p : Program} {l : Launch} {e9 : Env} {s : State} {m : MethodId} {b9 : Nat} {below : List Frame} {meth : Method} {c : Code} {D : va_G} {u q : Nat → Nat} {cI cII : ClassId} {sa : Nat → Nat} (hfl : l.stackTraces = false) (F : CallFix p m c cL_law 26 s #[Value.ref b9] lw_tbl RL) (hK : va_K D vwCl (cT cI cII) s) (hX : xF (fun x => s.heap.size ≤ x) sa s) (hNz : wzN s) (hN : (lA q).Nodup) (hq : ∀ x, x ∈ lA q → s.heap.size ≤ x) {n cm : Nat} {a : Nat → Nat → Int32} {kn : Nat → Bool} {cs : CS} {l9 : List Nat} {F9 : FF} {f th ck y tn : Nat} {H : Heap} {locs : List Loc} {cel slo : Nat} {ls : Array Slot}  (hf : f < 5) (hth : th < 40) (hck : (cm = 0 → ck = 0) ∧ (0 < cm → ck < cm)) (hy : y < 134217728) (R9 : tRel n cm a kn cs) (hL : LV n cm a kn f l9 F9 (rdA (frV f) (cs.1 12) cs.2.2)) (hcel : cel ≤ 590000) (hslo : slo ≤ 7000000) (hA : va_P D vwCl (lX q cI F9) H) (hC : sW D u cI cII (fun x => s.heap.size ≤ x) (fun y => y ∈ lA q) cs H) (hS : va_S (fun x => s.heap.size ≤ x) s.heap H locs) (hn : n < 43) (kk : ∀ (n1 cm1 : Nat) (a1 : Nat → Nat → Int32) (kn1 : Nat → Bool) (cs1 : CS) (F1 : FF) (H : Heap) (locs : List Loc) (cel1 slo1 : Nat) (ls : Array Slot), tRel n1 cm1 a1 kn1 cs1 → lT n1 cm1 a1 kn1 F1 → va_P D vwCl (lX q cI F1) H → sW D u cI cII (fun x => s.heap.size ≤ x) (fun y => y ∈ lA q) cs1 H → va_S (fun x => s.heap.size ≤ x) s.heap H locs → cel1 ≤ cel + 46 → slo1 ≤ slo + 440 → lv_has ls 26 [(13, .int 1), (17, .int (nI y)), (14, .int (nI tn)), (12, .ref (q 10)), (11, .ref (q 9)), (10, .ref (q 8)), (9, .ref (q 7)), (8, .ref (q 6)), (7, .ref (q 5)), (6, .ref (q 4)), (5, .ref (q 3)), (4, .ref (q 2)), (3, .ref (q 1)), (2, .ref (q 0)), (1, .ref (u 30)), (0, .ref b9)] → lwW p l e9 s m b9 below meth c H locs cel1 slo1 (F0 m 1430 ls [])) (hl : lv_has ls 26 [(18, .int (nI f)), (19, .int (nI th)), (20, .int (nI ck)), (17, .int (nI y)), (14, .int (nI tn)), (12, .ref (q 10)), (11, .ref (q 9)), (10, .ref (q 8)), (9, .ref (q 7)), (8, .ref (q 6)), (7, .ref (q 5)), (6, .ref (q 4)), (5, .ref (q 3)), (4, .ref (q 2)), (3, .ref (q 1)), (2, .ref (q 0)), (1, .ref (u 30)), (0, .ref b9)]) : lwW p l e9 s m b9 below meth c H locs cel slo (F0 m 813 ls []) := by
  have hx := F.1
  have hb := F.2.1
  have hf00 : F9 0 0 = nI n := hL.lt.f00
  have hf01 : F9 0 1 = nI cm := hL.lt.f01
  have hn64 := hL.lt.n64
  have hcm10 := hL.lt.cm10
  have hf6 : ∀ x, x ∈ [q 0, q 1, q 2, q 3, q 4, q 5] → x ∈ lA q ∧ s.heap.size ≤ x := fun x hx => by
    have h : x ∈ lA q := by simp only [List.mem_cons, List.not_mem_nil, or_false] at hx; rcases hx with e | e | e | e | e | e <;> rw [e] <;> exact lA_in q (by decide)
    exact ⟨h, hq x h⟩
  have hgi : gI n F9 := gI_of hL.gr
  have hgo := hL.gok
  refine lv_aload_n hx hb dL_law_813 rfl (lv_at hl 15 rfl) ?_
  refine lv_iconst (v := 1) hx hb dL_law_814 (by decide) ?_
  refine cg_ald F hK hA 0 2 rfl 1 rfl (by omega) (by decide) dL_law_815 ?_
  refine lw_N cm hf01 ?_
  refine lw_zne (tgt := 824) hx hb cm (by omega) dL_law_816 (by decide) (fun c_1 => ?_) (fun c_1 => ?_)
  · skip
    refine lv_aload hx hb dL_law_824 (lv_at hl 5 rfl) ?_
    refine lv_iload hx hb dL_law_826 (lv_at hl 2 rfl) ?_
    refine ro_callS F hK [.ref (q 10), .int (nI ck)] (lc_isOpen hA ck) (va_cwS 2 F.2.2.2.2 gL_law_L_isOpen rfl rfl rfl (by decide +kernel) ⟨Nat.le_of_ble_eq_true rfl, Nat.le_of_ble_eq_true rfl⟩) rfl hl.1 rfl (lv_room (Nat.le_of_ble_eq_true rfl)) ⟨by show _ ≤ 600086; omega, by show _ ≤ 7301442; omega⟩ dL_law_828 ?_
    refine lw_beq (tgt := 838) hx hb dL_law_831 (by decide) (fun c_2 => ?_) (fun c_2 => ?_)
    · skip
      refine lv_bipush (v := (-13)) hx hb dL_law_838 (by decide) ?_
      refine lv_istore (lv' := [(22, .int (-13)), (18, .int (nI f)), (19, .int (nI th)), (20, .int (nI ck)), (17, .int (nI y)), (14, .int (nI tn)), (12, .ref (q 10)), (11, .ref (q 9)), (10, .ref (q 8)), (9, .ref (q 7)), (8, .ref (q 6)), (7, .ref (q 5)), (6, .ref (q 4)), (5, .ref (q 3)), (4, .ref (q 2)), (3, .ref (q 1)), (2, .ref (q 0)), (1, .ref (u 30)), (0, .ref b9)]) hx hb dL_law_840 hl (by decide) rfl (fun ls hl => ?_)
      refine lv_iconst (v := 0) hx hb dL_law_842 (by decide) ?_
      refine lv_istore (lv' := [(23, .int 0), (22, .int (-13)), (18, .int (nI f)), (19, .int (nI th)), (20, .int (nI ck)), (17, .int (nI y)), (14, .int (nI tn)), (12, .ref (q 10)), (11, .ref (q 9)), (10, .ref (q 8)), (9, .ref (q 7)), (8, .ref (q 6)), (7, .ref (q 5)), (6, .ref (q 4)), (5, .ref (q 3)), (4, .ref (q 2)), (3, .ref (q 1)), (2, .ref (q 0)), (1, .ref (u 30)), (0, .ref b9)]) hx hb dL_law_843 hl (by decide) rfl (fun ls hl => ?_)
      refine lv_iload hx hb dL_law_845 (lv_at hl 0 rfl) ?_
      refine lv_bipush (v := 8) hx hb dL_law_847 (by decide) ?_
      refine lv_icmp_ge (tgt := 962) hx hb dL_law_849 (by decide) (fun z9 => absurd z9 (by decide)) (fun _ => ?_)
      refine lv_iload hx hb dL_law_852 (lv_at hl 1 rfl) ?_
      refine lv_if_lt (tgt := 962) hx hb dL_law_854 (by decide) (fun _ => ?_) (fun z9 => absurd (by decide) z9)
      refine lv_aload_n hx hb dL_law_962 rfl (lv_at hl 18 rfl) ?_
      refine lv_iconst (v := 4) hx hb dL_law_963 (by decide) ?_
      refine lv_iload hx hb dL_law_964 (lv_at hl 2 rfl) ?_
      refine lv_iload hx hb dL_law_966 (lv_at hl 4 rfl) ?_
      refine lv_iconst (v := 0) hx hb dL_law_968 (by decide) ?_
      refine ix_does (val := (-13)) (cs' := cs) (op := cKeep cs (nI f) (nI ck)) F hK hX hNz (fun x h => h) hA hC R9 hS [.ref (u 30), .int 4, .int (nI f), .int (nI ck), .int 0] (fun V pq sp cn e sz b L w nx z0 h1 h2 h3 h4 h5 h6 h7 h8 => by subst h1; exact ld_keep hfl h2 (nI f) (nI ck) 0 h3 h4 h5 h6 h7 h8) ((dk_shut R9 hL hf (hck.2 (by omega)) c_2).1) (vx_cwSW 5 F.2.2.2.2 gL_law_L_does rfl rfl rfl (by decide +kernel) ⟨Nat.le_of_ble_eq_true rfl, Nat.le_of_ble_eq_true rfl⟩) rfl hl.1 rfl (lv_room (Nat.le_of_ble_eq_true rfl)) ⟨by show _ ≤ 600086; omega, by show _ ≤ 7301442; omega⟩ dL_law_969 (fun H locs hA hC hS => ?_)
      refine lv_iload hx hb dL_law_972 (lv_at hl 1 rfl) ?_
      refine lv_icmp_ne (tgt := 981) hx hb dL_law_974 (by decide) (fun z9 => absurd z9 (by decide)) (fun _ => ?_)
      refine lv_iconst (v := 1) hx hb dL_law_977 (by decide) ?_
      refine lv_goto (tgt := 982) hx hb dL_law_978 (by decide) ?_
      refine lv_istore (lv' := [(13, .int 1), (23, .int 0), (22, .int (-13)), (18, .int (nI f)), (19, .int (nI th)), (20, .int (nI ck)), (17, .int (nI y)), (14, .int (nI tn)), (12, .ref (q 10)), (11, .ref (q 9)), (10, .ref (q 8)), (9, .ref (q 7)), (8, .ref (q 6)), (7, .ref (q 5)), (6, .ref (q 4)), (5, .ref (q 3)), (4, .ref (q 2)), (3, .ref (q 1)), (2, .ref (q 0)), (1, .ref (u 30)), (0, .ref b9)]) hx hb dL_law_982 hl (by decide) rfl (fun ls hl => ?_)
      refine lv_goto (tgt := 1430) hx hb dL_law_984 (by decide) ?_
      exact kk _ _ _ _ _ _ H locs _ _ ls (R9) (hL.lt) hA hC hS (by omega) (by omega) (lv_sub hl [0, 6, 7, 8, 9, 10, 11, 12, 13, 14, 15, 16, 17, 18, 19, 20] rfl)
    · skip
      refine lv_iconst (v := 0) hx hb dL_law_834 (by decide) ?_
      refine lv_goto (tgt := 840) hx hb dL_law_835 (by decide) ?_
      have hop : lOp F9 ck = true := c_2
      have hk9 : ck < cm := hck.2 (by omega)
      obtain ⟨rc, hrc6, hrc, -, -⟩ := hL.lt.f7r R9 hk9
      refine lv_istore (lv' := [(22, .int 0), (18, .int (nI f)), (19, .int (nI th)), (20, .int (nI ck)), (17, .int (nI y)), (14, .int (nI tn)), (12, .ref (q 10)), (11, .ref (q 9)), (10, .ref (q 8)), (9, .ref (q 7)), (8, .ref (q 6)), (7, .ref (q 5)), (6, .ref (q 4)), (5, .ref (q 3)), (4, .ref (q 2)), (3, .ref (q 1)), (2, .ref (q 0)), (1, .ref (u 30)), (0, .ref b9)]) hx hb dL_law_840 hl (by decide) rfl (fun ls hl => ?_)
      refine lv_iconst (v := 0) hx hb dL_law_842 (by decide) ?_
      refine lv_istore (lv' := [(23, .int 0), (22, .int 0), (18, .int (nI f)), (19, .int (nI th)), (20, .int (nI ck)), (17, .int (nI y)), (14, .int (nI tn)), (12, .ref (q 10)), (11, .ref (q 9)), (10, .ref (q 8)), (9, .ref (q 7)), (8, .ref (q 6)), (7, .ref (q 5)), (6, .ref (q 4)), (5, .ref (q 3)), (4, .ref (q 2)), (3, .ref (q 1)), (2, .ref (q 0)), (1, .ref (u 30)), (0, .ref b9)]) hx hb dL_law_843 hl (by decide) rfl (fun ls hl => ?_)
      have L845_u_3 : ∀ (k9u_3 : Nat) (d : Nat) (fo : Nat) (L : List Nat) (G1 : FF) (H : Heap) (locs : List Loc) (ls : Array Slot), 8 - fo < k9u_3 → (fo ≤ 8) → (d = L.length) → (L.length ≤ 2 * fo) → (L = foldU (lkStep a kn n f ck) [] fo) → (lJ n cm a kn F9 f 4 ck L G1) → va_P D vwCl (lX q cI G1) H → sW D u cI cII (fun x => s.heap.size ≤ x) (fun y => y ∈ lA q) cs H → va_S (fun x => s.heap.size ≤ x) s.heap H locs → lv_has ls 26 [(23, .int (nI fo)), (22, .int (nI d)), (18, .int (nI f)), (19, .int (nI th)), (20, .int (nI ck)), (17, .int (nI y)), (14, .int (nI tn)), (12, .ref (q 10)), (11, .ref (q 9)), (10, .ref (q 8)), (9, .ref (q 7)), (8, .ref (q 6)), (7, .ref (q 5)), (6, .ref (q 4)), (5, .ref (q 3)), (4, .ref (q 2)), (3, .ref (q 1)), (2, .ref (q 0)), (1, .ref (u 30)), (0, .ref b9)] → lwW p l e9 s m b9 below meth c H locs cel slo (F0 m 845 ls []) := by
        intro k9u_3
        induction k9u_3 with
        | zero => intro d fo L G1 H locs ls hk; exact absurd hk (Nat.not_lt_zero _)
        | succ k9u_3 ihu_3 =>
          intro d fo L G1 H locs ls hk hfo hd hl9 hLf hJ hA hC hS hl
          refine lv_iload hx hb dL_law_845 (lv_at hl 0 rfl) ?_
          refine lv_bipush (v := 8) hx hb dL_law_847 (by decide) ?_
          refine lw_ge (tgt := 962) hx hb fo 8 (by omega) (by omega) dL_law_849 (by decide) (fun c_4 => ?_) (fun c_4 => ?_)
          · skip
            have mc_4 : ¬ fo < 8 := by omega
            refine lv_aload_n hx hb dL_law_962 rfl (lv_at hl 18 rfl) ?_
            refine lv_iconst (v := 4) hx hb dL_law_963 (by decide) ?_
            refine lv_iload hx hb dL_law_964 (lv_at hl 2 rfl) ?_
            refine lv_iload hx hb dL_law_966 (lv_at hl 4 rfl) ?_
            refine lv_iconst (v := 0) hx hb dL_law_968 (by decide) ?_
            obtain ⟨cs2, ev9, R2⟩ := dk_open R9 hL hf hk9 (by omega) hop
            have e8 : keepsL a kn n f ck = L := by rw [hLf, show fo = 8 by omega]; rfl
            rw [e8] at ev9 R2
            refine ix_does (val := nI L.length) (cs' := cs2) (op := cKeep cs (nI f) (nI ck)) F hK hX hNz (fun x h => h) hA hC R9 hS [.ref (u 30), .int 4, .int (nI f), .int (nI ck), .int 0] (fun V pq sp cn e sz b L w nx z0 h1 h2 h3 h4 h5 h6 h7 h8 => by subst h1; exact ld_keep hfl h2 (nI f) (nI ck) 0 h3 h4 h5 h6 h7 h8) (ev9) (vx_cwSW 5 F.2.2.2.2 gL_law_L_does rfl rfl rfl (by decide +kernel) ⟨Nat.le_of_ble_eq_true rfl, Nat.le_of_ble_eq_true rfl⟩) rfl hl.1 rfl (lv_room (Nat.le_of_ble_eq_true rfl)) ⟨by show _ ≤ 600086; omega, by show _ ≤ 7301442; omega⟩ dL_law_969 (fun H locs hA hC hS => ?_)
            refine lv_iload hx hb dL_law_972 (lv_at hl 1 rfl) ?_
            refine lv_icmp_ne (tgt := 981) hx hb dL_law_974 (by decide) (fun z9 => absurd (congrArg nI hd.symm) z9) (fun _ => ?_)
            refine lv_iconst (v := 1) hx hb dL_law_977 (by decide) ?_
            refine lv_goto (tgt := 982) hx hb dL_law_978 (by decide) ?_
            refine lv_istore (lv' := [(13, .int 1), (23, .int (nI fo)), (22, .int (nI d)), (18, .int (nI f)), (19, .int (nI th)), (20, .int (nI ck)), (17, .int (nI y)), (14, .int (nI tn)), (12, .ref (q 10)), (11, .ref (q 9)), (10, .ref (q 8)), (9, .ref (q 7)), (8, .ref (q 6)), (7, .ref (q 5)), (6, .ref (q 4)), (5, .ref (q 3)), (4, .ref (q 2)), (3, .ref (q 1)), (2, .ref (q 0)), (1, .ref (u 30)), (0, .ref b9)]) hx hb dL_law_982 hl (by decide) rfl (fun ls hl => ?_)
            refine lv_goto (tgt := 1430) hx hb dL_law_984 (by decide) ?_
            exact kk _ _ _ _ _ _ H locs _ _ ls (R2) (hJ.1) hA hC hS (by omega) (by omega) (lv_sub hl [0, 6, 7, 8, 9, 10, 11, 12, 13, 14, 15, 16, 17, 18, 19, 20] rfl)
          · skip
            have mc_4 : ¬ 8 ≤ fo := by omega
            refine lv_iload hx hb dL_law_852 (lv_at hl 1 rfl) ?_
            refine lv_if_lt (tgt := 962) hx hb dL_law_854 (by decide) (fun z9 => absurd z9 (nI_nlt0 (by omega))) (fun _ => ?_)
            refine lv_aload_n hx hb dL_law_857 rfl (lv_at hl 17 rfl) ?_
            refine lv_aload hx hb dL_law_858 (lv_at hl 13 rfl) ?_
            refine lv_aload hx hb dL_law_860 (lv_at hl 11 rfl) ?_
            refine lv_aload hx hb dL_law_862 (lv_at hl 10 rfl) ?_
            refine lv_aload hx hb dL_law_864 (lv_at hl 9 rfl) ?_
            refine lv_aload hx hb dL_law_866 (lv_at hl 8 rfl) ?_
            refine lv_aload hx hb dL_law_868 (lv_at hl 7 rfl) ?_
            refine lv_iload hx hb dL_law_870 (lv_at hl 4 rfl) ?_
            refine lv_iload hx hb dL_law_872 (lv_at hl 0 rfl) ?_
            refine ro_callS F hK [.ref (q 0), .ref (q 4), .ref (q 6), .ref (q 7), .ref (q 8), .ref (q 9), .ref (q 10), .int (nI ck), .int (nI fo)] (lc_lacks hA (cm := cm) (rc := rc) ck fo hJ.1.f01 hcm10 (go_cg hJ.2.2 hgo) (by omega) (by omega) ((congrFun (hJ.2.2.1 7 (by omega) (by omega)) _).trans hrc) hrc6) (va_cwS 9 F.2.2.2.2 gL_law_L_lacks rfl rfl rfl (by decide +kernel) ⟨Nat.le_of_ble_eq_true rfl, Nat.le_of_ble_eq_true rfl⟩) rfl hl.1 rfl (lv_room (Nat.le_of_ble_eq_true rfl)) ⟨by show _ ≤ 600086; omega, by show _ ≤ 7301442; omega⟩ dL_law_874 ?_
            obtain ⟨el9, z9, hz9, ez9⟩ := lack_N R9 hL hf hk9 hrc6 hrc hop (fo := fo) (by omega)
            refine lw_N z9 ((lk_cg hJ.2.2 hn64 hgi rc ck fo).trans ez9) ?_
            refine lv_istore (lv' := [(24, .int (nI z9)), (23, .int (nI fo)), (22, .int (nI d)), (18, .int (nI f)), (19, .int (nI th)), (20, .int (nI ck)), (17, .int (nI y)), (14, .int (nI tn)), (12, .ref (q 10)), (11, .ref (q 9)), (10, .ref (q 8)), (9, .ref (q 7)), (8, .ref (q 6)), (7, .ref (q 5)), (6, .ref (q 4)), (5, .ref (q 3)), (4, .ref (q 2)), (3, .ref (q 1)), (2, .ref (q 0)), (1, .ref (u 30)), (0, .ref b9)]) hx hb dL_law_877 hl (by decide) rfl (fun ls hl => ?_)
            refine lv_iload hx hb dL_law_879 (lv_at hl 1 rfl) ?_
            refine lv_istore (lv' := [(25, .int (nI fo)), (24, .int (nI z9)), (23, .int (nI fo)), (22, .int (nI d)), (18, .int (nI f)), (19, .int (nI th)), (20, .int (nI ck)), (17, .int (nI y)), (14, .int (nI tn)), (12, .ref (q 10)), (11, .ref (q 9)), (10, .ref (q 8)), (9, .ref (q 7)), (8, .ref (q 6)), (7, .ref (q 5)), (6, .ref (q 4)), (5, .ref (q 3)), (4, .ref (q 2)), (3, .ref (q 1)), (2, .ref (q 0)), (1, .ref (u 30)), (0, .ref b9)]) hx hb dL_law_881 hl (by decide) rfl (fun ls hl => ?_)
            have L883_u_5 : ∀ (k9u_5 : Nat) (z : Nat) (t : Nat) (j : Nat) (d2 : Nat) (L2 : List Nat) (G2 : FF) (H : Heap) (locs : List Loc) (ls : Array Slot), 40 - t < k9u_5 → (j ≤ 5) → (t = fo + 8 * j) → (d2 = L2.length) → (z + L2.length ≤ 2 * fo + 2) → (foldU (liStep a kn n f fo) (lackB a kn n f ck fo, L) j = (nI z, L2)) → (lJ n cm a kn F9 f 4 ck L2 G2) → va_P D vwCl (lX q cI G2) H → sW D u cI cII (fun x => s.heap.size ≤ x) (fun y => y ∈ lA q) cs H → va_S (fun x => s.heap.size ≤ x) s.heap H locs → lv_has ls 26 [(25, .int (nI t)), (24, .int (nI z)), (22, .int (nI d2)), (23, .int (nI fo)), (18, .int (nI f)), (19, .int (nI th)), (20, .int (nI ck)), (17, .int (nI y)), (14, .int (nI tn)), (12, .ref (q 10)), (11, .ref (q 9)), (10, .ref (q 8)), (9, .ref (q 7)), (8, .ref (q 6)), (7, .ref (q 5)), (6, .ref (q 4)), (5, .ref (q 3)), (4, .ref (q 2)), (3, .ref (q 1)), (2, .ref (q 0)), (1, .ref (u 30)), (0, .ref b9)] → lwW p l e9 s m b9 below meth c H locs cel slo (F0 m 883 ls []) := by
              intro k9u_5
              induction k9u_5 with
              | zero => intro z t j d2 L2 G2 H locs ls hk; exact absurd hk (Nat.not_lt_zero _)
              | succ k9u_5 ihu_5 =>
                intro z t j d2 L2 G2 H locs ls hk hj ht hd2 hz2 hLi hJ2 hA hC hS hl
                refine lv_iload hx hb dL_law_883 (lv_at hl 0 rfl) ?_
                refine lv_bipush (v := 40) hx hb dL_law_885 (by decide) ?_
                refine lw_ge (tgt := 956) hx hb t 40 (by omega) (by omega) dL_law_887 (by decide) (fun c_6 => ?_) (fun c_6 => ?_)
                · skip
                  have mc_6 : ¬ t < 40 := by omega
                  refine lv_iinc (v := nI (fo + 1)) (lv' := [(23, .int (nI (fo + 1))), (25, .int (nI t)), (24, .int (nI z)), (22, .int (nI d2)), (18, .int (nI f)), (19, .int (nI th)), (20, .int (nI ck)), (17, .int (nI y)), (14, .int (nI tn)), (12, .ref (q 10)), (11, .ref (q 9)), (10, .ref (q 8)), (9, .ref (q 7)), (8, .ref (q 6)), (7, .ref (q 5)), (6, .ref (q 4)), (5, .ref (q 3)), (4, .ref (q 2)), (3, .ref (q 1)), (2, .ref (q 0)), (1, .ref (u 30)), (0, .ref b9)]) hx hb dL_law_956 hl (k := 3) rfl (show nI fo + Int32.ofInt 1 = _ from nI_add fo 1) (by decide) rfl (fun ls hl => ?_)
                  refine lv_goto (tgt := 845) hx hb dL_law_959 (by decide) ?_
                  exact ihu_3  d2 (fo + 1) L2 G2 _ _ ls (by omega) (by first | omega | assumption) (hd2) (by omega) (lk_one hLf (li_end hLi hj (by omega))) (hJ2) hA hC hS (lv_sub hl [0, 3, 4, 5, 6, 7, 8, 9, 10, 11, 12, 13, 14, 15, 16, 17, 18, 19, 20, 21] rfl)
                · skip
                  have mc_6 : ¬ 40 ≤ t := by omega
                  refine lv_iload hx hb dL_law_890 (lv_at hl 1 rfl) ?_
                  refine lw_zle (tgt := 956) hx hb z (by omega) dL_law_892 (by decide) (fun c_7 => ?_) (fun c_7 => ?_)
                  · skip
                    refine lv_iinc (v := nI (fo + 1)) (lv' := [(23, .int (nI (fo + 1))), (25, .int (nI t)), (24, .int (nI z)), (22, .int (nI d2)), (18, .int (nI f)), (19, .int (nI th)), (20, .int (nI ck)), (17, .int (nI y)), (14, .int (nI tn)), (12, .ref (q 10)), (11, .ref (q 9)), (10, .ref (q 8)), (9, .ref (q 7)), (8, .ref (q 6)), (7, .ref (q 5)), (6, .ref (q 4)), (5, .ref (q 3)), (4, .ref (q 2)), (3, .ref (q 1)), (2, .ref (q 0)), (1, .ref (u 30)), (0, .ref b9)]) hx hb dL_law_956 hl (k := 3) rfl (show nI fo + Int32.ofInt 1 = _ from nI_add fo 1) (by decide) rfl (fun ls hl => ?_)
                    refine lv_goto (tgt := 845) hx hb dL_law_959 (by decide) ?_
                    exact ihu_3  d2 (fo + 1) L2 G2 _ _ ls (by omega) (by first | omega | assumption) (hd2) (by omega) (lk_one hLf (li_end hLi hj (by omega))) (hJ2) hA hC hS (lv_sub hl [0, 3, 4, 5, 6, 7, 8, 9, 10, 11, 12, 13, 14, 15, 16, 17, 18, 19, 20, 21] rfl)
                  · skip
                    refine lv_aload hx hb dL_law_895 (lv_at hl 11 rfl) ?_
                    refine lv_iload hx hb dL_law_897 (lv_at hl 0 rfl) ?_
                    refine cg_ald F hK hA 8 40 rfl t rfl (by omega) (by decide) dL_law_899 ?_
                    refine lw_E (F9 8 t) (congrFun (hJ2.2.2.1 8 (by omega) (by omega)) t) ?_
                    refine lv_if_le (tgt := 950) hx hb dL_law_900 (by decide) (fun c_8 => ?_) (fun c_8 => ?_)
                    · skip
                      refine lv_iinc (v := nI (t + 8)) (lv' := [(25, .int (nI (t + 8))), (24, .int (nI z)), (22, .int (nI d2)), (23, .int (nI fo)), (18, .int (nI f)), (19, .int (nI th)), (20, .int (nI ck)), (17, .int (nI y)), (14, .int (nI tn)), (12, .ref (q 10)), (11, .ref (q 9)), (10, .ref (q 8)), (9, .ref (q 7)), (8, .ref (q 6)), (7, .ref (q 5)), (6, .ref (q 4)), (5, .ref (q 3)), (4, .ref (q 2)), (3, .ref (q 1)), (2, .ref (q 0)), (1, .ref (u 30)), (0, .ref b9)]) hx hb dL_law_950 hl (k := 0) rfl (show nI t + Int32.ofInt 8 = _ from nI_add t 8) (by decide) rfl (fun ls hl => ?_)
                      refine lv_goto (tgt := 883) hx hb dL_law_953 (by decide) ?_
                      exact ihu_5  z (t + 8) (j + 1) d2 L2 G2 _ _ ls (by omega) (by first | omega | assumption) (by first | omega | assumption) (hd2) (hz2) (by subst ht; exact li_same hLi (Or.inl ((pl_v8 R9 hL hf (by omega)).mpr c_8))) (hJ2) hA hC hS (lv_sub hl [0, 1, 2, 3, 4, 5, 6, 7, 8, 9, 10, 11, 12, 13, 14, 15, 16, 17, 18, 19, 20, 21] rfl)
                    · skip
                      refine lv_aload_n hx hb dL_law_903 rfl (lv_at hl 19 rfl) ?_
                      refine lv_aload hx hb dL_law_904 (lv_at hl 15 rfl) ?_
                      refine lv_aload hx hb dL_law_906 (lv_at hl 12 rfl) ?_
                      refine lv_aload hx hb dL_law_908 (lv_at hl 11 rfl) ?_
                      refine lv_aload hx hb dL_law_910 (lv_at hl 10 rfl) ?_
                      refine lv_aload hx hb dL_law_912 (lv_at hl 9 rfl) ?_
                      refine lv_iload hx hb dL_law_914 (lv_at hl 0 rfl) ?_
                      refine ro_callS F hK [.ref (q 0), .ref (q 4), .ref (q 7), .ref (q 8), .ref (q 9), .ref (q 10), .int (nI t)] (lc_kept hA (cm := cm) t hJ2.1.f01 hcm10 (go_cg hJ2.2.2 hgo) (by omega)) (va_cwS 7 F.2.2.2.2 gL_law_L_kept rfl rfl rfl (by decide +kernel) ⟨Nat.le_of_ble_eq_true rfl, Nat.le_of_ble_eq_true rfl⟩) rfl hl.1 rfl (lv_room (Nat.le_of_ble_eq_true rfl)) ⟨by show _ ≤ 600086; omega, by show _ ≤ 7301442; omega⟩ dL_law_916 ?_
                      refine lw_E (oI (lKp F9 cm t)) (congrArg oI (kp_cg hJ2.2.2 hn64 hgi t)) ?_
                      refine lw_oge (tgt := 950) hx hb (fun x9 hx9 => by have := kp_lt F9 cm t x9 hx9; omega) dL_law_919 (by decide) (fun xc_9 c_9 => ?_) (fun c_9 => ?_)
                      · skip
                        refine lv_iinc (v := nI (t + 8)) (lv' := [(25, .int (nI (t + 8))), (24, .int (nI z)), (22, .int (nI d2)), (23, .int (nI fo)), (18, .int (nI f)), (19, .int (nI th)), (20, .int (nI ck)), (17, .int (nI y)), (14, .int (nI tn)), (12, .ref (q 10)), (11, .ref (q 9)), (10, .ref (q 8)), (9, .ref (q 7)), (8, .ref (q 6)), (7, .ref (q 5)), (6, .ref (q 4)), (5, .ref (q 3)), (4, .ref (q 2)), (3, .ref (q 1)), (2, .ref (q 0)), (1, .ref (u 30)), (0, .ref b9)]) hx hb dL_law_950 hl (k := 0) rfl (show nI t + Int32.ofInt 8 = _ from nI_add t 8) (by decide) rfl (fun ls hl => ?_)
                        refine lv_goto (tgt := 883) hx hb dL_law_953 (by decide) ?_
                        exact ihu_5  z (t + 8) (j + 1) d2 L2 G2 _ _ ls (by omega) (by first | omega | assumption) (by first | omega | assumption) (hd2) (hz2) (by subst ht; exact li_same hLi (Or.inr (fun z => by have e := (ke_n R9 hL hf (by omega)).mp z; rw [c_9] at e; cases e))) (hJ2) hA hC hS (lv_sub hl [0, 1, 2, 3, 4, 5, 6, 7, 8, 9, 10, 11, 12, 13, 14, 15, 16, 17, 18, 19, 20, 21] rfl)
                      · skip
                        refine lv_aload_n hx hb dL_law_922 rfl (lv_at hl 19 rfl) ?_
                        refine lv_aload_n hx hb dL_law_923 rfl (lv_at hl 18 rfl) ?_
                        refine lv_aload hx hb dL_law_924 (lv_at hl 17 rfl) ?_
                        refine lv_aload hx hb dL_law_926 (lv_at hl 16 rfl) ?_
                        refine lv_aload hx hb dL_law_928 (lv_at hl 15 rfl) ?_
                        refine lv_aload hx hb dL_law_930 (lv_at hl 14 rfl) ?_
                        refine lv_iload hx hb dL_law_932 (lv_at hl 4 rfl) ?_
                        refine lv_iconst (v := 4) hx hb dL_law_934 (by decide) ?_
                        refine lv_iload hx hb dL_law_935 (lv_at hl 0 rfl) ?_
                        refine lv_iload hx hb dL_law_937 (lv_at hl 6 rfl) ?_
                        refine lv_iconst (v := 1) hx hb dL_law_939 (by decide) ?_
                        refine lw_add hx hb (i := ck) (j := 1) dL_law_940 ?_
                        refine ix_la F hK hA hC hS [.ref (q 0), .ref (q 1), .ref (q 2), .ref (q 3), .ref (q 4), .ref (q 5), .int (nI f), .int 4, .int (nI t), .int (nI (ck + 1))] (la_writes (n := n + L2.length) hN f 4 t (nI (ck + 1)) (lJ_n hJ2) (by omega) hf) hf6 (va_cwS 10 F.2.2.2.2 gL_law_L_writes rfl rfl rfl (by decide +kernel) ⟨Nat.le_of_ble_eq_true rfl, Nat.le_of_ble_eq_true rfl⟩) rfl hl.1 rfl (lv_room (Nat.le_of_ble_eq_true rfl)) ⟨by show _ ≤ 600086; omega, by show _ ≤ 7301442; omega⟩ dL_law_941 (fun H locs hA hC hS => ?_)
                        refine lv_iinc (v := nI (z - 1)) (lv' := [(24, .int (nI (z - 1))), (25, .int (nI t)), (22, .int (nI d2)), (23, .int (nI fo)), (18, .int (nI f)), (19, .int (nI th)), (20, .int (nI ck)), (17, .int (nI y)), (14, .int (nI tn)), (12, .ref (q 10)), (11, .ref (q 9)), (10, .ref (q 8)), (9, .ref (q 7)), (8, .ref (q 6)), (7, .ref (q 5)), (6, .ref (q 4)), (5, .ref (q 3)), (4, .ref (q 2)), (3, .ref (q 1)), (2, .ref (q 0)), (1, .ref (u 30)), (0, .ref b9)]) hx hb dL_law_944 hl (k := 1) rfl (show nI z + Int32.ofInt (-1) = _ from sb_m1 (by omega)) (by decide) rfl (fun ls hl => ?_)
                        refine lv_iinc (v := nI (d2 + 1)) (lv' := [(22, .int (nI (d2 + 1))), (24, .int (nI (z - 1))), (25, .int (nI t)), (23, .int (nI fo)), (18, .int (nI f)), (19, .int (nI th)), (20, .int (nI ck)), (17, .int (nI y)), (14, .int (nI tn)), (12, .ref (q 10)), (11, .ref (q 9)), (10, .ref (q 8)), (9, .ref (q 7)), (8, .ref (q 6)), (7, .ref (q 5)), (6, .ref (q 4)), (5, .ref (q 3)), (4, .ref (q 2)), (3, .ref (q 1)), (2, .ref (q 0)), (1, .ref (u 30)), (0, .ref b9)]) hx hb dL_law_947 hl (k := 2) rfl (show nI d2 + Int32.ofInt 1 = _ from nI_add d2 1) (by decide) rfl (fun ls hl => ?_)
                        refine lv_iinc (v := nI (t + 8)) (lv' := [(25, .int (nI (t + 8))), (22, .int (nI (d2 + 1))), (24, .int (nI (z - 1))), (23, .int (nI fo)), (18, .int (nI f)), (19, .int (nI th)), (20, .int (nI ck)), (17, .int (nI y)), (14, .int (nI tn)), (12, .ref (q 10)), (11, .ref (q 9)), (10, .ref (q 8)), (9, .ref (q 7)), (8, .ref (q 6)), (7, .ref (q 5)), (6, .ref (q 4)), (5, .ref (q 3)), (4, .ref (q 2)), (3, .ref (q 1)), (2, .ref (q 0)), (1, .ref (u 30)), (0, .ref b9)]) hx hb dL_law_950 hl (k := 2) rfl (show nI t + Int32.ofInt 8 = _ from nI_add t 8) (by decide) rfl (fun ls hl => ?_)
                        refine lv_goto (tgt := 883) hx hb dL_law_953 (by decide) ?_
                        exact ihu_5  (z - 1) (t + 8) (j + 1) (d2 + 1) (L2 ++ [t]) (lWr G2 (n + L2.length) f 4 t (nI (ck + 1))) _ _ ls (by omega) (by first | omega | assumption) (by first | omega | assumption) (by rw [List.length_append, hd2]; rfl) (by rw [List.length_append, List.length_singleton]; omega) (by subst ht; exact li_more hLi (by omega) (by omega) (fun z => c_8 ((pl_v8 R9 hL hf (by omega)).mp z)) ((ke_n R9 hL hf (by omega)).mpr c_9)) (lJ_s hJ2 (by omega) hf (by omega) (by omega) (by omega)) hA hC hS (lv_sub hl [0, 2, 1, 3, 4, 5, 6, 7, 8, 9, 10, 11, 12, 13, 14, 15, 16, 17, 18, 19, 20, 21] rfl)
            exact L883_u_5 _ z9 fo 0 d L G1 _ _ ls (Nat.lt_succ_self _) (by first | omega | assumption) (by first | omega | assumption) (hd) (by omega) (by show (lackB a kn n f ck fo, L) = _; rw [← el9, ez9]) (hJ) hA hC hS (lv_sub hl [0, 1, 3, 2, 4, 5, 6, 7, 8, 9, 10, 11, 12, 13, 14, 15, 16, 17, 18, 19, 20, 21] rfl)
      exact L845_u_3 _ 0 0 ([]) F9 _ _ ls (Nat.lt_succ_self _) (by first | omega | assumption) (rfl) (by decide) (rfl) (lJ_0 hL.lt (lK_of R9.inv) 4 ck) hA hC hS (lv_sub hl [0, 1, 2, 3, 4, 5, 6, 7, 8, 9, 10, 11, 12, 13, 14, 15, 16, 17, 18, 19] rfl)
  · skip
    refine lv_bipush (v := (-11)) hx hb dL_law_819 (by decide) ?_
    refine lv_goto (tgt := 840) hx hb dL_law_821 (by decide) ?_
    refine lv_istore (lv' := [(22, .int (-11)), (18, .int (nI f)), (19, .int (nI th)), (20, .int (nI ck)), (17, .int (nI y)), (14, .int (nI tn)), (12, .ref (q 10)), (11, .ref (q 9)), (10, .ref (q 8)), (9, .ref (q 7)), (8, .ref (q 6)), (7, .ref (q 5)), (6, .ref (q 4)), (5, .ref (q 3)), (4, .ref (q 2)), (3, .ref (q 1)), (2, .ref (q 0)), (1, .ref (u 30)), (0, .ref b9)]) hx hb dL_law_840 hl (by decide) rfl (fun ls hl => ?_)
    refine lv_iconst (v := 0) hx hb dL_law_842 (by decide) ?_
    refine lv_istore (lv' := [(23, .int 0), (22, .int (-11)), (18, .int (nI f)), (19, .int (nI th)), (20, .int (nI ck)), (17, .int (nI y)), (14, .int (nI tn)), (12, .ref (q 10)), (11, .ref (q 9)), (10, .ref (q 8)), (9, .ref (q 7)), (8, .ref (q 6)), (7, .ref (q 5)), (6, .ref (q 4)), (5, .ref (q 3)), (4, .ref (q 2)), (3, .ref (q 1)), (2, .ref (q 0)), (1, .ref (u 30)), (0, .ref b9)]) hx hb dL_law_843 hl (by decide) rfl (fun ls hl => ?_)
    refine lv_iload hx hb dL_law_845 (lv_at hl 0 rfl) ?_
    refine lv_bipush (v := 8) hx hb dL_law_847 (by decide) ?_
    refine lv_icmp_ge (tgt := 962) hx hb dL_law_849 (by decide) (fun z9 => absurd z9 (by decide)) (fun _ => ?_)
    refine lv_iload hx hb dL_law_852 (lv_at hl 1 rfl) ?_
    refine lv_if_lt (tgt := 962) hx hb dL_law_854 (by decide) (fun _ => ?_) (fun z9 => absurd (by decide) z9)
    refine lv_aload_n hx hb dL_law_962 rfl (lv_at hl 18 rfl) ?_
    refine lv_iconst (v := 4) hx hb dL_law_963 (by decide) ?_
    refine lv_iload hx hb dL_law_964 (lv_at hl 2 rfl) ?_
    refine lv_iload hx hb dL_law_966 (lv_at hl 4 rfl) ?_
    refine lv_iconst (v := 0) hx hb dL_law_968 (by decide) ?_
    refine ix_does (val := (-11)) (cs' := cs) (op := cKeep cs (nI f) (nI ck)) F hK hX hNz (fun x h => h) hA hC R9 hS [.ref (u 30), .int 4, .int (nI f), .int (nI ck), .int 0] (fun V pq sp cn e sz b L w nx z0 h1 h2 h3 h4 h5 h6 h7 h8 => by subst h1; exact ld_keep hfl h2 (nI f) (nI ck) 0 h3 h4 h5 h6 h7 h8) (by have h0 : cm = 0 := c_1; have k0 := hck.1 h0; subst k0; have R0 := R9; rw [h0] at R0; exact (dk_none R0 hf).1) (vx_cwSW 5 F.2.2.2.2 gL_law_L_does rfl rfl rfl (by decide +kernel) ⟨Nat.le_of_ble_eq_true rfl, Nat.le_of_ble_eq_true rfl⟩) rfl hl.1 rfl (lv_room (Nat.le_of_ble_eq_true rfl)) ⟨by show _ ≤ 600086; omega, by show _ ≤ 7301442; omega⟩ dL_law_969 (fun H locs hA hC hS => ?_)
    refine lv_iload hx hb dL_law_972 (lv_at hl 1 rfl) ?_
    refine lv_icmp_ne (tgt := 981) hx hb dL_law_974 (by decide) (fun z9 => absurd z9 (by decide)) (fun _ => ?_)
    refine lv_iconst (v := 1) hx hb dL_law_977 (by decide) ?_
    refine lv_goto (tgt := 982) hx hb dL_law_978 (by decide) ?_
    refine lv_istore (lv' := [(13, .int 1), (23, .int 0), (22, .int (-11)), (18, .int (nI f)), (19, .int (nI th)), (20, .int (nI ck)), (17, .int (nI y)), (14, .int (nI tn)), (12, .ref (q 10)), (11, .ref (q 9)), (10, .ref (q 8)), (9, .ref (q 7)), (8, .ref (q 6)), (7, .ref (q 5)), (6, .ref (q 4)), (5, .ref (q 3)), (4, .ref (q 2)), (3, .ref (q 1)), (2, .ref (q 0)), (1, .ref (u 30)), (0, .ref b9)]) hx hb dL_law_982 hl (by decide) rfl (fun ls hl => ?_)
    refine lv_goto (tgt := 1430) hx hb dL_law_984 (by decide) ?_
    exact kk _ _ _ _ _ _ H locs _ _ ls (R9) (hL.lt) hA hC hS (by omega) (by omega) (lv_sub hl [0, 6, 7, 8, 9, 10, 11, 12, 13, 14, 15, 16, 17, 18, 19, 20] rfl)
