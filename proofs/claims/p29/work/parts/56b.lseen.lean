/-! isSeen: what a fridge sees is as the law has it -/
abbrev isW (p : Program) (l : Launch) (e : Env) (lo : Nat) (s : State) (m : MethodId) (args : Array Value) (below : List Frame) (meth : Method) (c : Code) (H : Heap) (locs : List Loc) (cells slots : Nat) (D : va_G) (u : Nat → Nat) (cI cII : ClassId) (z0 : Nat) (L0 : List Nat) (cs : CS) (g : JFrame) : Prop :=
  W p l e { frames := 8, cells := 400, slots := 2600, locals := lo } s m args below meth c H locs cells slots (vx_MQ below (cw_Q D u cI cII z0 L0 kI (pPost u L0 z0 (0, 1, cs))) (xc_X D u cI cII z0 L0 (pPX u L0 z0 (0, 1, cs))) args s 400 2600 (cG u L0 z0)) g
set_option maxHeartbeats 8000000 in
set_option maxRecDepth 100000 in
theorem is_body {p : Program} {l : Launch} {e9 : Env} {s : State} {m : MethodId} {args : Array Value} {below : List Frame} {meth : Method} {c : Code} {H : Heap} {locs : List Loc} {D : va_G} {u q : Nat → Nat} {cI cII : ClassId} {sa : Nat → Nat} {z0 : Nat} {L0 : List Nat} {cs : CS} {n cm : Nat} {a : Nat → Nat → Int32} {kn : Nat → Bool} {F9 : FF} {ls : Array Slot} (hfl : l.stackTraces = false) (F : CallFix p m c cL_isSeen 21 s args wvL_isSeen RL) (hr : meth.sig.returnType = some .boolean) (hlocks : meth.locks = false) (hK : va_K D vwCl (cT cI cII) s) (hX : xF (cG u L0 z0) sa s) (hfr : ∀ x, s.heap.size ≤ x → cG u L0 z0 x) (hN : (lA q).Nodup) (hf8 : ∀ x, x ∈ [q 8, q 9, q 10] → x ∈ lA q ∧ cG u L0 z0 x) (R9 : tRel n cm a kn cs) (E : lT n cm a kn F9) (x : Nat) (hx9 : x < 134217728) (hA : va_P D vwCl (lX q cI F9) H) (hC : sW D u cI cII (cG u L0 z0) (fun y => y ∈ lA q) cs H) (hS : va_S (cG u L0 z0) s.heap H locs) (hl : lv_has ls 21 [(12, .ref (q 10)), (11, .ref (q 9)), (10, .ref (q 8)), (0, .ref (u 30)), (1, .ref (q 0)), (2, .ref (q 1)), (3, .ref (q 2)), (4, .ref (q 3)), (5, .ref (q 4)), (6, .ref (q 5)), (7, .ref (q 6)), (8, .ref (q 7)), (9, .int (nI x))]) : isW p l e9 164 s m args below meth c H locs 3 120 D u cI cII z0 L0 cs (F0 m 18 ls []) := by
  have hx := F.1
  have hb := F.2.1
  refine lv_iload hx hb dL_isSeen_18 (lv_at hl 12 rfl) ?_
  refine lv_iconst (v := 5) hx hb dL_isSeen_20 (by decide) ?_
  refine lw_remN hx hb (i := x) (j := 5) (by omega) (by omega) (by omega) dL_isSeen_21 ?_
  refine lv_istore (lv' := [(13, .int (nI (x % 5))), (12, .ref (q 10)), (11, .ref (q 9)), (10, .ref (q 8)), (0, .ref (u 30)), (1, .ref (q 0)), (2, .ref (q 1)), (3, .ref (q 2)), (4, .ref (q 3)), (5, .ref (q 4)), (6, .ref (q 5)), (7, .ref (q 6)), (8, .ref (q 7)), (9, .int (nI x))]) hx hb dL_isSeen_22 hl (by decide) rfl (fun ls hl => ?_)
  refine lv_aload_n hx hb dL_isSeen_24 rfl (lv_at hl 5 rfl) ?_
  refine lv_aload_n hx hb dL_isSeen_25 rfl (lv_at hl 6 rfl) ?_
  refine lv_aload_n hx hb dL_isSeen_26 rfl (lv_at hl 7 rfl) ?_
  refine lv_aload hx hb dL_isSeen_27 (lv_at hl 8 rfl) ?_
  refine lv_aload hx hb dL_isSeen_29 (lv_at hl 9 rfl) ?_
  refine lv_iload hx hb dL_isSeen_31 (lv_at hl 0 rfl) ?_
  refine lv_aload hx hb dL_isSeen_33 (lv_at hl 3 rfl) ?_
  refine lv_aload hx hb dL_isSeen_35 (lv_at hl 2 rfl) ?_
  refine lv_aload hx hb dL_isSeen_37 (lv_at hl 1 rfl) ?_
  obtain ⟨l1, ⟨hl1a, hl1b, hl1c⟩, hL1⟩ := lays_V R9 E (v := (x % 5)) (by omega)
  refine ix_la F hK hA hC hS [.ref (q 0), .ref (q 1), .ref (q 2), .ref (q 3), .ref (q 4), .int (nI (x % 5)), .ref (q 8), .ref (q 9), .ref (q 10)] (la_lays (l9 := l1) hN (x % 5) E.f00 E.n64 (by omega) (lw_ok R9.inv E) hl1a hl1b hl1c) hf8 (va_cwS 9 F.2.2.2.2 gvL_isSeen_L_lays rfl rfl rfl (by decide +kernel) ⟨Nat.le_of_ble_eq_true rfl, Nat.le_of_ble_eq_true rfl⟩) rfl hl.1 rfl (lv_room (Nat.le_of_ble_eq_true rfl)) ⟨by show _ ≤ 400; omega, by show _ ≤ 2600; omega⟩ dL_isSeen_39 (fun H locs hA hC hS => ?_)
  generalize lLy F9 l1 = G1 at hA hL1
  have hf0 : G1 0 0 = nI n := hL1.lt.f00
  have hf1 : G1 0 1 = nI cm := hL1.lt.f01
  have hgo : gOk G1 := hL1.gok
  have hlt := hL1.lt
  have hcm := hL1.lt.cm10
  have hn64 := hL1.lt.n64
  refine lv_iconst (v := 0) hx hb dL_isSeen_42 (by decide) ?_
  refine lv_istore (lv' := [(14, .int 0), (13, .int (nI (x % 5))), (12, .ref (q 10)), (11, .ref (q 9)), (10, .ref (q 8)), (0, .ref (u 30)), (1, .ref (q 0)), (2, .ref (q 1)), (3, .ref (q 2)), (4, .ref (q 3)), (5, .ref (q 4)), (6, .ref (q 5)), (7, .ref (q 6)), (8, .ref (q 7)), (9, .int (nI x))]) hx hb dL_isSeen_43 hl (by decide) rfl (fun ls hl => ?_)
  refine lv_iconst (v := 0) hx hb dL_isSeen_45 (by decide) ?_
  refine lv_istore (lv' := [(15, .int 0), (14, .int 0), (13, .int (nI (x % 5))), (12, .ref (q 10)), (11, .ref (q 9)), (10, .ref (q 8)), (0, .ref (u 30)), (1, .ref (q 0)), (2, .ref (q 1)), (3, .ref (q 2)), (4, .ref (q 3)), (5, .ref (q 4)), (6, .ref (q 5)), (7, .ref (q 6)), (8, .ref (q 7)), (9, .int (nI x))]) hx hb dL_isSeen_46 hl (by decide) rfl (fun ls hl => ?_)
  have L48_u_1 : ∀ (k9u_1 : Nat) (y : Int32) (j : Nat) (H : Heap) (locs : List Loc) (cel slo : Nat) (ls : Array Slot), n - j < k9u_1 → (j ≤ n) → (y = lKw G1 (x % 5) j) → va_P D vwCl (lX q cI G1) H → sW D u cI cII (cG u L0 z0) (fun y => y ∈ lA q) cs H → va_S (cG u L0 z0) s.heap H locs → cel ≤ 3 → slo ≤ 120 → lv_has ls 21 [(15, .int (nI j)), (14, .int y), (13, .int (nI (x % 5))), (12, .ref (q 10)), (11, .ref (q 9)), (10, .ref (q 8)), (0, .ref (u 30)), (1, .ref (q 0)), (2, .ref (q 1)), (3, .ref (q 2)), (4, .ref (q 3)), (5, .ref (q 4)), (6, .ref (q 5)), (7, .ref (q 6)), (8, .ref (q 7)), (9, .int (nI x))] → isW p l e9 164 s m args below meth c H locs cel slo D u cI cII z0 L0 cs (F0 m 48 ls []) := by
    intro k9u_1
    induction k9u_1 with
    | zero => intro y j H locs cel slo ls hk; exact absurd hk (Nat.not_lt_zero _)
    | succ k9u_1 ihu_1 =>
      intro y j H locs cel slo ls hk hj hf hA hC hS hcel hslo hl
      refine lv_iload hx hb dL_isSeen_48 (lv_at hl 0 rfl) ?_
      refine lv_aload_n hx hb dL_isSeen_50 rfl (lv_at hl 7 rfl) ?_
      refine lv_iconst (v := 0) hx hb dL_isSeen_51 (by decide) ?_
      refine cg_ald F hK hA 0 2 rfl 0 rfl (by omega) (by decide) dL_isSeen_52 ?_
      refine lw_N n hf0 ?_
      refine lw_ge (tgt := 77) hx hb j n (by omega) (by omega) dL_isSeen_53 (by decide) (fun c_2 => ?_) (fun c_2 => ?_)
      · skip
        have mc_2 : ¬ j < n := by omega
        have hy77 : lKw G1 (x % 5) n = y := by rw [hf, show j = n by omega]
        refine lv_iload hx hb dL_isSeen_77 (lv_at hl 15 rfl) ?_
        refine lv_iconst (v := 5) hx hb dL_isSeen_79 (by decide) ?_
        refine lw_divN hx hb (i := x) (j := 5) (by omega) (by omega) (by omega) dL_isSeen_80 ?_
        refine lv_bipush (v := 12) hx hb dL_isSeen_81 (by decide) ?_
        refine lw_remN hx hb (i := (x / 5)) (j := 12) (by omega) (by omega) (by omega) dL_isSeen_83 ?_
        refine lv_istore (lv' := [(15, .int (nI ((x / 5) % 12))), (14, .int y), (13, .int (nI (x % 5))), (12, .ref (q 10)), (11, .ref (q 9)), (10, .ref (q 8)), (0, .ref (u 30)), (1, .ref (q 0)), (2, .ref (q 1)), (3, .ref (q 2)), (4, .ref (q 3)), (5, .ref (q 4)), (6, .ref (q 5)), (7, .ref (q 6)), (8, .ref (q 7)), (9, .int (nI x))]) hx hb dL_isSeen_84 hl (by decide) rfl (fun ls hl => ?_)
        refine lv_aload_n hx hb dL_isSeen_86 rfl (lv_at hl 6 rfl) ?_
        refine ix_ask (val := nI n) F hK hX hfr hA hC R9 hS [] (sm_eq (os_words R9) (sm_words hfl )) (cwV 0 F.2.2.2.2 gvL_isSeen_X3_words rfl rfl rfl (by decide +kernel) ⟨Nat.le_of_ble_eq_true rfl, Nat.le_of_ble_eq_true rfl⟩) rfl hl.1 rfl (lv_room (Nat.le_of_ble_eq_true rfl)) ⟨by show _ ≤ 400; omega, by show _ ≤ 2600; omega⟩ dL_isSeen_87 (fun H locs hA hC hS => ?_)
        refine lv_aload_n hx hb dL_isSeen_90 rfl (lv_at hl 7 rfl) ?_
        refine lv_iconst (v := 0) hx hb dL_isSeen_91 (by decide) ?_
        refine cg_ald F hK hA 0 2 rfl 0 rfl (by omega) (by decide) dL_isSeen_92 ?_
        refine lw_N n hf0 ?_
        refine lv_icmp_ne (tgt := 155) hx hb dL_isSeen_93 (by decide) (fun z9 => absurd (rfl) z9) (fun _ => ?_)
        refine lv_aload_n hx hb dL_isSeen_96 rfl (lv_at hl 6 rfl) ?_
        refine ix_ask (val := nI cm) F hK hX hfr hA hC R9 hS [] (sm_eq (os_cakes R9) (sm_cakes hfl )) (cwV 0 F.2.2.2.2 gvL_isSeen_X3_cakes rfl rfl rfl (by decide +kernel) ⟨Nat.le_of_ble_eq_true rfl, Nat.le_of_ble_eq_true rfl⟩) rfl hl.1 rfl (lv_room (Nat.le_of_ble_eq_true rfl)) ⟨by show _ ≤ 400; omega, by show _ ≤ 2600; omega⟩ dL_isSeen_97 (fun H locs hA hC hS => ?_)
        refine lv_aload_n hx hb dL_isSeen_100 rfl (lv_at hl 7 rfl) ?_
        refine lv_iconst (v := 1) hx hb dL_isSeen_101 (by decide) ?_
        refine cg_ald F hK hA 0 2 rfl 1 rfl (by omega) (by decide) dL_isSeen_102 ?_
        refine lw_N cm hf1 ?_
        refine lv_icmp_ne (tgt := 155) hx hb dL_isSeen_103 (by decide) (fun z9 => absurd (rfl) z9) (fun _ => ?_)
        refine lv_aload_n hx hb dL_isSeen_106 rfl (lv_at hl 6 rfl) ?_
        refine lv_iload hx hb dL_isSeen_107 (lv_at hl 2 rfl) ?_
        refine ix_ask (val := lKw G1 (x % 5) n) F hK hX hfr hA hC R9 hS [.int (nI (x % 5))] (sm_eq (os_known R9 hL1.lt (by omega)) (sm_known hfl (nI (x % 5)))) (cwV 1 F.2.2.2.2 gvL_isSeen_X3_known rfl rfl rfl (by decide +kernel) ⟨Nat.le_of_ble_eq_true rfl, Nat.le_of_ble_eq_true rfl⟩) rfl hl.1 rfl (lv_room (Nat.le_of_ble_eq_true rfl)) ⟨by show _ ≤ 400; omega, by show _ ≤ 2600; omega⟩ dL_isSeen_109 (fun H locs hA hC hS => ?_)
        refine lv_iload hx hb dL_isSeen_112 (lv_at hl 1 rfl) ?_
        refine lv_icmp_ne (tgt := 155) hx hb dL_isSeen_114 (by decide) (fun z9 => absurd (hy77) z9) (fun _ => ?_)
        refine lv_aload_n hx hb dL_isSeen_117 rfl (lv_at hl 6 rfl) ?_
        refine lv_iload hx hb dL_isSeen_118 (lv_at hl 2 rfl) ?_
        refine ix_ask (val := G1 5 (x % 5)) F hK hX hfr hA hC R9 hS [.int (nI (x % 5))] (sm_eq (os_clock R9 hL1.lt (by omega)) (sm_clock hfl (nI (x % 5)))) (cwV 1 F.2.2.2.2 gvL_isSeen_X3_clock rfl rfl rfl (by decide +kernel) ⟨Nat.le_of_ble_eq_true rfl, Nat.le_of_ble_eq_true rfl⟩) rfl hl.1 rfl (lv_room (Nat.le_of_ble_eq_true rfl)) ⟨by show _ ≤ 400; omega, by show _ ≤ 2600; omega⟩ dL_isSeen_120 (fun H locs hA hC hS => ?_)
        refine lv_aload hx hb dL_isSeen_123 (lv_at hl 12 rfl) ?_
        refine lv_iload hx hb dL_isSeen_125 (lv_at hl 2 rfl) ?_
        refine cg_ald F hK hA 5 5 rfl (x % 5) rfl (by omega) (by decide) dL_isSeen_127 ?_
        refine lv_icmp_ne (tgt := 155) hx hb dL_isSeen_128 (by decide) (fun z9 => absurd (rfl) z9) (fun _ => ?_)
        refine lv_aload_n hx hb dL_isSeen_131 rfl (lv_at hl 6 rfl) ?_
        refine lv_iload hx hb dL_isSeen_132 (lv_at hl 2 rfl) ?_
        refine lv_iload hx hb dL_isSeen_134 (lv_at hl 0 rfl) ?_
        refine ix_ask (val := lGs G1 (nI ((x / 5) % 12))) F hK hX hfr hA hC R9 hS [.int (nI (x % 5)), .int (nI ((x / 5) % 12))] (sm_eq (os_guests hL1 (by omega) (d := ((x / 5) % 12)) (by omega)) (sm_guests hfl (nI (x % 5)) (nI ((x / 5) % 12)))) (cwV 2 F.2.2.2.2 gvL_isSeen_X3_guests rfl rfl rfl (by decide +kernel) ⟨Nat.le_of_ble_eq_true rfl, Nat.le_of_ble_eq_true rfl⟩) rfl hl.1 rfl (lv_room (Nat.le_of_ble_eq_true rfl)) ⟨by show _ ≤ 400; omega, by show _ ≤ 2600; omega⟩ dL_isSeen_136 (fun H locs hA hC hS => ?_)
        refine lv_aload hx hb dL_isSeen_139 (lv_at hl 11 rfl) ?_
        refine lv_aload hx hb dL_isSeen_141 (lv_at hl 3 rfl) ?_
        refine lv_iload hx hb dL_isSeen_143 (lv_at hl 0 rfl) ?_
        refine ro_callS F hK [.ref (q 4), .ref (q 10), .int (nI ((x / 5) % 12))] (lc_guests hA (nI ((x / 5) % 12)) hgo) (va_cwS 3 F.2.2.2.2 gvL_isSeen_L_guests rfl rfl rfl (by decide +kernel) ⟨Nat.le_of_ble_eq_true rfl, Nat.le_of_ble_eq_true rfl⟩) rfl hl.1 rfl (lv_room (Nat.le_of_ble_eq_true rfl)) ⟨by show _ ≤ 400; omega, by show _ ≤ 2600; omega⟩ dL_isSeen_145 ?_
        refine lv_icmp_ne (tgt := 155) hx hb dL_isSeen_148 (by decide) (fun z9 => absurd (rfl) z9) (fun _ => ?_)
        refine lv_iconst (v := 1) hx hb dL_isSeen_151 (by decide) ?_
        refine lv_goto (tgt := 156) hx hb dL_isSeen_152 (by decide) ?_
        refine lv_istore (lv' := [(16, .int 1), (15, .int (nI ((x / 5) % 12))), (14, .int y), (13, .int (nI (x % 5))), (12, .ref (q 10)), (11, .ref (q 9)), (10, .ref (q 8)), (0, .ref (u 30)), (1, .ref (q 0)), (2, .ref (q 1)), (3, .ref (q 2)), (4, .ref (q 3)), (5, .ref (q 4)), (6, .ref (q 5)), (7, .ref (q 6)), (8, .ref (q 7)), (9, .int (nI x))]) hx hb dL_isSeen_156 hl (by decide) rfl (fun ls hl => ?_)
        refine lv_iconst (v := 0) hx hb dL_isSeen_158 (by decide) ?_
        refine lv_istore (lv' := [(17, .int 0), (16, .int 1), (15, .int (nI ((x / 5) % 12))), (14, .int y), (13, .int (nI (x % 5))), (12, .ref (q 10)), (11, .ref (q 9)), (10, .ref (q 8)), (0, .ref (u 30)), (1, .ref (q 0)), (2, .ref (q 1)), (3, .ref (q 2)), (4, .ref (q 3)), (5, .ref (q 4)), (6, .ref (q 5)), (7, .ref (q 6)), (8, .ref (q 7)), (9, .int (nI x))]) hx hb dL_isSeen_159 hl (by decide) rfl (fun ls hl => ?_)
        have L161_u_3 : ∀ (k9u_3 : Nat) (t : Nat) (H : Heap) (locs : List Loc) (cel slo : Nat) (ls : Array Slot), 40 - t < k9u_3 → (t ≤ 40) → va_P D vwCl (lX q cI G1) H → sW D u cI cII (cG u L0 z0) (fun y => y ∈ lA q) cs H → va_S (cG u L0 z0) s.heap H locs → cel ≤ 7 + 6 * t → slo ≤ 144 + 36 * t → lv_has ls 21 [(17, .int (nI t)), (16, .int 1), (15, .int (nI ((x / 5) % 12))), (14, .int y), (13, .int (nI (x % 5))), (12, .ref (q 10)), (11, .ref (q 9)), (10, .ref (q 8)), (0, .ref (u 30)), (1, .ref (q 0)), (2, .ref (q 1)), (3, .ref (q 2)), (4, .ref (q 3)), (5, .ref (q 4)), (6, .ref (q 5)), (7, .ref (q 6)), (8, .ref (q 7)), (9, .int (nI x))] → isW p l e9 164 s m args below meth c H locs cel slo D u cI cII z0 L0 cs (F0 m 161 ls []) := by
          intro k9u_3
          induction k9u_3 with
          | zero => intro t H locs cel slo ls hk; exact absurd hk (Nat.not_lt_zero _)
          | succ k9u_3 ihu_3 =>
            intro t H locs cel slo ls hk ht hA hC hS hcel hslo hl
            refine lv_iload hx hb dL_isSeen_161 (lv_at hl 0 rfl) ?_
            refine lv_bipush (v := 40) hx hb dL_isSeen_163 (by decide) ?_
            refine lw_ge (tgt := 267) hx hb t 40 (by omega) (by omega) dL_isSeen_165 (by decide) (fun c_4 => ?_) (fun c_4 => ?_)
            · skip
              have mc_4 : ¬ t < 40 := by omega
              refine lv_iconst (v := 0) hx hb dL_isSeen_267 (by decide) ?_
              refine lv_istore (lv' := [(17, .int 0), (16, .int 1), (15, .int (nI ((x / 5) % 12))), (14, .int y), (13, .int (nI (x % 5))), (12, .ref (q 10)), (11, .ref (q 9)), (10, .ref (q 8)), (0, .ref (u 30)), (1, .ref (q 0)), (2, .ref (q 1)), (3, .ref (q 2)), (4, .ref (q 3)), (5, .ref (q 4)), (6, .ref (q 5)), (7, .ref (q 6)), (8, .ref (q 7)), (9, .int (nI x))]) hx hb dL_isSeen_268 hl (by decide) rfl (fun ls hl => ?_)
              have L270_u_5 : ∀ (k9u_5 : Nat) (fo : Nat) (H : Heap) (locs : List Loc) (cel slo : Nat) (ls : Array Slot), 8 - fo < k9u_5 → (fo ≤ 8) → va_P D vwCl (lX q cI G1) H → sW D u cI cII (cG u L0 z0) (fun y => y ∈ lA q) cs H → va_S (cG u L0 z0) s.heap H locs → cel ≤ 247 + 4 * fo → slo ≤ 1584 + 24 * fo → lv_has ls 21 [(17, .int (nI fo)), (16, .int 1), (15, .int (nI ((x / 5) % 12))), (13, .int (nI (x % 5))), (12, .ref (q 10)), (11, .ref (q 9)), (10, .ref (q 8)), (0, .ref (u 30)), (1, .ref (q 0)), (2, .ref (q 1)), (3, .ref (q 2)), (4, .ref (q 3)), (5, .ref (q 4)), (6, .ref (q 5)), (7, .ref (q 6)), (8, .ref (q 7)), (9, .int (nI x))] → isW p l e9 164 s m args below meth c H locs cel slo D u cI cII z0 L0 cs (F0 m 270 ls []) := by
                intro k9u_5
                induction k9u_5 with
                | zero => intro fo H locs cel slo ls hk; exact absurd hk (Nat.not_lt_zero _)
                | succ k9u_5 ihu_5 =>
                  intro fo H locs cel slo ls hk hfo hA hC hS hcel hslo hl
                  refine lv_iload hx hb dL_isSeen_270 (lv_at hl 0 rfl) ?_
                  refine lv_bipush (v := 8) hx hb dL_isSeen_272 (by decide) ?_
                  refine lw_ge (tgt := 428) hx hb fo 8 (by omega) (by omega) dL_isSeen_274 (by decide) (fun c_6 => ?_) (fun c_6 => ?_)
                  · skip
                    have mc_6 : ¬ fo < 8 := by omega
                    refine lv_iconst (v := 0) hx hb dL_isSeen_428 (by decide) ?_
                    refine lv_istore (lv' := [(17, .int 0), (16, .int 1), (15, .int (nI ((x / 5) % 12))), (13, .int (nI (x % 5))), (12, .ref (q 10)), (11, .ref (q 9)), (10, .ref (q 8)), (0, .ref (u 30)), (1, .ref (q 0)), (2, .ref (q 1)), (3, .ref (q 2)), (4, .ref (q 3)), (5, .ref (q 4)), (6, .ref (q 5)), (7, .ref (q 6)), (8, .ref (q 7)), (9, .int (nI x))]) hx hb dL_isSeen_429 hl (by decide) rfl (fun ls hl => ?_)
                    have L431_u_7 : ∀ (k9u_7 : Nat) (k : Nat) (H : Heap) (locs : List Loc) (cel slo : Nat) (ls : Array Slot), cm - k < k9u_7 → (k ≤ cm) → va_P D vwCl (lX q cI G1) H → sW D u cI cII (cG u L0 z0) (fun y => y ∈ lA q) cs H → va_S (cG u L0 z0) s.heap H locs → cel ≤ 279 + 9 * k → slo ≤ 1776 + 54 * k → lv_has ls 21 [(17, .int (nI k)), (16, .int 1), (15, .int (nI ((x / 5) % 12))), (13, .int (nI (x % 5))), (12, .ref (q 10)), (11, .ref (q 9)), (10, .ref (q 8)), (0, .ref (u 30)), (1, .ref (q 0)), (2, .ref (q 1)), (3, .ref (q 2)), (4, .ref (q 3)), (5, .ref (q 4)), (6, .ref (q 5)), (7, .ref (q 6)), (8, .ref (q 7)), (9, .int (nI x))] → isW p l e9 164 s m args below meth c H locs cel slo D u cI cII z0 L0 cs (F0 m 431 ls []) := by
                      intro k9u_7
                      induction k9u_7 with
                      | zero => intro k H locs cel slo ls hk; exact absurd hk (Nat.not_lt_zero _)
                      | succ k9u_7 ihu_7 =>
                        intro k H locs cel slo ls hk hk9 hA hC hS hcel hslo hl
                        refine lv_iload hx hb dL_isSeen_431 (lv_at hl 0 rfl) ?_
                        refine lv_aload_n hx hb dL_isSeen_433 rfl (lv_at hl 8 rfl) ?_
                        refine lv_iconst (v := 1) hx hb dL_isSeen_434 (by decide) ?_
                        refine cg_ald F hK hA 0 2 rfl 1 rfl (by omega) (by decide) dL_isSeen_435 ?_
                        refine lw_N cm hf1 ?_
                        refine lw_ge (tgt := 655) hx hb k cm (by omega) (by omega) dL_isSeen_436 (by decide) (fun c_8 => ?_) (fun c_8 => ?_)
                        · skip
                          have mc_8 : ¬ k < cm := by omega
                          refine lv_aload_n hx hb dL_isSeen_655 rfl (lv_at hl 8 rfl) ?_
                          refine lv_aload_n hx hb dL_isSeen_656 rfl (lv_at hl 9 rfl) ?_
                          refine lv_aload_n hx hb dL_isSeen_657 rfl (lv_at hl 10 rfl) ?_
                          refine lv_aload hx hb dL_isSeen_658 (lv_at hl 11 rfl) ?_
                          refine lv_aload hx hb dL_isSeen_660 (lv_at hl 12 rfl) ?_
                          refine lv_iconst (v := 5) hx hb dL_isSeen_662 (by decide) ?_
                          refine lv_aload hx hb dL_isSeen_663 (lv_at hl 6 rfl) ?_
                          refine lv_aload hx hb dL_isSeen_665 (lv_at hl 5 rfl) ?_
                          refine lv_aload hx hb dL_isSeen_667 (lv_at hl 4 rfl) ?_
                          obtain ⟨l2, ⟨hl2a, hl2b, hl2c⟩, hL2⟩ := lays_V R9 hL1.lt (v := 5) (by omega)
                          refine ix_la F hK hA hC hS [.ref (q 0), .ref (q 1), .ref (q 2), .ref (q 3), .ref (q 4), .int 5, .ref (q 8), .ref (q 9), .ref (q 10)] (la_lays (l9 := l2) hN 5 hL1.lt.f00 hL1.lt.n64 (by omega) (lw_ok R9.inv hL1.lt) hl2a hl2b hl2c) hf8 (va_cwS 9 F.2.2.2.2 gvL_isSeen_L_lays rfl rfl rfl (by decide +kernel) ⟨Nat.le_of_ble_eq_true rfl, Nat.le_of_ble_eq_true rfl⟩) rfl hl.1 rfl (lv_room (Nat.le_of_ble_eq_true rfl)) ⟨by show _ ≤ 400; omega, by show _ ≤ 2600; omega⟩ dL_isSeen_669 (fun H locs hA hC hS => ?_)
                          generalize lLy G1 l2 = G2 at hA hL2
                          have hf0 : G2 0 0 = nI n := hL2.lt.f00
                          have hf1 : G2 0 1 = nI cm := hL2.lt.f01
                          have hgo : gOk G2 := hL2.gok
                          have hlt := hL2.lt
                          have hcm := hL2.lt.cm10
                          have hn64 := hL2.lt.n64
                          refine lv_iload hx hb dL_isSeen_672 (lv_at hl 16 rfl) ?_
                          refine lv_iconst (v := 4) hx hb dL_isSeen_674 (by decide) ?_
                          refine lw_remN hx hb (i := x) (j := 4) (by omega) (by omega) (by omega) dL_isSeen_675 ?_
                          refine lv_istore (lv' := [(17, .int (nI (x % 4))), (16, .int 1), (15, .int (nI ((x / 5) % 12))), (13, .int (nI (x % 5))), (12, .ref (q 10)), (11, .ref (q 9)), (10, .ref (q 8)), (0, .ref (u 30)), (1, .ref (q 0)), (2, .ref (q 1)), (3, .ref (q 2)), (4, .ref (q 3)), (5, .ref (q 4)), (6, .ref (q 5)), (7, .ref (q 6)), (8, .ref (q 7)), (9, .int (nI x))]) hx hb dL_isSeen_676 hl (by decide) rfl (fun ls hl => ?_)
                          have L678_u_9 : ∀ (k9u_9 : Nat) (t : Nat) (i : Nat) (H : Heap) (locs : List Loc) (cel slo : Nat) (ls : Array Slot), 40 - t < k9u_9 → (t = x % 4 + 4 * i) → (i ≤ 10) → va_P D vwCl (lX q cI G2) H → sW D u cI cII (cG u L0 z0) (fun y => y ∈ lA q) cs H → va_S (cG u L0 z0) s.heap H locs → cel ≤ 369 + 2 * i → slo ≤ 2316 + 12 * i → lv_has ls 21 [(17, .int (nI t)), (16, .int 1), (15, .int (nI ((x / 5) % 12))), (13, .int (nI (x % 5))), (12, .ref (q 10)), (11, .ref (q 9)), (10, .ref (q 8)), (0, .ref (u 30)), (1, .ref (q 0)), (2, .ref (q 1)), (3, .ref (q 2)), (4, .ref (q 3)), (5, .ref (q 4)), (6, .ref (q 5)), (7, .ref (q 6)), (8, .ref (q 7)), (9, .int (nI x))] → isW p l e9 164 s m args below meth c H locs cel slo D u cI cII z0 L0 cs (F0 m 678 ls []) := by
                            intro k9u_9
                            induction k9u_9 with
                            | zero => intro t i H locs cel slo ls hk; exact absurd hk (Nat.not_lt_zero _)
                            | succ k9u_9 ihu_9 =>
                              intro t i H locs cel slo ls hk ht hi9 hA hC hS hcel hslo hl
                              refine lv_iload hx hb dL_isSeen_678 (lv_at hl 0 rfl) ?_
                              refine lv_bipush (v := 40) hx hb dL_isSeen_680 (by decide) ?_
                              refine lw_ge (tgt := 744) hx hb t 40 (by omega) (by omega) dL_isSeen_682 (by decide) (fun c_10 => ?_) (fun c_10 => ?_)
                              · skip
                                have mc_10 : ¬ t < 40 := by omega
                                refine lv_iconst (v := 0) hx hb dL_isSeen_744 (by decide) ?_
                                refine lv_istore (lv' := [(17, .int 0), (16, .int 1), (15, .int (nI ((x / 5) % 12))), (13, .int (nI (x % 5))), (12, .ref (q 10)), (11, .ref (q 9)), (10, .ref (q 8)), (0, .ref (u 30)), (1, .ref (q 0)), (2, .ref (q 1)), (3, .ref (q 2)), (4, .ref (q 3)), (5, .ref (q 4)), (6, .ref (q 5)), (7, .ref (q 6)), (8, .ref (q 7)), (9, .int (nI x))]) hx hb dL_isSeen_745 hl (by decide) rfl (fun ls hl => ?_)
                                refine lv_iload hx hb dL_isSeen_747 (lv_at hl 16 rfl) ?_
                                refine lv_bipush (v := 8) hx hb dL_isSeen_749 (by decide) ?_
                                refine lw_remN hx hb (i := x) (j := 8) (by omega) (by omega) (by omega) dL_isSeen_751 ?_
                                refine lv_istore (lv' := [(18, .int (nI (x % 8))), (17, .int 0), (16, .int 1), (15, .int (nI ((x / 5) % 12))), (13, .int (nI (x % 5))), (12, .ref (q 10)), (11, .ref (q 9)), (10, .ref (q 8)), (0, .ref (u 30)), (1, .ref (q 0)), (2, .ref (q 1)), (3, .ref (q 2)), (4, .ref (q 3)), (5, .ref (q 4)), (6, .ref (q 5)), (7, .ref (q 6)), (8, .ref (q 7)), (9, .int (nI x))]) hx hb dL_isSeen_752 hl (by decide) rfl (fun ls hl => ?_)
                                have L754_u_11 : ∀ (k9u_11 : Nat) (y : Nat) (t : Nat) (i : Nat) (H : Heap) (locs : List Loc) (cel slo : Nat) (ls : Array Slot), 5 - i < k9u_11 → (t = x % 8 + 8 * i) → (i ≤ 5) → (y = foldU (fun i y => if G2 8 ((x % 8) + 8 * i) ≤ 0 then y + 0 else y + 1) 0 i) → va_P D vwCl (lX q cI G2) H → sW D u cI cII (cG u L0 z0) (fun y => y ∈ lA q) cs H → va_S (cG u L0 z0) s.heap H locs → cel ≤ 389 → slo ≤ 2436 → lv_has ls 21 [(18, .int (nI t)), (17, .int (nI y)), (16, .int 1), (15, .int (nI ((x / 5) % 12))), (13, .int (nI (x % 5))), (12, .ref (q 10)), (11, .ref (q 9)), (10, .ref (q 8)), (0, .ref (u 30)), (1, .ref (q 0)), (2, .ref (q 1)), (3, .ref (q 2)), (4, .ref (q 3)), (5, .ref (q 4)), (6, .ref (q 5)), (7, .ref (q 6)), (8, .ref (q 7)), (9, .int (nI x))] → isW p l e9 164 s m args below meth c H locs cel slo D u cI cII z0 L0 cs (F0 m 754 ls []) := by
                                  intro k9u_11
                                  induction k9u_11 with
                                  | zero => intro y t i H locs cel slo ls hk; exact absurd hk (Nat.not_lt_zero _)
                                  | succ k9u_11 ihu_11 =>
                                    intro y t i H locs cel slo ls hk ht hi hf hA hC hS hcel hslo hl
                                    refine lv_iload hx hb dL_isSeen_754 (lv_at hl 0 rfl) ?_
                                    refine lv_bipush (v := 40) hx hb dL_isSeen_756 (by decide) ?_
                                    refine lw_ge (tgt := 785) hx hb t 40 (by omega) (by omega) dL_isSeen_758 (by decide) (fun c_12 => ?_) (fun c_12 => ?_)
                                    · skip
                                      have mc_12 : ¬ t < 40 := by omega
                                      have hy9 : lCn G2 (x % 8) = y := by rw [hf, show i = 5 by omega]; rfl
                                      refine lv_iload hx hb dL_isSeen_785 (lv_at hl 2 rfl) ?_
                                      refine lv_if_eq (tgt := 808) hx hb dL_isSeen_787 (by decide) (fun z9 => absurd z9 (by decide)) (fun _ => ?_)
                                      refine lv_aload_n hx hb dL_isSeen_790 rfl (lv_at hl 8 rfl) ?_
                                      refine lv_iload hx hb dL_isSeen_791 (lv_at hl 17 rfl) ?_
                                      refine lv_bipush (v := 8) hx hb dL_isSeen_793 (by decide) ?_
                                      refine lw_remN hx hb (i := x) (j := 8) (by omega) (by omega) (by omega) dL_isSeen_795 ?_
                                      refine ix_ask (val := nI (lCn G2 (x % 8))) F hK hX hfr hA hC R9 hS [.int (nI (x % 8))] (sm_eq (os_countByAll R9 hL2 (fo := (x % 8)) (by omega)) (sm_countByAll hfl (nI (x % 8)))) (cwV 1 F.2.2.2.2 gvL_isSeen_X3_countByAll rfl rfl rfl (by decide +kernel) ⟨Nat.le_of_ble_eq_true rfl, Nat.le_of_ble_eq_true rfl⟩) rfl hl.1 rfl (lv_room (Nat.le_of_ble_eq_true rfl)) ⟨by show _ ≤ 400; omega, by show _ ≤ 2600; omega⟩ dL_isSeen_796 (fun H locs hA hC hS => ?_)
                                      refine lv_iload hx hb dL_isSeen_799 (lv_at hl 1 rfl) ?_
                                      refine lv_icmp_ne (tgt := 808) hx hb dL_isSeen_801 (by decide) (fun z9 => absurd (congrArg nI hy9) z9) (fun _ => ?_)
                                      refine lv_iconst (v := 1) hx hb dL_isSeen_804 (by decide) ?_
                                      refine lv_goto (tgt := 809) hx hb dL_isSeen_805 (by decide) ?_
                                      exact is_ret F hr hlocks hC hS (by omega) (by omega) dL_isSeen_809
                                    · skip
                                      have mc_12 : ¬ 40 ≤ t := by omega
                                      refine lv_iload hx hb dL_isSeen_761 (lv_at hl 1 rfl) ?_
                                      refine lv_aload hx hb dL_isSeen_763 (lv_at hl 7 rfl) ?_
                                      refine lv_iload hx hb dL_isSeen_765 (lv_at hl 0 rfl) ?_
                                      refine cg_ald F hK hA 8 40 rfl t rfl (by omega) (by decide) dL_isSeen_767 ?_
                                      refine lv_if_le (tgt := 775) hx hb dL_isSeen_768 (by decide) (fun c_13 => ?_) (fun c_13 => ?_)
                                      · skip
                                        refine lv_iconst (v := 0) hx hb dL_isSeen_775 (by decide) ?_
                                        refine lw_add hx hb (i := y) (j := 0) dL_isSeen_776 ?_
                                        refine lv_istore (lv' := [(17, .int (nI (y + 0))), (18, .int (nI t)), (16, .int 1), (15, .int (nI ((x / 5) % 12))), (13, .int (nI (x % 5))), (12, .ref (q 10)), (11, .ref (q 9)), (10, .ref (q 8)), (0, .ref (u 30)), (1, .ref (q 0)), (2, .ref (q 1)), (3, .ref (q 2)), (4, .ref (q 3)), (5, .ref (q 4)), (6, .ref (q 5)), (7, .ref (q 6)), (8, .ref (q 7)), (9, .int (nI x))]) hx hb dL_isSeen_777 hl (by decide) rfl (fun ls hl => ?_)
                                        refine lv_iinc (v := nI (t + 8)) (lv' := [(18, .int (nI (t + 8))), (17, .int (nI (y + 0))), (16, .int 1), (15, .int (nI ((x / 5) % 12))), (13, .int (nI (x % 5))), (12, .ref (q 10)), (11, .ref (q 9)), (10, .ref (q 8)), (0, .ref (u 30)), (1, .ref (q 0)), (2, .ref (q 1)), (3, .ref (q 2)), (4, .ref (q 3)), (5, .ref (q 4)), (6, .ref (q 5)), (7, .ref (q 6)), (8, .ref (q 7)), (9, .int (nI x))]) hx hb dL_isSeen_779 hl (k := 1) rfl (show nI t + Int32.ofInt 8 = _ from nI_add t 8) (by decide) rfl (fun ls hl => ?_)
                                        refine lv_goto (tgt := 754) hx hb dL_isSeen_782 (by decide) ?_
                                        exact ihu_11  (y + 0) (t + 8) (i + 1) _ _ cel slo ls (by omega) (by first | omega | assumption) (by first | omega | assumption) (by rw [foldU_s, ← hf]; subst ht; simp [c_2, mc_2, c_4, mc_4, c_6, mc_6, c_8, mc_8, c_10, mc_10, c_12, mc_12, c_13]) hA hC hS (by omega) (by omega) (lv_sub hl [0, 1, 2, 3, 4, 5, 6, 7, 8, 9, 10, 11, 12, 13, 14, 15, 16, 17] rfl)
                                      · skip
                                        refine lv_iconst (v := 1) hx hb dL_isSeen_771 (by decide) ?_
                                        refine lv_goto (tgt := 776) hx hb dL_isSeen_772 (by decide) ?_
                                        refine lw_add hx hb (i := y) (j := 1) dL_isSeen_776 ?_
                                        refine lv_istore (lv' := [(17, .int (nI (y + 1))), (18, .int (nI t)), (16, .int 1), (15, .int (nI ((x / 5) % 12))), (13, .int (nI (x % 5))), (12, .ref (q 10)), (11, .ref (q 9)), (10, .ref (q 8)), (0, .ref (u 30)), (1, .ref (q 0)), (2, .ref (q 1)), (3, .ref (q 2)), (4, .ref (q 3)), (5, .ref (q 4)), (6, .ref (q 5)), (7, .ref (q 6)), (8, .ref (q 7)), (9, .int (nI x))]) hx hb dL_isSeen_777 hl (by decide) rfl (fun ls hl => ?_)
                                        refine lv_iinc (v := nI (t + 8)) (lv' := [(18, .int (nI (t + 8))), (17, .int (nI (y + 1))), (16, .int 1), (15, .int (nI ((x / 5) % 12))), (13, .int (nI (x % 5))), (12, .ref (q 10)), (11, .ref (q 9)), (10, .ref (q 8)), (0, .ref (u 30)), (1, .ref (q 0)), (2, .ref (q 1)), (3, .ref (q 2)), (4, .ref (q 3)), (5, .ref (q 4)), (6, .ref (q 5)), (7, .ref (q 6)), (8, .ref (q 7)), (9, .int (nI x))]) hx hb dL_isSeen_779 hl (k := 1) rfl (show nI t + Int32.ofInt 8 = _ from nI_add t 8) (by decide) rfl (fun ls hl => ?_)
                                        refine lv_goto (tgt := 754) hx hb dL_isSeen_782 (by decide) ?_
                                        exact ihu_11  (y + 1) (t + 8) (i + 1) _ _ cel slo ls (by omega) (by first | omega | assumption) (by first | omega | assumption) (by rw [foldU_s, ← hf]; subst ht; simp [c_2, mc_2, c_4, mc_4, c_6, mc_6, c_8, mc_8, c_10, mc_10, c_12, mc_12, c_13]) hA hC hS (by omega) (by omega) (lv_sub hl [0, 1, 2, 3, 4, 5, 6, 7, 8, 9, 10, 11, 12, 13, 14, 15, 16, 17] rfl)
                                exact L754_u_11 _ 0 (x % 8) 0 _ _ cel slo ls (Nat.lt_succ_self _) (by first | omega | assumption) (by first | omega | assumption) (rfl) hA hC hS (by omega) (by omega) (lv_sub hl [0, 1, 2, 3, 4, 5, 6, 7, 8, 9, 10, 11, 12, 13, 14, 15, 16, 17] rfl)
                              · skip
                                have mc_10 : ¬ 40 ≤ t := by omega
                                refine lv_iload hx hb dL_isSeen_685 (lv_at hl 1 rfl) ?_
                                refine lv_if_eq (tgt := 744) hx hb dL_isSeen_687 (by decide) (fun z9 => absurd z9 (by decide)) (fun _ => ?_)
                                refine lv_aload_n hx hb dL_isSeen_690 rfl (lv_at hl 7 rfl) ?_
                                refine lv_iload hx hb dL_isSeen_691 (lv_at hl 0 rfl) ?_
                                refine ix_ask (val := G2 8 t - 1) F hK hX hfr hA hC R9 hS [.int (nI t)] (sm_eq (os_whereByAll hL2 (t := t) (by omega)) (sm_whereByAll hfl (nI t))) (cwV 1 F.2.2.2.2 gvL_isSeen_X3_whereByAll rfl rfl rfl (by decide +kernel) ⟨Nat.le_of_ble_eq_true rfl, Nat.le_of_ble_eq_true rfl⟩) rfl hl.1 rfl (lv_room (Nat.le_of_ble_eq_true rfl)) ⟨by show _ ≤ 400; omega, by show _ ≤ 2600; omega⟩ dL_isSeen_693 (fun H locs hA hC hS => ?_)
                                refine lv_aload hx hb dL_isSeen_696 (lv_at hl 6 rfl) ?_
                                refine lv_iload hx hb dL_isSeen_698 (lv_at hl 0 rfl) ?_
                                refine cg_ald F hK hA 8 40 rfl t rfl (by omega) (by decide) dL_isSeen_700 ?_
                                refine lv_iconst (v := 1) hx hb dL_isSeen_701 (by decide) ?_
                                refine lv_isub hx hb dL_isSeen_702 ?_
                                refine lv_icmp_ne (tgt := 735) hx hb dL_isSeen_703 (by decide) (fun z9 => absurd (rfl) z9) (fun _ => ?_)
                                refine lv_aload_n hx hb dL_isSeen_706 rfl (lv_at hl 7 rfl) ?_
                                refine lv_iload hx hb dL_isSeen_707 (lv_at hl 0 rfl) ?_
                                refine ix_ask (val := oI (lKp G2 cm t)) F hK hX hfr hA hC R9 hS [.int (nI t)] (sm_eq (os_keptByAll hL2 (t := t) (by omega)) (sm_keptByAll hfl (nI t))) (cwV 1 F.2.2.2.2 gvL_isSeen_X3_keptByAll rfl rfl rfl (by decide +kernel) ⟨Nat.le_of_ble_eq_true rfl, Nat.le_of_ble_eq_true rfl⟩) rfl hl.1 rfl (lv_room (Nat.le_of_ble_eq_true rfl)) ⟨by show _ ≤ 400; omega, by show _ ≤ 2600; omega⟩ dL_isSeen_709 (fun H locs hA hC hS => ?_)
                                refine lv_aload_n hx hb dL_isSeen_712 rfl (lv_at hl 8 rfl) ?_
                                refine lv_aload hx hb dL_isSeen_713 (lv_at hl 12 rfl) ?_
                                refine lv_aload hx hb dL_isSeen_715 (lv_at hl 15 rfl) ?_
                                refine lv_aload hx hb dL_isSeen_717 (lv_at hl 6 rfl) ?_
                                refine lv_aload hx hb dL_isSeen_719 (lv_at hl 5 rfl) ?_
                                refine lv_aload hx hb dL_isSeen_721 (lv_at hl 4 rfl) ?_
                                refine lv_iload hx hb dL_isSeen_723 (lv_at hl 0 rfl) ?_
                                refine ro_callS F hK [.ref (q 0), .ref (q 4), .ref (q 7), .ref (q 8), .ref (q 9), .ref (q 10), .int (nI t)] (lc_kept (cm := cm) hA t hf1 hcm hgo (by omega)) (va_cwS 7 F.2.2.2.2 gvL_isSeen_L_kept rfl rfl rfl (by decide +kernel) ⟨Nat.le_of_ble_eq_true rfl, Nat.le_of_ble_eq_true rfl⟩) rfl hl.1 rfl (lv_room (Nat.le_of_ble_eq_true rfl)) ⟨by show _ ≤ 400; omega, by show _ ≤ 2600; omega⟩ dL_isSeen_725 ?_
                                refine lv_icmp_ne (tgt := 735) hx hb dL_isSeen_728 (by decide) (fun z9 => absurd (rfl) z9) (fun _ => ?_)
                                refine lv_iconst (v := 1) hx hb dL_isSeen_731 (by decide) ?_
                                refine lv_goto (tgt := 736) hx hb dL_isSeen_732 (by decide) ?_
                                refine lv_istore (lv' := [(16, .int 1), (17, .int (nI t)), (15, .int (nI ((x / 5) % 12))), (13, .int (nI (x % 5))), (12, .ref (q 10)), (11, .ref (q 9)), (10, .ref (q 8)), (0, .ref (u 30)), (1, .ref (q 0)), (2, .ref (q 1)), (3, .ref (q 2)), (4, .ref (q 3)), (5, .ref (q 4)), (6, .ref (q 5)), (7, .ref (q 6)), (8, .ref (q 7)), (9, .int (nI x))]) hx hb dL_isSeen_736 hl (by decide) rfl (fun ls hl => ?_)
                                refine lv_iinc (v := nI (t + 4)) (lv' := [(17, .int (nI (t + 4))), (16, .int 1), (15, .int (nI ((x / 5) % 12))), (13, .int (nI (x % 5))), (12, .ref (q 10)), (11, .ref (q 9)), (10, .ref (q 8)), (0, .ref (u 30)), (1, .ref (q 0)), (2, .ref (q 1)), (3, .ref (q 2)), (4, .ref (q 3)), (5, .ref (q 4)), (6, .ref (q 5)), (7, .ref (q 6)), (8, .ref (q 7)), (9, .int (nI x))]) hx hb dL_isSeen_738 hl (k := 1) rfl (show nI t + Int32.ofInt 4 = _ from nI_add t 4) (by decide) rfl (fun ls hl => ?_)
                                refine lv_goto (tgt := 678) hx hb dL_isSeen_741 (by decide) ?_
                                exact ihu_9  (t + 4) (i + 1) _ _ (cel + 1 + 1) (slo + 6 + 6) ls (by omega) (by first | omega | assumption) (by first | omega | assumption) hA hC hS (by omega) (by omega) (lv_sub hl [0, 1, 2, 3, 4, 5, 6, 7, 8, 9, 10, 11, 12, 13, 14, 15, 16] rfl)
                          exact L678_u_9 _ (x % 4) 0 _ _ cel slo ls (Nat.lt_succ_self _) (by first | omega | assumption) (by first | omega | assumption) hA hC hS (by omega) (by omega) (lv_sub hl [0, 1, 2, 3, 4, 5, 6, 7, 8, 9, 10, 11, 12, 13, 14, 15, 16] rfl)
                        · skip
                          have mc_8 : ¬ cm ≤ k := by omega
                          refine lv_iload hx hb dL_isSeen_439 (lv_at hl 1 rfl) ?_
                          refine lv_if_eq (tgt := 655) hx hb dL_isSeen_441 (by decide) (fun z9 => absurd z9 (by decide)) (fun _ => ?_)
                          obtain ⟨rc, hrc6, hrc, -, -⟩ := hlt.f7r R9 (show k < cm by omega)
                          refine lv_aload hx hb dL_isSeen_444 (lv_at hl 4 rfl) ?_
                          refine lv_bipush (v := 8) hx hb dL_isSeen_446 (by decide) ?_
                          refine cg_ald F hK hA 10 40 rfl 8 rfl (by omega) (by decide) dL_isSeen_448 ?_
                          refine lv_iload hx hb dL_isSeen_449 (lv_at hl 0 rfl) ?_
                          refine lv_ishr hx hb dL_isSeen_451 ?_
                          refine lv_iconst (v := 1) hx hb dL_isSeen_452 (by decide) ?_
                          refine lv_iand hx hb dL_isSeen_453 ?_
                          refine lv_if_ne (tgt := 461) hx hb dL_isSeen_454 (by decide) (fun c_14 => ?_) (fun c_14 => ?_)
                          · skip
                            refine lv_aload hx hb dL_isSeen_461 (lv_at hl 4 rfl) ?_
                            refine lv_bipush (v := 10) hx hb dL_isSeen_463 (by decide) ?_
                            refine cg_ald F hK hA 10 40 rfl 10 rfl (by omega) (by decide) dL_isSeen_465 ?_
                            refine lv_iload hx hb dL_isSeen_466 (lv_at hl 0 rfl) ?_
                            refine lv_ishr hx hb dL_isSeen_468 ?_
                            refine lv_iconst (v := 1) hx hb dL_isSeen_469 (by decide) ?_
                            refine lv_iand hx hb dL_isSeen_470 ?_
                            refine lv_iconst (v := 1) hx hb dL_isSeen_471 (by decide) ?_
                            refine lv_icmp_ne (tgt := 479) hx hb dL_isSeen_472 (by decide) (fun c_15 => ?_) (fun c_15 => ?_)
                            · skip
                              refine lv_aload hx hb dL_isSeen_479 (lv_at hl 4 rfl) ?_
                              refine lv_bipush (v := 9) hx hb dL_isSeen_481 (by decide) ?_
                              refine cg_ald F hK hA 10 40 rfl 9 rfl (by omega) (by decide) dL_isSeen_483 ?_
                              refine lv_iload hx hb dL_isSeen_484 (lv_at hl 0 rfl) ?_
                              refine lv_ishr hx hb dL_isSeen_486 ?_
                              refine lv_iconst (v := 1) hx hb dL_isSeen_487 (by decide) ?_
                              refine lv_iand hx hb dL_isSeen_488 ?_
                              refine lv_iconst (v := 1) hx hb dL_isSeen_489 (by decide) ?_
                              refine lv_icmp_ne (tgt := 497) hx hb dL_isSeen_490 (by decide) (fun c_16 => ?_) (fun c_16 => ?_)
                              · skip
                                refine lv_iconst (v := 1) hx hb dL_isSeen_497 (by decide) ?_
                                have hst9 : stI G1 k = 1 := stI_1 (by omega) c_14 c_15 c_16
                                refine lv_istore (lv' := [(18, .int 1), (17, .int (nI k)), (16, .int 1), (15, .int (nI ((x / 5) % 12))), (13, .int (nI (x % 5))), (12, .ref (q 10)), (11, .ref (q 9)), (10, .ref (q 8)), (0, .ref (u 30)), (1, .ref (q 0)), (2, .ref (q 1)), (3, .ref (q 2)), (4, .ref (q 3)), (5, .ref (q 4)), (6, .ref (q 5)), (7, .ref (q 6)), (8, .ref (q 7)), (9, .int (nI x))]) hx hb dL_isSeen_498 hl (by decide) rfl (fun ls hl => ?_)
                                refine lv_iload hx hb dL_isSeen_500 (lv_at hl 17 rfl) ?_
                                refine lv_iload hx hb dL_isSeen_502 (lv_at hl 1 rfl) ?_
                                refine lw_add hx hb (i := x) (j := k) dL_isSeen_504 ?_
                                refine lv_bipush (v := 8) hx hb dL_isSeen_505 (by decide) ?_
                                refine lw_remN hx hb (i := (x + k)) (j := 8) (by omega) (by omega) (by omega) dL_isSeen_507 ?_
                                refine lv_istore (lv' := [(19, .int (nI ((x + k) % 8))), (18, .int 1), (17, .int (nI k)), (16, .int 1), (15, .int (nI ((x / 5) % 12))), (13, .int (nI (x % 5))), (12, .ref (q 10)), (11, .ref (q 9)), (10, .ref (q 8)), (0, .ref (u 30)), (1, .ref (q 0)), (2, .ref (q 1)), (3, .ref (q 2)), (4, .ref (q 3)), (5, .ref (q 4)), (6, .ref (q 5)), (7, .ref (q 6)), (8, .ref (q 7)), (9, .int (nI x))]) hx hb dL_isSeen_508 hl (by decide) rfl (fun ls hl => ?_)
                                refine lv_aload_n hx hb dL_isSeen_510 rfl (lv_at hl 9 rfl) ?_
                                refine lv_iload hx hb dL_isSeen_511 (lv_at hl 5 rfl) ?_
                                refine lv_iload hx hb dL_isSeen_513 (lv_at hl 2 rfl) ?_
                                refine ix_ask (val := stI G1 k) F hK hX hfr hA hC R9 hS [.int (nI (x % 5)), .int (nI k)] (sm_eq (os_cake R9 hL1 (by omega) (k := k) (by omega)) (sm_cake hfl (nI (x % 5)) (nI k))) (cwV 2 F.2.2.2.2 gvL_isSeen_X3_cake rfl rfl rfl (by decide +kernel) ⟨Nat.le_of_ble_eq_true rfl, Nat.le_of_ble_eq_true rfl⟩) rfl hl.1 rfl (lv_room (Nat.le_of_ble_eq_true rfl)) ⟨by show _ ≤ 400; omega, by show _ ≤ 2600; omega⟩ dL_isSeen_515 (fun H locs hA hC hS => ?_)
                                refine lv_iload hx hb dL_isSeen_518 (lv_at hl 1 rfl) ?_
                                refine lv_icmp_ne (tgt := 646) hx hb dL_isSeen_520 (by decide) (fun z9 => absurd (hst9) z9) (fun _ => ?_)
                                refine lv_aload_n hx hb dL_isSeen_523 rfl (lv_at hl 9 rfl) ?_
                                refine lv_iload hx hb dL_isSeen_524 (lv_at hl 5 rfl) ?_
                                refine lv_iload hx hb dL_isSeen_526 (lv_at hl 2 rfl) ?_
                                refine lv_iload hx hb dL_isSeen_528 (lv_at hl 0 rfl) ?_
                                refine ix_ask (val := lLk G1 cm rc k ((x + k) % 8)) F hK hX hfr hA hC R9 hS [.int (nI (x % 5)), .int (nI k), .int (nI ((x + k) % 8))] (sm_eq (os_lacks R9 hL1 (by omega) (k := k) (fo := ((x + k) % 8)) (by omega) hrc6 hrc (by omega)) (sm_lacks hfl (nI (x % 5)) (nI k) (nI ((x + k) % 8)))) (cwV 3 F.2.2.2.2 gvL_isSeen_X3_lacks rfl rfl rfl (by decide +kernel) ⟨Nat.le_of_ble_eq_true rfl, Nat.le_of_ble_eq_true rfl⟩) rfl hl.1 rfl (lv_room (Nat.le_of_ble_eq_true rfl)) ⟨by show _ ≤ 400; omega, by show _ ≤ 2600; omega⟩ dL_isSeen_530 (fun H locs hA hC hS => ?_)
                                refine lv_aload_n hx hb dL_isSeen_533 rfl (lv_at hl 10 rfl) ?_
                                refine lv_aload hx hb dL_isSeen_534 (lv_at hl 14 rfl) ?_
                                refine lv_aload hx hb dL_isSeen_536 (lv_at hl 16 rfl) ?_
                                refine lv_aload hx hb dL_isSeen_538 (lv_at hl 17 rfl) ?_
                                refine lv_aload hx hb dL_isSeen_540 (lv_at hl 8 rfl) ?_
                                refine lv_aload hx hb dL_isSeen_542 (lv_at hl 7 rfl) ?_
                                refine lv_aload hx hb dL_isSeen_544 (lv_at hl 6 rfl) ?_
                                refine lv_iload hx hb dL_isSeen_546 (lv_at hl 2 rfl) ?_
                                refine lv_iload hx hb dL_isSeen_548 (lv_at hl 0 rfl) ?_
                                refine ro_callS F hK [.ref (q 0), .ref (q 4), .ref (q 6), .ref (q 7), .ref (q 8), .ref (q 9), .ref (q 10), .int (nI k), .int (nI ((x + k) % 8))] (lc_lacks (cm := cm) (rc := rc) hA k ((x + k) % 8) hf1 hcm hgo (by omega) (by omega) hrc hrc6) (va_cwS 9 F.2.2.2.2 gvL_isSeen_L_lacks rfl rfl rfl (by decide +kernel) ⟨Nat.le_of_ble_eq_true rfl, Nat.le_of_ble_eq_true rfl⟩) rfl hl.1 rfl (lv_room (Nat.le_of_ble_eq_true rfl)) ⟨by show _ ≤ 400; omega, by show _ ≤ 2600; omega⟩ dL_isSeen_550 ?_
                                refine lv_icmp_ne (tgt := 646) hx hb dL_isSeen_553 (by decide) (fun z9 => absurd (rfl) z9) (fun _ => ?_)
                                refine lv_aload_n hx hb dL_isSeen_556 rfl (lv_at hl 9 rfl) ?_
                                refine lv_iload hx hb dL_isSeen_557 (lv_at hl 5 rfl) ?_
                                refine lv_iload hx hb dL_isSeen_559 (lv_at hl 2 rfl) ?_
                                refine ix_ask (val := bI (decide (stI G1 k = 1) && lDl G1 rc (G1 7 (2 * k + 1)))) F hK hX hfr hA hC R9 hS [.int (nI (x % 5)), .int (nI k)] (sm_eq (os_isUnfit R9 hL1 (by omega) (k := k) (by omega) hrc6 hrc) (sm_isUnfit hfl (nI (x % 5)) (nI k))) (cwV 2 F.2.2.2.2 gvL_isSeen_X3_isUnfit rfl rfl rfl (by decide +kernel) ⟨Nat.le_of_ble_eq_true rfl, Nat.le_of_ble_eq_true rfl⟩) rfl hl.1 rfl (lv_room (Nat.le_of_ble_eq_true rfl)) ⟨by show _ ≤ 400; omega, by show _ ≤ 2600; omega⟩ dL_isSeen_561 (fun H locs hA hC hS => ?_)
                                refine lv_iload hx hb dL_isSeen_564 (lv_at hl 1 rfl) ?_
                                refine lv_iconst (v := 1) hx hb dL_isSeen_566 (by decide) ?_
                                refine lv_icmp_ne (tgt := 602) hx hb dL_isSeen_567 (by decide) (fun z9 => absurd z9 (by decide)) (fun _ => ?_)
                                refine lv_aload hx hb dL_isSeen_570 (lv_at hl 14 rfl) ?_
                                refine lv_aload hx hb dL_isSeen_572 (lv_at hl 16 rfl) ?_
                                refine lv_aload hx hb dL_isSeen_574 (lv_at hl 6 rfl) ?_
                                refine lv_aload hx hb dL_isSeen_576 (lv_at hl 17 rfl) ?_
                                refine lv_iconst (v := 2) hx hb dL_isSeen_578 (by decide) ?_
                                refine lv_iload hx hb dL_isSeen_579 (lv_at hl 2 rfl) ?_
                                refine lw_mul hx hb (i := 2) (j := k) dL_isSeen_581 ?_
                                refine cg_ald F hK hA 7 20 rfl (2 * k) rfl (by omega) (by decide) dL_isSeen_582 ?_
                                refine lw_N rc hrc ?_
                                refine lv_aload hx hb dL_isSeen_583 (lv_at hl 17 rfl) ?_
                                refine lv_iconst (v := 2) hx hb dL_isSeen_585 (by decide) ?_
                                refine lv_iload hx hb dL_isSeen_586 (lv_at hl 2 rfl) ?_
                                refine lw_mul hx hb (i := 2) (j := k) dL_isSeen_588 ?_
                                refine lv_iconst (v := 1) hx hb dL_isSeen_589 (by decide) ?_
                                refine lw_add hx hb (i := (2 * k)) (j := 1) dL_isSeen_590 ?_
                                refine cg_ald F hK hA 7 20 rfl ((2 * k) + 1) rfl (by omega) (by decide) dL_isSeen_591 ?_
                                refine ro_callS F hK [.ref (q 4), .ref (q 6), .ref (q 10), .int (nI rc), .int (G1 7 ((2 * k) + 1))] (lc_isDisliked hA rc (G1 7 ((2 * k) + 1)) hgo (d_ok hgo _) hrc6) (va_cwS 5 F.2.2.2.2 gvL_isSeen_L_isDisliked rfl rfl rfl (by decide +kernel) ⟨Nat.le_of_ble_eq_true rfl, Nat.le_of_ble_eq_true rfl⟩) rfl hl.1 rfl (lv_room (Nat.le_of_ble_eq_true rfl)) ⟨by show _ ≤ 400; omega, by show _ ≤ 2600; omega⟩ dL_isSeen_592 ?_
                                refine lw_beq (tgt := 602) hx hb dL_isSeen_595 (by decide) (fun c_17 => ?_) (fun c_17 => ?_)
                                · skip
                                  refine lv_iconst (v := 0) hx hb dL_isSeen_602 (by decide) ?_
                                  refine lv_icmp_ne (tgt := 646) hx hb dL_isSeen_603 (by decide) (fun z9 => absurd (by rw [hst9]; first | rfl | simp [bI, c_2, mc_2, c_4, mc_4, c_6, mc_6, c_8, mc_8, c_14, c_15, c_16, c_17]) z9) (fun _ => ?_)
                                  refine lv_aload_n hx hb dL_isSeen_606 rfl (lv_at hl 9 rfl) ?_
                                  refine lv_iload hx hb dL_isSeen_607 (lv_at hl 5 rfl) ?_
                                  refine lv_iload hx hb dL_isSeen_609 (lv_at hl 2 rfl) ?_
                                  refine ix_ask (val := bI (decide (stI G1 k = 3) && decide ((G1 10 11 >>> (nI k &&& 31)) &&& 1 = 1))) F hK hX hfr hA hC R9 hS [.int (nI (x % 5)), .int (nI k)] (sm_eq (os_isSpoilt R9 hL1 (by omega) (k := k) (by omega)) (sm_isSpoilt hfl (nI (x % 5)) (nI k))) (cwV 2 F.2.2.2.2 gvL_isSeen_X3_isSpoilt rfl rfl rfl (by decide +kernel) ⟨Nat.le_of_ble_eq_true rfl, Nat.le_of_ble_eq_true rfl⟩) rfl hl.1 rfl (lv_room (Nat.le_of_ble_eq_true rfl)) ⟨by show _ ≤ 400; omega, by show _ ≤ 2600; omega⟩ dL_isSeen_611 (fun H locs hA hC hS => ?_)
                                  refine lv_iload hx hb dL_isSeen_614 (lv_at hl 1 rfl) ?_
                                  refine lv_iconst (v := 3) hx hb dL_isSeen_616 (by decide) ?_
                                  refine lv_icmp_ne (tgt := 638) hx hb dL_isSeen_617 (by decide) (fun _ => ?_) (fun z9 => absurd z9 (by decide))
                                  refine lv_iconst (v := 0) hx hb dL_isSeen_638 (by decide) ?_
                                  refine lv_icmp_ne (tgt := 646) hx hb dL_isSeen_639 (by decide) (fun z9 => absurd (by rw [hst9]; first | rfl | simp [bI, c_2, mc_2, c_4, mc_4, c_6, mc_6, c_8, mc_8, c_14, c_15, c_16, c_17]) z9) (fun _ => ?_)
                                  refine lv_iconst (v := 1) hx hb dL_isSeen_642 (by decide) ?_
                                  refine lv_goto (tgt := 647) hx hb dL_isSeen_643 (by decide) ?_
                                  refine lv_istore (lv' := [(16, .int 1), (19, .int (nI ((x + k) % 8))), (18, .int 1), (17, .int (nI k)), (15, .int (nI ((x / 5) % 12))), (13, .int (nI (x % 5))), (12, .ref (q 10)), (11, .ref (q 9)), (10, .ref (q 8)), (0, .ref (u 30)), (1, .ref (q 0)), (2, .ref (q 1)), (3, .ref (q 2)), (4, .ref (q 3)), (5, .ref (q 4)), (6, .ref (q 5)), (7, .ref (q 6)), (8, .ref (q 7)), (9, .int (nI x))]) hx hb dL_isSeen_647 hl (by decide) rfl (fun ls hl => ?_)
                                  refine lv_iinc (v := nI (k + 1)) (lv' := [(17, .int (nI (k + 1))), (16, .int 1), (19, .int (nI ((x + k) % 8))), (18, .int 1), (15, .int (nI ((x / 5) % 12))), (13, .int (nI (x % 5))), (12, .ref (q 10)), (11, .ref (q 9)), (10, .ref (q 8)), (0, .ref (u 30)), (1, .ref (q 0)), (2, .ref (q 1)), (3, .ref (q 2)), (4, .ref (q 3)), (5, .ref (q 4)), (6, .ref (q 5)), (7, .ref (q 6)), (8, .ref (q 7)), (9, .int (nI x))]) hx hb dL_isSeen_649 hl (k := 3) rfl (show nI k + Int32.ofInt 1 = _ from nI_add k 1) (by decide) rfl (fun ls hl => ?_)
                                  refine lv_goto (tgt := 431) hx hb dL_isSeen_652 (by decide) ?_
                                  exact ihu_7  (k + 1) _ _ (cel + 2 + 3 + 2 + 2) (slo + 12 + 18 + 12 + 12) ls (by omega) (by first | omega | assumption) hA hC hS (by omega) (by omega) (lv_sub hl [0, 1, 4, 5, 6, 7, 8, 9, 10, 11, 12, 13, 14, 15, 16, 17, 18] rfl)
                                · skip
                                  refine lv_iconst (v := 1) hx hb dL_isSeen_598 (by decide) ?_
                                  refine lv_goto (tgt := 603) hx hb dL_isSeen_599 (by decide) ?_
                                  refine lv_icmp_ne (tgt := 646) hx hb dL_isSeen_603 (by decide) (fun z9 => absurd (by rw [hst9]; first | rfl | simp [bI, c_2, mc_2, c_4, mc_4, c_6, mc_6, c_8, mc_8, c_14, c_15, c_16, c_17]) z9) (fun _ => ?_)
                                  refine lv_aload_n hx hb dL_isSeen_606 rfl (lv_at hl 9 rfl) ?_
                                  refine lv_iload hx hb dL_isSeen_607 (lv_at hl 5 rfl) ?_
                                  refine lv_iload hx hb dL_isSeen_609 (lv_at hl 2 rfl) ?_
                                  refine ix_ask (val := bI (decide (stI G1 k = 3) && decide ((G1 10 11 >>> (nI k &&& 31)) &&& 1 = 1))) F hK hX hfr hA hC R9 hS [.int (nI (x % 5)), .int (nI k)] (sm_eq (os_isSpoilt R9 hL1 (by omega) (k := k) (by omega)) (sm_isSpoilt hfl (nI (x % 5)) (nI k))) (cwV 2 F.2.2.2.2 gvL_isSeen_X3_isSpoilt rfl rfl rfl (by decide +kernel) ⟨Nat.le_of_ble_eq_true rfl, Nat.le_of_ble_eq_true rfl⟩) rfl hl.1 rfl (lv_room (Nat.le_of_ble_eq_true rfl)) ⟨by show _ ≤ 400; omega, by show _ ≤ 2600; omega⟩ dL_isSeen_611 (fun H locs hA hC hS => ?_)
                                  refine lv_iload hx hb dL_isSeen_614 (lv_at hl 1 rfl) ?_
                                  refine lv_iconst (v := 3) hx hb dL_isSeen_616 (by decide) ?_
                                  refine lv_icmp_ne (tgt := 638) hx hb dL_isSeen_617 (by decide) (fun _ => ?_) (fun z9 => absurd z9 (by decide))
                                  refine lv_iconst (v := 0) hx hb dL_isSeen_638 (by decide) ?_
                                  refine lv_icmp_ne (tgt := 646) hx hb dL_isSeen_639 (by decide) (fun z9 => absurd (by rw [hst9]; first | rfl | simp [bI, c_2, mc_2, c_4, mc_4, c_6, mc_6, c_8, mc_8, c_14, c_15, c_16, c_17]) z9) (fun _ => ?_)
                                  refine lv_iconst (v := 1) hx hb dL_isSeen_642 (by decide) ?_
                                  refine lv_goto (tgt := 647) hx hb dL_isSeen_643 (by decide) ?_
                                  refine lv_istore (lv' := [(16, .int 1), (19, .int (nI ((x + k) % 8))), (18, .int 1), (17, .int (nI k)), (15, .int (nI ((x / 5) % 12))), (13, .int (nI (x % 5))), (12, .ref (q 10)), (11, .ref (q 9)), (10, .ref (q 8)), (0, .ref (u 30)), (1, .ref (q 0)), (2, .ref (q 1)), (3, .ref (q 2)), (4, .ref (q 3)), (5, .ref (q 4)), (6, .ref (q 5)), (7, .ref (q 6)), (8, .ref (q 7)), (9, .int (nI x))]) hx hb dL_isSeen_647 hl (by decide) rfl (fun ls hl => ?_)
                                  refine lv_iinc (v := nI (k + 1)) (lv' := [(17, .int (nI (k + 1))), (16, .int 1), (19, .int (nI ((x + k) % 8))), (18, .int 1), (15, .int (nI ((x / 5) % 12))), (13, .int (nI (x % 5))), (12, .ref (q 10)), (11, .ref (q 9)), (10, .ref (q 8)), (0, .ref (u 30)), (1, .ref (q 0)), (2, .ref (q 1)), (3, .ref (q 2)), (4, .ref (q 3)), (5, .ref (q 4)), (6, .ref (q 5)), (7, .ref (q 6)), (8, .ref (q 7)), (9, .int (nI x))]) hx hb dL_isSeen_649 hl (k := 3) rfl (show nI k + Int32.ofInt 1 = _ from nI_add k 1) (by decide) rfl (fun ls hl => ?_)
                                  refine lv_goto (tgt := 431) hx hb dL_isSeen_652 (by decide) ?_
                                  exact ihu_7  (k + 1) _ _ (cel + 2 + 3 + 2 + 2) (slo + 12 + 18 + 12 + 12) ls (by omega) (by first | omega | assumption) hA hC hS (by omega) (by omega) (lv_sub hl [0, 1, 4, 5, 6, 7, 8, 9, 10, 11, 12, 13, 14, 15, 16, 17, 18] rfl)
                              · skip
                                refine lv_iconst (v := 2) hx hb dL_isSeen_493 (by decide) ?_
                                refine lv_goto (tgt := 498) hx hb dL_isSeen_494 (by decide) ?_
                                have hst9 : stI G1 k = 2 := stI_2 (by omega) c_15 c_16
                                refine lv_istore (lv' := [(18, .int 2), (17, .int (nI k)), (16, .int 1), (15, .int (nI ((x / 5) % 12))), (13, .int (nI (x % 5))), (12, .ref (q 10)), (11, .ref (q 9)), (10, .ref (q 8)), (0, .ref (u 30)), (1, .ref (q 0)), (2, .ref (q 1)), (3, .ref (q 2)), (4, .ref (q 3)), (5, .ref (q 4)), (6, .ref (q 5)), (7, .ref (q 6)), (8, .ref (q 7)), (9, .int (nI x))]) hx hb dL_isSeen_498 hl (by decide) rfl (fun ls hl => ?_)
                                refine lv_iload hx hb dL_isSeen_500 (lv_at hl 17 rfl) ?_
                                refine lv_iload hx hb dL_isSeen_502 (lv_at hl 1 rfl) ?_
                                refine lw_add hx hb (i := x) (j := k) dL_isSeen_504 ?_
                                refine lv_bipush (v := 8) hx hb dL_isSeen_505 (by decide) ?_
                                refine lw_remN hx hb (i := (x + k)) (j := 8) (by omega) (by omega) (by omega) dL_isSeen_507 ?_
                                refine lv_istore (lv' := [(19, .int (nI ((x + k) % 8))), (18, .int 2), (17, .int (nI k)), (16, .int 1), (15, .int (nI ((x / 5) % 12))), (13, .int (nI (x % 5))), (12, .ref (q 10)), (11, .ref (q 9)), (10, .ref (q 8)), (0, .ref (u 30)), (1, .ref (q 0)), (2, .ref (q 1)), (3, .ref (q 2)), (4, .ref (q 3)), (5, .ref (q 4)), (6, .ref (q 5)), (7, .ref (q 6)), (8, .ref (q 7)), (9, .int (nI x))]) hx hb dL_isSeen_508 hl (by decide) rfl (fun ls hl => ?_)
                                refine lv_aload_n hx hb dL_isSeen_510 rfl (lv_at hl 9 rfl) ?_
                                refine lv_iload hx hb dL_isSeen_511 (lv_at hl 5 rfl) ?_
                                refine lv_iload hx hb dL_isSeen_513 (lv_at hl 2 rfl) ?_
                                refine ix_ask (val := stI G1 k) F hK hX hfr hA hC R9 hS [.int (nI (x % 5)), .int (nI k)] (sm_eq (os_cake R9 hL1 (by omega) (k := k) (by omega)) (sm_cake hfl (nI (x % 5)) (nI k))) (cwV 2 F.2.2.2.2 gvL_isSeen_X3_cake rfl rfl rfl (by decide +kernel) ⟨Nat.le_of_ble_eq_true rfl, Nat.le_of_ble_eq_true rfl⟩) rfl hl.1 rfl (lv_room (Nat.le_of_ble_eq_true rfl)) ⟨by show _ ≤ 400; omega, by show _ ≤ 2600; omega⟩ dL_isSeen_515 (fun H locs hA hC hS => ?_)
                                refine lv_iload hx hb dL_isSeen_518 (lv_at hl 1 rfl) ?_
                                refine lv_icmp_ne (tgt := 646) hx hb dL_isSeen_520 (by decide) (fun z9 => absurd (hst9) z9) (fun _ => ?_)
                                refine lv_aload_n hx hb dL_isSeen_523 rfl (lv_at hl 9 rfl) ?_
                                refine lv_iload hx hb dL_isSeen_524 (lv_at hl 5 rfl) ?_
                                refine lv_iload hx hb dL_isSeen_526 (lv_at hl 2 rfl) ?_
                                refine lv_iload hx hb dL_isSeen_528 (lv_at hl 0 rfl) ?_
                                refine ix_ask (val := lLk G1 cm rc k ((x + k) % 8)) F hK hX hfr hA hC R9 hS [.int (nI (x % 5)), .int (nI k), .int (nI ((x + k) % 8))] (sm_eq (os_lacks R9 hL1 (by omega) (k := k) (fo := ((x + k) % 8)) (by omega) hrc6 hrc (by omega)) (sm_lacks hfl (nI (x % 5)) (nI k) (nI ((x + k) % 8)))) (cwV 3 F.2.2.2.2 gvL_isSeen_X3_lacks rfl rfl rfl (by decide +kernel) ⟨Nat.le_of_ble_eq_true rfl, Nat.le_of_ble_eq_true rfl⟩) rfl hl.1 rfl (lv_room (Nat.le_of_ble_eq_true rfl)) ⟨by show _ ≤ 400; omega, by show _ ≤ 2600; omega⟩ dL_isSeen_530 (fun H locs hA hC hS => ?_)
                                refine lv_aload_n hx hb dL_isSeen_533 rfl (lv_at hl 10 rfl) ?_
                                refine lv_aload hx hb dL_isSeen_534 (lv_at hl 14 rfl) ?_
                                refine lv_aload hx hb dL_isSeen_536 (lv_at hl 16 rfl) ?_
                                refine lv_aload hx hb dL_isSeen_538 (lv_at hl 17 rfl) ?_
                                refine lv_aload hx hb dL_isSeen_540 (lv_at hl 8 rfl) ?_
                                refine lv_aload hx hb dL_isSeen_542 (lv_at hl 7 rfl) ?_
                                refine lv_aload hx hb dL_isSeen_544 (lv_at hl 6 rfl) ?_
                                refine lv_iload hx hb dL_isSeen_546 (lv_at hl 2 rfl) ?_
                                refine lv_iload hx hb dL_isSeen_548 (lv_at hl 0 rfl) ?_
                                refine ro_callS F hK [.ref (q 0), .ref (q 4), .ref (q 6), .ref (q 7), .ref (q 8), .ref (q 9), .ref (q 10), .int (nI k), .int (nI ((x + k) % 8))] (lc_lacks (cm := cm) (rc := rc) hA k ((x + k) % 8) hf1 hcm hgo (by omega) (by omega) hrc hrc6) (va_cwS 9 F.2.2.2.2 gvL_isSeen_L_lacks rfl rfl rfl (by decide +kernel) ⟨Nat.le_of_ble_eq_true rfl, Nat.le_of_ble_eq_true rfl⟩) rfl hl.1 rfl (lv_room (Nat.le_of_ble_eq_true rfl)) ⟨by show _ ≤ 400; omega, by show _ ≤ 2600; omega⟩ dL_isSeen_550 ?_
                                refine lv_icmp_ne (tgt := 646) hx hb dL_isSeen_553 (by decide) (fun z9 => absurd (rfl) z9) (fun _ => ?_)
                                refine lv_aload_n hx hb dL_isSeen_556 rfl (lv_at hl 9 rfl) ?_
                                refine lv_iload hx hb dL_isSeen_557 (lv_at hl 5 rfl) ?_
                                refine lv_iload hx hb dL_isSeen_559 (lv_at hl 2 rfl) ?_
                                refine ix_ask (val := bI (decide (stI G1 k = 1) && lDl G1 rc (G1 7 (2 * k + 1)))) F hK hX hfr hA hC R9 hS [.int (nI (x % 5)), .int (nI k)] (sm_eq (os_isUnfit R9 hL1 (by omega) (k := k) (by omega) hrc6 hrc) (sm_isUnfit hfl (nI (x % 5)) (nI k))) (cwV 2 F.2.2.2.2 gvL_isSeen_X3_isUnfit rfl rfl rfl (by decide +kernel) ⟨Nat.le_of_ble_eq_true rfl, Nat.le_of_ble_eq_true rfl⟩) rfl hl.1 rfl (lv_room (Nat.le_of_ble_eq_true rfl)) ⟨by show _ ≤ 400; omega, by show _ ≤ 2600; omega⟩ dL_isSeen_561 (fun H locs hA hC hS => ?_)
                                refine lv_iload hx hb dL_isSeen_564 (lv_at hl 1 rfl) ?_
                                refine lv_iconst (v := 1) hx hb dL_isSeen_566 (by decide) ?_
                                refine lv_icmp_ne (tgt := 602) hx hb dL_isSeen_567 (by decide) (fun _ => ?_) (fun z9 => absurd z9 (by decide))
                                refine lv_iconst (v := 0) hx hb dL_isSeen_602 (by decide) ?_
                                refine lv_icmp_ne (tgt := 646) hx hb dL_isSeen_603 (by decide) (fun z9 => absurd (by rw [hst9]; first | rfl | simp [bI, c_2, mc_2, c_4, mc_4, c_6, mc_6, c_8, mc_8, c_14, c_15, c_16]) z9) (fun _ => ?_)
                                refine lv_aload_n hx hb dL_isSeen_606 rfl (lv_at hl 9 rfl) ?_
                                refine lv_iload hx hb dL_isSeen_607 (lv_at hl 5 rfl) ?_
                                refine lv_iload hx hb dL_isSeen_609 (lv_at hl 2 rfl) ?_
                                refine ix_ask (val := bI (decide (stI G1 k = 3) && decide ((G1 10 11 >>> (nI k &&& 31)) &&& 1 = 1))) F hK hX hfr hA hC R9 hS [.int (nI (x % 5)), .int (nI k)] (sm_eq (os_isSpoilt R9 hL1 (by omega) (k := k) (by omega)) (sm_isSpoilt hfl (nI (x % 5)) (nI k))) (cwV 2 F.2.2.2.2 gvL_isSeen_X3_isSpoilt rfl rfl rfl (by decide +kernel) ⟨Nat.le_of_ble_eq_true rfl, Nat.le_of_ble_eq_true rfl⟩) rfl hl.1 rfl (lv_room (Nat.le_of_ble_eq_true rfl)) ⟨by show _ ≤ 400; omega, by show _ ≤ 2600; omega⟩ dL_isSeen_611 (fun H locs hA hC hS => ?_)
                                refine lv_iload hx hb dL_isSeen_614 (lv_at hl 1 rfl) ?_
                                refine lv_iconst (v := 3) hx hb dL_isSeen_616 (by decide) ?_
                                refine lv_icmp_ne (tgt := 638) hx hb dL_isSeen_617 (by decide) (fun _ => ?_) (fun z9 => absurd z9 (by decide))
                                refine lv_iconst (v := 0) hx hb dL_isSeen_638 (by decide) ?_
                                refine lv_icmp_ne (tgt := 646) hx hb dL_isSeen_639 (by decide) (fun z9 => absurd (by rw [hst9]; first | rfl | simp [bI, c_2, mc_2, c_4, mc_4, c_6, mc_6, c_8, mc_8, c_14, c_15, c_16]) z9) (fun _ => ?_)
                                refine lv_iconst (v := 1) hx hb dL_isSeen_642 (by decide) ?_
                                refine lv_goto (tgt := 647) hx hb dL_isSeen_643 (by decide) ?_
                                refine lv_istore (lv' := [(16, .int 1), (19, .int (nI ((x + k) % 8))), (18, .int 2), (17, .int (nI k)), (15, .int (nI ((x / 5) % 12))), (13, .int (nI (x % 5))), (12, .ref (q 10)), (11, .ref (q 9)), (10, .ref (q 8)), (0, .ref (u 30)), (1, .ref (q 0)), (2, .ref (q 1)), (3, .ref (q 2)), (4, .ref (q 3)), (5, .ref (q 4)), (6, .ref (q 5)), (7, .ref (q 6)), (8, .ref (q 7)), (9, .int (nI x))]) hx hb dL_isSeen_647 hl (by decide) rfl (fun ls hl => ?_)
                                refine lv_iinc (v := nI (k + 1)) (lv' := [(17, .int (nI (k + 1))), (16, .int 1), (19, .int (nI ((x + k) % 8))), (18, .int 2), (15, .int (nI ((x / 5) % 12))), (13, .int (nI (x % 5))), (12, .ref (q 10)), (11, .ref (q 9)), (10, .ref (q 8)), (0, .ref (u 30)), (1, .ref (q 0)), (2, .ref (q 1)), (3, .ref (q 2)), (4, .ref (q 3)), (5, .ref (q 4)), (6, .ref (q 5)), (7, .ref (q 6)), (8, .ref (q 7)), (9, .int (nI x))]) hx hb dL_isSeen_649 hl (k := 3) rfl (show nI k + Int32.ofInt 1 = _ from nI_add k 1) (by decide) rfl (fun ls hl => ?_)
                                refine lv_goto (tgt := 431) hx hb dL_isSeen_652 (by decide) ?_
                                exact ihu_7  (k + 1) _ _ (cel + 2 + 3 + 2 + 2) (slo + 12 + 18 + 12 + 12) ls (by omega) (by first | omega | assumption) hA hC hS (by omega) (by omega) (lv_sub hl [0, 1, 4, 5, 6, 7, 8, 9, 10, 11, 12, 13, 14, 15, 16, 17, 18] rfl)
                            · skip
                              refine lv_iconst (v := 3) hx hb dL_isSeen_475 (by decide) ?_
                              refine lv_goto (tgt := 498) hx hb dL_isSeen_476 (by decide) ?_
                              have hst9 : stI G1 k = 3 := stI_3 (by omega) c_15
                              refine lv_istore (lv' := [(18, .int 3), (17, .int (nI k)), (16, .int 1), (15, .int (nI ((x / 5) % 12))), (13, .int (nI (x % 5))), (12, .ref (q 10)), (11, .ref (q 9)), (10, .ref (q 8)), (0, .ref (u 30)), (1, .ref (q 0)), (2, .ref (q 1)), (3, .ref (q 2)), (4, .ref (q 3)), (5, .ref (q 4)), (6, .ref (q 5)), (7, .ref (q 6)), (8, .ref (q 7)), (9, .int (nI x))]) hx hb dL_isSeen_498 hl (by decide) rfl (fun ls hl => ?_)
                              refine lv_iload hx hb dL_isSeen_500 (lv_at hl 17 rfl) ?_
                              refine lv_iload hx hb dL_isSeen_502 (lv_at hl 1 rfl) ?_
                              refine lw_add hx hb (i := x) (j := k) dL_isSeen_504 ?_
                              refine lv_bipush (v := 8) hx hb dL_isSeen_505 (by decide) ?_
                              refine lw_remN hx hb (i := (x + k)) (j := 8) (by omega) (by omega) (by omega) dL_isSeen_507 ?_
                              refine lv_istore (lv' := [(19, .int (nI ((x + k) % 8))), (18, .int 3), (17, .int (nI k)), (16, .int 1), (15, .int (nI ((x / 5) % 12))), (13, .int (nI (x % 5))), (12, .ref (q 10)), (11, .ref (q 9)), (10, .ref (q 8)), (0, .ref (u 30)), (1, .ref (q 0)), (2, .ref (q 1)), (3, .ref (q 2)), (4, .ref (q 3)), (5, .ref (q 4)), (6, .ref (q 5)), (7, .ref (q 6)), (8, .ref (q 7)), (9, .int (nI x))]) hx hb dL_isSeen_508 hl (by decide) rfl (fun ls hl => ?_)
                              refine lv_aload_n hx hb dL_isSeen_510 rfl (lv_at hl 9 rfl) ?_
                              refine lv_iload hx hb dL_isSeen_511 (lv_at hl 5 rfl) ?_
                              refine lv_iload hx hb dL_isSeen_513 (lv_at hl 2 rfl) ?_
                              refine ix_ask (val := stI G1 k) F hK hX hfr hA hC R9 hS [.int (nI (x % 5)), .int (nI k)] (sm_eq (os_cake R9 hL1 (by omega) (k := k) (by omega)) (sm_cake hfl (nI (x % 5)) (nI k))) (cwV 2 F.2.2.2.2 gvL_isSeen_X3_cake rfl rfl rfl (by decide +kernel) ⟨Nat.le_of_ble_eq_true rfl, Nat.le_of_ble_eq_true rfl⟩) rfl hl.1 rfl (lv_room (Nat.le_of_ble_eq_true rfl)) ⟨by show _ ≤ 400; omega, by show _ ≤ 2600; omega⟩ dL_isSeen_515 (fun H locs hA hC hS => ?_)
                              refine lv_iload hx hb dL_isSeen_518 (lv_at hl 1 rfl) ?_
                              refine lv_icmp_ne (tgt := 646) hx hb dL_isSeen_520 (by decide) (fun z9 => absurd (hst9) z9) (fun _ => ?_)
                              refine lv_aload_n hx hb dL_isSeen_523 rfl (lv_at hl 9 rfl) ?_
                              refine lv_iload hx hb dL_isSeen_524 (lv_at hl 5 rfl) ?_
                              refine lv_iload hx hb dL_isSeen_526 (lv_at hl 2 rfl) ?_
                              refine lv_iload hx hb dL_isSeen_528 (lv_at hl 0 rfl) ?_
                              refine ix_ask (val := lLk G1 cm rc k ((x + k) % 8)) F hK hX hfr hA hC R9 hS [.int (nI (x % 5)), .int (nI k), .int (nI ((x + k) % 8))] (sm_eq (os_lacks R9 hL1 (by omega) (k := k) (fo := ((x + k) % 8)) (by omega) hrc6 hrc (by omega)) (sm_lacks hfl (nI (x % 5)) (nI k) (nI ((x + k) % 8)))) (cwV 3 F.2.2.2.2 gvL_isSeen_X3_lacks rfl rfl rfl (by decide +kernel) ⟨Nat.le_of_ble_eq_true rfl, Nat.le_of_ble_eq_true rfl⟩) rfl hl.1 rfl (lv_room (Nat.le_of_ble_eq_true rfl)) ⟨by show _ ≤ 400; omega, by show _ ≤ 2600; omega⟩ dL_isSeen_530 (fun H locs hA hC hS => ?_)
                              refine lv_aload_n hx hb dL_isSeen_533 rfl (lv_at hl 10 rfl) ?_
                              refine lv_aload hx hb dL_isSeen_534 (lv_at hl 14 rfl) ?_
                              refine lv_aload hx hb dL_isSeen_536 (lv_at hl 16 rfl) ?_
                              refine lv_aload hx hb dL_isSeen_538 (lv_at hl 17 rfl) ?_
                              refine lv_aload hx hb dL_isSeen_540 (lv_at hl 8 rfl) ?_
                              refine lv_aload hx hb dL_isSeen_542 (lv_at hl 7 rfl) ?_
                              refine lv_aload hx hb dL_isSeen_544 (lv_at hl 6 rfl) ?_
                              refine lv_iload hx hb dL_isSeen_546 (lv_at hl 2 rfl) ?_
                              refine lv_iload hx hb dL_isSeen_548 (lv_at hl 0 rfl) ?_
                              refine ro_callS F hK [.ref (q 0), .ref (q 4), .ref (q 6), .ref (q 7), .ref (q 8), .ref (q 9), .ref (q 10), .int (nI k), .int (nI ((x + k) % 8))] (lc_lacks (cm := cm) (rc := rc) hA k ((x + k) % 8) hf1 hcm hgo (by omega) (by omega) hrc hrc6) (va_cwS 9 F.2.2.2.2 gvL_isSeen_L_lacks rfl rfl rfl (by decide +kernel) ⟨Nat.le_of_ble_eq_true rfl, Nat.le_of_ble_eq_true rfl⟩) rfl hl.1 rfl (lv_room (Nat.le_of_ble_eq_true rfl)) ⟨by show _ ≤ 400; omega, by show _ ≤ 2600; omega⟩ dL_isSeen_550 ?_
                              refine lv_icmp_ne (tgt := 646) hx hb dL_isSeen_553 (by decide) (fun z9 => absurd (rfl) z9) (fun _ => ?_)
                              refine lv_aload_n hx hb dL_isSeen_556 rfl (lv_at hl 9 rfl) ?_
                              refine lv_iload hx hb dL_isSeen_557 (lv_at hl 5 rfl) ?_
                              refine lv_iload hx hb dL_isSeen_559 (lv_at hl 2 rfl) ?_
                              refine ix_ask (val := bI (decide (stI G1 k = 1) && lDl G1 rc (G1 7 (2 * k + 1)))) F hK hX hfr hA hC R9 hS [.int (nI (x % 5)), .int (nI k)] (sm_eq (os_isUnfit R9 hL1 (by omega) (k := k) (by omega) hrc6 hrc) (sm_isUnfit hfl (nI (x % 5)) (nI k))) (cwV 2 F.2.2.2.2 gvL_isSeen_X3_isUnfit rfl rfl rfl (by decide +kernel) ⟨Nat.le_of_ble_eq_true rfl, Nat.le_of_ble_eq_true rfl⟩) rfl hl.1 rfl (lv_room (Nat.le_of_ble_eq_true rfl)) ⟨by show _ ≤ 400; omega, by show _ ≤ 2600; omega⟩ dL_isSeen_561 (fun H locs hA hC hS => ?_)
                              refine lv_iload hx hb dL_isSeen_564 (lv_at hl 1 rfl) ?_
                              refine lv_iconst (v := 1) hx hb dL_isSeen_566 (by decide) ?_
                              refine lv_icmp_ne (tgt := 602) hx hb dL_isSeen_567 (by decide) (fun _ => ?_) (fun z9 => absurd z9 (by decide))
                              refine lv_iconst (v := 0) hx hb dL_isSeen_602 (by decide) ?_
                              refine lv_icmp_ne (tgt := 646) hx hb dL_isSeen_603 (by decide) (fun z9 => absurd (by rw [hst9]; first | rfl | simp [bI, c_2, mc_2, c_4, mc_4, c_6, mc_6, c_8, mc_8, c_14, c_15]) z9) (fun _ => ?_)
                              refine lv_aload_n hx hb dL_isSeen_606 rfl (lv_at hl 9 rfl) ?_
                              refine lv_iload hx hb dL_isSeen_607 (lv_at hl 5 rfl) ?_
                              refine lv_iload hx hb dL_isSeen_609 (lv_at hl 2 rfl) ?_
                              refine ix_ask (val := bI (decide (stI G1 k = 3) && decide ((G1 10 11 >>> (nI k &&& 31)) &&& 1 = 1))) F hK hX hfr hA hC R9 hS [.int (nI (x % 5)), .int (nI k)] (sm_eq (os_isSpoilt R9 hL1 (by omega) (k := k) (by omega)) (sm_isSpoilt hfl (nI (x % 5)) (nI k))) (cwV 2 F.2.2.2.2 gvL_isSeen_X3_isSpoilt rfl rfl rfl (by decide +kernel) ⟨Nat.le_of_ble_eq_true rfl, Nat.le_of_ble_eq_true rfl⟩) rfl hl.1 rfl (lv_room (Nat.le_of_ble_eq_true rfl)) ⟨by show _ ≤ 400; omega, by show _ ≤ 2600; omega⟩ dL_isSeen_611 (fun H locs hA hC hS => ?_)
                              refine lv_iload hx hb dL_isSeen_614 (lv_at hl 1 rfl) ?_
                              refine lv_iconst (v := 3) hx hb dL_isSeen_616 (by decide) ?_
                              refine lv_icmp_ne (tgt := 638) hx hb dL_isSeen_617 (by decide) (fun z9 => absurd z9 (by decide)) (fun _ => ?_)
                              refine lv_aload hx hb dL_isSeen_620 (lv_at hl 6 rfl) ?_
                              refine lv_bipush (v := 11) hx hb dL_isSeen_622 (by decide) ?_
                              refine cg_ald F hK hA 10 40 rfl 11 rfl (by omega) (by decide) dL_isSeen_624 ?_
                              refine lv_iload hx hb dL_isSeen_625 (lv_at hl 2 rfl) ?_
                              refine lv_ishr hx hb dL_isSeen_627 ?_
                              refine lv_iconst (v := 1) hx hb dL_isSeen_628 (by decide) ?_
                              refine lv_iand hx hb dL_isSeen_629 ?_
                              refine lv_iconst (v := 1) hx hb dL_isSeen_630 (by decide) ?_
                              refine lv_icmp_ne (tgt := 638) hx hb dL_isSeen_631 (by decide) (fun c_18 => ?_) (fun c_18 => ?_)
                              · skip
                                refine lv_iconst (v := 0) hx hb dL_isSeen_638 (by decide) ?_
                                refine lv_icmp_ne (tgt := 646) hx hb dL_isSeen_639 (by decide) (fun z9 => absurd (by rw [hst9]; first | rfl | simp [bI, c_2, mc_2, c_4, mc_4, c_6, mc_6, c_8, mc_8, c_14, c_15, c_18]) z9) (fun _ => ?_)
                                refine lv_iconst (v := 1) hx hb dL_isSeen_642 (by decide) ?_
                                refine lv_goto (tgt := 647) hx hb dL_isSeen_643 (by decide) ?_
                                refine lv_istore (lv' := [(16, .int 1), (19, .int (nI ((x + k) % 8))), (18, .int 3), (17, .int (nI k)), (15, .int (nI ((x / 5) % 12))), (13, .int (nI (x % 5))), (12, .ref (q 10)), (11, .ref (q 9)), (10, .ref (q 8)), (0, .ref (u 30)), (1, .ref (q 0)), (2, .ref (q 1)), (3, .ref (q 2)), (4, .ref (q 3)), (5, .ref (q 4)), (6, .ref (q 5)), (7, .ref (q 6)), (8, .ref (q 7)), (9, .int (nI x))]) hx hb dL_isSeen_647 hl (by decide) rfl (fun ls hl => ?_)
                                refine lv_iinc (v := nI (k + 1)) (lv' := [(17, .int (nI (k + 1))), (16, .int 1), (19, .int (nI ((x + k) % 8))), (18, .int 3), (15, .int (nI ((x / 5) % 12))), (13, .int (nI (x % 5))), (12, .ref (q 10)), (11, .ref (q 9)), (10, .ref (q 8)), (0, .ref (u 30)), (1, .ref (q 0)), (2, .ref (q 1)), (3, .ref (q 2)), (4, .ref (q 3)), (5, .ref (q 4)), (6, .ref (q 5)), (7, .ref (q 6)), (8, .ref (q 7)), (9, .int (nI x))]) hx hb dL_isSeen_649 hl (k := 3) rfl (show nI k + Int32.ofInt 1 = _ from nI_add k 1) (by decide) rfl (fun ls hl => ?_)
                                refine lv_goto (tgt := 431) hx hb dL_isSeen_652 (by decide) ?_
                                exact ihu_7  (k + 1) _ _ (cel + 2 + 3 + 2 + 2) (slo + 12 + 18 + 12 + 12) ls (by omega) (by first | omega | assumption) hA hC hS (by omega) (by omega) (lv_sub hl [0, 1, 4, 5, 6, 7, 8, 9, 10, 11, 12, 13, 14, 15, 16, 17, 18] rfl)
                              · skip
                                refine lv_iconst (v := 1) hx hb dL_isSeen_634 (by decide) ?_
                                refine lv_goto (tgt := 639) hx hb dL_isSeen_635 (by decide) ?_
                                refine lv_icmp_ne (tgt := 646) hx hb dL_isSeen_639 (by decide) (fun z9 => absurd (by rw [hst9]; first | rfl | simp [bI, c_2, mc_2, c_4, mc_4, c_6, mc_6, c_8, mc_8, c_14, c_15, c_18]) z9) (fun _ => ?_)
                                refine lv_iconst (v := 1) hx hb dL_isSeen_642 (by decide) ?_
                                refine lv_goto (tgt := 647) hx hb dL_isSeen_643 (by decide) ?_
                                refine lv_istore (lv' := [(16, .int 1), (19, .int (nI ((x + k) % 8))), (18, .int 3), (17, .int (nI k)), (15, .int (nI ((x / 5) % 12))), (13, .int (nI (x % 5))), (12, .ref (q 10)), (11, .ref (q 9)), (10, .ref (q 8)), (0, .ref (u 30)), (1, .ref (q 0)), (2, .ref (q 1)), (3, .ref (q 2)), (4, .ref (q 3)), (5, .ref (q 4)), (6, .ref (q 5)), (7, .ref (q 6)), (8, .ref (q 7)), (9, .int (nI x))]) hx hb dL_isSeen_647 hl (by decide) rfl (fun ls hl => ?_)
                                refine lv_iinc (v := nI (k + 1)) (lv' := [(17, .int (nI (k + 1))), (16, .int 1), (19, .int (nI ((x + k) % 8))), (18, .int 3), (15, .int (nI ((x / 5) % 12))), (13, .int (nI (x % 5))), (12, .ref (q 10)), (11, .ref (q 9)), (10, .ref (q 8)), (0, .ref (u 30)), (1, .ref (q 0)), (2, .ref (q 1)), (3, .ref (q 2)), (4, .ref (q 3)), (5, .ref (q 4)), (6, .ref (q 5)), (7, .ref (q 6)), (8, .ref (q 7)), (9, .int (nI x))]) hx hb dL_isSeen_649 hl (k := 3) rfl (show nI k + Int32.ofInt 1 = _ from nI_add k 1) (by decide) rfl (fun ls hl => ?_)
                                refine lv_goto (tgt := 431) hx hb dL_isSeen_652 (by decide) ?_
                                exact ihu_7  (k + 1) _ _ (cel + 2 + 3 + 2 + 2) (slo + 12 + 18 + 12 + 12) ls (by omega) (by first | omega | assumption) hA hC hS (by omega) (by omega) (lv_sub hl [0, 1, 4, 5, 6, 7, 8, 9, 10, 11, 12, 13, 14, 15, 16, 17, 18] rfl)
                          · skip
                            refine lv_iconst (v := 0) hx hb dL_isSeen_457 (by decide) ?_
                            refine lv_goto (tgt := 498) hx hb dL_isSeen_458 (by decide) ?_
                            have hst9 : stI G1 k = 0 := stI_0 hL1 (by omega) c_14
                            refine lv_istore (lv' := [(18, .int 0), (17, .int (nI k)), (16, .int 1), (15, .int (nI ((x / 5) % 12))), (13, .int (nI (x % 5))), (12, .ref (q 10)), (11, .ref (q 9)), (10, .ref (q 8)), (0, .ref (u 30)), (1, .ref (q 0)), (2, .ref (q 1)), (3, .ref (q 2)), (4, .ref (q 3)), (5, .ref (q 4)), (6, .ref (q 5)), (7, .ref (q 6)), (8, .ref (q 7)), (9, .int (nI x))]) hx hb dL_isSeen_498 hl (by decide) rfl (fun ls hl => ?_)
                            refine lv_iload hx hb dL_isSeen_500 (lv_at hl 17 rfl) ?_
                            refine lv_iload hx hb dL_isSeen_502 (lv_at hl 1 rfl) ?_
                            refine lw_add hx hb (i := x) (j := k) dL_isSeen_504 ?_
                            refine lv_bipush (v := 8) hx hb dL_isSeen_505 (by decide) ?_
                            refine lw_remN hx hb (i := (x + k)) (j := 8) (by omega) (by omega) (by omega) dL_isSeen_507 ?_
                            refine lv_istore (lv' := [(19, .int (nI ((x + k) % 8))), (18, .int 0), (17, .int (nI k)), (16, .int 1), (15, .int (nI ((x / 5) % 12))), (13, .int (nI (x % 5))), (12, .ref (q 10)), (11, .ref (q 9)), (10, .ref (q 8)), (0, .ref (u 30)), (1, .ref (q 0)), (2, .ref (q 1)), (3, .ref (q 2)), (4, .ref (q 3)), (5, .ref (q 4)), (6, .ref (q 5)), (7, .ref (q 6)), (8, .ref (q 7)), (9, .int (nI x))]) hx hb dL_isSeen_508 hl (by decide) rfl (fun ls hl => ?_)
                            refine lv_aload_n hx hb dL_isSeen_510 rfl (lv_at hl 9 rfl) ?_
                            refine lv_iload hx hb dL_isSeen_511 (lv_at hl 5 rfl) ?_
                            refine lv_iload hx hb dL_isSeen_513 (lv_at hl 2 rfl) ?_
                            refine ix_ask (val := stI G1 k) F hK hX hfr hA hC R9 hS [.int (nI (x % 5)), .int (nI k)] (sm_eq (os_cake R9 hL1 (by omega) (k := k) (by omega)) (sm_cake hfl (nI (x % 5)) (nI k))) (cwV 2 F.2.2.2.2 gvL_isSeen_X3_cake rfl rfl rfl (by decide +kernel) ⟨Nat.le_of_ble_eq_true rfl, Nat.le_of_ble_eq_true rfl⟩) rfl hl.1 rfl (lv_room (Nat.le_of_ble_eq_true rfl)) ⟨by show _ ≤ 400; omega, by show _ ≤ 2600; omega⟩ dL_isSeen_515 (fun H locs hA hC hS => ?_)
                            refine lv_iload hx hb dL_isSeen_518 (lv_at hl 1 rfl) ?_
                            refine lv_icmp_ne (tgt := 646) hx hb dL_isSeen_520 (by decide) (fun z9 => absurd (hst9) z9) (fun _ => ?_)
                            refine lv_aload_n hx hb dL_isSeen_523 rfl (lv_at hl 9 rfl) ?_
                            refine lv_iload hx hb dL_isSeen_524 (lv_at hl 5 rfl) ?_
                            refine lv_iload hx hb dL_isSeen_526 (lv_at hl 2 rfl) ?_
                            refine lv_iload hx hb dL_isSeen_528 (lv_at hl 0 rfl) ?_
                            refine ix_ask (val := lLk G1 cm rc k ((x + k) % 8)) F hK hX hfr hA hC R9 hS [.int (nI (x % 5)), .int (nI k), .int (nI ((x + k) % 8))] (sm_eq (os_lacks R9 hL1 (by omega) (k := k) (fo := ((x + k) % 8)) (by omega) hrc6 hrc (by omega)) (sm_lacks hfl (nI (x % 5)) (nI k) (nI ((x + k) % 8)))) (cwV 3 F.2.2.2.2 gvL_isSeen_X3_lacks rfl rfl rfl (by decide +kernel) ⟨Nat.le_of_ble_eq_true rfl, Nat.le_of_ble_eq_true rfl⟩) rfl hl.1 rfl (lv_room (Nat.le_of_ble_eq_true rfl)) ⟨by show _ ≤ 400; omega, by show _ ≤ 2600; omega⟩ dL_isSeen_530 (fun H locs hA hC hS => ?_)
                            refine lv_aload_n hx hb dL_isSeen_533 rfl (lv_at hl 10 rfl) ?_
                            refine lv_aload hx hb dL_isSeen_534 (lv_at hl 14 rfl) ?_
                            refine lv_aload hx hb dL_isSeen_536 (lv_at hl 16 rfl) ?_
                            refine lv_aload hx hb dL_isSeen_538 (lv_at hl 17 rfl) ?_
                            refine lv_aload hx hb dL_isSeen_540 (lv_at hl 8 rfl) ?_
                            refine lv_aload hx hb dL_isSeen_542 (lv_at hl 7 rfl) ?_
                            refine lv_aload hx hb dL_isSeen_544 (lv_at hl 6 rfl) ?_
                            refine lv_iload hx hb dL_isSeen_546 (lv_at hl 2 rfl) ?_
                            refine lv_iload hx hb dL_isSeen_548 (lv_at hl 0 rfl) ?_
                            refine ro_callS F hK [.ref (q 0), .ref (q 4), .ref (q 6), .ref (q 7), .ref (q 8), .ref (q 9), .ref (q 10), .int (nI k), .int (nI ((x + k) % 8))] (lc_lacks (cm := cm) (rc := rc) hA k ((x + k) % 8) hf1 hcm hgo (by omega) (by omega) hrc hrc6) (va_cwS 9 F.2.2.2.2 gvL_isSeen_L_lacks rfl rfl rfl (by decide +kernel) ⟨Nat.le_of_ble_eq_true rfl, Nat.le_of_ble_eq_true rfl⟩) rfl hl.1 rfl (lv_room (Nat.le_of_ble_eq_true rfl)) ⟨by show _ ≤ 400; omega, by show _ ≤ 2600; omega⟩ dL_isSeen_550 ?_
                            refine lv_icmp_ne (tgt := 646) hx hb dL_isSeen_553 (by decide) (fun z9 => absurd (rfl) z9) (fun _ => ?_)
                            refine lv_aload_n hx hb dL_isSeen_556 rfl (lv_at hl 9 rfl) ?_
                            refine lv_iload hx hb dL_isSeen_557 (lv_at hl 5 rfl) ?_
                            refine lv_iload hx hb dL_isSeen_559 (lv_at hl 2 rfl) ?_
                            refine ix_ask (val := bI (decide (stI G1 k = 1) && lDl G1 rc (G1 7 (2 * k + 1)))) F hK hX hfr hA hC R9 hS [.int (nI (x % 5)), .int (nI k)] (sm_eq (os_isUnfit R9 hL1 (by omega) (k := k) (by omega) hrc6 hrc) (sm_isUnfit hfl (nI (x % 5)) (nI k))) (cwV 2 F.2.2.2.2 gvL_isSeen_X3_isUnfit rfl rfl rfl (by decide +kernel) ⟨Nat.le_of_ble_eq_true rfl, Nat.le_of_ble_eq_true rfl⟩) rfl hl.1 rfl (lv_room (Nat.le_of_ble_eq_true rfl)) ⟨by show _ ≤ 400; omega, by show _ ≤ 2600; omega⟩ dL_isSeen_561 (fun H locs hA hC hS => ?_)
                            refine lv_iload hx hb dL_isSeen_564 (lv_at hl 1 rfl) ?_
                            refine lv_iconst (v := 1) hx hb dL_isSeen_566 (by decide) ?_
                            refine lv_icmp_ne (tgt := 602) hx hb dL_isSeen_567 (by decide) (fun _ => ?_) (fun z9 => absurd z9 (by decide))
                            refine lv_iconst (v := 0) hx hb dL_isSeen_602 (by decide) ?_
                            refine lv_icmp_ne (tgt := 646) hx hb dL_isSeen_603 (by decide) (fun z9 => absurd (by rw [hst9]; first | rfl | simp [bI, c_2, mc_2, c_4, mc_4, c_6, mc_6, c_8, mc_8, c_14]) z9) (fun _ => ?_)
                            refine lv_aload_n hx hb dL_isSeen_606 rfl (lv_at hl 9 rfl) ?_
                            refine lv_iload hx hb dL_isSeen_607 (lv_at hl 5 rfl) ?_
                            refine lv_iload hx hb dL_isSeen_609 (lv_at hl 2 rfl) ?_
                            refine ix_ask (val := bI (decide (stI G1 k = 3) && decide ((G1 10 11 >>> (nI k &&& 31)) &&& 1 = 1))) F hK hX hfr hA hC R9 hS [.int (nI (x % 5)), .int (nI k)] (sm_eq (os_isSpoilt R9 hL1 (by omega) (k := k) (by omega)) (sm_isSpoilt hfl (nI (x % 5)) (nI k))) (cwV 2 F.2.2.2.2 gvL_isSeen_X3_isSpoilt rfl rfl rfl (by decide +kernel) ⟨Nat.le_of_ble_eq_true rfl, Nat.le_of_ble_eq_true rfl⟩) rfl hl.1 rfl (lv_room (Nat.le_of_ble_eq_true rfl)) ⟨by show _ ≤ 400; omega, by show _ ≤ 2600; omega⟩ dL_isSeen_611 (fun H locs hA hC hS => ?_)
                            refine lv_iload hx hb dL_isSeen_614 (lv_at hl 1 rfl) ?_
                            refine lv_iconst (v := 3) hx hb dL_isSeen_616 (by decide) ?_
                            refine lv_icmp_ne (tgt := 638) hx hb dL_isSeen_617 (by decide) (fun _ => ?_) (fun z9 => absurd z9 (by decide))
                            refine lv_iconst (v := 0) hx hb dL_isSeen_638 (by decide) ?_
                            refine lv_icmp_ne (tgt := 646) hx hb dL_isSeen_639 (by decide) (fun z9 => absurd (by rw [hst9]; first | rfl | simp [bI, c_2, mc_2, c_4, mc_4, c_6, mc_6, c_8, mc_8, c_14]) z9) (fun _ => ?_)
                            refine lv_iconst (v := 1) hx hb dL_isSeen_642 (by decide) ?_
                            refine lv_goto (tgt := 647) hx hb dL_isSeen_643 (by decide) ?_
                            refine lv_istore (lv' := [(16, .int 1), (19, .int (nI ((x + k) % 8))), (18, .int 0), (17, .int (nI k)), (15, .int (nI ((x / 5) % 12))), (13, .int (nI (x % 5))), (12, .ref (q 10)), (11, .ref (q 9)), (10, .ref (q 8)), (0, .ref (u 30)), (1, .ref (q 0)), (2, .ref (q 1)), (3, .ref (q 2)), (4, .ref (q 3)), (5, .ref (q 4)), (6, .ref (q 5)), (7, .ref (q 6)), (8, .ref (q 7)), (9, .int (nI x))]) hx hb dL_isSeen_647 hl (by decide) rfl (fun ls hl => ?_)
                            refine lv_iinc (v := nI (k + 1)) (lv' := [(17, .int (nI (k + 1))), (16, .int 1), (19, .int (nI ((x + k) % 8))), (18, .int 0), (15, .int (nI ((x / 5) % 12))), (13, .int (nI (x % 5))), (12, .ref (q 10)), (11, .ref (q 9)), (10, .ref (q 8)), (0, .ref (u 30)), (1, .ref (q 0)), (2, .ref (q 1)), (3, .ref (q 2)), (4, .ref (q 3)), (5, .ref (q 4)), (6, .ref (q 5)), (7, .ref (q 6)), (8, .ref (q 7)), (9, .int (nI x))]) hx hb dL_isSeen_649 hl (k := 3) rfl (show nI k + Int32.ofInt 1 = _ from nI_add k 1) (by decide) rfl (fun ls hl => ?_)
                            refine lv_goto (tgt := 431) hx hb dL_isSeen_652 (by decide) ?_
                            exact ihu_7  (k + 1) _ _ (cel + 2 + 3 + 2 + 2) (slo + 12 + 18 + 12 + 12) ls (by omega) (by first | omega | assumption) hA hC hS (by omega) (by omega) (lv_sub hl [0, 1, 4, 5, 6, 7, 8, 9, 10, 11, 12, 13, 14, 15, 16, 17, 18] rfl)
                    exact L431_u_7 _ 0 _ _ cel slo ls (Nat.lt_succ_self _) (by first | omega | assumption) hA hC hS (by omega) (by omega) (lv_sub hl [0, 1, 2, 3, 4, 5, 6, 7, 8, 9, 10, 11, 12, 13, 14, 15, 16] rfl)
                  · skip
                    have mc_6 : ¬ 8 ≤ fo := by omega
                    refine lv_iload hx hb dL_isSeen_277 (lv_at hl 1 rfl) ?_
                    refine lv_if_eq (tgt := 428) hx hb dL_isSeen_279 (by decide) (fun z9 => absurd z9 (by decide)) (fun _ => ?_)
                    refine lv_iconst (v := 0) hx hb dL_isSeen_282 (by decide) ?_
                    refine lv_istore (lv' := [(18, .int 0), (17, .int (nI fo)), (16, .int 1), (15, .int (nI ((x / 5) % 12))), (13, .int (nI (x % 5))), (12, .ref (q 10)), (11, .ref (q 9)), (10, .ref (q 8)), (0, .ref (u 30)), (1, .ref (q 0)), (2, .ref (q 1)), (3, .ref (q 2)), (4, .ref (q 3)), (5, .ref (q 4)), (6, .ref (q 5)), (7, .ref (q 6)), (8, .ref (q 7)), (9, .int (nI x))]) hx hb dL_isSeen_283 hl (by decide) rfl (fun ls hl => ?_)
                    refine lv_iconst (v := 0) hx hb dL_isSeen_285 (by decide) ?_
                    refine lv_istore (lv' := [(19, .int 0), (18, .int 0), (17, .int (nI fo)), (16, .int 1), (15, .int (nI ((x / 5) % 12))), (13, .int (nI (x % 5))), (12, .ref (q 10)), (11, .ref (q 9)), (10, .ref (q 8)), (0, .ref (u 30)), (1, .ref (q 0)), (2, .ref (q 1)), (3, .ref (q 2)), (4, .ref (q 3)), (5, .ref (q 4)), (6, .ref (q 5)), (7, .ref (q 6)), (8, .ref (q 7)), (9, .int (nI x))]) hx hb dL_isSeen_286 hl (by decide) rfl (fun ls hl => ?_)
                    refine lv_iload hx hb dL_isSeen_288 (lv_at hl 2 rfl) ?_
                    refine lv_istore (lv' := [(20, .int (nI fo)), (19, .int 0), (18, .int 0), (17, .int (nI fo)), (16, .int 1), (15, .int (nI ((x / 5) % 12))), (13, .int (nI (x % 5))), (12, .ref (q 10)), (11, .ref (q 9)), (10, .ref (q 8)), (0, .ref (u 30)), (1, .ref (q 0)), (2, .ref (q 1)), (3, .ref (q 2)), (4, .ref (q 3)), (5, .ref (q 4)), (6, .ref (q 5)), (7, .ref (q 6)), (8, .ref (q 7)), (9, .int (nI x))]) hx hb dL_isSeen_290 hl (by decide) rfl (fun ls hl => ?_)
                    have L292_u_19 : ∀ (k9u_19 : Nat) (y : Nat) (t : Nat) (i : Nat) (H : Heap) (locs : List Loc) (cel slo : Nat) (ls : Array Slot), 5 - i < k9u_19 → (i ≤ 5) → (t = fo + 8 * i) → (y = foldU (fun i y => if G1 8 (fo + 8 * i) ≤ 0 then y + 0 else y + 1) 0 i) → va_P D vwCl (lX q cI G1) H → sW D u cI cII (cG u L0 z0) (fun y => y ∈ lA q) cs H → va_S (cG u L0 z0) s.heap H locs → cel ≤ 247 + 4 * fo → slo ≤ 1584 + 24 * fo → lv_has ls 21 [(20, .int (nI t)), (18, .int (nI y)), (19, .int 0), (17, .int (nI fo)), (16, .int 1), (15, .int (nI ((x / 5) % 12))), (13, .int (nI (x % 5))), (12, .ref (q 10)), (11, .ref (q 9)), (10, .ref (q 8)), (0, .ref (u 30)), (1, .ref (q 0)), (2, .ref (q 1)), (3, .ref (q 2)), (4, .ref (q 3)), (5, .ref (q 4)), (6, .ref (q 5)), (7, .ref (q 6)), (8, .ref (q 7)), (9, .int (nI x))] → isW p l e9 164 s m args below meth c H locs cel slo D u cI cII z0 L0 cs (F0 m 292 ls []) := by
                      intro k9u_19
                      induction k9u_19 with
                      | zero => intro y t i H locs cel slo ls hk; exact absurd hk (Nat.not_lt_zero _)
                      | succ k9u_19 ihu_19 =>
                        intro y t i H locs cel slo ls hk hi ht hf hA hC hS hcel hslo hl
                        refine lv_iload hx hb dL_isSeen_292 (lv_at hl 0 rfl) ?_
                        refine lv_bipush (v := 40) hx hb dL_isSeen_294 (by decide) ?_
                        refine lw_ge (tgt := 323) hx hb t 40 (by omega) (by omega) dL_isSeen_296 (by decide) (fun c_20 => ?_) (fun c_20 => ?_)
                        · skip
                          have mc_20 : ¬ t < 40 := by omega
                          have hy8 : lCn G1 fo = y := by rw [hf, show i = 5 by omega]; rfl
                          refine lv_iconst (v := 0) hx hb dL_isSeen_323 (by decide) ?_
                          refine lv_istore (lv' := [(20, .int 0), (18, .int (nI y)), (19, .int 0), (17, .int (nI fo)), (16, .int 1), (15, .int (nI ((x / 5) % 12))), (13, .int (nI (x % 5))), (12, .ref (q 10)), (11, .ref (q 9)), (10, .ref (q 8)), (0, .ref (u 30)), (1, .ref (q 0)), (2, .ref (q 1)), (3, .ref (q 2)), (4, .ref (q 3)), (5, .ref (q 4)), (6, .ref (q 5)), (7, .ref (q 6)), (8, .ref (q 7)), (9, .int (nI x))]) hx hb dL_isSeen_324 hl (by decide) rfl (fun ls hl => ?_)
                          have L326_u_21 : ∀ (k9u_21 : Nat) (y2 : Int32) (k : Nat) (H : Heap) (locs : List Loc) (cel slo : Nat) (ls : Array Slot), cm - k < k9u_21 → (k ≤ cm) → (y2 = lNd G1 fo k) → va_P D vwCl (lX q cI G1) H → sW D u cI cII (cG u L0 z0) (fun y => y ∈ lA q) cs H → va_S (cG u L0 z0) s.heap H locs → cel ≤ 247 + 4 * fo → slo ≤ 1584 + 24 * fo → lv_has ls 21 [(20, .int (nI k)), (19, .int y2), (18, .int (nI y)), (17, .int (nI fo)), (16, .int 1), (15, .int (nI ((x / 5) % 12))), (13, .int (nI (x % 5))), (12, .ref (q 10)), (11, .ref (q 9)), (10, .ref (q 8)), (0, .ref (u 30)), (1, .ref (q 0)), (2, .ref (q 1)), (3, .ref (q 2)), (4, .ref (q 3)), (5, .ref (q 4)), (6, .ref (q 5)), (7, .ref (q 6)), (8, .ref (q 7)), (9, .int (nI x))] → isW p l e9 164 s m args below meth c H locs cel slo D u cI cII z0 L0 cs (F0 m 326 ls []) := by
                            intro k9u_21
                            induction k9u_21 with
                            | zero => intro y2 k H locs cel slo ls hk; exact absurd hk (Nat.not_lt_zero _)
                            | succ k9u_21 ihu_21 =>
                              intro y2 k H locs cel slo ls hk hk9 hf2 hA hC hS hcel hslo hl
                              refine lv_iload hx hb dL_isSeen_326 (lv_at hl 0 rfl) ?_
                              refine lv_aload_n hx hb dL_isSeen_328 rfl (lv_at hl 11 rfl) ?_
                              refine lv_iconst (v := 1) hx hb dL_isSeen_329 (by decide) ?_
                              refine cg_ald F hK hA 0 2 rfl 1 rfl (by omega) (by decide) dL_isSeen_330 ?_
                              refine lw_N cm hf1 ?_
                              refine lw_ge (tgt := 375) hx hb k cm (by omega) (by omega) dL_isSeen_331 (by decide) (fun c_22 => ?_) (fun c_22 => ?_)
                              · skip
                                have mc_22 : ¬ k < cm := by omega
                                have hd8 : lNd G1 fo cm = y2 := by rw [hf2, show k = cm by omega]
                                refine lv_aload_n hx hb dL_isSeen_375 rfl (lv_at hl 10 rfl) ?_
                                refine lv_iload hx hb dL_isSeen_376 (lv_at hl 6 rfl) ?_
                                refine lv_iload hx hb dL_isSeen_378 (lv_at hl 3 rfl) ?_
                                refine ix_ask (val := nI (lCn G1 fo)) F hK hX hfr hA hC R9 hS [.int (nI (x % 5)), .int (nI fo)] (sm_eq (os_count R9 hL1 (by omega) (fo := fo) (by omega)) (sm_count hfl (nI (x % 5)) (nI fo))) (cwV 2 F.2.2.2.2 gvL_isSeen_X3_count rfl rfl rfl (by decide +kernel) ⟨Nat.le_of_ble_eq_true rfl, Nat.le_of_ble_eq_true rfl⟩) rfl hl.1 rfl (lv_room (Nat.le_of_ble_eq_true rfl)) ⟨by show _ ≤ 400; omega, by show _ ≤ 2600; omega⟩ dL_isSeen_380 (fun H locs hA hC hS => ?_)
                                refine lv_iload hx hb dL_isSeen_383 (lv_at hl 2 rfl) ?_
                                refine lv_icmp_ne (tgt := 419) hx hb dL_isSeen_385 (by decide) (fun z9 => absurd (congrArg nI hy8) z9) (fun _ => ?_)
                                refine lv_aload_n hx hb dL_isSeen_388 rfl (lv_at hl 10 rfl) ?_
                                refine lv_iload hx hb dL_isSeen_389 (lv_at hl 6 rfl) ?_
                                refine lv_iload hx hb dL_isSeen_391 (lv_at hl 3 rfl) ?_
                                refine ix_ask (val := if lNd G1 fo cm ≤ nI (lCn G1 fo) then 0 else lNd G1 fo cm - nI (lCn G1 fo)) F hK hX hfr hA hC R9 hS [.int (nI (x % 5)), .int (nI fo)] (sm_eq ((os_missing R9 hL1 (by omega) (fo := fo) (by omega)).trans (congrArg (fun z => ((0, z, cs) : OP)) (ms_eq hL1.lt R9 (fo := fo) (by omega)))) (sm_missing hfl (nI (x % 5)) (nI fo))) (cwV 2 F.2.2.2.2 gvL_isSeen_X3_missing rfl rfl rfl (by decide +kernel) ⟨Nat.le_of_ble_eq_true rfl, Nat.le_of_ble_eq_true rfl⟩) rfl hl.1 rfl (lv_room (Nat.le_of_ble_eq_true rfl)) ⟨by show _ ≤ 400; omega, by show _ ≤ 2600; omega⟩ dL_isSeen_393 (fun H locs hA hC hS => ?_)
                                refine lv_iload hx hb dL_isSeen_396 (lv_at hl 1 rfl) ?_
                                refine lv_iload hx hb dL_isSeen_398 (lv_at hl 2 rfl) ?_
                                refine lv_icmp_le (tgt := 411) hx hb dL_isSeen_400 (by decide) (fun c_23 => ?_) (fun c_23 => ?_)
                                · skip
                                  refine lv_iconst (v := 0) hx hb dL_isSeen_411 (by decide) ?_
                                  refine lv_icmp_ne (tgt := 419) hx hb dL_isSeen_412 (by decide) (fun z9 => absurd (by rw [hd8, hy8]; simp [c_2, mc_2, c_4, mc_4, c_6, mc_6, c_20, mc_20, c_22, mc_22, c_23]) z9) (fun _ => ?_)
                                  refine lv_iconst (v := 1) hx hb dL_isSeen_415 (by decide) ?_
                                  refine lv_goto (tgt := 420) hx hb dL_isSeen_416 (by decide) ?_
                                  refine lv_istore (lv' := [(16, .int 1), (20, .int (nI k)), (19, .int y2), (18, .int (nI y)), (17, .int (nI fo)), (15, .int (nI ((x / 5) % 12))), (13, .int (nI (x % 5))), (12, .ref (q 10)), (11, .ref (q 9)), (10, .ref (q 8)), (0, .ref (u 30)), (1, .ref (q 0)), (2, .ref (q 1)), (3, .ref (q 2)), (4, .ref (q 3)), (5, .ref (q 4)), (6, .ref (q 5)), (7, .ref (q 6)), (8, .ref (q 7)), (9, .int (nI x))]) hx hb dL_isSeen_420 hl (by decide) rfl (fun ls hl => ?_)
                                  refine lv_iinc (v := nI (fo + 1)) (lv' := [(17, .int (nI (fo + 1))), (16, .int 1), (20, .int (nI k)), (19, .int y2), (18, .int (nI y)), (15, .int (nI ((x / 5) % 12))), (13, .int (nI (x % 5))), (12, .ref (q 10)), (11, .ref (q 9)), (10, .ref (q 8)), (0, .ref (u 30)), (1, .ref (q 0)), (2, .ref (q 1)), (3, .ref (q 2)), (4, .ref (q 3)), (5, .ref (q 4)), (6, .ref (q 5)), (7, .ref (q 6)), (8, .ref (q 7)), (9, .int (nI x))]) hx hb dL_isSeen_422 hl (k := 4) rfl (show nI fo + Int32.ofInt 1 = _ from nI_add fo 1) (by decide) rfl (fun ls hl => ?_)
                                  refine lv_goto (tgt := 270) hx hb dL_isSeen_425 (by decide) ?_
                                  exact ihu_5  (fo + 1) _ _ (cel + 2 + 2) (slo + 12 + 12) ls (by omega) (by first | omega | assumption) hA hC hS (by omega) (by omega) (lv_sub hl [0, 1, 5, 6, 7, 8, 9, 10, 11, 12, 13, 14, 15, 16, 17, 18, 19] rfl)
                                · skip
                                  refine lv_iload hx hb dL_isSeen_403 (lv_at hl 1 rfl) ?_
                                  refine lv_iload hx hb dL_isSeen_405 (lv_at hl 2 rfl) ?_
                                  refine lv_isub hx hb dL_isSeen_407 ?_
                                  refine lv_goto (tgt := 412) hx hb dL_isSeen_408 (by decide) ?_
                                  refine lv_icmp_ne (tgt := 419) hx hb dL_isSeen_412 (by decide) (fun z9 => absurd (by rw [hd8, hy8]; simp [c_2, mc_2, c_4, mc_4, c_6, mc_6, c_20, mc_20, c_22, mc_22, c_23]) z9) (fun _ => ?_)
                                  refine lv_iconst (v := 1) hx hb dL_isSeen_415 (by decide) ?_
                                  refine lv_goto (tgt := 420) hx hb dL_isSeen_416 (by decide) ?_
                                  refine lv_istore (lv' := [(16, .int 1), (20, .int (nI k)), (19, .int y2), (18, .int (nI y)), (17, .int (nI fo)), (15, .int (nI ((x / 5) % 12))), (13, .int (nI (x % 5))), (12, .ref (q 10)), (11, .ref (q 9)), (10, .ref (q 8)), (0, .ref (u 30)), (1, .ref (q 0)), (2, .ref (q 1)), (3, .ref (q 2)), (4, .ref (q 3)), (5, .ref (q 4)), (6, .ref (q 5)), (7, .ref (q 6)), (8, .ref (q 7)), (9, .int (nI x))]) hx hb dL_isSeen_420 hl (by decide) rfl (fun ls hl => ?_)
                                  refine lv_iinc (v := nI (fo + 1)) (lv' := [(17, .int (nI (fo + 1))), (16, .int 1), (20, .int (nI k)), (19, .int y2), (18, .int (nI y)), (15, .int (nI ((x / 5) % 12))), (13, .int (nI (x % 5))), (12, .ref (q 10)), (11, .ref (q 9)), (10, .ref (q 8)), (0, .ref (u 30)), (1, .ref (q 0)), (2, .ref (q 1)), (3, .ref (q 2)), (4, .ref (q 3)), (5, .ref (q 4)), (6, .ref (q 5)), (7, .ref (q 6)), (8, .ref (q 7)), (9, .int (nI x))]) hx hb dL_isSeen_422 hl (k := 4) rfl (show nI fo + Int32.ofInt 1 = _ from nI_add fo 1) (by decide) rfl (fun ls hl => ?_)
                                  refine lv_goto (tgt := 270) hx hb dL_isSeen_425 (by decide) ?_
                                  exact ihu_5  (fo + 1) _ _ (cel + 2 + 2) (slo + 12 + 12) ls (by omega) (by first | omega | assumption) hA hC hS (by omega) (by omega) (lv_sub hl [0, 1, 5, 6, 7, 8, 9, 10, 11, 12, 13, 14, 15, 16, 17, 18, 19] rfl)
                              · skip
                                have mc_22 : ¬ cm ≤ k := by omega
                                obtain ⟨rc, hrc6, hrc, -, -⟩ := hlt.f7r R9 (show k < cm by omega); have jrc : jn (nI rc) = rc := jn_nI (by omega)
                                refine lv_iload hx hb dL_isSeen_334 (lv_at hl 1 rfl) ?_
                                refine lv_aload hx hb dL_isSeen_336 (lv_at hl 7 rfl) ?_
                                refine lv_iload hx hb dL_isSeen_338 (lv_at hl 0 rfl) ?_
                                refine ro_callS F hK [.ref (q 10), .int (nI k)] (lc_isOpen hA k ) (va_cwS 2 F.2.2.2.2 gvL_isSeen_L_isOpen rfl rfl rfl (by decide +kernel) ⟨Nat.le_of_ble_eq_true rfl, Nat.le_of_ble_eq_true rfl⟩) rfl hl.1 rfl (lv_room (Nat.le_of_ble_eq_true rfl)) ⟨by show _ ≤ 400; omega, by show _ ≤ 2600; omega⟩ dL_isSeen_340 ?_
                                refine lw_beq (tgt := 365) hx hb dL_isSeen_343 (by decide) (fun c_24 => ?_) (fun c_24 => ?_)
                                · skip
                                  refine lv_iconst (v := 0) hx hb dL_isSeen_365 (by decide) ?_
                                  refine lv_iadd hx hb dL_isSeen_366 ?_
                                  refine lv_istore (lv' := [(19, .int (y2 + 0)), (20, .int (nI k)), (18, .int (nI y)), (17, .int (nI fo)), (16, .int 1), (15, .int (nI ((x / 5) % 12))), (13, .int (nI (x % 5))), (12, .ref (q 10)), (11, .ref (q 9)), (10, .ref (q 8)), (0, .ref (u 30)), (1, .ref (q 0)), (2, .ref (q 1)), (3, .ref (q 2)), (4, .ref (q 3)), (5, .ref (q 4)), (6, .ref (q 5)), (7, .ref (q 6)), (8, .ref (q 7)), (9, .int (nI x))]) hx hb dL_isSeen_367 hl (by decide) rfl (fun ls hl => ?_)
                                  refine lv_iinc (v := nI (k + 1)) (lv' := [(20, .int (nI (k + 1))), (19, .int (y2 + 0)), (18, .int (nI y)), (17, .int (nI fo)), (16, .int 1), (15, .int (nI ((x / 5) % 12))), (13, .int (nI (x % 5))), (12, .ref (q 10)), (11, .ref (q 9)), (10, .ref (q 8)), (0, .ref (u 30)), (1, .ref (q 0)), (2, .ref (q 1)), (3, .ref (q 2)), (4, .ref (q 3)), (5, .ref (q 4)), (6, .ref (q 5)), (7, .ref (q 6)), (8, .ref (q 7)), (9, .int (nI x))]) hx hb dL_isSeen_369 hl (k := 1) rfl (show nI k + Int32.ofInt 1 = _ from nI_add k 1) (by decide) rfl (fun ls hl => ?_)
                                  refine lv_goto (tgt := 326) hx hb dL_isSeen_372 (by decide) ?_
                                  exact ihu_21  (y2 + 0) (k + 1) _ _ cel slo ls (by omega) (by first | omega | assumption) (by unfold lNd at hf2 ⊢; rw [foldU_s, ← hf2]; simp [hrc, jrc, c_2, mc_2, c_4, mc_4, c_6, mc_6, c_20, mc_20, c_22, mc_22, c_24]) hA hC hS (by omega) (by omega) (lv_sub hl [0, 1, 2, 3, 4, 5, 6, 7, 8, 9, 10, 11, 12, 13, 14, 15, 16, 17, 18, 19] rfl)
                                · skip
                                  refine lv_aload hx hb dL_isSeen_346 (lv_at hl 17 rfl) ?_
                                  refine lv_bipush (v := 8) hx hb dL_isSeen_348 (by decide) ?_
                                  refine lv_aload hx hb dL_isSeen_350 (lv_at hl 18 rfl) ?_
                                  refine lv_iconst (v := 2) hx hb dL_isSeen_352 (by decide) ?_
                                  refine lv_iload hx hb dL_isSeen_353 (lv_at hl 0 rfl) ?_
                                  refine lw_mul hx hb (i := 2) (j := k) dL_isSeen_355 ?_
                                  refine cg_ald F hK hA 7 20 rfl (2 * k) rfl (by omega) (by decide) dL_isSeen_356 ?_
                                  refine lw_N rc hrc ?_
                                  refine lw_mul hx hb (i := 8) (j := rc) dL_isSeen_357 ?_
                                  refine lv_iload hx hb dL_isSeen_358 (lv_at hl 3 rfl) ?_
                                  refine lw_add hx hb (i := (8 * rc)) (j := fo) dL_isSeen_360 ?_
                                  refine cg_ald F hK hA 6 48 rfl ((8 * rc) + fo) rfl (by omega) (by decide) dL_isSeen_361 ?_
                                  refine lv_goto (tgt := 366) hx hb dL_isSeen_362 (by decide) ?_
                                  refine lv_iadd hx hb dL_isSeen_366 ?_
                                  refine lv_istore (lv' := [(19, .int (y2 + G1 6 ((8 * rc) + fo))), (20, .int (nI k)), (18, .int (nI y)), (17, .int (nI fo)), (16, .int 1), (15, .int (nI ((x / 5) % 12))), (13, .int (nI (x % 5))), (12, .ref (q 10)), (11, .ref (q 9)), (10, .ref (q 8)), (0, .ref (u 30)), (1, .ref (q 0)), (2, .ref (q 1)), (3, .ref (q 2)), (4, .ref (q 3)), (5, .ref (q 4)), (6, .ref (q 5)), (7, .ref (q 6)), (8, .ref (q 7)), (9, .int (nI x))]) hx hb dL_isSeen_367 hl (by decide) rfl (fun ls hl => ?_)
                                  refine lv_iinc (v := nI (k + 1)) (lv' := [(20, .int (nI (k + 1))), (19, .int (y2 + G1 6 ((8 * rc) + fo))), (18, .int (nI y)), (17, .int (nI fo)), (16, .int 1), (15, .int (nI ((x / 5) % 12))), (13, .int (nI (x % 5))), (12, .ref (q 10)), (11, .ref (q 9)), (10, .ref (q 8)), (0, .ref (u 30)), (1, .ref (q 0)), (2, .ref (q 1)), (3, .ref (q 2)), (4, .ref (q 3)), (5, .ref (q 4)), (6, .ref (q 5)), (7, .ref (q 6)), (8, .ref (q 7)), (9, .int (nI x))]) hx hb dL_isSeen_369 hl (k := 1) rfl (show nI k + Int32.ofInt 1 = _ from nI_add k 1) (by decide) rfl (fun ls hl => ?_)
                                  refine lv_goto (tgt := 326) hx hb dL_isSeen_372 (by decide) ?_
                                  exact ihu_21  (y2 + G1 6 ((8 * rc) + fo)) (k + 1) _ _ cel slo ls (by omega) (by first | omega | assumption) (by unfold lNd at hf2 ⊢; rw [foldU_s, ← hf2]; simp [hrc, jrc, c_2, mc_2, c_4, mc_4, c_6, mc_6, c_20, mc_20, c_22, mc_22, c_24]) hA hC hS (by omega) (by omega) (lv_sub hl [0, 1, 2, 3, 4, 5, 6, 7, 8, 9, 10, 11, 12, 13, 14, 15, 16, 17, 18, 19] rfl)
                          exact L326_u_21 _ 0 0 _ _ cel slo ls (Nat.lt_succ_self _) (by first | omega | assumption) (rfl) hA hC hS (by omega) (by omega) (lv_sub hl [0, 2, 1, 3, 4, 5, 6, 7, 8, 9, 10, 11, 12, 13, 14, 15, 16, 17, 18, 19] rfl)
                        · skip
                          have mc_20 : ¬ 40 ≤ t := by omega
                          refine lv_iload hx hb dL_isSeen_299 (lv_at hl 1 rfl) ?_
                          refine lv_aload hx hb dL_isSeen_301 (lv_at hl 9 rfl) ?_
                          refine lv_iload hx hb dL_isSeen_303 (lv_at hl 0 rfl) ?_
                          refine cg_ald F hK hA 8 40 rfl t rfl (by omega) (by decide) dL_isSeen_305 ?_
                          refine lv_if_le (tgt := 313) hx hb dL_isSeen_306 (by decide) (fun c_25 => ?_) (fun c_25 => ?_)
                          · skip
                            refine lv_iconst (v := 0) hx hb dL_isSeen_313 (by decide) ?_
                            refine lw_add hx hb (i := y) (j := 0) dL_isSeen_314 ?_
                            refine lv_istore (lv' := [(18, .int (nI (y + 0))), (20, .int (nI t)), (19, .int 0), (17, .int (nI fo)), (16, .int 1), (15, .int (nI ((x / 5) % 12))), (13, .int (nI (x % 5))), (12, .ref (q 10)), (11, .ref (q 9)), (10, .ref (q 8)), (0, .ref (u 30)), (1, .ref (q 0)), (2, .ref (q 1)), (3, .ref (q 2)), (4, .ref (q 3)), (5, .ref (q 4)), (6, .ref (q 5)), (7, .ref (q 6)), (8, .ref (q 7)), (9, .int (nI x))]) hx hb dL_isSeen_315 hl (by decide) rfl (fun ls hl => ?_)
                            refine lv_iinc (v := nI (t + 8)) (lv' := [(20, .int (nI (t + 8))), (18, .int (nI (y + 0))), (19, .int 0), (17, .int (nI fo)), (16, .int 1), (15, .int (nI ((x / 5) % 12))), (13, .int (nI (x % 5))), (12, .ref (q 10)), (11, .ref (q 9)), (10, .ref (q 8)), (0, .ref (u 30)), (1, .ref (q 0)), (2, .ref (q 1)), (3, .ref (q 2)), (4, .ref (q 3)), (5, .ref (q 4)), (6, .ref (q 5)), (7, .ref (q 6)), (8, .ref (q 7)), (9, .int (nI x))]) hx hb dL_isSeen_317 hl (k := 1) rfl (show nI t + Int32.ofInt 8 = _ from nI_add t 8) (by decide) rfl (fun ls hl => ?_)
                            refine lv_goto (tgt := 292) hx hb dL_isSeen_320 (by decide) ?_
                            exact ihu_19  (y + 0) (t + 8) (i + 1) _ _ cel slo ls (by omega) (by first | omega | assumption) (by first | omega | assumption) (by rw [foldU_s, ← hf]; subst ht; simp [c_2, mc_2, c_4, mc_4, c_6, mc_6, c_20, mc_20, c_25]) hA hC hS (by omega) (by omega) (lv_sub hl [0, 1, 2, 3, 4, 5, 6, 7, 8, 9, 10, 11, 12, 13, 14, 15, 16, 17, 18, 19] rfl)
                          · skip
                            refine lv_iconst (v := 1) hx hb dL_isSeen_309 (by decide) ?_
                            refine lv_goto (tgt := 314) hx hb dL_isSeen_310 (by decide) ?_
                            refine lw_add hx hb (i := y) (j := 1) dL_isSeen_314 ?_
                            refine lv_istore (lv' := [(18, .int (nI (y + 1))), (20, .int (nI t)), (19, .int 0), (17, .int (nI fo)), (16, .int 1), (15, .int (nI ((x / 5) % 12))), (13, .int (nI (x % 5))), (12, .ref (q 10)), (11, .ref (q 9)), (10, .ref (q 8)), (0, .ref (u 30)), (1, .ref (q 0)), (2, .ref (q 1)), (3, .ref (q 2)), (4, .ref (q 3)), (5, .ref (q 4)), (6, .ref (q 5)), (7, .ref (q 6)), (8, .ref (q 7)), (9, .int (nI x))]) hx hb dL_isSeen_315 hl (by decide) rfl (fun ls hl => ?_)
                            refine lv_iinc (v := nI (t + 8)) (lv' := [(20, .int (nI (t + 8))), (18, .int (nI (y + 1))), (19, .int 0), (17, .int (nI fo)), (16, .int 1), (15, .int (nI ((x / 5) % 12))), (13, .int (nI (x % 5))), (12, .ref (q 10)), (11, .ref (q 9)), (10, .ref (q 8)), (0, .ref (u 30)), (1, .ref (q 0)), (2, .ref (q 1)), (3, .ref (q 2)), (4, .ref (q 3)), (5, .ref (q 4)), (6, .ref (q 5)), (7, .ref (q 6)), (8, .ref (q 7)), (9, .int (nI x))]) hx hb dL_isSeen_317 hl (k := 1) rfl (show nI t + Int32.ofInt 8 = _ from nI_add t 8) (by decide) rfl (fun ls hl => ?_)
                            refine lv_goto (tgt := 292) hx hb dL_isSeen_320 (by decide) ?_
                            exact ihu_19  (y + 1) (t + 8) (i + 1) _ _ cel slo ls (by omega) (by first | omega | assumption) (by first | omega | assumption) (by rw [foldU_s, ← hf]; subst ht; simp [c_2, mc_2, c_4, mc_4, c_6, mc_6, c_20, mc_20, c_25]) hA hC hS (by omega) (by omega) (lv_sub hl [0, 1, 2, 3, 4, 5, 6, 7, 8, 9, 10, 11, 12, 13, 14, 15, 16, 17, 18, 19] rfl)
                    exact L292_u_19 _ 0 fo 0 _ _ cel slo ls (Nat.lt_succ_self _) (by first | omega | assumption) (by first | omega | assumption) (rfl) hA hC hS (by omega) (by omega) (lv_sub hl [0, 2, 1, 3, 4, 5, 6, 7, 8, 9, 10, 11, 12, 13, 14, 15, 16, 17, 18, 19] rfl)
              exact L270_u_5 _ 0 _ _ cel slo ls (Nat.lt_succ_self _) (by first | omega | assumption) hA hC hS (by omega) (by omega) (lv_sub hl [0, 1, 2, 4, 5, 6, 7, 8, 9, 10, 11, 12, 13, 14, 15, 16, 17] rfl)
            · skip
              have mc_4 : ¬ 40 ≤ t := by omega
              refine lv_iload hx hb dL_isSeen_168 (lv_at hl 1 rfl) ?_
              refine lv_if_eq (tgt := 267) hx hb dL_isSeen_170 (by decide) (fun z9 => absurd z9 (by decide)) (fun _ => ?_)
              refine lv_aload_n hx hb dL_isSeen_173 rfl (lv_at hl 8 rfl) ?_
              refine lv_iload hx hb dL_isSeen_174 (lv_at hl 4 rfl) ?_
              refine lv_iload hx hb dL_isSeen_176 (lv_at hl 0 rfl) ?_
              refine ix_ask (val := G1 8 t - 1) F hK hX hfr hA hC R9 hS [.int (nI (x % 5)), .int (nI t)] (sm_eq (os_where hL1 (by omega) (t := t) (by omega)) (sm_where hfl (nI (x % 5)) (nI t))) (cwV 2 F.2.2.2.2 gvL_isSeen_X3_where rfl rfl rfl (by decide +kernel) ⟨Nat.le_of_ble_eq_true rfl, Nat.le_of_ble_eq_true rfl⟩) rfl hl.1 rfl (lv_room (Nat.le_of_ble_eq_true rfl)) ⟨by show _ ≤ 400; omega, by show _ ≤ 2600; omega⟩ dL_isSeen_178 (fun H locs hA hC hS => ?_)
              refine lv_aload hx hb dL_isSeen_181 (lv_at hl 7 rfl) ?_
              refine lv_iload hx hb dL_isSeen_183 (lv_at hl 0 rfl) ?_
              refine cg_ald F hK hA 8 40 rfl t rfl (by omega) (by decide) dL_isSeen_185 ?_
              refine lv_iconst (v := 1) hx hb dL_isSeen_186 (by decide) ?_
              refine lv_isub hx hb dL_isSeen_187 ?_
              refine lv_icmp_ne (tgt := 258) hx hb dL_isSeen_188 (by decide) (fun z9 => absurd (rfl) z9) (fun _ => ?_)
              refine lv_iload hx hb dL_isSeen_191 (lv_at hl 0 rfl) ?_
              refine lv_iconst (v := 3) hx hb dL_isSeen_193 (by decide) ?_
              refine lw_remN hx hb (i := t) (j := 3) (by omega) (by omega) (by omega) dL_isSeen_194 ?_
              refine lv_iload hx hb dL_isSeen_195 (lv_at hl 17 rfl) ?_
              refine lv_iconst (v := 3) hx hb dL_isSeen_197 (by decide) ?_
              refine lw_remN hx hb (i := x) (j := 3) (by omega) (by omega) (by omega) dL_isSeen_198 ?_
              refine lw_ne (tgt := 254) hx hb (t % 3) (x % 3) (by omega) (by omega) dL_isSeen_199 (by decide) (fun c_26 => ?_) (fun c_26 => ?_)
              · skip
                refine lv_iconst (v := 1) hx hb dL_isSeen_254 (by decide) ?_
                refine lv_goto (tgt := 259) hx hb dL_isSeen_255 (by decide) ?_
                refine lv_istore (lv' := [(16, .int 1), (17, .int (nI t)), (15, .int (nI ((x / 5) % 12))), (14, .int y), (13, .int (nI (x % 5))), (12, .ref (q 10)), (11, .ref (q 9)), (10, .ref (q 8)), (0, .ref (u 30)), (1, .ref (q 0)), (2, .ref (q 1)), (3, .ref (q 2)), (4, .ref (q 3)), (5, .ref (q 4)), (6, .ref (q 5)), (7, .ref (q 6)), (8, .ref (q 7)), (9, .int (nI x))]) hx hb dL_isSeen_259 hl (by decide) rfl (fun ls hl => ?_)
                refine lv_iinc (v := nI (t + 1)) (lv' := [(17, .int (nI (t + 1))), (16, .int 1), (15, .int (nI ((x / 5) % 12))), (14, .int y), (13, .int (nI (x % 5))), (12, .ref (q 10)), (11, .ref (q 9)), (10, .ref (q 8)), (0, .ref (u 30)), (1, .ref (q 0)), (2, .ref (q 1)), (3, .ref (q 2)), (4, .ref (q 3)), (5, .ref (q 4)), (6, .ref (q 5)), (7, .ref (q 6)), (8, .ref (q 7)), (9, .int (nI x))]) hx hb dL_isSeen_261 hl (k := 1) rfl (show nI t + Int32.ofInt 1 = _ from nI_add t 1) (by decide) rfl (fun ls hl => ?_)
                refine lv_goto (tgt := 161) hx hb dL_isSeen_264 (by decide) ?_
                exact ihu_3  (t + 1) _ _ (cel + 2) (slo + 12) ls (by omega) (by first | omega | assumption) hA hC hS (by omega) (by omega) (lv_sub hl [0, 1, 2, 3, 4, 5, 6, 7, 8, 9, 10, 11, 12, 13, 14, 15, 16, 17] rfl)
              · skip
                refine lv_aload_n hx hb dL_isSeen_202 rfl (lv_at hl 8 rfl) ?_
                refine lv_iload hx hb dL_isSeen_203 (lv_at hl 4 rfl) ?_
                refine lv_iload hx hb dL_isSeen_205 (lv_at hl 0 rfl) ?_
                refine ix_ask (val := oI (lKp G1 cm t)) F hK hX hfr hA hC R9 hS [.int (nI (x % 5)), .int (nI t)] (sm_eq (os_keptFor hL1 (by omega) (t := t) (by omega)) (sm_keptFor hfl (nI (x % 5)) (nI t))) (cwV 2 F.2.2.2.2 gvL_isSeen_X3_keptFor rfl rfl rfl (by decide +kernel) ⟨Nat.le_of_ble_eq_true rfl, Nat.le_of_ble_eq_true rfl⟩) rfl hl.1 rfl (lv_room (Nat.le_of_ble_eq_true rfl)) ⟨by show _ ≤ 400; omega, by show _ ≤ 2600; omega⟩ dL_isSeen_207 (fun H locs hA hC hS => ?_)
                refine lv_aload_n hx hb dL_isSeen_210 rfl (lv_at hl 9 rfl) ?_
                refine lv_aload hx hb dL_isSeen_211 (lv_at hl 13 rfl) ?_
                refine lv_aload hx hb dL_isSeen_213 (lv_at hl 16 rfl) ?_
                refine lv_aload hx hb dL_isSeen_215 (lv_at hl 7 rfl) ?_
                refine lv_aload hx hb dL_isSeen_217 (lv_at hl 6 rfl) ?_
                refine lv_aload hx hb dL_isSeen_219 (lv_at hl 5 rfl) ?_
                refine lv_iload hx hb dL_isSeen_221 (lv_at hl 0 rfl) ?_
                refine ro_callS F hK [.ref (q 0), .ref (q 4), .ref (q 7), .ref (q 8), .ref (q 9), .ref (q 10), .int (nI t)] (lc_kept (cm := cm) hA t hf1 hcm hgo (by omega)) (va_cwS 7 F.2.2.2.2 gvL_isSeen_L_kept rfl rfl rfl (by decide +kernel) ⟨Nat.le_of_ble_eq_true rfl, Nat.le_of_ble_eq_true rfl⟩) rfl hl.1 rfl (lv_room (Nat.le_of_ble_eq_true rfl)) ⟨by show _ ≤ 400; omega, by show _ ≤ 2600; omega⟩ dL_isSeen_223 ?_
                refine lv_icmp_ne (tgt := 258) hx hb dL_isSeen_226 (by decide) (fun z9 => absurd (rfl) z9) (fun _ => ?_)
                refine lv_aload_n hx hb dL_isSeen_229 rfl (lv_at hl 8 rfl) ?_
                refine lv_iload hx hb dL_isSeen_230 (lv_at hl 4 rfl) ?_
                refine lv_iload hx hb dL_isSeen_232 (lv_at hl 0 rfl) ?_
                refine ix_ask (val := lCm G1 l1 t) F hK hX hfr hA hC R9 hS [.int (nI (x % 5)), .int (nI t)] (sm_eq (os_claims hL1 (by omega) (t := t) (by omega)) (sm_claims hfl (nI (x % 5)) (nI t))) (cwV 2 F.2.2.2.2 gvL_isSeen_X3_claims rfl rfl rfl (by decide +kernel) ⟨Nat.le_of_ble_eq_true rfl, Nat.le_of_ble_eq_true rfl⟩) rfl hl.1 rfl (lv_room (Nat.le_of_ble_eq_true rfl)) ⟨by show _ ≤ 400; omega, by show _ ≤ 2600; omega⟩ dL_isSeen_234 (fun H locs hA hC hS => ?_)
                refine lv_aload_n hx hb dL_isSeen_237 rfl (lv_at hl 9 rfl) ?_
                refine lv_aload_n hx hb dL_isSeen_238 rfl (lv_at hl 10 rfl) ?_
                refine lv_aload_n hx hb dL_isSeen_239 rfl (lv_at hl 11 rfl) ?_
                refine lv_aload hx hb dL_isSeen_240 (lv_at hl 12 rfl) ?_
                refine lv_aload hx hb dL_isSeen_242 (lv_at hl 7 rfl) ?_
                refine lv_iload hx hb dL_isSeen_244 (lv_at hl 4 rfl) ?_
                refine lv_iload hx hb dL_isSeen_246 (lv_at hl 0 rfl) ?_
                refine ro_callS F hK [.ref (q 0), .ref (q 1), .ref (q 2), .ref (q 3), .ref (q 8), .int (nI (x % 5)), .int (nI t)] (lc_claims (n := n) (l9 := l1) hA (x % 5) t hf0 hn64 (by omega) hL1.l3.1 hL1.l3.2.1 hL1.l3.2.2 (by omega)) (va_cwS 7 F.2.2.2.2 gvL_isSeen_L_claims rfl rfl rfl (by decide +kernel) ⟨Nat.le_of_ble_eq_true rfl, Nat.le_of_ble_eq_true rfl⟩) rfl hl.1 rfl (lv_room (Nat.le_of_ble_eq_true rfl)) ⟨by show _ ≤ 400; omega, by show _ ≤ 2600; omega⟩ dL_isSeen_248 ?_
                refine lv_icmp_ne (tgt := 258) hx hb dL_isSeen_251 (by decide) (fun z9 => absurd (rfl) z9) (fun _ => ?_)
                refine lv_iconst (v := 1) hx hb dL_isSeen_254 (by decide) ?_
                refine lv_goto (tgt := 259) hx hb dL_isSeen_255 (by decide) ?_
                refine lv_istore (lv' := [(16, .int 1), (17, .int (nI t)), (15, .int (nI ((x / 5) % 12))), (14, .int y), (13, .int (nI (x % 5))), (12, .ref (q 10)), (11, .ref (q 9)), (10, .ref (q 8)), (0, .ref (u 30)), (1, .ref (q 0)), (2, .ref (q 1)), (3, .ref (q 2)), (4, .ref (q 3)), (5, .ref (q 4)), (6, .ref (q 5)), (7, .ref (q 6)), (8, .ref (q 7)), (9, .int (nI x))]) hx hb dL_isSeen_259 hl (by decide) rfl (fun ls hl => ?_)
                refine lv_iinc (v := nI (t + 1)) (lv' := [(17, .int (nI (t + 1))), (16, .int 1), (15, .int (nI ((x / 5) % 12))), (14, .int y), (13, .int (nI (x % 5))), (12, .ref (q 10)), (11, .ref (q 9)), (10, .ref (q 8)), (0, .ref (u 30)), (1, .ref (q 0)), (2, .ref (q 1)), (3, .ref (q 2)), (4, .ref (q 3)), (5, .ref (q 4)), (6, .ref (q 5)), (7, .ref (q 6)), (8, .ref (q 7)), (9, .int (nI x))]) hx hb dL_isSeen_261 hl (k := 1) rfl (show nI t + Int32.ofInt 1 = _ from nI_add t 1) (by decide) rfl (fun ls hl => ?_)
                refine lv_goto (tgt := 161) hx hb dL_isSeen_264 (by decide) ?_
                exact ihu_3  (t + 1) _ _ (cel + 2 + 2 + 2) (slo + 12 + 12 + 12) ls (by omega) (by first | omega | assumption) hA hC hS (by omega) (by omega) (lv_sub hl [0, 1, 2, 3, 4, 5, 6, 7, 8, 9, 10, 11, 12, 13, 14, 15, 16, 17] rfl)
        exact L161_u_3 _ 0 _ _ (cel + 0 + 0 + 1 + 1 + 2) (slo + 0 + 0 + 6 + 6 + 12) ls (Nat.lt_succ_self _) (by first | omega | assumption) hA hC hS (by omega) (by omega) (lv_sub hl [0, 1, 2, 3, 4, 5, 6, 7, 8, 9, 10, 11, 12, 13, 14, 15, 16, 17] rfl)
      · skip
        have mc_2 : ¬ n ≤ j := by omega
        refine lv_iload hx hb dL_isSeen_56 (lv_at hl 1 rfl) ?_
        refine lv_aload hx hb dL_isSeen_58 (lv_at hl 10 rfl) ?_
        refine lv_iload hx hb dL_isSeen_60 (lv_at hl 0 rfl) ?_
        refine cg_ald F hK hA 3 64 rfl j rfl (by omega) (by decide) dL_isSeen_62 ?_
        refine lv_iload hx hb dL_isSeen_63 (lv_at hl 2 rfl) ?_
        refine lv_ishr hx hb dL_isSeen_65 ?_
        refine lv_iconst (v := 1) hx hb dL_isSeen_66 (by decide) ?_
        refine lv_iand hx hb dL_isSeen_67 ?_
        refine lv_iadd hx hb dL_isSeen_68 ?_
        refine lv_istore (lv' := [(14, .int (y + ((G1 3 j >>> (nI (x % 5) &&& 31)) &&& 1))), (15, .int (nI j)), (13, .int (nI (x % 5))), (12, .ref (q 10)), (11, .ref (q 9)), (10, .ref (q 8)), (0, .ref (u 30)), (1, .ref (q 0)), (2, .ref (q 1)), (3, .ref (q 2)), (4, .ref (q 3)), (5, .ref (q 4)), (6, .ref (q 5)), (7, .ref (q 6)), (8, .ref (q 7)), (9, .int (nI x))]) hx hb dL_isSeen_69 hl (by decide) rfl (fun ls hl => ?_)
        refine lv_iinc (v := nI (j + 1)) (lv' := [(15, .int (nI (j + 1))), (14, .int (y + ((G1 3 j >>> (nI (x % 5) &&& 31)) &&& 1))), (13, .int (nI (x % 5))), (12, .ref (q 10)), (11, .ref (q 9)), (10, .ref (q 8)), (0, .ref (u 30)), (1, .ref (q 0)), (2, .ref (q 1)), (3, .ref (q 2)), (4, .ref (q 3)), (5, .ref (q 4)), (6, .ref (q 5)), (7, .ref (q 6)), (8, .ref (q 7)), (9, .int (nI x))]) hx hb dL_isSeen_71 hl (k := 1) rfl (show nI j + Int32.ofInt 1 = _ from nI_add j 1) (by decide) rfl (fun ls hl => ?_)
        refine lv_goto (tgt := 48) hx hb dL_isSeen_74 (by decide) ?_
        exact ihu_1  (y + ((G1 3 j >>> (nI (x % 5) &&& 31)) &&& 1)) (j + 1) _ _ cel slo ls (by omega) (by first | omega | assumption) (by rw [hf]; rfl) hA hC hS (by omega) (by omega) (lv_sub hl [0, 1, 2, 3, 4, 5, 6, 7, 8, 9, 10, 11, 12, 13, 14, 15] rfl)
  exact L48_u_1 _ 0 0 _ _ 3 120 ls (Nat.lt_succ_self _) (by first | omega | assumption) (rfl) hA hC hS (by omega) (by omega) (lv_sub hl [0, 1, 2, 3, 4, 5, 6, 7, 8, 9, 10, 11, 12, 13, 14, 15] rfl)
