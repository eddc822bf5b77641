set_option maxHeartbeats 4000000 in
set_option maxRecDepth 100000 in
theorem mc_thrown {l : Launch} {D : va_G} {cI cZ : ClassId} {h : Nat} {q : Nat → Nat} {n cm : Nat} {th : Int32} {lm : Nat} {a : Nat → Nat → Int32} {kn : Nat → Bool} {H : Heap} (hP : va_P D vwCl (mW h q cI cZ n cm th lm a kn) H)   : ro_Met l yX4_thrown wsX4_thrown 0 0 D (mT cI cZ) H [.ref h] th := by
  refine ro_start rfl (by decide +kernel) (Nat.le_of_ble_eq_true rfl) (fun p e s m below meth c F hr hlocks hK ls hl => ?_)
  have hl : lv_has ls 1 [(0, .ref h)] := hl
  have hx := F.1
  have hb := F.2.1
  have hin : ∀ w ∈ wsX40, w ∈ wsX4_thrown := fun _ z => List.mem_cons_of_mem _ (List.mem_append_right _ z)
  refine lv_aload_n hx hb dX4_thrown_0 rfl (lv_at hl 0 rfl) ?_
  refine mg_get F hK hin hP 16 (by decide) (by decide +kernel) rfl dX4_thrown_1 ?_
  exact ro_reti F hr hlocks (rfl) dX4_thrown_4
set_option maxHeartbeats 4000000 in
set_option maxRecDepth 100000 in
theorem mc_isOpen {l : Launch} {D : va_G} {cI cZ : ClassId} {h : Nat} {q : Nat → Nat} (hN : (mAd h q).Nodup) {n cm : Nat} {th : Int32} {lm : Nat} {a : Nat → Nat → Int32} {kn : Nat → Bool} (f : Int32) (k : Int32) (I : mI n cm a) : wr_Met l yX4_isOpen wsX4_isOpen 3 65 D h q cI cZ (mW h q cI cZ n cm th lm a kn) [.ref h, .int f, .int k] rI (pEq (bI (opB n cm a kn f k)) n cm (opTh n cm a kn f k) lm a kn) := by
  refine wr_start rfl (by decide +kernel) (Nat.le_of_ble_eq_true rfl) (fun p e s m below meth c F hr hlocks hK H locs hP hS ls hl => ?_)
  have hl : lv_has ls 3 [(0, .ref h), (1, .int f), (2, .int k)] := hl
  have hx := F.1
  have hb := F.2.1
  have hA : ∀ x, x ∈ mAd h q → mF h q x := fun _ z => z
  have hin : ∀ w ∈ wsX40, w ∈ wsX4_isOpen := fun _ z => List.mem_cons_of_mem _ (List.mem_append_right _ z)
  have hn := I.1
  have hcm := I.2.1
  refine lv_aload_n hx hb dX4_isOpen_0 rfl (lv_at hl 0 rfl) ?_
  refine lv_iload_n hx hb dX4_isOpen_1 rfl (lv_at hl 1 rfl) ?_
  refine lv_iload_n hx hb dX4_isOpen_2 rfl (lv_at hl 2 rfl) ?_
  refine wr_callVi F hK [.int f, .int k] (mc_areCake hN f k ) (cwV 2 F.2.2.2.2 gX4_isOpen_X4_areCake rfl rfl rfl (by decide +kernel) ⟨Nat.le_of_ble_eq_true rfl, Nat.le_of_ble_eq_true rfl⟩) (mg_rc hK hP) hP hS hA rfl hl.1 rfl (lv_room (Nat.le_of_ble_eq_true rfl)) ⟨Nat.zero_le _, Nat.zero_le _⟩ dX4_isOpen_3 (fun r_w_1 n_w_1 cm_w_1 th_w_1 lm_w_1 a_w_1 kn_w_1 H locs hp_w_1 hP hS => ?_)
  obtain ⟨e1_w_1, e2_w_1, e3_w_1, e4_w_1, e5_w_1, e6_w_1, e7_w_1⟩ := hp_w_1
  rw [e2_w_1, e3_w_1, e4_w_1, e5_w_1, e6_w_1, e7_w_1] at hP
  rw [e1_w_1]
  refine lw_beq (tgt := 28) hx hb dX4_isOpen_6 (by decide) (fun c_2 => ?_) (fun c_2 => ?_)
  · skip
    refine lv_aload_n hx hb dX4_isOpen_28 rfl (lv_at hl 0 rfl) ?_
    refine mg_get F hK hin hP 16 (by decide) (by decide +kernel) rfl dX4_isOpen_29 ?_
    refine lw_bne (tgt := 39) hx hb dX4_isOpen_32 (by decide) (fun _ => ?_) (fun z9 => by simp [c_2] at z9)
    refine lv_iconst (v := 0) hx hb dX4_isOpen_39 (by decide) ?_
    exact wr_retz F hr hlocks hP hS false rfl (⟨by simp [opB, bI, c_2], rfl, rfl, by simp [opTh, bI, c_2], rfl, rfl, rfl⟩) dX4_isOpen_40
  · skip
    refine lv_aload_n hx hb dX4_isOpen_9 rfl (lv_at hl 0 rfl) ?_
    refine lv_aload_n hx hb dX4_isOpen_10 rfl (lv_at hl 0 rfl) ?_
    refine lv_iload_n hx hb dX4_isOpen_11 rfl (lv_at hl 1 rfl) ?_
    refine lv_iload_n hx hb dX4_isOpen_12 rfl (lv_at hl 2 rfl) ?_
    obtain ⟨vf, hvf, evf⟩ := in4 (x := f)  (by first | exact (and_l c_2) | exact (and_r c_2) | exact (and_l (and_l c_2)) | exact (and_r (and_l c_2)))
    have nvf : jn f = vf := by rw [evf]; exact jn_nI (by omega)
    obtain ⟨vk, hvk, evk⟩ := inC (x := k) hcm (by first | exact (and_l c_2) | exact (and_r c_2) | exact (and_l (and_l c_2)) | exact (and_r (and_l c_2)))
    have nvk : jn k = vk := by rw [evk]; exact jn_nI (by omega)
    refine ro_callV F hK [.int (nI vf), .int (nI vk)] (mc_stateOf hP vf vk (by first | assumption | omega) (by first | assumption | omega) (by first | assumption | omega)) (cwV 2 F.2.2.2.2 gX4_isOpen_X4_stateOf rfl rfl rfl (by decide +kernel) ⟨Nat.le_of_ble_eq_true rfl, Nat.le_of_ble_eq_true rfl⟩) (mg_rc hK hP) rfl hl.1 (by first | (rw [evf, evk]; done) | (rw [evf, evk]; rfl)) (lv_room (Nat.le_of_ble_eq_true rfl)) ⟨Nat.zero_le _, Nat.zero_le _⟩ dX4_isOpen_13 ?_
    refine lv_iconst (v := 1) hx hb dX4_isOpen_16 (by decide) ?_
    refine lv_icmp_ne (tgt := 24) hx hb dX4_isOpen_17 (by decide) (fun c_3 => ?_) (fun c_3 => ?_)
    · skip
      refine lv_iconst (v := 2) hx hb dX4_isOpen_24 (by decide) ?_
      refine mp_put F hK hin hN hA hP hS 16 n cm 2 lm rfl (by decide) (by decide +kernel) rfl rfl dX4_isOpen_25 (fun H locs hP hS => ?_)
      refine lv_aload_n hx hb dX4_isOpen_28 rfl (lv_at hl 0 rfl) ?_
      refine mg_get F hK hin hP 16 (by decide) (by decide +kernel) rfl dX4_isOpen_29 ?_
      refine lv_if_ne (tgt := 39) hx hb dX4_isOpen_32 (by decide) (fun _ => ?_) (fun z9 => absurd z9 (by decide))
      refine lv_iconst (v := 0) hx hb dX4_isOpen_39 (by decide) ?_
      exact wr_retz F hr hlocks hP hS false rfl (⟨by simp [opB, bI, c_2, nvf, nvk, c_3], rfl, rfl, by simp [opTh, bI, c_2, nvf, nvk, c_3], rfl, rfl, rfl⟩) dX4_isOpen_40
    · skip
      refine lv_iconst (v := 0) hx hb dX4_isOpen_20 (by decide) ?_
      refine lv_goto (tgt := 25) hx hb dX4_isOpen_21 (by decide) ?_
      refine mp_put F hK hin hN hA hP hS 16 n cm 0 lm rfl (by decide) (by decide +kernel) rfl rfl dX4_isOpen_25 (fun H locs hP hS => ?_)
      refine lv_aload_n hx hb dX4_isOpen_28 rfl (lv_at hl 0 rfl) ?_
      refine mg_get F hK hin hP 16 (by decide) (by decide +kernel) rfl dX4_isOpen_29 ?_
      refine lv_if_ne (tgt := 39) hx hb dX4_isOpen_32 (by decide) (fun z9 => absurd z9 (by decide)) (fun _ => ?_)
      refine lv_iconst (v := 1) hx hb dX4_isOpen_35 (by decide) ?_
      refine lv_goto (tgt := 40) hx hb dX4_isOpen_36 (by decide) ?_
      exact wr_retz F hr hlocks hP hS true rfl (⟨by simp [opB, bI, c_2, nvf, nvk, c_3], rfl, rfl, by simp [opTh, bI, c_2, nvf, nvk, c_3], rfl, rfl, rfl⟩) dX4_isOpen_40
set_option maxHeartbeats 4000000 in
set_option maxRecDepth 100000 in
theorem mc_layKept {l : Launch} {D : va_G} {cI cZ : ClassId} {h : Nat} {q : Nat → Nat} (hN : (mAd h q).Nodup) {n cm : Nat} {th : Int32} {lm : Nat} {a : Nat → Nat → Int32} {kn : Nat → Bool} (v : Nat) (k : Int32) (hv : v ≤ 5) (I : mI n cm a) : wr_Met l yX4_layKept wsX4_layKept 5 120 D h q cI cZ (mW h q cI cZ n cm th lm a kn) [.ref h, .int (nI v), .int k] rV (fun _ n9 cm9 th9 lm9 a9 kn9 => n9 = n ∧ cm9 = cm ∧ th9 = th ∧ kn9 = kn ∧ lm9 = (keptL a kn n v k).length ∧ ∃ rw, a9 = set17 a rw ∧ rowOf (keptL a kn n v k) rw) := by
  refine wr_start rfl (by decide +kernel) (Nat.le_of_ble_eq_true rfl) (fun p e s m below meth c F hr hlocks hK H locs hP hS ls hl => ?_)
  have hl : lv_has ls 4 [(0, .ref h), (1, .int (nI v)), (2, .int k)] := hl
  have hx := F.1
  have hb := F.2.1
  have hA : ∀ x, x ∈ mAd h q → mF h q x := fun _ z => z
  have hin : ∀ w ∈ wsX40, w ∈ wsX4_layKept := fun _ z => List.mem_cons_of_mem _ (List.mem_append_right _ z)
  have hn := I.1
  have hcm := I.2.1
  refine lv_aload_n hx hb dX4_layKept_0 rfl (lv_at hl 0 rfl) ?_
  refine lv_iconst (v := 0) hx hb dX4_layKept_1 (by decide) ?_
  refine mp_put F hK hin hN hA hP hS 18 n cm th 0 rfl (by decide) (by decide +kernel) rfl rfl dX4_layKept_2 (fun H locs hP hS => ?_)
  refine lv_iconst (v := 0) hx hb dX4_layKept_5 (by decide) ?_
  refine lv_istore_n (lv' := [(3, .int 0), (0, .ref h), (1, .int (nI v)), (2, .int k)]) hx hb dX4_layKept_6 rfl hl (by decide) rfl (fun ls hl => ?_)
  have L7_u_1 : ∀ (k9u_1 : Nat) (i : Nat) (L : List Nat) (r17 : Nat → Int32) (H : Heap) (locs : List Loc) (ls : Array Slot), 40 - i < k9u_1 → i ≤ 40 → L = foldU (kpStep a kn n v k) [] i → rowOf L r17 → va_P D vwCl (mW h q cI cZ n cm th L.length (set17 a r17) kn) H → va_S (mF h q) s.heap H locs → lv_has ls 4 [(3, .int (nI i)), (0, .ref h), (1, .int (nI v)), (2, .int k)] → wrW p l e 5 120 s m [.ref h, .int (nI v), .int k] below meth c H locs D h q cI cZ rV (fun _ n9 cm9 th9 lm9 a9 kn9 => n9 = n ∧ cm9 = cm ∧ th9 = th ∧ kn9 = kn ∧ lm9 = (keptL a kn n v k).length ∧ ∃ rw, a9 = set17 a rw ∧ rowOf (keptL a kn n v k) rw) (F0 m 7 ls []) := by
    intro k9u_1
    induction k9u_1 with
    | zero => intro i L r17 H locs ls hk; exact absurd hk (Nat.not_lt_zero _)
    | succ k9u_1 ihu_1 =>
      intro i L r17 H locs ls hk hi hf hr17 hP hS hl
      have hlen : L.length ≤ i := by rw [hf]; exact kp_len a kn n v k i
      refine lv_iload_n hx hb dX4_layKept_7 rfl (lv_at hl 0 rfl) ?_
      refine lv_bipush (v := 40) hx hb dX4_layKept_8 (by decide) ?_
      refine lw_ge (tgt := 49) hx hb i 40 (by omega) (by omega) dX4_layKept_10 (by decide) (fun c_2 => ?_) (fun c_2 => ?_)
      · skip
        exact wr_retv F hr hlocks hP hS (⟨rfl, rfl, rfl, rfl, by rw [hf, show i = 40 by omega]; rfl, r17, rfl, by have z := hr17; rw [hf, show i = 40 by omega] at z; exact z⟩) dX4_layKept_49
      · skip
        refine lv_aload_n hx hb dX4_layKept_13 rfl (lv_at hl 1 rfl) ?_
        refine lv_iload_n hx hb dX4_layKept_14 rfl (lv_at hl 2 rfl) ?_
        refine lv_iload_n hx hb dX4_layKept_15 rfl (lv_at hl 0 rfl) ?_
        refine ro_callV F hK [.int (nI v), .int (nI i)] (mc_keeper hP v (nI i) (by first | assumption | omega) ((show mI n cm (set17 a r17) from I))) (cwV 2 F.2.2.2.2 gX4_layKept_X4_keeper rfl rfl rfl (by decide +kernel) ⟨Nat.le_of_ble_eq_true rfl, Nat.le_of_ble_eq_true rfl⟩) (mg_rc hK hP) rfl hl.1 rfl (lv_room (Nat.le_of_ble_eq_true rfl)) ⟨Nat.zero_le _, Nat.zero_le _⟩ dX4_layKept_16 ?_
        refine lw_E (keeperB a kn n v (nI i)) rfl ?_
        refine lv_iload_n hx hb dX4_layKept_19 rfl (lv_at hl 3 rfl) ?_
        refine lv_icmp_ne (tgt := 43) hx hb dX4_layKept_20 (by decide) (fun c_3 => ?_) (fun c_3 => ?_)
        · skip
          refine lv_iinc (v := nI (i + 1)) (lv' := [(3, .int (nI (i + 1))), (0, .ref h), (1, .int (nI v)), (2, .int k)]) hx hb dX4_layKept_43 hl (k := 0) rfl (show nI i + Int32.ofInt 1 = _ from nI_add i 1) (by decide) rfl (fun ls hl => ?_)
          refine lv_goto (tgt := 7) hx hb dX4_layKept_46 (by decide) ?_
          exact ihu_1  (i + 1) L r17 _ _ ls (by omega) (by first | omega | assumption) (by rw [foldU_s, ← hf]; simp [kpStep, c_2, c_3]) (hr17) hP hS (lv_sub hl [0, 1, 2, 3] rfl)
        · skip
          refine lv_aload_n hx hb dX4_layKept_23 rfl (lv_at hl 1 rfl) ?_
          refine mg_get F hK hin hP 17 (by decide) (by decide +kernel) rfl dX4_layKept_24 ?_
          refine lv_aload_n hx hb dX4_layKept_27 rfl (lv_at hl 1 rfl) ?_
          refine mg_get F hK hin hP 18 (by decide) (by decide +kernel) rfl dX4_layKept_28 ?_
          refine lv_iload_n hx hb dX4_layKept_31 rfl (lv_at hl 0 rfl) ?_
          refine mp_ast F hK hN hA hP hS 17 15 40 rfl L.length rfl (by omega) (by decide) rfl dX4_layKept_32 (fun H locs hP hS => ?_)
          refine lv_aload_n hx hb dX4_layKept_33 rfl (lv_at hl 1 rfl) ?_
          refine lv_dup hx hb dX4_layKept_34 rfl ?_
          refine mg_get F hK hin hP 18 (by decide) (by decide +kernel) rfl dX4_layKept_35 ?_
          refine lv_iconst (v := 1) hx hb dX4_layKept_38 (by decide) ?_
          refine lw_add hx hb (i := L.length) (j := 1) dX4_layKept_39 ?_
          refine mp_put F hK hin hN hA hP hS 18 n cm th (L.length + 1) rfl (by decide) (by decide +kernel) rfl rfl dX4_layKept_40 (fun H locs hP hS => ?_)
          refine lv_iinc (v := nI (i + 1)) (lv' := [(3, .int (nI (i + 1))), (0, .ref h), (1, .int (nI v)), (2, .int k)]) hx hb dX4_layKept_43 hl (k := 0) rfl (show nI i + Int32.ofInt 1 = _ from nI_add i 1) (by decide) rfl (fun ls hl => ?_)
          refine lv_goto (tgt := 7) hx hb dX4_layKept_46 (by decide) ?_
          exact ihu_1  (i + 1) (L ++ [i]) (upd r17 L.length (nI i)) _ _ ls (by omega) (by first | omega | assumption) (by rw [foldU_s, ← hf]; simp [kpStep, c_2, c_3]) (rowOf_add hr17 i) (by rw [← set17_up, List.length_append]; exact hP) hS (lv_sub hl [0, 1, 2, 3] rfl)
  exact L7_u_1 _ 0 ([]) (a 17) _ _ ls (Nat.lt_succ_self _) (by first | omega | assumption) (rfl) (rowOf_nil _) (by rw [set17_self]; exact hP) hS (lv_sub hl [0, 1, 2, 3] rfl)
set_option maxHeartbeats 4000000 in
set_option maxRecDepth 100000 in
theorem mc_layKeeps {l : Launch} {D : va_G} {cI cZ : ClassId} {h : Nat} {q : Nat → Nat} (hN : (mAd h q).Nodup) {n cm : Nat} {th : Int32} {lm : Nat} {a : Nat → Nat → Int32} {kn : Nat → Bool} (v : Nat) (k : Nat) (hv : v ≤ 5) (I : mI n cm a) (hk : k < cm) : wr_Met l yX4_layKeeps wsX4_layKeeps 7 169 D h q cI cZ (mW h q cI cZ n cm th lm a kn) [.ref h, .int (nI v), .int (nI k)] rV (fun _ n9 cm9 th9 lm9 a9 kn9 => n9 = n ∧ cm9 = cm ∧ th9 = th ∧ kn9 = kn ∧ lm9 = (keepsL a kn n v k).length ∧ ∃ rw, a9 = set17 a rw ∧ rowOf (keepsL a kn n v k) rw) := by
  refine wr_start rfl (by decide +kernel) (Nat.le_of_ble_eq_true rfl) (fun p e s m below meth c F hr hlocks hK H locs hP hS ls hl => ?_)
  have hl : lv_has ls 6 [(0, .ref h), (1, .int (nI v)), (2, .int (nI k))] := hl
  have hx := F.1
  have hb := F.2.1
  have hA : ∀ x, x ∈ mAd h q → mF h q x := fun _ z => z
  have hin : ∀ w ∈ wsX40, w ∈ wsX4_layKeeps := fun _ z => List.mem_cons_of_mem _ (List.mem_append_right _ z)
  have hn := I.1
  have hcm := I.2.1
  refine lv_aload_n hx hb dX4_layKeeps_0 rfl (lv_at hl 0 rfl) ?_
  refine lv_iconst (v := 0) hx hb dX4_layKeeps_1 (by decide) ?_
  refine mp_put F hK hin hN hA hP hS 18 n cm th 0 rfl (by decide) (by decide +kernel) rfl rfl dX4_layKeeps_2 (fun H locs hP hS => ?_)
  refine lv_iconst (v := 0) hx hb dX4_layKeeps_5 (by decide) ?_
  refine lv_istore_n (lv' := [(3, .int 0), (0, .ref h), (1, .int (nI v)), (2, .int (nI k))]) hx hb dX4_layKeeps_6 rfl hl (by decide) rfl (fun ls hl => ?_)
  have L7_u_1 : ∀ (k9u_1 : Nat) (i : Nat) (L : List Nat) (r17 : Nat → Int32) (H : Heap) (locs : List Loc) (ls : Array Slot), 8 - i < k9u_1 → i ≤ 8 → L = foldU (lkStep a kn n v k) [] i → rowOf L r17 → va_P D vwCl (mW h q cI cZ n cm th L.length (set17 a r17) kn) H → va_S (mF h q) s.heap H locs → lv_has ls 6 [(3, .int (nI i)), (0, .ref h), (1, .int (nI v)), (2, .int (nI k))] → wrW p l e 7 169 s m [.ref h, .int (nI v), .int (nI k)] below meth c H locs D h q cI cZ rV (fun _ n9 cm9 th9 lm9 a9 kn9 => n9 = n ∧ cm9 = cm ∧ th9 = th ∧ kn9 = kn ∧ lm9 = (keepsL a kn n v k).length ∧ ∃ rw, a9 = set17 a rw ∧ rowOf (keepsL a kn n v k) rw) (F0 m 7 ls []) := by
    intro k9u_1
    induction k9u_1 with
    | zero => intro i L r17 H locs ls hk; exact absurd hk (Nat.not_lt_zero _)
    | succ k9u_1 ihu_1 =>
      intro i L r17 H locs ls hk hi hf hr17 hP hS hl
      have hlen : L.length ≤ 5 * i := by rw [hf]; exact lk_len a kn n v k i
      refine lv_iload_n hx hb dX4_layKeeps_7 rfl (lv_at hl 0 rfl) ?_
      refine lv_bipush (v := 8) hx hb dX4_layKeeps_8 (by decide) ?_
      refine lw_ge (tgt := 95) hx hb i 8 (by omega) (by omega) dX4_layKeeps_10 (by decide) (fun c_2 => ?_) (fun c_2 => ?_)
      · skip
        exact wr_retv F hr hlocks hP hS (⟨rfl, rfl, rfl, rfl, by rw [hf, show i = 8 by omega]; rfl, r17, rfl, by have z := hr17; rw [hf, show i = 8 by omega] at z; exact z⟩) dX4_layKeeps_95
      · skip
        refine lv_aload_n hx hb dX4_layKeeps_13 rfl (lv_at hl 1 rfl) ?_
        refine lv_iload_n hx hb dX4_layKeeps_14 rfl (lv_at hl 2 rfl) ?_
        refine lv_iload_n hx hb dX4_layKeeps_15 rfl (lv_at hl 3 rfl) ?_
        refine lv_iload_n hx hb dX4_layKeeps_16 rfl (lv_at hl 0 rfl) ?_
        refine ro_callV F hK [.int (nI v), .int (nI k), .int (nI i)] (mc_lackOf hP v k i (by first | assumption | omega) ((show mI n cm (set17 a r17) from I)) (by first | assumption | omega) (by first | assumption | omega)) (cwV 3 F.2.2.2.2 gX4_layKeeps_X4_lackOf rfl rfl rfl (by decide +kernel) ⟨Nat.le_of_ble_eq_true rfl, Nat.le_of_ble_eq_true rfl⟩) (mg_rc hK hP) rfl hl.1 rfl (lv_room (Nat.le_of_ble_eq_true rfl)) ⟨Nat.zero_le _, Nat.zero_le _⟩ dX4_layKeeps_17 ?_
        refine lw_E (lackB a kn n v k i) rfl ?_
        refine lv_istore (lv' := [(4, .int (lackB a kn n v k i)), (3, .int (nI i)), (0, .ref h), (1, .int (nI v)), (2, .int (nI k))]) hx hb dX4_layKeeps_20 hl (by decide) rfl (fun ls hl => ?_)
        refine lv_iload_n hx hb dX4_layKeeps_22 rfl (lv_at hl 1 rfl) ?_
        refine lv_istore (lv' := [(5, .int (nI i)), (4, .int (lackB a kn n v k i)), (3, .int (nI i)), (0, .ref h), (1, .int (nI v)), (2, .int (nI k))]) hx hb dX4_layKeeps_23 hl (by decide) rfl (fun ls hl => ?_)
        have L25_u_3 : ∀ (k9u_3 : Nat) (t : Nat) (lk : Int32) (j : Nat) (L2 : List Nat) (r2 : Nat → Int32) (H : Heap) (locs : List Loc) (ls : Array Slot), 5 - j < k9u_3 → j ≤ 5 → t = i + 8 * j → (lk, L2) = foldU (liStep a kn n v i) (lackB a kn n v k i, L) j → rowOf L2 r2 → va_P D vwCl (mW h q cI cZ n cm th L2.length (set17 a r2) kn) H → va_S (mF h q) s.heap H locs → lv_has ls 6 [(4, .int lk), (5, .int (nI t)), (3, .int (nI i)), (0, .ref h), (1, .int (nI v)), (2, .int (nI k))] → wrW p l e 7 169 s m [.ref h, .int (nI v), .int (nI k)] below meth c H locs D h q cI cZ rV (fun _ n9 cm9 th9 lm9 a9 kn9 => n9 = n ∧ cm9 = cm ∧ th9 = th ∧ kn9 = kn ∧ lm9 = (keepsL a kn n v k).length ∧ ∃ rw, a9 = set17 a rw ∧ rowOf (keepsL a kn n v k) rw) (F0 m 25 ls []) := by
          intro k9u_3
          induction k9u_3 with
          | zero => intro t lk j L2 r2 H locs ls hk; exact absurd hk (Nat.not_lt_zero _)
          | succ k9u_3 ihu_3 =>
            intro t lk j L2 r2 H locs ls hk hj ht hg hr2 hP hS hl
            have hlen2 : L2.length ≤ L.length + j := by have z := li_len a kn n v i (lackB a kn n v k i, L) j; rw [← hg] at z; exact z
            refine lv_iload hx hb dX4_layKeeps_25 (lv_at hl 1 rfl) ?_
            refine lv_bipush (v := 40) hx hb dX4_layKeeps_27 (by decide) ?_
            refine lw_ge (tgt := 89) hx hb t 40 (by omega) (by omega) dX4_layKeeps_29 (by decide) (fun c_4 => ?_) (fun c_4 => ?_)
            · skip
              have hz : foldU (liStep a kn n v i) (lackB a kn n v k i, L) 5 = (lk, L2) := by first | (have e : j = 5 := by omega); rw [hg, e]; done | (have e := li_stop a kn n v i (lackB a kn n v k i, L) j (by rw [← hg]; assumption) (5 - j); rw [show j + (5 - j) = 5 by omega, ← hg] at e; exact e)
              refine lv_iinc (v := nI (i + 1)) (lv' := [(3, .int (nI (i + 1))), (4, .int lk), (5, .int (nI t)), (0, .ref h), (1, .int (nI v)), (2, .int (nI k))]) hx hb dX4_layKeeps_89 hl (k := 2) rfl (show nI i + Int32.ofInt 1 = _ from nI_add i 1) (by decide) rfl (fun ls hl => ?_)
              refine lv_goto (tgt := 7) hx hb dX4_layKeeps_92 (by decide) ?_
              exact ihu_1  (i + 1) L2 r2 _ _ ls (by omega) (by first | omega | assumption) (by rw [foldU_s, ← hf]; unfold lkStep; rw [hz]) (hr2) hP hS (lv_sub hl [0, 3, 4, 5] rfl)
            · skip
              refine lv_iload hx hb dX4_layKeeps_32 (lv_at hl 0 rfl) ?_
              refine lv_if_le (tgt := 89) hx hb dX4_layKeeps_34 (by decide) (fun c_5 => ?_) (fun c_5 => ?_)
              · skip
                have hz : foldU (liStep a kn n v i) (lackB a kn n v k i, L) 5 = (lk, L2) := by first | (have e : j = 5 := by omega); rw [hg, e]; done | (have e := li_stop a kn n v i (lackB a kn n v k i, L) j (by rw [← hg]; assumption) (5 - j); rw [show j + (5 - j) = 5 by omega, ← hg] at e; exact e)
                refine lv_iinc (v := nI (i + 1)) (lv' := [(3, .int (nI (i + 1))), (4, .int lk), (5, .int (nI t)), (0, .ref h), (1, .int (nI v)), (2, .int (nI k))]) hx hb dX4_layKeeps_89 hl (k := 2) rfl (show nI i + Int32.ofInt 1 = _ from nI_add i 1) (by decide) rfl (fun ls hl => ?_)
                refine lv_goto (tgt := 7) hx hb dX4_layKeeps_92 (by decide) ?_
                exact ihu_1  (i + 1) L2 r2 _ _ ls (by omega) (by first | omega | assumption) (by rw [foldU_s, ← hf]; unfold lkStep; rw [hz]) (hr2) hP hS (lv_sub hl [0, 3, 4, 5] rfl)
              · skip
                refine lv_aload_n hx hb dX4_layKeeps_37 rfl (lv_at hl 3 rfl) ?_
                refine lv_iload_n hx hb dX4_layKeeps_38 rfl (lv_at hl 4 rfl) ?_
                refine lv_iload hx hb dX4_layKeeps_39 (lv_at hl 1 rfl) ?_
                refine ro_callV F hK [.int (nI v), .int (nI t)] (mc_placeOf hP v (nI t) (by first | assumption | omega) (by first | assumption | omega)) (cwV 2 F.2.2.2.2 gX4_layKeeps_X4_placeOf rfl rfl rfl (by decide +kernel) ⟨Nat.le_of_ble_eq_true rfl, Nat.le_of_ble_eq_true rfl⟩) (mg_rc hK hP) rfl hl.1 rfl (lv_room (Nat.le_of_ble_eq_true rfl)) ⟨Nat.zero_le _, Nat.zero_le _⟩ dX4_layKeeps_41 ?_
                refine lw_E (placeB a kn n v (nI t)) rfl ?_
                refine lv_iconst (v := (-1)) hx hb dX4_layKeeps_44 (by decide) ?_
                refine lv_icmp_eq (tgt := 83) hx hb dX4_layKeeps_45 (by decide) (fun c_6 => ?_) (fun c_6 => ?_)
                · skip
                  refine lv_iinc (v := nI (t + 8)) (lv' := [(5, .int (nI (t + 8))), (4, .int lk), (3, .int (nI i)), (0, .ref h), (1, .int (nI v)), (2, .int (nI k))]) hx hb dX4_layKeeps_83 hl (k := 1) rfl (show nI t + Int32.ofInt 8 = _ from nI_add t 8) (by decide) rfl (fun ls hl => ?_)
                  refine lv_goto (tgt := 25) hx hb dX4_layKeeps_86 (by decide) ?_
                  exact ihu_3  (t + 8) lk (j + 1) L2 r2 _ _ ls (by omega) (by first | omega | assumption) (by first | omega | assumption) (by rw [foldU_s, ← hg]; subst ht; simp [liStep, c_2, c_4, c_5, c_6]) (hr2) hP hS (lv_sub hl [1, 0, 2, 3, 4, 5] rfl)
                · skip
                  refine lv_aload_n hx hb dX4_layKeeps_48 rfl (lv_at hl 3 rfl) ?_
                  refine lv_iload_n hx hb dX4_layKeeps_49 rfl (lv_at hl 4 rfl) ?_
                  refine lv_iload hx hb dX4_layKeeps_50 (lv_at hl 1 rfl) ?_
                  refine ro_callV F hK [.int (nI v), .int (nI t)] (mc_keeper hP v (nI t) (by first | assumption | omega) ((show mI n cm (set17 a r2) from I))) (cwV 2 F.2.2.2.2 gX4_layKeeps_X4_keeper rfl rfl rfl (by decide +kernel) ⟨Nat.le_of_ble_eq_true rfl, Nat.le_of_ble_eq_true rfl⟩) (mg_rc hK hP) rfl hl.1 rfl (lv_room (Nat.le_of_ble_eq_true rfl)) ⟨Nat.zero_le _, Nat.zero_le _⟩ dX4_layKeeps_52 ?_
                  refine lw_E (keeperB a kn n v (nI t)) rfl ?_
                  refine lv_iconst (v := (-1)) hx hb dX4_layKeeps_55 (by decide) ?_
                  refine lv_icmp_ne (tgt := 83) hx hb dX4_layKeeps_56 (by decide) (fun c_7 => ?_) (fun c_7 => ?_)
                  · skip
                    refine lv_iinc (v := nI (t + 8)) (lv' := [(5, .int (nI (t + 8))), (4, .int lk), (3, .int (nI i)), (0, .ref h), (1, .int (nI v)), (2, .int (nI k))]) hx hb dX4_layKeeps_83 hl (k := 1) rfl (show nI t + Int32.ofInt 8 = _ from nI_add t 8) (by decide) rfl (fun ls hl => ?_)
                    refine lv_goto (tgt := 25) hx hb dX4_layKeeps_86 (by decide) ?_
                    exact ihu_3  (t + 8) lk (j + 1) L2 r2 _ _ ls (by omega) (by first | omega | assumption) (by first | omega | assumption) (by rw [foldU_s, ← hg]; subst ht; simp [liStep, c_2, c_4, c_5, c_6, c_7]) (hr2) hP hS (lv_sub hl [1, 0, 2, 3, 4, 5] rfl)
                  · skip
                    refine lv_aload_n hx hb dX4_layKeeps_59 rfl (lv_at hl 3 rfl) ?_
                    refine mg_get F hK hin hP 17 (by decide) (by decide +kernel) rfl dX4_layKeeps_60 ?_
                    refine lv_aload_n hx hb dX4_layKeeps_63 rfl (lv_at hl 3 rfl) ?_
                    refine mg_get F hK hin hP 18 (by decide) (by decide +kernel) rfl dX4_layKeeps_64 ?_
                    refine lv_iload hx hb dX4_layKeeps_67 (lv_at hl 1 rfl) ?_
                    refine mp_ast F hK hN hA hP hS 17 15 40 rfl L2.length rfl (by omega) (by decide) rfl dX4_layKeeps_69 (fun H locs hP hS => ?_)
                    refine lv_aload_n hx hb dX4_layKeeps_70 rfl (lv_at hl 3 rfl) ?_
                    refine lv_dup hx hb dX4_layKeeps_71 rfl ?_
                    refine mg_get F hK hin hP 18 (by decide) (by decide +kernel) rfl dX4_layKeeps_72 ?_
                    refine lv_iconst (v := 1) hx hb dX4_layKeeps_75 (by decide) ?_
                    refine lw_add hx hb (i := L2.length) (j := 1) dX4_layKeeps_76 ?_
                    refine mp_put F hK hin hN hA hP hS 18 n cm th (L2.length + 1) rfl (by decide) (by decide +kernel) rfl rfl dX4_layKeeps_77 (fun H locs hP hS => ?_)
                    refine lv_iinc (v := lk + -1) (lv' := [(4, .int (lk + -1)), (5, .int (nI t)), (3, .int (nI i)), (0, .ref h), (1, .int (nI v)), (2, .int (nI k))]) hx hb dX4_layKeeps_80 hl (k := 0) rfl rfl (by decide) rfl (fun ls hl => ?_)
                    refine lv_iinc (v := nI (t + 8)) (lv' := [(5, .int (nI (t + 8))), (4, .int (lk + -1)), (3, .int (nI i)), (0, .ref h), (1, .int (nI v)), (2, .int (nI k))]) hx hb dX4_layKeeps_83 hl (k := 1) rfl (show nI t + Int32.ofInt 8 = _ from nI_add t 8) (by decide) rfl (fun ls hl => ?_)
                    refine lv_goto (tgt := 25) hx hb dX4_layKeeps_86 (by decide) ?_
                    exact ihu_3  (t + 8) (lk + -1) (j + 1) (L2 ++ [t]) (upd r2 L2.length (nI t)) _ _ ls (by omega) (by first | omega | assumption) (by first | omega | assumption) (by rw [foldU_s, ← hg]; subst ht; simp [liStep, c_2, c_4, c_5, c_6, c_7]) (rowOf_add hr2 t) (by rw [← set17_up, List.length_append]; exact hP) hS (lv_sub hl [1, 0, 2, 3, 4, 5] rfl)
        exact L25_u_3 _ i (lackB a kn n v k i) 0 L r17 _ _ ls (Nat.lt_succ_self _) (by first | omega | assumption) (by first | omega | assumption) (rfl) (hr17) hP hS (lv_sub hl [1, 0, 2, 3, 4, 5] rfl)
  exact L7_u_1 _ 0 ([]) (a 17) _ _ ls (Nat.lt_succ_self _) (by first | omega | assumption) (rfl) (rowOf_nil _) (by rw [set17_self]; exact hP) hS (lv_sub hl [0, 1, 2, 3] rfl)
set_option maxHeartbeats 4000000 in
set_option maxRecDepth 100000 in
theorem mc_keep {l : Launch} {D : va_G} {cI cZ : ClassId} {h : Nat} {q : Nat → Nat} (hN : (mAd h q).Nodup) {n cm : Nat} {th : Int32} {lm : Nat} {a : Nat → Nat → Int32} {kn : Nat → Bool} (f : Int32) (k : Int32) (I : mI n cm a) : wr_Met l yX4_keep wsX4_keep 8 194 D h q cI cZ (mW h q cI cZ n cm th lm a kn) [.ref h, .int f, .int k] rI (exQ (fun rw => mKeep n cm (set17 a rw) kn f k)) := by
  refine wr_start rfl (by decide +kernel) (Nat.le_of_ble_eq_true rfl) (fun p e s m below meth c F hr hlocks hK H locs hP hS ls hl => ?_)
  have hl : lv_has ls 5 [(0, .ref h), (1, .int f), (2, .int k)] := hl
  have hx := F.1
  have hb := F.2.1
  have hA : ∀ x, x ∈ mAd h q → mF h q x := fun _ z => z
  have hin : ∀ w ∈ wsX40, w ∈ wsX4_keep := fun _ z => List.mem_cons_of_mem _ (List.mem_append_right _ z)
  have hn := I.1
  have hcm := I.2.1
  refine lv_aload_n hx hb dX4_keep_0 rfl (lv_at hl 0 rfl) ?_
  refine lv_iload_n hx hb dX4_keep_1 rfl (lv_at hl 1 rfl) ?_
  refine lv_iload_n hx hb dX4_keep_2 rfl (lv_at hl 2 rfl) ?_
  refine wr_callVi F hK [.int f, .int k] (mc_isOpen hN f k (by first | assumption | omega)) (cwV 2 F.2.2.2.2 gX4_keep_X4_isOpen rfl rfl rfl (by decide +kernel) ⟨Nat.le_of_ble_eq_true rfl, Nat.le_of_ble_eq_true rfl⟩) (mg_rc hK hP) hP hS hA rfl hl.1 rfl (lv_room (Nat.le_of_ble_eq_true rfl)) ⟨Nat.zero_le _, Nat.zero_le _⟩ dX4_keep_3 (fun r_w_1 n_w_1 cm_w_1 th_w_1 lm_w_1 a_w_1 kn_w_1 H locs hp_w_1 hP hS => ?_)
  obtain ⟨e1_w_1, e2_w_1, e3_w_1, e4_w_1, e5_w_1, e6_w_1, e7_w_1⟩ := hp_w_1
  rw [e2_w_1, e3_w_1, e4_w_1, e5_w_1, e6_w_1, e7_w_1] at hP
  rw [e1_w_1]
  refine lw_bne (tgt := 11) hx hb dX4_keep_6 (by decide) (fun c_2 => ?_) (fun c_2 => ?_)
  · skip
    refine lv_aload_n hx hb dX4_keep_11 rfl (lv_at hl 0 rfl) ?_
    refine lv_iload_n hx hb dX4_keep_12 rfl (lv_at hl 1 rfl) ?_
    refine lv_iload_n hx hb dX4_keep_13 rfl (lv_at hl 2 rfl) ?_
    obtain ⟨vf, hvf, evf⟩ := in4 (x := f)  (by first | exact (opB_f c_2) | exact (opB_k c_2))
    have nvf : jn f = vf := by rw [evf]; exact jn_nI (by omega)
    obtain ⟨vk, hvk, evk⟩ := inC (x := k) hcm (by first | exact (opB_f c_2) | exact (opB_k c_2))
    have nvk : jn k = vk := by rw [evk]; exact jn_nI (by omega)
    refine wr_callVv F hK [.int (nI vf), .int (nI vk)] (mc_layKeeps hN vf vk (by first | assumption | omega) (by first | assumption | omega) (by first | assumption | omega)) (cwV 2 F.2.2.2.2 gX4_keep_X4_layKeeps rfl rfl rfl (by decide +kernel) ⟨Nat.le_of_ble_eq_true rfl, Nat.le_of_ble_eq_true rfl⟩) (mg_rc hK hP) hP hS hA rfl hl.1 (by first | (rw [evf, evk]; done) | (rw [evf, evk]; rfl)) (lv_room (Nat.le_of_ble_eq_true rfl)) ⟨Nat.zero_le _, Nat.zero_le _⟩ dX4_keep_14 (fun r_w_3 n_w_3 cm_w_3 th_w_3 lm_w_3 a_w_3 kn_w_3 H locs hp_w_3 hP hS => ?_)
    obtain ⟨e2_w_3, e3_w_3, e4_w_3, e7_w_3, e5_w_3, rw1, e6_w_3, hrw1⟩ := hp_w_3
    obtain ⟨Ls, hLs⟩ : ∃ z, z = keepsL a kn n vf vk := ⟨_, rfl⟩
    rw [← hLs] at e5_w_3 hrw1
    rw [e2_w_3, e3_w_3, e4_w_3, e7_w_3, e5_w_3, e6_w_3] at hP
    have hlen : Ls.length ≤ 40 := by rw [hLs]; exact lk_len a kn n vf vk 8
    refine lv_aload_n hx hb dX4_keep_17 rfl (lv_at hl 0 rfl) ?_
    refine lv_aload_n hx hb dX4_keep_18 rfl (lv_at hl 0 rfl) ?_
    refine lv_aload_n hx hb dX4_keep_19 rfl (lv_at hl 0 rfl) ?_
    refine mg_get F hK hin hP 18 (by decide) (by decide +kernel) rfl dX4_keep_20 ?_
    refine ro_callV F hK [.int (nI Ls.length)] (mc_isFull hP Ls.length (by first | assumption | omega) (by omega)) (cwV 1 F.2.2.2.2 gX4_keep_X4_isFull rfl rfl rfl (by decide +kernel) ⟨Nat.le_of_ble_eq_true rfl, Nat.le_of_ble_eq_true rfl⟩) (mg_rc hK hP) rfl hl.1 rfl (lv_room (Nat.le_of_ble_eq_true rfl)) ⟨Nat.zero_le _, Nat.zero_le _⟩ dX4_keep_23 ?_
    refine lw_beq (tgt := 33) hx hb dX4_keep_26 (by decide) (fun c_4 => ?_) (fun c_4 => ?_)
    · skip
      refine lv_iconst (v := 0) hx hb dX4_keep_33 (by decide) ?_
      refine mp_put F hK hin hN hA hP hS 16 n cm 0 Ls.length rfl (by decide) (by decide +kernel) rfl rfl dX4_keep_34 (fun H locs hP hS => ?_)
      refine lv_iconst (v := 0) hx hb dX4_keep_37 (by decide) ?_
      refine lv_istore_n (lv' := [(3, .int 0), (0, .ref h), (1, .int f), (2, .int k)]) hx hb dX4_keep_38 rfl hl (by decide) rfl (fun ls hl => ?_)
      have L39_u_5 : ∀ (k9u_5 : Nat) (j : Nat) (n2 : Nat) (a2 : Nat → Nat → Int32) (kn2 : Nat → Bool) (H : Heap) (locs : List Loc) (ls : Array Slot), Ls.length - j < k9u_5 → j ≤ Ls.length → (n2, a2, kn2) = foldU (wlStep vf 4 k Ls) (n, set17 a rw1, kn) j → va_P D vwCl (mW h q cI cZ n2 cm 0 Ls.length a2 kn2) H → va_S (mF h q) s.heap H locs → lv_has ls 5 [(3, .int (nI j)), (0, .ref h), (1, .int f), (2, .int k)] → wrW p l e 8 194 s m [.ref h, .int f, .int k] below meth c H locs D h q cI cZ rI (exQ (fun rw => mKeep n cm (set17 a rw) kn f k)) (F0 m 39 ls []) := by
        intro k9u_5
        induction k9u_5 with
        | zero => intro j n2 a2 kn2 H locs ls hk; exact absurd hk (Nat.not_lt_zero _)
        | succ k9u_5 ihu_5 =>
          intro j n2 a2 kn2 H locs ls hk hj hg hP hS hl
          have hn2 : n2 = n + j := by have z := wl_n vf 4 k Ls (n, set17 a rw1, kn) j; rw [← hg] at z; exact z
          have h17 : a2 17 = rw1 := by have z := wl_17 vf 4 k Ls (n, set17 a rw1, kn) j; rw [← hg] at z; exact z
          refine lv_iload_n hx hb dX4_keep_39 rfl (lv_at hl 0 rfl) ?_
          refine lv_aload_n hx hb dX4_keep_40 rfl (lv_at hl 1 rfl) ?_
          refine mg_get F hK hin hP 18 (by decide) (by decide +kernel) rfl dX4_keep_41 ?_
          refine lw_ge (tgt := 75) hx hb j Ls.length (by omega) (by omega) dX4_keep_44 (by decide) (fun c_6 => ?_) (fun c_6 => ?_)
          · skip
            have hE : wrL n (set17 a rw1) kn vf 4 k Ls = (n2, a2, kn2) := by unfold wrL; rw [show Ls.length = j by omega, ← hg]
            refine lv_aload_n hx hb dX4_keep_75 rfl (lv_at hl 1 rfl) ?_
            refine mg_get F hK hin hP 16 (by decide) (by decide +kernel) rfl dX4_keep_76 ?_
            refine lv_if_ne (tgt := 89) hx hb dX4_keep_79 (by decide) (fun z9 => absurd z9 (by decide)) (fun _ => ?_)
            refine lv_aload_n hx hb dX4_keep_82 rfl (lv_at hl 1 rfl) ?_
            refine mg_get F hK hin hP 18 (by decide) (by decide +kernel) rfl dX4_keep_83 ?_
            refine lv_goto (tgt := 90) hx hb dX4_keep_86 (by decide) ?_
            exact wr_reti F hr hlocks hP hS (⟨rw1, by simp [mKeep, keepsL_17, keptL_17, opB_17, opTh_17, lackAll_17, ← hLs, c_2, nvf, nvk, c_4, c_6, hE]⟩) dX4_keep_90
          · skip
            refine lv_aload_n hx hb dX4_keep_47 rfl (lv_at hl 1 rfl) ?_
            refine mg_get F hK hin hP 16 (by decide) (by decide +kernel) rfl dX4_keep_48 ?_
            refine lv_if_ne (tgt := 75) hx hb dX4_keep_51 (by decide) (fun z9 => absurd z9 (by decide)) (fun _ => ?_)
            refine lv_aload_n hx hb dX4_keep_54 rfl (lv_at hl 1 rfl) ?_
            refine lv_iload_n hx hb dX4_keep_55 rfl (lv_at hl 2 rfl) ?_
            refine lv_iconst (v := 4) hx hb dX4_keep_56 (by decide) ?_
            refine lv_aload_n hx hb dX4_keep_57 rfl (lv_at hl 1 rfl) ?_
            refine mg_get F hK hin hP 17 (by decide) (by decide +kernel) rfl dX4_keep_58 ?_
            refine lv_iload_n hx hb dX4_keep_61 rfl (lv_at hl 0 rfl) ?_
            refine mg_ald F hK hP 17 15 40 rfl j rfl (by omega) (by decide) dX4_keep_62 ?_
            refine lw_E (nI (Ls.getD j 0)) (by rw [h17]; exact rowOf_get hrw1 (by omega)) ?_
            refine lv_iload_n hx hb dX4_keep_63 rfl (lv_at hl 3 rfl) ?_
            refine wr_callVi F hK [.int (nI vf), .int 4, .int (nI (Ls.getD j 0)), .int k] (mc_write hN vf 4 (nI (Ls.getD j 0)) k (by first | assumption | omega) (by have z := c_4; simp only [fullB, decide_eq_false_iff_not] at z; omega)) (cwV 4 F.2.2.2.2 gX4_keep_X4_write rfl rfl rfl (by decide +kernel) ⟨Nat.le_of_ble_eq_true rfl, Nat.le_of_ble_eq_true rfl⟩) (mg_rc hK hP) hP hS hA rfl hl.1 (by first | (rw [evf]; done) | (rw [evf]; rfl)) (lv_room (Nat.le_of_ble_eq_true rfl)) ⟨Nat.zero_le _, Nat.zero_le _⟩ dX4_keep_64 (fun r_w_7 n_w_7 cm_w_7 th_w_7 lm_w_7 a_w_7 kn_w_7 H locs hp_w_7 hP hS => ?_)
            obtain ⟨e1_w_7, e2_w_7, e3_w_7, e4_w_7, e5_w_7, e6_w_7, e7_w_7⟩ := hp_w_7
            rw [e2_w_7, e3_w_7, e4_w_7, e5_w_7, e6_w_7, e7_w_7] at hP
            rw [e1_w_7]
            refine lv_istore (lv' := [(4, .int (a2 10 vf + 1)), (3, .int (nI j)), (0, .ref h), (1, .int f), (2, .int k)]) hx hb dX4_keep_67 hl (by decide) rfl (fun ls hl => ?_)
            refine lv_iinc (v := nI (j + 1)) (lv' := [(3, .int (nI (j + 1))), (4, .int (a2 10 vf + 1)), (0, .ref h), (1, .int f), (2, .int k)]) hx hb dX4_keep_69 hl (k := 1) rfl (show nI j + Int32.ofInt 1 = _ from nI_add j 1) (by decide) rfl (fun ls hl => ?_)
            refine lv_goto (tgt := 39) hx hb dX4_keep_72 (by decide) ?_
            exact ihu_5  (j + 1) (n2 + 1) (wrA a2 n2 vf 4 (nI (Ls.getD j 0)) k) (wrK kn2 n2 vf) _ _ ls (by omega) (by first | omega | assumption) (congrArg (wlStep vf 4 k Ls j) hg) hP hS (lv_sub hl [0, 2, 3, 4] rfl)
      exact L39_u_5 _ 0 n (set17 a rw1) kn _ _ ls (Nat.lt_succ_self _) (by first | omega | assumption) (rfl) hP hS (lv_sub hl [0, 1, 2, 3] rfl)
    · skip
      refine lv_iconst (v := 2) hx hb dX4_keep_29 (by decide) ?_
      refine lv_goto (tgt := 34) hx hb dX4_keep_30 (by decide) ?_
      refine mp_put F hK hin hN hA hP hS 16 n cm 2 Ls.length rfl (by decide) (by decide +kernel) rfl rfl dX4_keep_34 (fun H locs hP hS => ?_)
      refine lv_iconst (v := 0) hx hb dX4_keep_37 (by decide) ?_
      refine lv_istore_n (lv' := [(3, .int 0), (0, .ref h), (1, .int f), (2, .int k)]) hx hb dX4_keep_38 rfl hl (by decide) rfl (fun ls hl => ?_)
      refine lv_iload_n hx hb dX4_keep_39 rfl (lv_at hl 0 rfl) ?_
      refine lv_aload_n hx hb dX4_keep_40 rfl (lv_at hl 1 rfl) ?_
      refine mg_get F hK hin hP 18 (by decide) (by decide +kernel) rfl dX4_keep_41 ?_
      refine lw_ge (tgt := 75) hx hb 0 Ls.length (by omega) (by omega) dX4_keep_44 (by decide) (fun c_8 => ?_) (fun c_8 => ?_)
      · skip
        refine lv_aload_n hx hb dX4_keep_75 rfl (lv_at hl 1 rfl) ?_
        refine mg_get F hK hin hP 16 (by decide) (by decide +kernel) rfl dX4_keep_76 ?_
        refine lv_if_ne (tgt := 89) hx hb dX4_keep_79 (by decide) (fun _ => ?_) (fun z9 => absurd z9 (by decide))
        refine lv_iconst (v := 0) hx hb dX4_keep_89 (by decide) ?_
        exact wr_reti F hr hlocks hP hS (⟨rw1, by simp [mKeep, keepsL_17, keptL_17, opB_17, opTh_17, lackAll_17, ← hLs, c_2, nvf, nvk, c_4, c_8]⟩) dX4_keep_90
      · skip
        refine lv_aload_n hx hb dX4_keep_47 rfl (lv_at hl 1 rfl) ?_
        refine mg_get F hK hin hP 16 (by decide) (by decide +kernel) rfl dX4_keep_48 ?_
        refine lv_if_ne (tgt := 75) hx hb dX4_keep_51 (by decide) (fun _ => ?_) (fun z9 => absurd z9 (by decide))
        refine lv_aload_n hx hb dX4_keep_75 rfl (lv_at hl 1 rfl) ?_
        refine mg_get F hK hin hP 16 (by decide) (by decide +kernel) rfl dX4_keep_76 ?_
        refine lv_if_ne (tgt := 89) hx hb dX4_keep_79 (by decide) (fun _ => ?_) (fun z9 => absurd z9 (by decide))
        refine lv_iconst (v := 0) hx hb dX4_keep_89 (by decide) ?_
        exact wr_reti F hr hlocks hP hS (⟨rw1, by simp [mKeep, keepsL_17, keptL_17, opB_17, opTh_17, lackAll_17, ← hLs, c_2, nvf, nvk, c_4, c_8]⟩) dX4_keep_90
  · skip
    refine lv_iconst (v := 0) hx hb dX4_keep_9 (by decide) ?_
    exact wr_reti F hr hlocks hP hS (⟨a 17, by show _ = mKeep n cm (set17 a (a 17)) kn f k; rw [set17_self]; simp [mKeep, c_2]⟩) dX4_keep_10
set_option maxHeartbeats 4000000 in
set_option maxRecDepth 100000 in
theorem mc_drop {l : Launch} {D : va_G} {cI cZ : ClassId} {h : Nat} {q : Nat → Nat} (hN : (mAd h q).Nodup) {n cm : Nat} {th : Int32} {lm : Nat} {a : Nat → Nat → Int32} {kn : Nat → Bool} (f : Int32) (k : Int32) (I : mI n cm a) : wr_Met l yX4_drop wsX4_drop 6 143 D h q cI cZ (mW h q cI cZ n cm th lm a kn) [.ref h, .int f, .int k] rI (exQ (fun rw => mDrop n cm (set17 a rw) kn f k)) := by
  refine wr_start rfl (by decide +kernel) (Nat.le_of_ble_eq_true rfl) (fun p e s m below meth c F hr hlocks hK H locs hP hS ls hl => ?_)
  have hl : lv_has ls 4 [(0, .ref h), (1, .int f), (2, .int k)] := hl
  have hx := F.1
  have hb := F.2.1
  have hA : ∀ x, x ∈ mAd h q → mF h q x := fun _ z => z
  have hin : ∀ w ∈ wsX40, w ∈ wsX4_drop := fun _ z => List.mem_cons_of_mem _ (List.mem_append_right _ z)
  have hn := I.1
  have hcm := I.2.1
  refine lv_aload_n hx hb dX4_drop_0 rfl (lv_at hl 0 rfl) ?_
  refine lv_iload_n hx hb dX4_drop_1 rfl (lv_at hl 1 rfl) ?_
  refine lv_iload_n hx hb dX4_drop_2 rfl (lv_at hl 2 rfl) ?_
  refine wr_callVi F hK [.int f, .int k] (mc_isOpen hN f k (by first | assumption | omega)) (cwV 2 F.2.2.2.2 gX4_drop_X4_isOpen rfl rfl rfl (by decide +kernel) ⟨Nat.le_of_ble_eq_true rfl, Nat.le_of_ble_eq_true rfl⟩) (mg_rc hK hP) hP hS hA rfl hl.1 rfl (lv_room (Nat.le_of_ble_eq_true rfl)) ⟨Nat.zero_le _, Nat.zero_le _⟩ dX4_drop_3 (fun r_w_1 n_w_1 cm_w_1 th_w_1 lm_w_1 a_w_1 kn_w_1 H locs hp_w_1 hP hS => ?_)
  obtain ⟨e1_w_1, e2_w_1, e3_w_1, e4_w_1, e5_w_1, e6_w_1, e7_w_1⟩ := hp_w_1
  rw [e2_w_1, e3_w_1, e4_w_1, e5_w_1, e6_w_1, e7_w_1] at hP
  rw [e1_w_1]
  refine lw_bne (tgt := 11) hx hb dX4_drop_6 (by decide) (fun c_2 => ?_) (fun c_2 => ?_)
  · skip
    refine lv_aload_n hx hb dX4_drop_11 rfl (lv_at hl 0 rfl) ?_
    refine lv_iload_n hx hb dX4_drop_12 rfl (lv_at hl 1 rfl) ?_
    refine lv_iload_n hx hb dX4_drop_13 rfl (lv_at hl 2 rfl) ?_
    obtain ⟨vf, hvf, evf⟩ := in4 (x := f)  (by first | exact (opB_f c_2) | exact (opB_k c_2))
    have nvf : jn f = vf := by rw [evf]; exact jn_nI (by omega)
    refine wr_callVv F hK [.int (nI vf), .int k] (mc_layKept hN vf k (by first | assumption | omega) (by first | assumption | omega)) (cwV 2 F.2.2.2.2 gX4_drop_X4_layKept rfl rfl rfl (by decide +kernel) ⟨Nat.le_of_ble_eq_true rfl, Nat.le_of_ble_eq_true rfl⟩) (mg_rc hK hP) hP hS hA rfl hl.1 (by first | (rw [evf]; done) | (rw [evf]; rfl)) (lv_room (Nat.le_of_ble_eq_true rfl)) ⟨Nat.zero_le _, Nat.zero_le _⟩ dX4_drop_14 (fun r_w_3 n_w_3 cm_w_3 th_w_3 lm_w_3 a_w_3 kn_w_3 H locs hp_w_3 hP hS => ?_)
    obtain ⟨e2_w_3, e3_w_3, e4_w_3, e7_w_3, e5_w_3, rw1, e6_w_3, hrw1⟩ := hp_w_3
    obtain ⟨Ls, hLs⟩ : ∃ z, z = keptL a kn n vf k := ⟨_, rfl⟩
    rw [← hLs] at e5_w_3 hrw1
    rw [e2_w_3, e3_w_3, e4_w_3, e7_w_3, e5_w_3, e6_w_3] at hP
    have hlen : Ls.length ≤ 40 := by rw [hLs]; exact kp_len a kn n vf k 40
    refine lv_aload_n hx hb dX4_drop_17 rfl (lv_at hl 0 rfl) ?_
    refine lv_aload_n hx hb dX4_drop_18 rfl (lv_at hl 0 rfl) ?_
    refine lv_iconst (v := 1) hx hb dX4_drop_19 (by decide) ?_
    refine ro_callV F hK [.int 1] (mc_isFull hP 1 (by first | assumption | omega) (by first | assumption | omega)) (cwV 1 F.2.2.2.2 gX4_drop_X4_isFull rfl rfl rfl (by decide +kernel) ⟨Nat.le_of_ble_eq_true rfl, Nat.le_of_ble_eq_true rfl⟩) (mg_rc hK hP) rfl hl.1 rfl (lv_room (Nat.le_of_ble_eq_true rfl)) ⟨Nat.zero_le _, Nat.zero_le _⟩ dX4_drop_20 ?_
    refine lw_beq (tgt := 30) hx hb dX4_drop_23 (by decide) (fun c_4 => ?_) (fun c_4 => ?_)
    · skip
      refine lv_iconst (v := 0) hx hb dX4_drop_30 (by decide) ?_
      refine mp_put F hK hin hN hA hP hS 16 n cm 0 Ls.length rfl (by decide) (by decide +kernel) rfl rfl dX4_drop_31 (fun H locs hP hS => ?_)
      refine lv_aload_n hx hb dX4_drop_34 rfl (lv_at hl 0 rfl) ?_
      refine mg_get F hK hin hP 16 (by decide) (by decide +kernel) rfl dX4_drop_35 ?_
      refine lv_if_le (tgt := 43) hx hb dX4_drop_38 (by decide) (fun _ => ?_) (fun z9 => absurd (by decide) z9)
      refine lv_aload_n hx hb dX4_drop_43 rfl (lv_at hl 0 rfl) ?_
      refine lv_iload_n hx hb dX4_drop_44 rfl (lv_at hl 1 rfl) ?_
      refine lv_iconst (v := 5) hx hb dX4_drop_45 (by decide) ?_
      refine lv_iload_n hx hb dX4_drop_46 rfl (lv_at hl 2 rfl) ?_
      refine lv_iconst (v := (-1)) hx hb dX4_drop_47 (by decide) ?_
      refine wr_callVi F hK [.int (nI vf), .int 5, .int k, .int (-1)] (mc_write hN vf 5 k (-1) (by first | assumption | omega) (by have z := c_4; simp only [fullB, decide_eq_false_iff_not] at z; omega)) (cwV 4 F.2.2.2.2 gX4_drop_X4_write rfl rfl rfl (by decide +kernel) ⟨Nat.le_of_ble_eq_true rfl, Nat.le_of_ble_eq_true rfl⟩) (mg_rc hK hP) hP hS hA rfl hl.1 (by first | (rw [evf]; done) | (rw [evf]; rfl)) (lv_room (Nat.le_of_ble_eq_true rfl)) ⟨Nat.zero_le _, Nat.zero_le _⟩ dX4_drop_48 (fun r_w_5 n_w_5 cm_w_5 th_w_5 lm_w_5 a_w_5 kn_w_5 H locs hp_w_5 hP hS => ?_)
      obtain ⟨e1_w_5, e2_w_5, e3_w_5, e4_w_5, e5_w_5, e6_w_5, e7_w_5⟩ := hp_w_5
      rw [e2_w_5, e3_w_5, e4_w_5, e5_w_5, e6_w_5, e7_w_5] at hP
      rw [e1_w_5]
      refine lv_istore_n (lv' := [(3, .int ((set17 a rw1) 10 vf + 1)), (0, .ref h), (1, .int f), (2, .int k)]) hx hb dX4_drop_51 rfl hl (by decide) rfl (fun ls hl => ?_)
      refine lv_aload_n hx hb dX4_drop_52 rfl (lv_at hl 1 rfl) ?_
      refine mg_get F hK hin hP 18 (by decide) (by decide +kernel) rfl dX4_drop_53 ?_
      exact wr_reti F hr hlocks hP hS (⟨rw1, by simp [mDrop, keepsL_17, keptL_17, opB_17, opTh_17, lackAll_17, ← hLs, c_2, nvf, c_4]⟩) dX4_drop_56
    · skip
      refine lv_iconst (v := 2) hx hb dX4_drop_26 (by decide) ?_
      refine lv_goto (tgt := 31) hx hb dX4_drop_27 (by decide) ?_
      refine mp_put F hK hin hN hA hP hS 16 n cm 2 Ls.length rfl (by decide) (by decide +kernel) rfl rfl dX4_drop_31 (fun H locs hP hS => ?_)
      refine lv_aload_n hx hb dX4_drop_34 rfl (lv_at hl 0 rfl) ?_
      refine mg_get F hK hin hP 16 (by decide) (by decide +kernel) rfl dX4_drop_35 ?_
      refine lv_if_le (tgt := 43) hx hb dX4_drop_38 (by decide) (fun z9 => absurd z9 (by decide)) (fun _ => ?_)
      refine lv_iconst (v := 0) hx hb dX4_drop_41 (by decide) ?_
      exact wr_reti F hr hlocks hP hS (⟨rw1, by simp [mDrop, keepsL_17, keptL_17, opB_17, opTh_17, lackAll_17, ← hLs, c_2, nvf, c_4]⟩) dX4_drop_42
  · skip
    refine lv_iconst (v := 0) hx hb dX4_drop_9 (by decide) ?_
    exact wr_reti F hr hlocks hP hS (⟨a 17, by show _ = mDrop n cm (set17 a (a 17)) kn f k; rw [set17_self]; simp [mDrop, c_2]⟩) dX4_drop_10
set_option maxHeartbeats 4000000 in
set_option maxRecDepth 100000 in
theorem mc_bake {l : Launch} {D : va_G} {cI cZ : ClassId} {h : Nat} {q : Nat → Nat} (hN : (mAd h q).Nodup) {n cm : Nat} {th : Int32} {lm : Nat} {a : Nat → Nat → Int32} {kn : Nat → Bool} (f : Int32) (k : Int32) (I : mI n cm a) : wr_Met l yX4_bake wsX4_bake 7 169 D h q cI cZ (mW h q cI cZ n cm th lm a kn) [.ref h, .int f, .int k] rI (exQ (fun rw => mBake n cm (set17 a rw) kn f k)) := by
  refine wr_start rfl (by decide +kernel) (Nat.le_of_ble_eq_true rfl) (fun p e s m below meth c F hr hlocks hK H locs hP hS ls hl => ?_)
  have hl : lv_has ls 6 [(0, .ref h), (1, .int f), (2, .int k)] := hl
  have hx := F.1
  have hb := F.2.1
  have hA : ∀ x, x ∈ mAd h q → mF h q x := fun _ z => z
  have hin : ∀ w ∈ wsX40, w ∈ wsX4_bake := fun _ z => List.mem_cons_of_mem _ (List.mem_append_right _ z)
  have hn := I.1
  have hcm := I.2.1
  refine lv_aload_n hx hb dX4_bake_0 rfl (lv_at hl 0 rfl) ?_
  refine lv_iload_n hx hb dX4_bake_1 rfl (lv_at hl 1 rfl) ?_
  refine lv_iload_n hx hb dX4_bake_2 rfl (lv_at hl 2 rfl) ?_
  refine wr_callVi F hK [.int f, .int k] (mc_isOpen hN f k (by first | assumption | omega)) (cwV 2 F.2.2.2.2 gX4_bake_X4_isOpen rfl rfl rfl (by decide +kernel) ⟨Nat.le_of_ble_eq_true rfl, Nat.le_of_ble_eq_true rfl⟩) (mg_rc hK hP) hP hS hA rfl hl.1 rfl (lv_room (Nat.le_of_ble_eq_true rfl)) ⟨Nat.zero_le _, Nat.zero_le _⟩ dX4_bake_3 (fun r_w_1 n_w_1 cm_w_1 th_w_1 lm_w_1 a_w_1 kn_w_1 H locs hp_w_1 hP hS => ?_)
  obtain ⟨e1_w_1, e2_w_1, e3_w_1, e4_w_1, e5_w_1, e6_w_1, e7_w_1⟩ := hp_w_1
  rw [e2_w_1, e3_w_1, e4_w_1, e5_w_1, e6_w_1, e7_w_1] at hP
  rw [e1_w_1]
  refine lw_bne (tgt := 11) hx hb dX4_bake_6 (by decide) (fun c_2 => ?_) (fun c_2 => ?_)
  · skip
    refine lv_iconst (v := 0) hx hb dX4_bake_11 (by decide) ?_
    refine lv_istore_n (lv' := [(3, .int 0), (0, .ref h), (1, .int f), (2, .int k)]) hx hb dX4_bake_12 rfl hl (by decide) rfl (fun ls hl => ?_)
    refine lv_iconst (v := 0) hx hb dX4_bake_13 (by decide) ?_
    refine lv_istore (lv' := [(4, .int 0), (3, .int 0), (0, .ref h), (1, .int f), (2, .int k)]) hx hb dX4_bake_14 hl (by decide) rfl (fun ls hl => ?_)
    have L16_u_3 : ∀ (k9u_3 : Nat) (i : Nat) (y : Int32) (H : Heap) (locs : List Loc) (ls : Array Slot), 8 - i < k9u_3 → i ≤ 8 → y = foldU (laStep a kn n (jn f) (jn k)) 0 i → va_P D vwCl (mW h q cI cZ n cm (opTh n cm a kn f k) lm a kn) H → va_S (mF h q) s.heap H locs → lv_has ls 6 [(3, .int y), (4, .int (nI i)), (0, .ref h), (1, .int f), (2, .int k)] → wrW p l e 7 169 s m [.ref h, .int f, .int k] below meth c H locs D h q cI cZ rI (exQ (fun rw => mBake n cm (set17 a rw) kn f k)) (F0 m 16 ls []) := by
      intro k9u_3
      induction k9u_3 with
      | zero => intro i y H locs ls hk; exact absurd hk (Nat.not_lt_zero _)
      | succ k9u_3 ihu_3 =>
        intro i y H locs ls hk hi hf hP hS hl
        refine lv_iload hx hb dX4_bake_16 (lv_at hl 1 rfl) ?_
        refine lv_bipush (v := 8) hx hb dX4_bake_18 (by decide) ?_
        refine lw_ge (tgt := 40) hx hb i 8 (by omega) (by omega) dX4_bake_20 (by decide) (fun c_4 => ?_) (fun c_4 => ?_)
        · skip
          obtain ⟨vf, hvf, evf⟩ := in4 (x := f)  (by first | exact (opB_f c_2) | exact (opB_k c_2))
          have nvf : jn f = vf := by rw [evf]; exact jn_nI (by omega)
          obtain ⟨vk, hvk, evk⟩ := inC (x := k) hcm (by first | exact (opB_f c_2) | exact (opB_k c_2))
          have nvk : jn k = vk := by rw [evk]; exact jn_nI (by omega)
          have hY : lackAll a kn n vf vk = y := by rw [hf, show i = 8 by omega, nvf, nvk]; rfl
          refine lv_aload_n hx hb dX4_bake_40 rfl (lv_at hl 2 rfl) ?_
          refine lv_iload_n hx hb dX4_bake_41 rfl (lv_at hl 3 rfl) ?_
          refine lv_iload_n hx hb dX4_bake_42 rfl (lv_at hl 4 rfl) ?_
          refine wr_callVv F hK [.int (nI vf), .int k] (mc_layKept hN vf k (by first | assumption | omega) (by first | assumption | omega)) (cwV 2 F.2.2.2.2 gX4_bake_X4_layKept rfl rfl rfl (by decide +kernel) ⟨Nat.le_of_ble_eq_true rfl, Nat.le_of_ble_eq_true rfl⟩) (mg_rc hK hP) hP hS hA rfl hl.1 (by first | (rw [evf]; done) | (rw [evf]; rfl)) (lv_room (Nat.le_of_ble_eq_true rfl)) ⟨Nat.zero_le _, Nat.zero_le _⟩ dX4_bake_43 (fun r_w_5 n_w_5 cm_w_5 th_w_5 lm_w_5 a_w_5 kn_w_5 H locs hp_w_5 hP hS => ?_)
          obtain ⟨e2_w_5, e3_w_5, e4_w_5, e7_w_5, e5_w_5, rw1, e6_w_5, hrw1⟩ := hp_w_5
          obtain ⟨Ls, hLs⟩ : ∃ z, z = keptL a kn n vf k := ⟨_, rfl⟩
          rw [← hLs] at e5_w_5 hrw1
          rw [e2_w_5, e3_w_5, e4_w_5, e7_w_5, e5_w_5, e6_w_5] at hP
          have hlen : Ls.length ≤ 40 := by rw [hLs]; exact kp_len a kn n vf k 40
          refine lv_aload_n hx hb dX4_bake_46 rfl (lv_at hl 2 rfl) ?_
          refine lv_iload_n hx hb dX4_bake_47 rfl (lv_at hl 0 rfl) ?_
          refine lv_if_gt (tgt := 64) hx hb dX4_bake_48 (by decide) (fun c_6 => ?_) (fun c_6 => ?_)
          · skip
            refine lv_iconst (v := 2) hx hb dX4_bake_64 (by decide) ?_
            refine lv_goto (tgt := 69) hx hb dX4_bake_65 (by decide) ?_
            refine mp_put F hK hin hN hA hP hS 16 n cm 2 Ls.length rfl (by decide) (by decide +kernel) rfl rfl dX4_bake_69 (fun H locs hP hS => ?_)
            refine lv_aload_n hx hb dX4_bake_72 rfl (lv_at hl 2 rfl) ?_
            refine mg_get F hK hin hP 16 (by decide) (by decide +kernel) rfl dX4_bake_73 ?_
            refine lv_if_le (tgt := 81) hx hb dX4_bake_76 (by decide) (fun z9 => absurd z9 (by decide)) (fun _ => ?_)
            refine lv_iconst (v := 0) hx hb dX4_bake_79 (by decide) ?_
            exact wr_reti F hr hlocks hP hS (⟨rw1, by simp [mBake, keepsL_17, keptL_17, opB_17, opTh_17, lackAll_17, ← hLs, c_2, c_4, nvf, nvk, hY, c_6]⟩) dX4_bake_80
          · skip
            refine lv_aload_n hx hb dX4_bake_51 rfl (lv_at hl 2 rfl) ?_
            refine lv_aload_n hx hb dX4_bake_52 rfl (lv_at hl 2 rfl) ?_
            refine mg_get F hK hin hP 18 (by decide) (by decide +kernel) rfl dX4_bake_53 ?_
            refine lv_iconst (v := 1) hx hb dX4_bake_56 (by decide) ?_
            refine lw_add hx hb (i := Ls.length) (j := 1) dX4_bake_57 ?_
            refine ro_callV F hK [.int (nI (Ls.length + 1))] (mc_isFull hP (Ls.length + 1) (by first | assumption | omega) (by omega)) (cwV 1 F.2.2.2.2 gX4_bake_X4_isFull rfl rfl rfl (by decide +kernel) ⟨Nat.le_of_ble_eq_true rfl, Nat.le_of_ble_eq_true rfl⟩) (mg_rc hK hP) rfl hl.1 rfl (lv_room (Nat.le_of_ble_eq_true rfl)) ⟨Nat.zero_le _, Nat.zero_le _⟩ dX4_bake_58 ?_
            refine lw_beq (tgt := 68) hx hb dX4_bake_61 (by decide) (fun c_7 => ?_) (fun c_7 => ?_)
            · skip
              refine lv_iconst (v := 0) hx hb dX4_bake_68 (by decide) ?_
              refine mp_put F hK hin hN hA hP hS 16 n cm 0 Ls.length rfl (by decide) (by decide +kernel) rfl rfl dX4_bake_69 (fun H locs hP hS => ?_)
              refine lv_aload_n hx hb dX4_bake_72 rfl (lv_at hl 2 rfl) ?_
              refine mg_get F hK hin hP 16 (by decide) (by decide +kernel) rfl dX4_bake_73 ?_
              refine lv_if_le (tgt := 81) hx hb dX4_bake_76 (by decide) (fun _ => ?_) (fun z9 => absurd (by decide) z9)
              refine lv_iconst (v := 0) hx hb dX4_bake_81 (by decide) ?_
              refine lv_istore (lv' := [(4, .int 0), (3, .int y), (0, .ref h), (1, .int f), (2, .int k)]) hx hb dX4_bake_82 hl (by decide) rfl (fun ls hl => ?_)
              have L84_u_8 : ∀ (k9u_8 : Nat) (j : Nat) (n2 : Nat) (a2 : Nat → Nat → Int32) (kn2 : Nat → Bool) (H : Heap) (locs : List Loc) (ls : Array Slot), Ls.length - j < k9u_8 → j ≤ Ls.length → (n2, a2, kn2) = foldU (wlStep vf 1 k Ls) (n, set17 a rw1, kn) j → va_P D vwCl (mW h q cI cZ n2 cm 0 Ls.length a2 kn2) H → va_S (mF h q) s.heap H locs → lv_has ls 6 [(4, .int (nI j)), (3, .int y), (0, .ref h), (1, .int f), (2, .int k)] → wrW p l e 7 169 s m [.ref h, .int f, .int k] below meth c H locs D h q cI cZ rI (exQ (fun rw => mBake n cm (set17 a rw) kn f k)) (F0 m 84 ls []) := by
                intro k9u_8
                induction k9u_8 with
                | zero => intro j n2 a2 kn2 H locs ls hk; exact absurd hk (Nat.not_lt_zero _)
                | succ k9u_8 ihu_8 =>
                  intro j n2 a2 kn2 H locs ls hk hj hg hP hS hl
                  have hn2 : n2 = n + j := by have z := wl_n vf 1 k Ls (n, set17 a rw1, kn) j; rw [← hg] at z; exact z
                  have h17 : a2 17 = rw1 := by have z := wl_17 vf 1 k Ls (n, set17 a rw1, kn) j; rw [← hg] at z; exact z
                  refine lv_iload hx hb dX4_bake_84 (lv_at hl 0 rfl) ?_
                  refine lv_aload_n hx hb dX4_bake_86 rfl (lv_at hl 2 rfl) ?_
                  refine mg_get F hK hin hP 18 (by decide) (by decide +kernel) rfl dX4_bake_87 ?_
                  refine lw_ge (tgt := 115) hx hb j Ls.length (by omega) (by omega) dX4_bake_90 (by decide) (fun c_9 => ?_) (fun c_9 => ?_)
                  · skip
                    have hE : wrL n (set17 a rw1) kn vf 1 k Ls = (n2, a2, kn2) := by unfold wrL; rw [show Ls.length = j by omega, ← hg]
                    refine lv_aload_n hx hb dX4_bake_115 rfl (lv_at hl 2 rfl) ?_
                    refine lv_iload_n hx hb dX4_bake_116 rfl (lv_at hl 3 rfl) ?_
                    refine lv_bipush (v := 6) hx hb dX4_bake_117 (by decide) ?_
                    refine lv_iload_n hx hb dX4_bake_119 rfl (lv_at hl 4 rfl) ?_
                    refine lv_iconst (v := (-1)) hx hb dX4_bake_120 (by decide) ?_
                    refine wr_callVi F hK [.int (nI vf), .int 6, .int k, .int (-1)] (mc_write hN vf 6 k (-1) (by first | assumption | omega) (by have z := c_7; simp only [fullB, decide_eq_false_iff_not] at z; omega)) (cwV 4 F.2.2.2.2 gX4_bake_X4_write rfl rfl rfl (by decide +kernel) ⟨Nat.le_of_ble_eq_true rfl, Nat.le_of_ble_eq_true rfl⟩) (mg_rc hK hP) hP hS hA rfl hl.1 (by first | (rw [evf]; done) | (rw [evf]; rfl)) (lv_room (Nat.le_of_ble_eq_true rfl)) ⟨Nat.zero_le _, Nat.zero_le _⟩ dX4_bake_121 (fun r_w_10 n_w_10 cm_w_10 th_w_10 lm_w_10 a_w_10 kn_w_10 H locs hp_w_10 hP hS => ?_)
                    obtain ⟨e1_w_10, e2_w_10, e3_w_10, e4_w_10, e5_w_10, e6_w_10, e7_w_10⟩ := hp_w_10
                    rw [e2_w_10, e3_w_10, e4_w_10, e5_w_10, e6_w_10, e7_w_10] at hP
                    rw [e1_w_10]
                    refine lv_istore (lv' := [(4, .int (a2 10 vf + 1)), (3, .int y), (0, .ref h), (1, .int f), (2, .int k)]) hx hb dX4_bake_124 hl (by decide) rfl (fun ls hl => ?_)
                    refine lv_aload_n hx hb dX4_bake_126 rfl (lv_at hl 2 rfl) ?_
                    refine mg_get F hK hin hP 18 (by decide) (by decide +kernel) rfl dX4_bake_127 ?_
                    exact wr_reti F hr hlocks hP hS (⟨rw1, by simp [mBake, keepsL_17, keptL_17, opB_17, opTh_17, lackAll_17, ← hLs, c_2, c_4, nvf, nvk, hY, c_6, c_7, c_9, hE]⟩) dX4_bake_130
                  · skip
                    refine lv_aload_n hx hb dX4_bake_93 rfl (lv_at hl 2 rfl) ?_
                    refine lv_iload_n hx hb dX4_bake_94 rfl (lv_at hl 3 rfl) ?_
                    refine lv_iconst (v := 1) hx hb dX4_bake_95 (by decide) ?_
                    refine lv_aload_n hx hb dX4_bake_96 rfl (lv_at hl 2 rfl) ?_
                    refine mg_get F hK hin hP 17 (by decide) (by decide +kernel) rfl dX4_bake_97 ?_
                    refine lv_iload hx hb dX4_bake_100 (lv_at hl 0 rfl) ?_
                    refine mg_ald F hK hP 17 15 40 rfl j rfl (by omega) (by decide) dX4_bake_102 ?_
                    refine lw_E (nI (Ls.getD j 0)) (by rw [h17]; exact rowOf_get hrw1 (by omega)) ?_
                    refine lv_iload_n hx hb dX4_bake_103 rfl (lv_at hl 4 rfl) ?_
                    refine wr_callVi F hK [.int (nI vf), .int 1, .int (nI (Ls.getD j 0)), .int k] (mc_write hN vf 1 (nI (Ls.getD j 0)) k (by first | assumption | omega) (by have z := c_7; simp only [fullB, decide_eq_false_iff_not] at z; omega)) (cwV 4 F.2.2.2.2 gX4_bake_X4_write rfl rfl rfl (by decide +kernel) ⟨Nat.le_of_ble_eq_true rfl, Nat.le_of_ble_eq_true rfl⟩) (mg_rc hK hP) hP hS hA rfl hl.1 (by first | (rw [evf]; done) | (rw [evf]; rfl)) (lv_room (Nat.le_of_ble_eq_true rfl)) ⟨Nat.zero_le _, Nat.zero_le _⟩ dX4_bake_104 (fun r_w_11 n_w_11 cm_w_11 th_w_11 lm_w_11 a_w_11 kn_w_11 H locs hp_w_11 hP hS => ?_)
                    obtain ⟨e1_w_11, e2_w_11, e3_w_11, e4_w_11, e5_w_11, e6_w_11, e7_w_11⟩ := hp_w_11
                    rw [e2_w_11, e3_w_11, e4_w_11, e5_w_11, e6_w_11, e7_w_11] at hP
                    rw [e1_w_11]
                    refine lv_istore (lv' := [(5, .int (a2 10 vf + 1)), (4, .int (nI j)), (3, .int y), (0, .ref h), (1, .int f), (2, .int k)]) hx hb dX4_bake_107 hl (by decide) rfl (fun ls hl => ?_)
                    refine lv_iinc (v := nI (j + 1)) (lv' := [(4, .int (nI (j + 1))), (5, .int (a2 10 vf + 1)), (3, .int y), (0, .ref h), (1, .int f), (2, .int k)]) hx hb dX4_bake_109 hl (k := 1) rfl (show nI j + Int32.ofInt 1 = _ from nI_add j 1) (by decide) rfl (fun ls hl => ?_)
                    refine lv_goto (tgt := 84) hx hb dX4_bake_112 (by decide) ?_
                    exact ihu_8  (j + 1) (n2 + 1) (wrA a2 n2 vf 1 (nI (Ls.getD j 0)) k) (wrK kn2 n2 vf) _ _ ls (by omega) (by first | omega | assumption) (congrArg (wlStep vf 1 k Ls j) hg) hP hS (lv_sub hl [0, 2, 3, 4, 5] rfl)
              exact L84_u_8 _ 0 n (set17 a rw1) kn _ _ ls (Nat.lt_succ_self _) (by first | omega | assumption) (rfl) hP hS (lv_sub hl [0, 1, 2, 3, 4] rfl)
            · skip
              refine lv_iconst (v := 2) hx hb dX4_bake_64 (by decide) ?_
              refine lv_goto (tgt := 69) hx hb dX4_bake_65 (by decide) ?_
              refine mp_put F hK hin hN hA hP hS 16 n cm 2 Ls.length rfl (by decide) (by decide +kernel) rfl rfl dX4_bake_69 (fun H locs hP hS => ?_)
              refine lv_aload_n hx hb dX4_bake_72 rfl (lv_at hl 2 rfl) ?_
              refine mg_get F hK hin hP 16 (by decide) (by decide +kernel) rfl dX4_bake_73 ?_
              refine lv_if_le (tgt := 81) hx hb dX4_bake_76 (by decide) (fun z9 => absurd z9 (by decide)) (fun _ => ?_)
              refine lv_iconst (v := 0) hx hb dX4_bake_79 (by decide) ?_
              exact wr_reti F hr hlocks hP hS (⟨rw1, by simp [mBake, keepsL_17, keptL_17, opB_17, opTh_17, lackAll_17, ← hLs, c_2, c_4, nvf, nvk, hY, c_6, c_7]⟩) dX4_bake_80
        · skip
          refine lv_iload_n hx hb dX4_bake_23 rfl (lv_at hl 0 rfl) ?_
          refine lv_aload_n hx hb dX4_bake_24 rfl (lv_at hl 2 rfl) ?_
          refine lv_iload_n hx hb dX4_bake_25 rfl (lv_at hl 3 rfl) ?_
          refine lv_iload_n hx hb dX4_bake_26 rfl (lv_at hl 4 rfl) ?_
          refine lv_iload hx hb dX4_bake_27 (lv_at hl 1 rfl) ?_
          obtain ⟨vf, hvf, evf⟩ := in4 (x := f)  (by first | exact (opB_f c_2) | exact (opB_k c_2))
          have nvf : jn f = vf := by rw [evf]; exact jn_nI (by omega)
          obtain ⟨vk, hvk, evk⟩ := inC (x := k) hcm (by first | exact (opB_f c_2) | exact (opB_k c_2))
          have nvk : jn k = vk := by rw [evk]; exact jn_nI (by omega)
          refine ro_callV F hK [.int (nI vf), .int (nI vk), .int (nI i)] (mc_lackOf hP vf vk i (by first | assumption | omega) (by first | assumption | omega) (by first | assumption | omega) (by first | assumption | omega)) (cwV 3 F.2.2.2.2 gX4_bake_X4_lackOf rfl rfl rfl (by decide +kernel) ⟨Nat.le_of_ble_eq_true rfl, Nat.le_of_ble_eq_true rfl⟩) (mg_rc hK hP) rfl hl.1 (by first | (rw [evf, evk]; done) | (rw [evf, evk]; rfl)) (lv_room (Nat.le_of_ble_eq_true rfl)) ⟨Nat.zero_le _, Nat.zero_le _⟩ dX4_bake_29 ?_
          refine lv_iadd hx hb dX4_bake_32 ?_
          refine lv_istore_n (lv' := [(3, .int (y + lackB a kn n vf vk i)), (4, .int (nI i)), (0, .ref h), (1, .int f), (2, .int k)]) hx hb dX4_bake_33 rfl hl (by decide) rfl (fun ls hl => ?_)
          refine lv_iinc (v := nI (i + 1)) (lv' := [(4, .int (nI (i + 1))), (3, .int (y + lackB a kn n vf vk i)), (0, .ref h), (1, .int f), (2, .int k)]) hx hb dX4_bake_34 hl (k := 1) rfl (show nI i + Int32.ofInt 1 = _ from nI_add i 1) (by decide) rfl (fun ls hl => ?_)
          refine lv_goto (tgt := 16) hx hb dX4_bake_37 (by decide) ?_
          exact ihu_3  (i + 1) (y + lackB a kn n vf vk i) _ _ ls (by omega) (by first | omega | assumption) (by rw [foldU_s, ← hf]; simp [laStep, c_2, c_4, nvf, nvk]) hP hS (lv_sub hl [1, 0, 2, 3, 4] rfl)
    exact L16_u_3 _ 0 0 _ _ ls (Nat.lt_succ_self _) (by first | omega | assumption) (rfl) hP hS (lv_sub hl [1, 0, 2, 3, 4] rfl)
  · skip
    refine lv_iconst (v := 0) hx hb dX4_bake_9 (by decide) ?_
    exact wr_reti F hr hlocks hP hS (⟨a 17, by show _ = mBake n cm (set17 a (a 17)) kn f k; rw [set17_self]; simp [mBake, c_2]⟩) dX4_bake_10
