/-! the seven roads through does -/
set_option maxHeartbeats 4000000 in
set_option maxRecDepth 100000 in
theorem ld_put {l : Launch} (hfl : l.stackTraces = false) {D : va_G} {cI cII : ClassId} {sa : Nat → Nat} {u : Nat → Nat} {V : Nat → Nat → Int32} {pq sp : Int32} {cn : Nat} {e : Option Nat} {sz : Nat} {b : Nat → Nat → Int32} {L : List Nat} {w : Nat → Nat → Int32} {nx : Nat → Option Nat} {z0 : Nat} (hN : (cAd u ++ L).Nodup) (f t z9 : Int32) (hch : chn nx L) (he : e = L.head?) (hsz : sz = L.length) (hok : ∀ x, x ∈ L → okW (w x)) (hcn : cn ≤ 20) (hrc : ∀ k, k < cn → ∃ r, r < 6 ∧ b 11 k = nI r) : dz_Met l yL_does wvL_does 8 4 28 162 D u cI cII sa z0 L (cW u cI cII V pq sp cn e sz b L w nx) [.ref (u 30), .int 0, .int f, .int t, .int z9] (cPut (b, cn, List.map w L) f t) := by
  refine dz_start rfl (by decide +kernel) (Nat.le_of_ble_eq_true rfl) (fun p e9 s m below meth c F hr hlocks htab hK hNc hz H locs hP hS hz9 hX hH ls hl => ?_)
  have hl : lv_has ls 6 [(0, .ref (u 30)), (1, .int 0), (2, .int f), (3, .int t), (4, .int z9)] := hl
  have hx := F.1
  have hb := F.2.1
  refine lv_iload_n hx hb dL_does_0 rfl (lv_at hl 1 rfl) ?_
  refine lv_if_ne (tgt := 13) hx hb dL_does_1 (by decide) (fun z9 => absurd z9 (by decide)) (fun _ => ?_)
  refine lv_aload_n hx hb dL_does_4 rfl (lv_at hl 0 rfl) ?_
  refine lv_iload_n hx hb dL_does_5 rfl (lv_at hl 2 rfl) ?_
  refine lv_iload_n hx hb dL_does_6 rfl (lv_at hl 3 rfl) ?_
  refine dz_callV F hK hX hz hH [.int f, .int t] (cc_X3_put hfl hN f t hch he hsz hok hcn hrc) (cwV 2 F.2.2.2.2 gvL_does_X3_put rfl rfl rfl (by decide +kernel) ⟨Nat.le_of_ble_eq_true rfl, Nat.le_of_ble_eq_true rfl⟩) (og_rc hK (cPc hP)) hP hS rfl hl.1 rfl (lv_room (Nat.le_of_ble_eq_true rfl)) ⟨Nat.le_of_ble_eq_true rfl, Nat.le_of_ble_eq_true rfl⟩ dL_does_7 (fun E ce q9 V9 pq9 sp9 cn9 e9' sz9 b9 L9 w9 nx9 H locs hp hP hS hq hcv hcl => ?_) (fun r ra V9 pq9 sp9 cn9 e9' sz9 b9 L9 w9 nx9 H locs hp hP hS => ?_)
  · skip
    obtain ⟨hk0, hE, hA⟩ := hp
    have hop : (cPut (b, cn, List.map w L) f t).1 = 0 ∨ (cPut (b, cn, List.map w L) f t).1 = 1 ∨ (cPut (b, cn, List.map w L) f t).1 = 2 ∨ (cPut (b, cn, List.map w L) f t).1 = 3 := by unfold cPut; (repeat' split) <;> simp
    rcases hop with q | q | q | q
    · exact absurd q hk0
    · skip
      rw [q, eName_1] at hE
      subst hE
      refine vx_catch F.2.2.2.1 [] ⟨0, 91, 92, 66⟩ [⟨0, 91, 97, 68⟩, ⟨0, 91, 102, 70⟩] htab (fun z hz => nomatch hz) (by decide) (by decide) (F.2.2.2.2 (.classLink RL 66 "java/lang/IndexOutOfBoundsException") (by decide +kernel)) (va_Nw.use (xWd_on _ (by decide +kernel : Cond.castable "java/lang/IndexOutOfBoundsException" "java/lang/IndexOutOfBoundsException" ∈ xWd)) (hX.1 _ (by decide +kernel : Cond.castable "java/lang/IndexOutOfBoundsException" "java/lang/IndexOutOfBoundsException" ∈ xWd))) hq hcv hcl ?_
      refine lv_astore (lv' := [(5, .ref q9), (0, .ref (u 30)), (1, .int 0), (2, .int f), (3, .int t), (4, .int z9)]) hx hb dL_does_92 hl (by decide) rfl (fun ls hl => ?_)
      refine lv_bipush (v := (-11)) hx hb dL_does_94 (by decide) ?_
      exact dz_ret F hr hlocks (by unfold dzA; rw [q]; rfl) hA hP hS (by exact Nat.le_of_ble_eq_true rfl) (by exact Nat.le_of_ble_eq_true rfl) dL_does_96
    · skip
      rw [q, eName_2] at hE
      subst hE
      refine vx_catch F.2.2.2.1 [⟨0, 91, 92, 66⟩] ⟨0, 91, 97, 68⟩ [⟨0, 91, 102, 70⟩] htab (List.forall_mem_cons.mpr ⟨Or.inr ⟨by decide, "java/lang/IndexOutOfBoundsException", F.2.2.2.2 (.classLink RL 66 "java/lang/IndexOutOfBoundsException") (by decide +kernel), hNc.1⟩, (fun _ h => nomatch h)⟩) (by decide) (by decide) (F.2.2.2.2 (.classLink RL 68 "java/lang/IllegalArgumentException") (by decide +kernel)) (va_Nw.use (xWd_on _ (by decide +kernel : Cond.castable "java/lang/IllegalArgumentException" "java/lang/IllegalArgumentException" ∈ xWd)) (hX.1 _ (by decide +kernel : Cond.castable "java/lang/IllegalArgumentException" "java/lang/IllegalArgumentException" ∈ xWd))) hq hcv hcl ?_
      refine lv_astore (lv' := [(5, .ref q9), (0, .ref (u 30)), (1, .int 0), (2, .int f), (3, .int t), (4, .int z9)]) hx hb dL_does_97 hl (by decide) rfl (fun ls hl => ?_)
      refine lv_bipush (v := (-12)) hx hb dL_does_99 (by decide) ?_
      exact dz_ret F hr hlocks (by unfold dzA; rw [q]; rfl) hA hP hS (by exact Nat.le_of_ble_eq_true rfl) (by exact Nat.le_of_ble_eq_true rfl) dL_does_101
    · skip
      rw [q, eName_3] at hE
      subst hE
      refine vx_catch F.2.2.2.1 [⟨0, 91, 92, 66⟩, ⟨0, 91, 97, 68⟩] ⟨0, 91, 102, 70⟩ [] htab (List.forall_mem_cons.mpr ⟨Or.inr ⟨by decide, "java/lang/IndexOutOfBoundsException", F.2.2.2.2 (.classLink RL 66 "java/lang/IndexOutOfBoundsException") (by decide +kernel), hNc.2.1⟩, (List.forall_mem_cons.mpr ⟨Or.inr ⟨by decide, "java/lang/IllegalArgumentException", F.2.2.2.2 (.classLink RL 68 "java/lang/IllegalArgumentException") (by decide +kernel), hNc.2.2⟩, (fun _ h => nomatch h)⟩)⟩) (by decide) (by decide) (F.2.2.2.2 (.classLink RL 70 "java/lang/IllegalStateException") (by decide +kernel)) (va_Nw.use (xWd_on _ (by decide +kernel : Cond.castable "java/lang/IllegalStateException" "java/lang/IllegalStateException" ∈ xWd)) (hX.1 _ (by decide +kernel : Cond.castable "java/lang/IllegalStateException" "java/lang/IllegalStateException" ∈ xWd))) hq hcv hcl ?_
      refine lv_astore (lv' := [(5, .ref q9), (0, .ref (u 30)), (1, .int 0), (2, .int f), (3, .int t), (4, .int z9)]) hx hb dL_does_102 hl (by decide) rfl (fun ls hl => ?_)
      refine lv_bipush (v := (-13)) hx hb dL_does_104 (by decide) ?_
      exact dz_ret F hr hlocks (by unfold dzA; rw [q]; rfl) hA hP hS (by exact Nat.le_of_ble_eq_true rfl) (by exact Nat.le_of_ble_eq_true rfl) dL_does_106
  · skip
    obtain ⟨hk0, hr0, hA⟩ := hp
    refine lv_goto (tgt := 91) hx hb dL_does_10 (by decide) ?_
    exact dz_ret F hr hlocks (by unfold dzA; rw [hk0, if_pos rfl]; exact hr0) hA hP hS (by exact Nat.le_of_ble_eq_true rfl) (by exact Nat.le_of_ble_eq_true rfl) dL_does_91
set_option maxHeartbeats 4000000 in
set_option maxRecDepth 100000 in
theorem ld_take {l : Launch} (hfl : l.stackTraces = false) {D : va_G} {cI cII : ClassId} {sa : Nat → Nat} {u : Nat → Nat} {V : Nat → Nat → Int32} {pq sp : Int32} {cn : Nat} {e : Option Nat} {sz : Nat} {b : Nat → Nat → Int32} {L : List Nat} {w : Nat → Nat → Int32} {nx : Nat → Option Nat} {z0 : Nat} (hN : (cAd u ++ L).Nodup) (f t z9 : Int32) (hch : chn nx L) (he : e = L.head?) (hsz : sz = L.length) (hok : ∀ x, x ∈ L → okW (w x)) (hcn : cn ≤ 20) (hrc : ∀ k, k < cn → ∃ r, r < 6 ∧ b 11 k = nI r) : dz_Met l yL_does wvL_does 8 4 28 163 D u cI cII sa z0 L (cW u cI cII V pq sp cn e sz b L w nx) [.ref (u 30), .int 1, .int f, .int t, .int z9] (cTake (b, cn, List.map w L) f t) := by
  refine dz_start rfl (by decide +kernel) (Nat.le_of_ble_eq_true rfl) (fun p e9 s m below meth c F hr hlocks htab hK hNc hz H locs hP hS hz9 hX hH ls hl => ?_)
  have hl : lv_has ls 6 [(0, .ref (u 30)), (1, .int 1), (2, .int f), (3, .int t), (4, .int z9)] := hl
  have hx := F.1
  have hb := F.2.1
  refine lv_iload_n hx hb dL_does_0 rfl (lv_at hl 1 rfl) ?_
  refine lv_if_ne (tgt := 13) hx hb dL_does_1 (by decide) (fun _ => ?_) (fun z9 => absurd z9 (by decide))
  refine lv_iload_n hx hb dL_does_13 rfl (lv_at hl 1 rfl) ?_
  refine lv_iconst (v := 1) hx hb dL_does_14 (by decide) ?_
  refine lv_icmp_ne (tgt := 27) hx hb dL_does_15 (by decide) (fun z9 => absurd z9 (by decide)) (fun _ => ?_)
  refine lv_aload_n hx hb dL_does_18 rfl (lv_at hl 0 rfl) ?_
  refine lv_iload_n hx hb dL_does_19 rfl (lv_at hl 2 rfl) ?_
  refine lv_iload_n hx hb dL_does_20 rfl (lv_at hl 3 rfl) ?_
  refine dz_callV F hK hX hz hH [.int f, .int t] (cc_X3_take hfl hN f t hch he hsz hok hcn hrc) (cwV 2 F.2.2.2.2 gvL_does_X3_take rfl rfl rfl (by decide +kernel) ⟨Nat.le_of_ble_eq_true rfl, Nat.le_of_ble_eq_true rfl⟩) (og_rc hK (cPc hP)) hP hS rfl hl.1 rfl (lv_room (Nat.le_of_ble_eq_true rfl)) ⟨Nat.le_of_ble_eq_true rfl, Nat.le_of_ble_eq_true rfl⟩ dL_does_21 (fun E ce q9 V9 pq9 sp9 cn9 e9' sz9 b9 L9 w9 nx9 H locs hp hP hS hq hcv hcl => ?_) (fun r ra V9 pq9 sp9 cn9 e9' sz9 b9 L9 w9 nx9 H locs hp hP hS => ?_)
  · skip
    obtain ⟨hk0, hE, hA⟩ := hp
    have hop : (cTake (b, cn, List.map w L) f t).1 = 0 ∨ (cTake (b, cn, List.map w L) f t).1 = 1 ∨ (cTake (b, cn, List.map w L) f t).1 = 2 ∨ (cTake (b, cn, List.map w L) f t).1 = 3 := by unfold cTake; (repeat' split) <;> simp
    rcases hop with q | q | q | q
    · exact absurd q hk0
    · skip
      rw [q, eName_1] at hE
      subst hE
      refine vx_catch F.2.2.2.1 [] ⟨0, 91, 92, 66⟩ [⟨0, 91, 97, 68⟩, ⟨0, 91, 102, 70⟩] htab (fun z hz => nomatch hz) (by decide) (by decide) (F.2.2.2.2 (.classLink RL 66 "java/lang/IndexOutOfBoundsException") (by decide +kernel)) (va_Nw.use (xWd_on _ (by decide +kernel : Cond.castable "java/lang/IndexOutOfBoundsException" "java/lang/IndexOutOfBoundsException" ∈ xWd)) (hX.1 _ (by decide +kernel : Cond.castable "java/lang/IndexOutOfBoundsException" "java/lang/IndexOutOfBoundsException" ∈ xWd))) hq hcv hcl ?_
      refine lv_astore (lv' := [(5, .ref q9), (0, .ref (u 30)), (1, .int 1), (2, .int f), (3, .int t), (4, .int z9)]) hx hb dL_does_92 hl (by decide) rfl (fun ls hl => ?_)
      refine lv_bipush (v := (-11)) hx hb dL_does_94 (by decide) ?_
      exact dz_ret F hr hlocks (by unfold dzA; rw [q]; rfl) hA hP hS (by exact Nat.le_of_ble_eq_true rfl) (by exact Nat.le_of_ble_eq_true rfl) dL_does_96
    · skip
      rw [q, eName_2] at hE
      subst hE
      refine vx_catch F.2.2.2.1 [⟨0, 91, 92, 66⟩] ⟨0, 91, 97, 68⟩ [⟨0, 91, 102, 70⟩] htab (List.forall_mem_cons.mpr ⟨Or.inr ⟨by decide, "java/lang/IndexOutOfBoundsException", F.2.2.2.2 (.classLink RL 66 "java/lang/IndexOutOfBoundsException") (by decide +kernel), hNc.1⟩, (fun _ h => nomatch h)⟩) (by decide) (by decide) (F.2.2.2.2 (.classLink RL 68 "java/lang/IllegalArgumentException") (by decide +kernel)) (va_Nw.use (xWd_on _ (by decide +kernel : Cond.castable "java/lang/IllegalArgumentException" "java/lang/IllegalArgumentException" ∈ xWd)) (hX.1 _ (by decide +kernel : Cond.castable "java/lang/IllegalArgumentException" "java/lang/IllegalArgumentException" ∈ xWd))) hq hcv hcl ?_
      refine lv_astore (lv' := [(5, .ref q9), (0, .ref (u 30)), (1, .int 1), (2, .int f), (3, .int t), (4, .int z9)]) hx hb dL_does_97 hl (by decide) rfl (fun ls hl => ?_)
      refine lv_bipush (v := (-12)) hx hb dL_does_99 (by decide) ?_
      exact dz_ret F hr hlocks (by unfold dzA; rw [q]; rfl) hA hP hS (by exact Nat.le_of_ble_eq_true rfl) (by exact Nat.le_of_ble_eq_true rfl) dL_does_101
    · skip
      rw [q, eName_3] at hE
      subst hE
      refine vx_catch F.2.2.2.1 [⟨0, 91, 92, 66⟩, ⟨0, 91, 97, 68⟩] ⟨0, 91, 102, 70⟩ [] htab (List.forall_mem_cons.mpr ⟨Or.inr ⟨by decide, "java/lang/IndexOutOfBoundsException", F.2.2.2.2 (.classLink RL 66 "java/lang/IndexOutOfBoundsException") (by decide +kernel), hNc.2.1⟩, (List.forall_mem_cons.mpr ⟨Or.inr ⟨by decide, "java/lang/IllegalArgumentException", F.2.2.2.2 (.classLink RL 68 "java/lang/IllegalArgumentException") (by decide +kernel), hNc.2.2⟩, (fun _ h => nomatch h)⟩)⟩) (by decide) (by decide) (F.2.2.2.2 (.classLink RL 70 "java/lang/IllegalStateException") (by decide +kernel)) (va_Nw.use (xWd_on _ (by decide +kernel : Cond.castable "java/lang/IllegalStateException" "java/lang/IllegalStateException" ∈ xWd)) (hX.1 _ (by decide +kernel : Cond.castable "java/lang/IllegalStateException" "java/lang/IllegalStateException" ∈ xWd))) hq hcv hcl ?_
      refine lv_astore (lv' := [(5, .ref q9), (0, .ref (u 30)), (1, .int 1), (2, .int f), (3, .int t), (4, .int z9)]) hx hb dL_does_102 hl (by decide) rfl (fun ls hl => ?_)
      refine lv_bipush (v := (-13)) hx hb dL_does_104 (by decide) ?_
      exact dz_ret F hr hlocks (by unfold dzA; rw [q]; rfl) hA hP hS (by exact Nat.le_of_ble_eq_true rfl) (by exact Nat.le_of_ble_eq_true rfl) dL_does_106
  · skip
    obtain ⟨hk0, hr0, hA⟩ := hp
    refine lv_goto (tgt := 91) hx hb dL_does_24 (by decide) ?_
    exact dz_ret F hr hlocks (by unfold dzA; rw [hk0, if_pos rfl]; exact hr0) hA hP hS (by exact Nat.le_of_ble_eq_true rfl) (by exact Nat.le_of_ble_eq_true rfl) dL_does_91
set_option maxHeartbeats 4000000 in
set_option maxRecDepth 100000 in
theorem ld_meet {l : Launch} (hfl : l.stackTraces = false) {D : va_G} {cI cII : ClassId} {sa : Nat → Nat} {u : Nat → Nat} {V : Nat → Nat → Int32} {pq sp : Int32} {cn : Nat} {e : Option Nat} {sz : Nat} {b : Nat → Nat → Int32} {L : List Nat} {w : Nat → Nat → Int32} {nx : Nat → Option Nat} {z0 : Nat} (hN : (cAd u ++ L).Nodup) (f o z9 : Int32) (hch : chn nx L) (he : e = L.head?) (hsz : sz = L.length) (hok : ∀ x, x ∈ L → okW (w x)) (hcn : cn ≤ 20) (hrc : ∀ k, k < cn → ∃ r, r < 6 ∧ b 11 k = nI r) : dz_Met l yL_does wvL_does 8 3 18 134 D u cI cII sa z0 L (cW u cI cII V pq sp cn e sz b L w nx) [.ref (u 30), .int 2, .int f, .int o, .int z9] (cMeet (b, cn, List.map w L) f o) := by
  refine dz_start rfl (by decide +kernel) (Nat.le_of_ble_eq_true rfl) (fun p e9 s m below meth c F hr hlocks htab hK hNc hz H locs hP hS hz9 hX hH ls hl => ?_)
  have hl : lv_has ls 6 [(0, .ref (u 30)), (1, .int 2), (2, .int f), (3, .int o), (4, .int z9)] := hl
  have hx := F.1
  have hb := F.2.1
  refine lv_iload_n hx hb dL_does_0 rfl (lv_at hl 1 rfl) ?_
  refine lv_if_ne (tgt := 13) hx hb dL_does_1 (by decide) (fun _ => ?_) (fun z9 => absurd z9 (by decide))
  refine lv_iload_n hx hb dL_does_13 rfl (lv_at hl 1 rfl) ?_
  refine lv_iconst (v := 1) hx hb dL_does_14 (by decide) ?_
  refine lv_icmp_ne (tgt := 27) hx hb dL_does_15 (by decide) (fun _ => ?_) (fun z9 => absurd z9 (by decide))
  refine lv_iload_n hx hb dL_does_27 rfl (lv_at hl 1 rfl) ?_
  refine lv_iconst (v := 2) hx hb dL_does_28 (by decide) ?_
  refine lv_icmp_ne (tgt := 41) hx hb dL_does_29 (by decide) (fun z9 => absurd z9 (by decide)) (fun _ => ?_)
  refine lv_aload_n hx hb dL_does_32 rfl (lv_at hl 0 rfl) ?_
  refine lv_iload_n hx hb dL_does_33 rfl (lv_at hl 2 rfl) ?_
  refine lv_iload_n hx hb dL_does_34 rfl (lv_at hl 3 rfl) ?_
  refine dz_callV F hK hX hz hH [.int f, .int o] (cc_X3_meet hfl hN f o hch he hsz hok hcn hrc) (cwV 2 F.2.2.2.2 gvL_does_X3_meet rfl rfl rfl (by decide +kernel) ⟨Nat.le_of_ble_eq_true rfl, Nat.le_of_ble_eq_true rfl⟩) (og_rc hK (cPc hP)) hP hS rfl hl.1 rfl (lv_room (Nat.le_of_ble_eq_true rfl)) ⟨Nat.le_of_ble_eq_true rfl, Nat.le_of_ble_eq_true rfl⟩ dL_does_35 (fun E ce q9 V9 pq9 sp9 cn9 e9' sz9 b9 L9 w9 nx9 H locs hp hP hS hq hcv hcl => ?_) (fun r ra V9 pq9 sp9 cn9 e9' sz9 b9 L9 w9 nx9 H locs hp hP hS => ?_)
  · skip
    obtain ⟨hk0, hE, hA⟩ := hp
    have hop : (cMeet (b, cn, List.map w L) f o).1 = 0 ∨ (cMeet (b, cn, List.map w L) f o).1 = 1 ∨ (cMeet (b, cn, List.map w L) f o).1 = 2 ∨ (cMeet (b, cn, List.map w L) f o).1 = 3 := by unfold cMeet; (repeat' split) <;> simp
    rcases hop with q | q | q | q
    · exact absurd q hk0
    · skip
      rw [q, eName_1] at hE
      subst hE
      refine vx_catch F.2.2.2.1 [] ⟨0, 91, 92, 66⟩ [⟨0, 91, 97, 68⟩, ⟨0, 91, 102, 70⟩] htab (fun z hz => nomatch hz) (by decide) (by decide) (F.2.2.2.2 (.classLink RL 66 "java/lang/IndexOutOfBoundsException") (by decide +kernel)) (va_Nw.use (xWd_on _ (by decide +kernel : Cond.castable "java/lang/IndexOutOfBoundsException" "java/lang/IndexOutOfBoundsException" ∈ xWd)) (hX.1 _ (by decide +kernel : Cond.castable "java/lang/IndexOutOfBoundsException" "java/lang/IndexOutOfBoundsException" ∈ xWd))) hq hcv hcl ?_
      refine lv_astore (lv' := [(5, .ref q9), (0, .ref (u 30)), (1, .int 2), (2, .int f), (3, .int o), (4, .int z9)]) hx hb dL_does_92 hl (by decide) rfl (fun ls hl => ?_)
      refine lv_bipush (v := (-11)) hx hb dL_does_94 (by decide) ?_
      exact dz_ret F hr hlocks (by unfold dzA; rw [q]; rfl) hA hP hS (by exact Nat.le_of_ble_eq_true rfl) (by exact Nat.le_of_ble_eq_true rfl) dL_does_96
    · skip
      rw [q, eName_2] at hE
      subst hE
      refine vx_catch F.2.2.2.1 [⟨0, 91, 92, 66⟩] ⟨0, 91, 97, 68⟩ [⟨0, 91, 102, 70⟩] htab (List.forall_mem_cons.mpr ⟨Or.inr ⟨by decide, "java/lang/IndexOutOfBoundsException", F.2.2.2.2 (.classLink RL 66 "java/lang/IndexOutOfBoundsException") (by decide +kernel), hNc.1⟩, (fun _ h => nomatch h)⟩) (by decide) (by decide) (F.2.2.2.2 (.classLink RL 68 "java/lang/IllegalArgumentException") (by decide +kernel)) (va_Nw.use (xWd_on _ (by decide +kernel : Cond.castable "java/lang/IllegalArgumentException" "java/lang/IllegalArgumentException" ∈ xWd)) (hX.1 _ (by decide +kernel : Cond.castable "java/lang/IllegalArgumentException" "java/lang/IllegalArgumentException" ∈ xWd))) hq hcv hcl ?_
      refine lv_astore (lv' := [(5, .ref q9), (0, .ref (u 30)), (1, .int 2), (2, .int f), (3, .int o), (4, .int z9)]) hx hb dL_does_97 hl (by decide) rfl (fun ls hl => ?_)
      refine lv_bipush (v := (-12)) hx hb dL_does_99 (by decide) ?_
      exact dz_ret F hr hlocks (by unfold dzA; rw [q]; rfl) hA hP hS (by exact Nat.le_of_ble_eq_true rfl) (by exact Nat.le_of_ble_eq_true rfl) dL_does_101
    · skip
      rw [q, eName_3] at hE
      subst hE
      refine vx_catch F.2.2.2.1 [⟨0, 91, 92, 66⟩, ⟨0, 91, 97, 68⟩] ⟨0, 91, 102, 70⟩ [] htab (List.forall_mem_cons.mpr ⟨Or.inr ⟨by decide, "java/lang/IndexOutOfBoundsException", F.2.2.2.2 (.classLink RL 66 "java/lang/IndexOutOfBoundsException") (by decide +kernel), hNc.2.1⟩, (List.forall_mem_cons.mpr ⟨Or.inr ⟨by decide, "java/lang/IllegalArgumentException", F.2.2.2.2 (.classLink RL 68 "java/lang/IllegalArgumentException") (by decide +kernel), hNc.2.2⟩, (fun _ h => nomatch h)⟩)⟩) (by decide) (by decide) (F.2.2.2.2 (.classLink RL 70 "java/lang/IllegalStateException") (by decide +kernel)) (va_Nw.use (xWd_on _ (by decide +kernel : Cond.castable "java/lang/IllegalStateException" "java/lang/IllegalStateException" ∈ xWd)) (hX.1 _ (by decide +kernel : Cond.castable "java/lang/IllegalStateException" "java/lang/IllegalStateException" ∈ xWd))) hq hcv hcl ?_
      refine lv_astore (lv' := [(5, .ref q9), (0, .ref (u 30)), (1, .int 2), (2, .int f), (3, .int o), (4, .int z9)]) hx hb dL_does_102 hl (by decide) rfl (fun ls hl => ?_)
      refine lv_bipush (v := (-13)) hx hb dL_does_104 (by decide) ?_
      exact dz_ret F hr hlocks (by unfold dzA; rw [q]; rfl) hA hP hS (by exact Nat.le_of_ble_eq_true rfl) (by exact Nat.le_of_ble_eq_true rfl) dL_does_106
  · skip
    obtain ⟨hk0, hr0, hA⟩ := hp
    refine lv_goto (tgt := 91) hx hb dL_does_38 (by decide) ?_
    exact dz_ret F hr hlocks (by unfold dzA; rw [hk0, if_pos rfl]; exact hr0) hA hP hS (by exact Nat.le_of_ble_eq_true rfl) (by exact Nat.le_of_ble_eq_true rfl) dL_does_91
set_option maxHeartbeats 4000000 in
set_option maxRecDepth 100000 in
theorem ld_plan {l : Launch} (hfl : l.stackTraces = false) {D : va_G} {cI cII : ClassId} {sa : Nat → Nat} {u : Nat → Nat} {V : Nat → Nat → Int32} {pq sp : Int32} {cn : Nat} {e : Option Nat} {sz : Nat} {b : Nat → Nat → Int32} {L : List Nat} {w : Nat → Nat → Int32} {nx : Nat → Option Nat} {z0 : Nat} (hN : (cAd u ++ L).Nodup) (f r d : Int32) (hch : chn nx L) (he : e = L.head?) (hsz : sz = L.length) (hok : ∀ x, x ∈ L → okW (w x)) (hcn : cn ≤ 20) (hrc : ∀ k, k < cn → ∃ r, r < 6 ∧ b 11 k = nI r) : dz_Met l yL_does wvL_does 8 5 34 164 D u cI cII sa z0 L (cW u cI cII V pq sp cn e sz b L w nx) [.ref (u 30), .int 3, .int f, .int r, .int d] (cPlan (b, cn, List.map w L) f r d) := by
  refine dz_start rfl (by decide +kernel) (Nat.le_of_ble_eq_true rfl) (fun p e9 s m below meth c F hr hlocks htab hK hNc hz H locs hP hS hz9 hX hH ls hl => ?_)
  have hl : lv_has ls 6 [(0, .ref (u 30)), (1, .int 3), (2, .int f), (3, .int r), (4, .int d)] := hl
  have hx := F.1
  have hb := F.2.1
  refine lv_iload_n hx hb dL_does_0 rfl (lv_at hl 1 rfl) ?_
  refine lv_if_ne (tgt := 13) hx hb dL_does_1 (by decide) (fun _ => ?_) (fun z9 => absurd z9 (by decide))
  refine lv_iload_n hx hb dL_does_13 rfl (lv_at hl 1 rfl) ?_
  refine lv_iconst (v := 1) hx hb dL_does_14 (by decide) ?_
  refine lv_icmp_ne (tgt := 27) hx hb dL_does_15 (by decide) (fun _ => ?_) (fun z9 => absurd z9 (by decide))
  refine lv_iload_n hx hb dL_does_27 rfl (lv_at hl 1 rfl) ?_
  refine lv_iconst (v := 2) hx hb dL_does_28 (by decide) ?_
  refine lv_icmp_ne (tgt := 41) hx hb dL_does_29 (by decide) (fun _ => ?_) (fun z9 => absurd z9 (by decide))
  refine lv_iload_n hx hb dL_does_41 rfl (lv_at hl 1 rfl) ?_
  refine lv_iconst (v := 3) hx hb dL_does_42 (by decide) ?_
  refine lv_icmp_ne (tgt := 57) hx hb dL_does_43 (by decide) (fun z9 => absurd z9 (by decide)) (fun _ => ?_)
  refine lv_aload_n hx hb dL_does_46 rfl (lv_at hl 0 rfl) ?_
  refine lv_iload_n hx hb dL_does_47 rfl (lv_at hl 2 rfl) ?_
  refine lv_iload_n hx hb dL_does_48 rfl (lv_at hl 3 rfl) ?_
  refine lv_iload hx hb dL_does_49 (lv_at hl 4 rfl) ?_
  refine dz_callV F hK hX hz hH [.int f, .int r, .int d] (cc_X3_plan hfl hN f r d hch he hsz hok hcn hrc) (cwV 3 F.2.2.2.2 gvL_does_X3_plan rfl rfl rfl (by decide +kernel) ⟨Nat.le_of_ble_eq_true rfl, Nat.le_of_ble_eq_true rfl⟩) (og_rc hK (cPc hP)) hP hS rfl hl.1 rfl (lv_room (Nat.le_of_ble_eq_true rfl)) ⟨Nat.le_of_ble_eq_true rfl, Nat.le_of_ble_eq_true rfl⟩ dL_does_51 (fun E ce q9 V9 pq9 sp9 cn9 e9' sz9 b9 L9 w9 nx9 H locs hp hP hS hq hcv hcl => ?_) (fun r ra V9 pq9 sp9 cn9 e9' sz9 b9 L9 w9 nx9 H locs hp hP hS => ?_)
  · skip
    obtain ⟨hk0, hE, hA⟩ := hp
    have hop : (cPlan (b, cn, List.map w L) f r d).1 = 0 ∨ (cPlan (b, cn, List.map w L) f r d).1 = 1 ∨ (cPlan (b, cn, List.map w L) f r d).1 = 2 ∨ (cPlan (b, cn, List.map w L) f r d).1 = 3 := by unfold cPlan; (repeat' split) <;> simp
    rcases hop with q | q | q | q
    · exact absurd q hk0
    · skip
      rw [q, eName_1] at hE
      subst hE
      refine vx_catch F.2.2.2.1 [] ⟨0, 91, 92, 66⟩ [⟨0, 91, 97, 68⟩, ⟨0, 91, 102, 70⟩] htab (fun z hz => nomatch hz) (by decide) (by decide) (F.2.2.2.2 (.classLink RL 66 "java/lang/IndexOutOfBoundsException") (by decide +kernel)) (va_Nw.use (xWd_on _ (by decide +kernel : Cond.castable "java/lang/IndexOutOfBoundsException" "java/lang/IndexOutOfBoundsException" ∈ xWd)) (hX.1 _ (by decide +kernel : Cond.castable "java/lang/IndexOutOfBoundsException" "java/lang/IndexOutOfBoundsException" ∈ xWd))) hq hcv hcl ?_
      refine lv_astore (lv' := [(5, .ref q9), (0, .ref (u 30)), (1, .int 3), (2, .int f), (3, .int r), (4, .int d)]) hx hb dL_does_92 hl (by decide) rfl (fun ls hl => ?_)
      refine lv_bipush (v := (-11)) hx hb dL_does_94 (by decide) ?_
      exact dz_ret F hr hlocks (by unfold dzA; rw [q]; rfl) hA hP hS (by exact Nat.le_of_ble_eq_true rfl) (by exact Nat.le_of_ble_eq_true rfl) dL_does_96
    · skip
      rw [q, eName_2] at hE
      subst hE
      refine vx_catch F.2.2.2.1 [⟨0, 91, 92, 66⟩] ⟨0, 91, 97, 68⟩ [⟨0, 91, 102, 70⟩] htab (List.forall_mem_cons.mpr ⟨Or.inr ⟨by decide, "java/lang/IndexOutOfBoundsException", F.2.2.2.2 (.classLink RL 66 "java/lang/IndexOutOfBoundsException") (by decide +kernel), hNc.1⟩, (fun _ h => nomatch h)⟩) (by decide) (by decide) (F.2.2.2.2 (.classLink RL 68 "java/lang/IllegalArgumentException") (by decide +kernel)) (va_Nw.use (xWd_on _ (by decide +kernel : Cond.castable "java/lang/IllegalArgumentException" "java/lang/IllegalArgumentException" ∈ xWd)) (hX.1 _ (by decide +kernel : Cond.castable "java/lang/IllegalArgumentException" "java/lang/IllegalArgumentException" ∈ xWd))) hq hcv hcl ?_
      refine lv_astore (lv' := [(5, .ref q9), (0, .ref (u 30)), (1, .int 3), (2, .int f), (3, .int r), (4, .int d)]) hx hb dL_does_97 hl (by decide) rfl (fun ls hl => ?_)
      refine lv_bipush (v := (-12)) hx hb dL_does_99 (by decide) ?_
      exact dz_ret F hr hlocks (by unfold dzA; rw [q]; rfl) hA hP hS (by exact Nat.le_of_ble_eq_true rfl) (by exact Nat.le_of_ble_eq_true rfl) dL_does_101
    · skip
      rw [q, eName_3] at hE
      subst hE
      refine vx_catch F.2.2.2.1 [⟨0, 91, 92, 66⟩, ⟨0, 91, 97, 68⟩] ⟨0, 91, 102, 70⟩ [] htab (List.forall_mem_cons.mpr ⟨Or.inr ⟨by decide, "java/lang/IndexOutOfBoundsException", F.2.2.2.2 (.classLink RL 66 "java/lang/IndexOutOfBoundsException") (by decide +kernel), hNc.2.1⟩, (List.forall_mem_cons.mpr ⟨Or.inr ⟨by decide, "java/lang/IllegalArgumentException", F.2.2.2.2 (.classLink RL 68 "java/lang/IllegalArgumentException") (by decide +kernel), hNc.2.2⟩, (fun _ h => nomatch h)⟩)⟩) (by decide) (by decide) (F.2.2.2.2 (.classLink RL 70 "java/lang/IllegalStateException") (by decide +kernel)) (va_Nw.use (xWd_on _ (by decide +kernel : Cond.castable "java/lang/IllegalStateException" "java/lang/IllegalStateException" ∈ xWd)) (hX.1 _ (by decide +kernel : Cond.castable "java/lang/IllegalStateException" "java/lang/IllegalStateException" ∈ xWd))) hq hcv hcl ?_
      refine lv_astore (lv' := [(5, .ref q9), (0, .ref (u 30)), (1, .int 3), (2, .int f), (3, .int r), (4, .int d)]) hx hb dL_does_102 hl (by decide) rfl (fun ls hl => ?_)
      refine lv_bipush (v := (-13)) hx hb dL_does_104 (by decide) ?_
      exact dz_ret F hr hlocks (by unfold dzA; rw [q]; rfl) hA hP hS (by exact Nat.le_of_ble_eq_true rfl) (by exact Nat.le_of_ble_eq_true rfl) dL_does_106
  · skip
    obtain ⟨hk0, hr0, hA⟩ := hp
    refine lv_goto (tgt := 91) hx hb dL_does_54 (by decide) ?_
    exact dz_ret F hr hlocks (by unfold dzA; rw [hk0, if_pos rfl]; exact hr0) hA hP hS (by exact Nat.le_of_ble_eq_true rfl) (by exact Nat.le_of_ble_eq_true rfl) dL_does_91
set_option maxHeartbeats 4000000 in
set_option maxRecDepth 100000 in
theorem ld_keep {l : Launch} (hfl : l.stackTraces = false) {D : va_G} {cI cII : ClassId} {sa : Nat → Nat} {u : Nat → Nat} {V : Nat → Nat → Int32} {pq sp : Int32} {cn : Nat} {e : Option Nat} {sz : Nat} {b : Nat → Nat → Int32} {L : List Nat} {w : Nat → Nat → Int32} {nx : Nat → Option Nat} {z0 : Nat} (hN : (cAd u ++ L).Nodup) (f k z9 : Int32) (hch : chn nx L) (he : e = L.head?) (hsz : sz = L.length) (hok : ∀ x, x ∈ L → okW (w x)) (hcn : cn ≤ 20) (hrc : ∀ k, k < cn → ∃ r, r < 6 ∧ b 11 k = nI r) : dz_Met l yL_does wvL_does 8 44 424 164 D u cI cII sa z0 L (cW u cI cII V pq sp cn e sz b L w nx) [.ref (u 30), .int 4, .int f, .int k, .int z9] (cKeep (b, cn, List.map w L) f k) := by
  refine dz_start rfl (by decide +kernel) (Nat.le_of_ble_eq_true rfl) (fun p e9 s m below meth c F hr hlocks htab hK hNc hz H locs hP hS hz9 hX hH ls hl => ?_)
  have hl : lv_has ls 6 [(0, .ref (u 30)), (1, .int 4), (2, .int f), (3, .int k), (4, .int z9)] := hl
  have hx := F.1
  have hb := F.2.1
  refine lv_iload_n hx hb dL_does_0 rfl (lv_at hl 1 rfl) ?_
  refine lv_if_ne (tgt := 13) hx hb dL_does_1 (by decide) (fun _ => ?_) (fun z9 => absurd z9 (by decide))
  refine lv_iload_n hx hb dL_does_13 rfl (lv_at hl 1 rfl) ?_
  refine lv_iconst (v := 1) hx hb dL_does_14 (by decide) ?_
  refine lv_icmp_ne (tgt := 27) hx hb dL_does_15 (by decide) (fun _ => ?_) (fun z9 => absurd z9 (by decide))
  refine lv_iload_n hx hb dL_does_27 rfl (lv_at hl 1 rfl) ?_
  refine lv_iconst (v := 2) hx hb dL_does_28 (by decide) ?_
  refine lv_icmp_ne (tgt := 41) hx hb dL_does_29 (by decide) (fun _ => ?_) (fun z9 => absurd z9 (by decide))
  refine lv_iload_n hx hb dL_does_41 rfl (lv_at hl 1 rfl) ?_
  refine lv_iconst (v := 3) hx hb dL_does_42 (by decide) ?_
  refine lv_icmp_ne (tgt := 57) hx hb dL_does_43 (by decide) (fun _ => ?_) (fun z9 => absurd z9 (by decide))
  refine lv_iload_n hx hb dL_does_57 rfl (lv_at hl 1 rfl) ?_
  refine lv_iconst (v := 4) hx hb dL_does_58 (by decide) ?_
  refine lv_icmp_ne (tgt := 71) hx hb dL_does_59 (by decide) (fun z9 => absurd z9 (by decide)) (fun _ => ?_)
  refine lv_aload_n hx hb dL_does_62 rfl (lv_at hl 0 rfl) ?_
  refine lv_iload_n hx hb dL_does_63 rfl (lv_at hl 2 rfl) ?_
  refine lv_iload_n hx hb dL_does_64 rfl (lv_at hl 3 rfl) ?_
  refine dz_callV F hK hX hz hH [.int f, .int k] (cc_X3_keep hfl hN f k hch he hsz hok hcn hrc) (cwV 2 F.2.2.2.2 gvL_does_X3_keep rfl rfl rfl (by decide +kernel) ⟨Nat.le_of_ble_eq_true rfl, Nat.le_of_ble_eq_true rfl⟩) (og_rc hK (cPc hP)) hP hS rfl hl.1 rfl (lv_room (Nat.le_of_ble_eq_true rfl)) ⟨Nat.le_of_ble_eq_true rfl, Nat.le_of_ble_eq_true rfl⟩ dL_does_65 (fun E ce q9 V9 pq9 sp9 cn9 e9' sz9 b9 L9 w9 nx9 H locs hp hP hS hq hcv hcl => ?_) (fun r ra V9 pq9 sp9 cn9 e9' sz9 b9 L9 w9 nx9 H locs hp hP hS => ?_)
  · skip
    obtain ⟨hk0, hE, hA⟩ := hp
    have hop : (cKeep (b, cn, List.map w L) f k).1 = 0 ∨ (cKeep (b, cn, List.map w L) f k).1 = 1 ∨ (cKeep (b, cn, List.map w L) f k).1 = 2 ∨ (cKeep (b, cn, List.map w L) f k).1 = 3 := by unfold cKeep; (repeat' split) <;> simp
    rcases hop with q | q | q | q
    · exact absurd q hk0
    · skip
      rw [q, eName_1] at hE
      subst hE
      refine vx_catch F.2.2.2.1 [] ⟨0, 91, 92, 66⟩ [⟨0, 91, 97, 68⟩, ⟨0, 91, 102, 70⟩] htab (fun z hz => nomatch hz) (by decide) (by decide) (F.2.2.2.2 (.classLink RL 66 "java/lang/IndexOutOfBoundsException") (by decide +kernel)) (va_Nw.use (xWd_on _ (by decide +kernel : Cond.castable "java/lang/IndexOutOfBoundsException" "java/lang/IndexOutOfBoundsException" ∈ xWd)) (hX.1 _ (by decide +kernel : Cond.castable "java/lang/IndexOutOfBoundsException" "java/lang/IndexOutOfBoundsException" ∈ xWd))) hq hcv hcl ?_
      refine lv_astore (lv' := [(5, .ref q9), (0, .ref (u 30)), (1, .int 4), (2, .int f), (3, .int k), (4, .int z9)]) hx hb dL_does_92 hl (by decide) rfl (fun ls hl => ?_)
      refine lv_bipush (v := (-11)) hx hb dL_does_94 (by decide) ?_
      exact dz_ret F hr hlocks (by unfold dzA; rw [q]; rfl) hA hP hS (by exact Nat.le_of_ble_eq_true rfl) (by exact Nat.le_of_ble_eq_true rfl) dL_does_96
    · skip
      rw [q, eName_2] at hE
      subst hE
      refine vx_catch F.2.2.2.1 [⟨0, 91, 92, 66⟩] ⟨0, 91, 97, 68⟩ [⟨0, 91, 102, 70⟩] htab (List.forall_mem_cons.mpr ⟨Or.inr ⟨by decide, "java/lang/IndexOutOfBoundsException", F.2.2.2.2 (.classLink RL 66 "java/lang/IndexOutOfBoundsException") (by decide +kernel), hNc.1⟩, (fun _ h => nomatch h)⟩) (by decide) (by decide) (F.2.2.2.2 (.classLink RL 68 "java/lang/IllegalArgumentException") (by decide +kernel)) (va_Nw.use (xWd_on _ (by decide +kernel : Cond.castable "java/lang/IllegalArgumentException" "java/lang/IllegalArgumentException" ∈ xWd)) (hX.1 _ (by decide +kernel : Cond.castable "java/lang/IllegalArgumentException" "java/lang/IllegalArgumentException" ∈ xWd))) hq hcv hcl ?_
      refine lv_astore (lv' := [(5, .ref q9), (0, .ref (u 30)), (1, .int 4), (2, .int f), (3, .int k), (4, .int z9)]) hx hb dL_does_97 hl (by decide) rfl (fun ls hl => ?_)
      refine lv_bipush (v := (-12)) hx hb dL_does_99 (by decide) ?_
      exact dz_ret F hr hlocks (by unfold dzA; rw [q]; rfl) hA hP hS (by exact Nat.le_of_ble_eq_true rfl) (by exact Nat.le_of_ble_eq_true rfl) dL_does_101
    · skip
      rw [q, eName_3] at hE
      subst hE
      refine vx_catch F.2.2.2.1 [⟨0, 91, 92, 66⟩, ⟨0, 91, 97, 68⟩] ⟨0, 91, 102, 70⟩ [] htab (List.forall_mem_cons.mpr ⟨Or.inr ⟨by decide, "java/lang/IndexOutOfBoundsException", F.2.2.2.2 (.classLink RL 66 "java/lang/IndexOutOfBoundsException") (by decide +kernel), hNc.2.1⟩, (List.forall_mem_cons.mpr ⟨Or.inr ⟨by decide, "java/lang/IllegalArgumentException", F.2.2.2.2 (.classLink RL 68 "java/lang/IllegalArgumentException") (by decide +kernel), hNc.2.2⟩, (fun _ h => nomatch h)⟩)⟩) (by decide) (by decide) (F.2.2.2.2 (.classLink RL 70 "java/lang/IllegalStateException") (by decide +kernel)) (va_Nw.use (xWd_on _ (by decide +kernel : Cond.castable "java/lang/IllegalStateException" "java/lang/IllegalStateException" ∈ xWd)) (hX.1 _ (by decide +kernel : Cond.castable "java/lang/IllegalStateException" "java/lang/IllegalStateException" ∈ xWd))) hq hcv hcl ?_
      refine lv_astore (lv' := [(5, .ref q9), (0, .ref (u 30)), (1, .int 4), (2, .int f), (3, .int k), (4, .int z9)]) hx hb dL_does_102 hl (by decide) rfl (fun ls hl => ?_)
      refine lv_bipush (v := (-13)) hx hb dL_does_104 (by decide) ?_
      exact dz_ret F hr hlocks (by unfold dzA; rw [q]; rfl) hA hP hS (by exact Nat.le_of_ble_eq_true rfl) (by exact Nat.le_of_ble_eq_true rfl) dL_does_106
  · skip
    obtain ⟨hk0, hr0, hA⟩ := hp
    refine lv_goto (tgt := 91) hx hb dL_does_68 (by decide) ?_
    exact dz_ret F hr hlocks (by unfold dzA; rw [hk0, if_pos rfl]; exact hr0) hA hP hS (by exact Nat.le_of_ble_eq_true rfl) (by exact Nat.le_of_ble_eq_true rfl) dL_does_91
set_option maxHeartbeats 4000000 in
set_option maxRecDepth 100000 in
theorem ld_drop {l : Launch} (hfl : l.stackTraces = false) {D : va_G} {cI cII : ClassId} {sa : Nat → Nat} {u : Nat → Nat} {V : Nat → Nat → Int32} {pq sp : Int32} {cn : Nat} {e : Option Nat} {sz : Nat} {b : Nat → Nat → Int32} {L : List Nat} {w : Nat → Nat → Int32} {nx : Nat → Option Nat} {z0 : Nat} (hN : (cAd u ++ L).Nodup) (f k z9 : Int32) (hch : chn nx L) (he : e = L.head?) (hsz : sz = L.length) (hok : ∀ x, x ∈ L → okW (w x)) (hcn : cn ≤ 20) (hrc : ∀ k, k < cn → ∃ r, r < 6 ∧ b 11 k = nI r) : dz_Met l yL_does wvL_does 8 5 34 162 D u cI cII sa z0 L (cW u cI cII V pq sp cn e sz b L w nx) [.ref (u 30), .int 5, .int f, .int k, .int z9] (cDrop (b, cn, List.map w L) f k) := by
  refine dz_start rfl (by decide +kernel) (Nat.le_of_ble_eq_true rfl) (fun p e9 s m below meth c F hr hlocks htab hK hNc hz H locs hP hS hz9 hX hH ls hl => ?_)
  have hl : lv_has ls 6 [(0, .ref (u 30)), (1, .int 5), (2, .int f), (3, .int k), (4, .int z9)] := hl
  have hx := F.1
  have hb := F.2.1
  refine lv_iload_n hx hb dL_does_0 rfl (lv_at hl 1 rfl) ?_
  refine lv_if_ne (tgt := 13) hx hb dL_does_1 (by decide) (fun _ => ?_) (fun z9 => absurd z9 (by decide))
  refine lv_iload_n hx hb dL_does_13 rfl (lv_at hl 1 rfl) ?_
  refine lv_iconst (v := 1) hx hb dL_does_14 (by decide) ?_
  refine lv_icmp_ne (tgt := 27) hx hb dL_does_15 (by decide) (fun _ => ?_) (fun z9 => absurd z9 (by decide))
  refine lv_iload_n hx hb dL_does_27 rfl (lv_at hl 1 rfl) ?_
  refine lv_iconst (v := 2) hx hb dL_does_28 (by decide) ?_
  refine lv_icmp_ne (tgt := 41) hx hb dL_does_29 (by decide) (fun _ => ?_) (fun z9 => absurd z9 (by decide))
  refine lv_iload_n hx hb dL_does_41 rfl (lv_at hl 1 rfl) ?_
  refine lv_iconst (v := 3) hx hb dL_does_42 (by decide) ?_
  refine lv_icmp_ne (tgt := 57) hx hb dL_does_43 (by decide) (fun _ => ?_) (fun z9 => absurd z9 (by decide))
  refine lv_iload_n hx hb dL_does_57 rfl (lv_at hl 1 rfl) ?_
  refine lv_iconst (v := 4) hx hb dL_does_58 (by decide) ?_
  refine lv_icmp_ne (tgt := 71) hx hb dL_does_59 (by decide) (fun _ => ?_) (fun z9 => absurd z9 (by decide))
  refine lv_iload_n hx hb dL_does_71 rfl (lv_at hl 1 rfl) ?_
  refine lv_iconst (v := 5) hx hb dL_does_72 (by decide) ?_
  refine lv_icmp_ne (tgt := 85) hx hb dL_does_73 (by decide) (fun z9 => absurd z9 (by decide)) (fun _ => ?_)
  refine lv_aload_n hx hb dL_does_76 rfl (lv_at hl 0 rfl) ?_
  refine lv_iload_n hx hb dL_does_77 rfl (lv_at hl 2 rfl) ?_
  refine lv_iload_n hx hb dL_does_78 rfl (lv_at hl 3 rfl) ?_
  refine dz_callV F hK hX hz hH [.int f, .int k] (cc_X3_drop hfl hN f k hch he hsz hok hcn hrc) (cwV 2 F.2.2.2.2 gvL_does_X3_drop rfl rfl rfl (by decide +kernel) ⟨Nat.le_of_ble_eq_true rfl, Nat.le_of_ble_eq_true rfl⟩) (og_rc hK (cPc hP)) hP hS rfl hl.1 rfl (lv_room (Nat.le_of_ble_eq_true rfl)) ⟨Nat.le_of_ble_eq_true rfl, Nat.le_of_ble_eq_true rfl⟩ dL_does_79 (fun E ce q9 V9 pq9 sp9 cn9 e9' sz9 b9 L9 w9 nx9 H locs hp hP hS hq hcv hcl => ?_) (fun r ra V9 pq9 sp9 cn9 e9' sz9 b9 L9 w9 nx9 H locs hp hP hS => ?_)
  · skip
    obtain ⟨hk0, hE, hA⟩ := hp
    have hop : (cDrop (b, cn, List.map w L) f k).1 = 0 ∨ (cDrop (b, cn, List.map w L) f k).1 = 1 ∨ (cDrop (b, cn, List.map w L) f k).1 = 2 ∨ (cDrop (b, cn, List.map w L) f k).1 = 3 := by unfold cDrop; (repeat' split) <;> simp
    rcases hop with q | q | q | q
    · exact absurd q hk0
    · skip
      rw [q, eName_1] at hE
      subst hE
      refine vx_catch F.2.2.2.1 [] ⟨0, 91, 92, 66⟩ [⟨0, 91, 97, 68⟩, ⟨0, 91, 102, 70⟩] htab (fun z hz => nomatch hz) (by decide) (by decide) (F.2.2.2.2 (.classLink RL 66 "java/lang/IndexOutOfBoundsException") (by decide +kernel)) (va_Nw.use (xWd_on _ (by decide +kernel : Cond.castable "java/lang/IndexOutOfBoundsException" "java/lang/IndexOutOfBoundsException" ∈ xWd)) (hX.1 _ (by decide +kernel : Cond.castable "java/lang/IndexOutOfBoundsException" "java/lang/IndexOutOfBoundsException" ∈ xWd))) hq hcv hcl ?_
      refine lv_astore (lv' := [(5, .ref q9), (0, .ref (u 30)), (1, .int 5), (2, .int f), (3, .int k), (4, .int z9)]) hx hb dL_does_92 hl (by decide) rfl (fun ls hl => ?_)
      refine lv_bipush (v := (-11)) hx hb dL_does_94 (by decide) ?_
      exact dz_ret F hr hlocks (by unfold dzA; rw [q]; rfl) hA hP hS (by exact Nat.le_of_ble_eq_true rfl) (by exact Nat.le_of_ble_eq_true rfl) dL_does_96
    · skip
      rw [q, eName_2] at hE
      subst hE
      refine vx_catch F.2.2.2.1 [⟨0, 91, 92, 66⟩] ⟨0, 91, 97, 68⟩ [⟨0, 91, 102, 70⟩] htab (List.forall_mem_cons.mpr ⟨Or.inr ⟨by decide, "java/lang/IndexOutOfBoundsException", F.2.2.2.2 (.classLink RL 66 "java/lang/IndexOutOfBoundsException") (by decide +kernel), hNc.1⟩, (fun _ h => nomatch h)⟩) (by decide) (by decide) (F.2.2.2.2 (.classLink RL 68 "java/lang/IllegalArgumentException") (by decide +kernel)) (va_Nw.use (xWd_on _ (by decide +kernel : Cond.castable "java/lang/IllegalArgumentException" "java/lang/IllegalArgumentException" ∈ xWd)) (hX.1 _ (by decide +kernel : Cond.castable "java/lang/IllegalArgumentException" "java/lang/IllegalArgumentException" ∈ xWd))) hq hcv hcl ?_
      refine lv_astore (lv' := [(5, .ref q9), (0, .ref (u 30)), (1, .int 5), (2, .int f), (3, .int k), (4, .int z9)]) hx hb dL_does_97 hl (by decide) rfl (fun ls hl => ?_)
      refine lv_bipush (v := (-12)) hx hb dL_does_99 (by decide) ?_
      exact dz_ret F hr hlocks (by unfold dzA; rw [q]; rfl) hA hP hS (by exact Nat.le_of_ble_eq_true rfl) (by exact Nat.le_of_ble_eq_true rfl) dL_does_101
    · skip
      rw [q, eName_3] at hE
      subst hE
      refine vx_catch F.2.2.2.1 [⟨0, 91, 92, 66⟩, ⟨0, 91, 97, 68⟩] ⟨0, 91, 102, 70⟩ [] htab (List.forall_mem_cons.mpr ⟨Or.inr ⟨by decide, "java/lang/IndexOutOfBoundsException", F.2.2.2.2 (.classLink RL 66 "java/lang/IndexOutOfBoundsException") (by decide +kernel), hNc.2.1⟩, (List.forall_mem_cons.mpr ⟨Or.inr ⟨by decide, "java/lang/IllegalArgumentException", F.2.2.2.2 (.classLink RL 68 "java/lang/IllegalArgumentException") (by decide +kernel), hNc.2.2⟩, (fun _ h => nomatch h)⟩)⟩) (by decide) (by decide) (F.2.2.2.2 (.classLink RL 70 "java/lang/IllegalStateException") (by decide +kernel)) (va_Nw.use (xWd_on _ (by decide +kernel : Cond.castable "java/lang/IllegalStateException" "java/lang/IllegalStateException" ∈ xWd)) (hX.1 _ (by decide +kernel : Cond.castable "java/lang/IllegalStateException" "java/lang/IllegalStateException" ∈ xWd))) hq hcv hcl ?_
      refine lv_astore (lv' := [(5, .ref q9), (0, .ref (u 30)), (1, .int 5), (2, .int f), (3, .int k), (4, .int z9)]) hx hb dL_does_102 hl (by decide) rfl (fun ls hl => ?_)
      refine lv_bipush (v := (-13)) hx hb dL_does_104 (by decide) ?_
      exact dz_ret F hr hlocks (by unfold dzA; rw [q]; rfl) hA hP hS (by exact Nat.le_of_ble_eq_true rfl) (by exact Nat.le_of_ble_eq_true rfl) dL_does_106
  · skip
    obtain ⟨hk0, hr0, hA⟩ := hp
    refine lv_goto (tgt := 91) hx hb dL_does_82 (by decide) ?_
    exact dz_ret F hr hlocks (by unfold dzA; rw [hk0, if_pos rfl]; exact hr0) hA hP hS (by exact Nat.le_of_ble_eq_true rfl) (by exact Nat.le_of_ble_eq_true rfl) dL_does_91
set_option maxHeartbeats 4000000 in
set_option maxRecDepth 100000 in
theorem ld_bake {l : Launch} (hfl : l.stackTraces = false) {D : va_G} {cI cII : ClassId} {sa : Nat → Nat} {u : Nat → Nat} {V : Nat → Nat → Int32} {pq sp : Int32} {cn : Nat} {e : Option Nat} {sz : Nat} {b : Nat → Nat → Int32} {L : List Nat} {w : Nat → Nat → Int32} {nx : Nat → Option Nat} {z0 : Nat} (hN : (cAd u ++ L).Nodup) (f k z9 : Int32) (hch : chn nx L) (he : e = L.head?) (hsz : sz = L.length) (hok : ∀ x, x ∈ L → okW (w x)) (hcn : cn ≤ 20) (hrc : ∀ k, k < cn → ∃ r, r < 6 ∧ b 11 k = nI r) : dz_Met l yL_does wvL_does 8 46 440 164 D u cI cII sa z0 L (cW u cI cII V pq sp cn e sz b L w nx) [.ref (u 30), .int 6, .int f, .int k, .int z9] (cBake (b, cn, List.map w L) f k) := by
  refine dz_start rfl (by decide +kernel) (Nat.le_of_ble_eq_true rfl) (fun p e9 s m below meth c F hr hlocks htab hK hNc hz H locs hP hS hz9 hX hH ls hl => ?_)
  have hl : lv_has ls 6 [(0, .ref (u 30)), (1, .int 6), (2, .int f), (3, .int k), (4, .int z9)] := hl
  have hx := F.1
  have hb := F.2.1
  refine lv_iload_n hx hb dL_does_0 rfl (lv_at hl 1 rfl) ?_
  refine lv_if_ne (tgt := 13) hx hb dL_does_1 (by decide) (fun _ => ?_) (fun z9 => absurd z9 (by decide))
  refine lv_iload_n hx hb dL_does_13 rfl (lv_at hl 1 rfl) ?_
  refine lv_iconst (v := 1) hx hb dL_does_14 (by decide) ?_
  refine lv_icmp_ne (tgt := 27) hx hb dL_does_15 (by decide) (fun _ => ?_) (fun z9 => absurd z9 (by decide))
  refine lv_iload_n hx hb dL_does_27 rfl (lv_at hl 1 rfl) ?_
  refine lv_iconst (v := 2) hx hb dL_does_28 (by decide) ?_
  refine lv_icmp_ne (tgt := 41) hx hb dL_does_29 (by decide) (fun _ => ?_) (fun z9 => absurd z9 (by decide))
  refine lv_iload_n hx hb dL_does_41 rfl (lv_at hl 1 rfl) ?_
  refine lv_iconst (v := 3) hx hb dL_does_42 (by decide) ?_
  refine lv_icmp_ne (tgt := 57) hx hb dL_does_43 (by decide) (fun _ => ?_) (fun z9 => absurd z9 (by decide))
  refine lv_iload_n hx hb dL_does_57 rfl (lv_at hl 1 rfl) ?_
  refine lv_iconst (v := 4) hx hb dL_does_58 (by decide) ?_
  refine lv_icmp_ne (tgt := 71) hx hb dL_does_59 (by decide) (fun _ => ?_) (fun z9 => absurd z9 (by decide))
  refine lv_iload_n hx hb dL_does_71 rfl (lv_at hl 1 rfl) ?_
  refine lv_iconst (v := 5) hx hb dL_does_72 (by decide) ?_
  refine lv_icmp_ne (tgt := 85) hx hb dL_does_73 (by decide) (fun _ => ?_) (fun z9 => absurd z9 (by decide))
  refine lv_aload_n hx hb dL_does_85 rfl (lv_at hl 0 rfl) ?_
  refine lv_iload_n hx hb dL_does_86 rfl (lv_at hl 2 rfl) ?_
  refine lv_iload_n hx hb dL_does_87 rfl (lv_at hl 3 rfl) ?_
  refine dz_callV F hK hX hz hH [.int f, .int k] (cc_X3_bake hfl hN f k hch he hsz hok hcn hrc) (cwV 2 F.2.2.2.2 gvL_does_X3_bake rfl rfl rfl (by decide +kernel) ⟨Nat.le_of_ble_eq_true rfl, Nat.le_of_ble_eq_true rfl⟩) (og_rc hK (cPc hP)) hP hS rfl hl.1 rfl (lv_room (Nat.le_of_ble_eq_true rfl)) ⟨Nat.le_of_ble_eq_true rfl, Nat.le_of_ble_eq_true rfl⟩ dL_does_88 (fun E ce q9 V9 pq9 sp9 cn9 e9' sz9 b9 L9 w9 nx9 H locs hp hP hS hq hcv hcl => ?_) (fun r ra V9 pq9 sp9 cn9 e9' sz9 b9 L9 w9 nx9 H locs hp hP hS => ?_)
  · skip
    obtain ⟨hk0, hE, hA⟩ := hp
    have hop : (cBake (b, cn, List.map w L) f k).1 = 0 ∨ (cBake (b, cn, List.map w L) f k).1 = 1 ∨ (cBake (b, cn, List.map w L) f k).1 = 2 ∨ (cBake (b, cn, List.map w L) f k).1 = 3 := by unfold cBake; (repeat' split) <;> simp
    rcases hop with q | q | q | q
    · exact absurd q hk0
    · skip
      rw [q, eName_1] at hE
      subst hE
      refine vx_catch F.2.2.2.1 [] ⟨0, 91, 92, 66⟩ [⟨0, 91, 97, 68⟩, ⟨0, 91, 102, 70⟩] htab (fun z hz => nomatch hz) (by decide) (by decide) (F.2.2.2.2 (.classLink RL 66 "java/lang/IndexOutOfBoundsException") (by decide +kernel)) (va_Nw.use (xWd_on _ (by decide +kernel : Cond.castable "java/lang/IndexOutOfBoundsException" "java/lang/IndexOutOfBoundsException" ∈ xWd)) (hX.1 _ (by decide +kernel : Cond.castable "java/lang/IndexOutOfBoundsException" "java/lang/IndexOutOfBoundsException" ∈ xWd))) hq hcv hcl ?_
      refine lv_astore (lv' := [(5, .ref q9), (0, .ref (u 30)), (1, .int 6), (2, .int f), (3, .int k), (4, .int z9)]) hx hb dL_does_92 hl (by decide) rfl (fun ls hl => ?_)
      refine lv_bipush (v := (-11)) hx hb dL_does_94 (by decide) ?_
      exact dz_ret F hr hlocks (by unfold dzA; rw [q]; rfl) hA hP hS (by exact Nat.le_of_ble_eq_true rfl) (by exact Nat.le_of_ble_eq_true rfl) dL_does_96
    · skip
      rw [q, eName_2] at hE
      subst hE
      refine vx_catch F.2.2.2.1 [⟨0, 91, 92, 66⟩] ⟨0, 91, 97, 68⟩ [⟨0, 91, 102, 70⟩] htab (List.forall_mem_cons.mpr ⟨Or.inr ⟨by decide, "java/lang/IndexOutOfBoundsException", F.2.2.2.2 (.classLink RL 66 "java/lang/IndexOutOfBoundsException") (by decide +kernel), hNc.1⟩, (fun _ h => nomatch h)⟩) (by decide) (by decide) (F.2.2.2.2 (.classLink RL 68 "java/lang/IllegalArgumentException") (by decide +kernel)) (va_Nw.use (xWd_on _ (by decide +kernel : Cond.castable "java/lang/IllegalArgumentException" "java/lang/IllegalArgumentException" ∈ xWd)) (hX.1 _ (by decide +kernel : Cond.castable "java/lang/IllegalArgumentException" "java/lang/IllegalArgumentException" ∈ xWd))) hq hcv hcl ?_
      refine lv_astore (lv' := [(5, .ref q9), (0, .ref (u 30)), (1, .int 6), (2, .int f), (3, .int k), (4, .int z9)]) hx hb dL_does_97 hl (by decide) rfl (fun ls hl => ?_)
      refine lv_bipush (v := (-12)) hx hb dL_does_99 (by decide) ?_
      exact dz_ret F hr hlocks (by unfold dzA; rw [q]; rfl) hA hP hS (by exact Nat.le_of_ble_eq_true rfl) (by exact Nat.le_of_ble_eq_true rfl) dL_does_101
    · skip
      rw [q, eName_3] at hE
      subst hE
      refine vx_catch F.2.2.2.1 [⟨0, 91, 92, 66⟩, ⟨0, 91, 97, 68⟩] ⟨0, 91, 102, 70⟩ [] htab (List.forall_mem_cons.mpr ⟨Or.inr ⟨by decide, "java/lang/IndexOutOfBoundsException", F.2.2.2.2 (.classLink RL 66 "java/lang/IndexOutOfBoundsException") (by decide +kernel), hNc.2.1⟩, (List.forall_mem_cons.mpr ⟨Or.inr ⟨by decide, "java/lang/IllegalArgumentException", F.2.2.2.2 (.classLink RL 68 "java/lang/IllegalArgumentException") (by decide +kernel), hNc.2.2⟩, (fun _ h => nomatch h)⟩)⟩) (by decide) (by decide) (F.2.2.2.2 (.classLink RL 70 "java/lang/IllegalStateException") (by decide +kernel)) (va_Nw.use (xWd_on _ (by decide +kernel : Cond.castable "java/lang/IllegalStateException" "java/lang/IllegalStateException" ∈ xWd)) (hX.1 _ (by decide +kernel : Cond.castable "java/lang/IllegalStateException" "java/lang/IllegalStateException" ∈ xWd))) hq hcv hcl ?_
      refine lv_astore (lv' := [(5, .ref q9), (0, .ref (u 30)), (1, .int 6), (2, .int f), (3, .int k), (4, .int z9)]) hx hb dL_does_102 hl (by decide) rfl (fun ls hl => ?_)
      refine lv_bipush (v := (-13)) hx hb dL_does_104 (by decide) ?_
      exact dz_ret F hr hlocks (by unfold dzA; rw [q]; rfl) hA hP hS (by exact Nat.le_of_ble_eq_true rfl) (by exact Nat.le_of_ble_eq_true rfl) dL_does_106
  · skip
    obtain ⟨hk0, hr0, hA⟩ := hp
    exact dz_ret F hr hlocks (by unfold dzA; rw [hk0, if_pos rfl]; exact hr0) hA hP hS (by exact Nat.le_of_ble_eq_true rfl) (by exact Nat.le_of_ble_eq_true rfl) dL_does_91
