/-! the law's wrappers, one by one -/
theorem bI_01 (x : Bool) : bI x = 0 ∨ bI x = 1 := by cases x; exact Or.inl rfl; exact Or.inr rfl
set_option maxHeartbeats 4000000 in
set_option maxRecDepth 100000 in
theorem lwc_put {l : Launch} (hfl : l.stackTraces = false) {D : va_G} {cI cII cJ : ClassId} {sa : Nat → Nat} {u : Nat → Nat} {V : Nat → Nat → Int32} {pq sp : Int32} {cn : Nat} {e : Option Nat} {sz : Nat} {b : Nat → Nat → Int32} {L : List Nat} {w : Nat → Nat → Int32} {nx : Nat → Option Nat} {z0 : Nat} {oa : Nat} (hN : (cAd u ++ L).Nodup) (f t : Int32) (hch : chn nx L) (he : e = L.head?) (hsz : sz = L.length) (hok : ∀ x, x ∈ L → okW (w x)) (hcn : cn ≤ 20) (hrc : ∀ k, k < cn → ∃ r, r < 6 ∧ b 11 k = nI r) (hoA : ¬ (oa ∈ cAd u ∨ oa ∈ L)) (hoz : oa < z0) : wz_Met l yL_put wvL_put 8 4 28 162 D u cI cII cJ sa z0 L oa (cW u cI cII V pq sp cn e sz b L w nx) [.ref (u 30), .int f, .int t, .ref oa] [1, 3] (cPut (b, cn, List.map w L) f t) := by
  refine wz_start rfl (by decide +kernel) (Nat.le_of_ble_eq_true rfl) (fun p e9 s m below meth c F hr hlocks htab hK hJ hNc hz H locs g hP hO hS hz9 hX hH ls hl => ?_)
  have hl : lv_has ls 5 [(0, .ref (u 30)), (1, .int f), (2, .int t), (3, .ref oa)] := hl
  have hx := F.1
  have hb := F.2.1
  refine lv_aload_n hx hb dL_put_0 rfl (lv_at hl 3 rfl) ?_
  refine lv_iconst (v := 0) hx hb dL_put_1 (by decide) ?_
  refine lv_aload_n hx hb dL_put_2 rfl (lv_at hl 0 rfl) ?_
  refine lv_iload_n hx hb dL_put_3 rfl (lv_at hl 1 rfl) ?_
  refine lv_iload_n hx hb dL_put_4 rfl (lv_at hl 2 rfl) ?_
  refine wz_callV F hK hX hz hH hoA [.int f, .int t] (cc_X3_put hfl hN f t hch he hsz hok hcn hrc) (cwV 2 F.2.2.2.2 gvL_put_X3_put rfl rfl rfl (by decide +kernel) ⟨Nat.le_of_ble_eq_true rfl, Nat.le_of_ble_eq_true rfl⟩) (og_rc hK (cPc hP)) hP hO hS rfl hl.1 rfl (lv_room (Nat.le_of_ble_eq_true rfl)) ⟨Nat.le_of_ble_eq_true rfl, Nat.le_of_ble_eq_true rfl⟩ dL_put_5 (fun E ce q9 V9 pq9 sp9 cn9 e9' sz9 b9 L9 w9 nx9 H locs hp hP hO hS hq hcv hcl => ?_) (fun r ra V9 pq9 sp9 cn9 e9' sz9 b9 L9 w9 nx9 H locs hp hP hO hS => ?_)
  · skip
    obtain ⟨hk0, hE, hA⟩ := hp
    have hop : (cPut (b, cn, List.map w L) f t).1 = 0 ∨ (cPut (b, cn, List.map w L) f t).1 = 1 ∨ (cPut (b, cn, List.map w L) f t).1 = 3 := by unfold cPut; (repeat' split) <;> simp
    rcases hop with q | q | q
    · exact absurd q hk0
    · skip
      rw [q, eName_1] at hE
      subst hE
      refine vx_catch F.2.2.2.1 [] ⟨0, 10, 13, 13⟩ [⟨0, 10, 17, 15⟩] htab (fun z hz => nomatch hz) (by decide) (by decide) (F.2.2.2.2 (.classLink RL 13 "java/lang/IndexOutOfBoundsException") (by decide +kernel)) (va_Nw.use (xWd_on _ (by decide +kernel : Cond.castable "java/lang/IndexOutOfBoundsException" "java/lang/IndexOutOfBoundsException" ∈ xWd)) (hX.1 _ (by decide +kernel : Cond.castable "java/lang/IndexOutOfBoundsException" "java/lang/IndexOutOfBoundsException" ∈ xWd))) hq hcv hcl ?_
      refine lv_astore (lv' := [(4, .ref q9), (0, .ref (u 30)), (1, .int f), (2, .int t), (3, .ref oa)]) hx hb dL_put_13 hl (by decide) rfl (fun ls hl => ?_)
      refine lv_iconst (v := 1) hx hb dL_put_15 (by decide) ?_
      exact wz_ret F hr hlocks (by rw [q]; rfl) hA (fun z => absurd z hk0) hP hO hS (by exact Nat.le_of_ble_eq_true rfl) (by exact Nat.le_of_ble_eq_true rfl) dL_put_16
    · skip
      rw [q, eName_3] at hE
      subst hE
      refine vx_catch F.2.2.2.1 [⟨0, 10, 13, 13⟩] ⟨0, 10, 17, 15⟩ [] htab (List.forall_mem_cons.mpr ⟨Or.inr ⟨by decide, "java/lang/IndexOutOfBoundsException", F.2.2.2.2 (.classLink RL 13 "java/lang/IndexOutOfBoundsException") (by decide +kernel), hNc.2.1⟩, (fun _ h => nomatch h)⟩) (by decide) (by decide) (F.2.2.2.2 (.classLink RL 15 "java/lang/IllegalStateException") (by decide +kernel)) (va_Nw.use (xWd_on _ (by decide +kernel : Cond.castable "java/lang/IllegalStateException" "java/lang/IllegalStateException" ∈ xWd)) (hX.1 _ (by decide +kernel : Cond.castable "java/lang/IllegalStateException" "java/lang/IllegalStateException" ∈ xWd))) hq hcv hcl ?_
      refine lv_astore (lv' := [(4, .ref q9), (0, .ref (u 30)), (1, .int f), (2, .int t), (3, .ref oa)]) hx hb dL_put_17 hl (by decide) rfl (fun ls hl => ?_)
      refine lv_iconst (v := 2) hx hb dL_put_19 (by decide) ?_
      exact wz_ret F hr hlocks (by rw [q]; rfl) hA (fun z => absurd z hk0) hP hO hS (by exact Nat.le_of_ble_eq_true rfl) (by exact Nat.le_of_ble_eq_true rfl) dL_put_20
  · skip
    obtain ⟨hk0, hr0, hA⟩ := hp
    refine lv_i2l (v := Int32.toInt64 r) hx hb dL_put_8 rfl ?_
    refine wz_put F hJ hO hP (wz_hoW hoA hoz hA) hS dL_put_9 (fun H locs hP hO hS => ?_)
    refine lv_goto (tgt := 21) hx hb dL_put_10 (by decide) ?_
    refine lv_iconst (v := 0) hx hb dL_put_21 (by decide) ?_
    exact wz_ret F hr hlocks (by rw [hk0]; rfl) hA (fun _ => by rw [hr0]; rfl) hP hO hS (by exact Nat.le_of_ble_eq_true rfl) (by exact Nat.le_of_ble_eq_true rfl) dL_put_22
set_option maxHeartbeats 4000000 in
set_option maxRecDepth 100000 in
theorem lwc_take {l : Launch} (hfl : l.stackTraces = false) {D : va_G} {cI cII cJ : ClassId} {sa : Nat → Nat} {u : Nat → Nat} {V : Nat → Nat → Int32} {pq sp : Int32} {cn : Nat} {e : Option Nat} {sz : Nat} {b : Nat → Nat → Int32} {L : List Nat} {w : Nat → Nat → Int32} {nx : Nat → Option Nat} {z0 : Nat} {oa : Nat} (hN : (cAd u ++ L).Nodup) (f t : Int32) (hch : chn nx L) (he : e = L.head?) (hsz : sz = L.length) (hok : ∀ x, x ∈ L → okW (w x)) (hcn : cn ≤ 20) (hrc : ∀ k, k < cn → ∃ r, r < 6 ∧ b 11 k = nI r) (hoA : ¬ (oa ∈ cAd u ∨ oa ∈ L)) (hoz : oa < z0) : wz_Met l yL_take wvL_take 8 4 28 163 D u cI cII cJ sa z0 L oa (cW u cI cII V pq sp cn e sz b L w nx) [.ref (u 30), .int f, .int t, .ref oa] [1, 3] (cTake (b, cn, List.map w L) f t) := by
  refine wz_start rfl (by decide +kernel) (Nat.le_of_ble_eq_true rfl) (fun p e9 s m below meth c F hr hlocks htab hK hJ hNc hz H locs g hP hO hS hz9 hX hH ls hl => ?_)
  have hl : lv_has ls 5 [(0, .ref (u 30)), (1, .int f), (2, .int t), (3, .ref oa)] := hl
  have hx := F.1
  have hb := F.2.1
  refine lv_aload_n hx hb dL_take_0 rfl (lv_at hl 3 rfl) ?_
  refine lv_iconst (v := 0) hx hb dL_take_1 (by decide) ?_
  refine lv_aload_n hx hb dL_take_2 rfl (lv_at hl 0 rfl) ?_
  refine lv_iload_n hx hb dL_take_3 rfl (lv_at hl 1 rfl) ?_
  refine lv_iload_n hx hb dL_take_4 rfl (lv_at hl 2 rfl) ?_
  refine wz_callV F hK hX hz hH hoA [.int f, .int t] (cc_X3_take hfl hN f t hch he hsz hok hcn hrc) (cwV 2 F.2.2.2.2 gvL_take_X3_take rfl rfl rfl (by decide +kernel) ⟨Nat.le_of_ble_eq_true rfl, Nat.le_of_ble_eq_true rfl⟩) (og_rc hK (cPc hP)) hP hO hS rfl hl.1 rfl (lv_room (Nat.le_of_ble_eq_true rfl)) ⟨Nat.le_of_ble_eq_true rfl, Nat.le_of_ble_eq_true rfl⟩ dL_take_5 (fun E ce q9 V9 pq9 sp9 cn9 e9' sz9 b9 L9 w9 nx9 H locs hp hP hO hS hq hcv hcl => ?_) (fun r ra V9 pq9 sp9 cn9 e9' sz9 b9 L9 w9 nx9 H locs hp hP hO hS => ?_)
  · skip
    obtain ⟨hk0, hE, hA⟩ := hp
    have hop : (cTake (b, cn, List.map w L) f t).1 = 0 ∨ (cTake (b, cn, List.map w L) f t).1 = 1 ∨ (cTake (b, cn, List.map w L) f t).1 = 3 := by unfold cTake; (repeat' split) <;> simp
    rcases hop with q | q | q
    · exact absurd q hk0
    · skip
      rw [q, eName_1] at hE
      subst hE
      refine vx_catch F.2.2.2.1 [] ⟨0, 10, 13, 13⟩ [⟨0, 10, 17, 15⟩] htab (fun z hz => nomatch hz) (by decide) (by decide) (F.2.2.2.2 (.classLink RL 13 "java/lang/IndexOutOfBoundsException") (by decide +kernel)) (va_Nw.use (xWd_on _ (by decide +kernel : Cond.castable "java/lang/IndexOutOfBoundsException" "java/lang/IndexOutOfBoundsException" ∈ xWd)) (hX.1 _ (by decide +kernel : Cond.castable "java/lang/IndexOutOfBoundsException" "java/lang/IndexOutOfBoundsException" ∈ xWd))) hq hcv hcl ?_
      refine lv_astore (lv' := [(4, .ref q9), (0, .ref (u 30)), (1, .int f), (2, .int t), (3, .ref oa)]) hx hb dL_take_13 hl (by decide) rfl (fun ls hl => ?_)
      refine lv_iconst (v := 1) hx hb dL_take_15 (by decide) ?_
      exact wz_ret F hr hlocks (by rw [q]; rfl) hA (fun z => absurd z hk0) hP hO hS (by exact Nat.le_of_ble_eq_true rfl) (by exact Nat.le_of_ble_eq_true rfl) dL_take_16
    · skip
      rw [q, eName_3] at hE
      subst hE
      refine vx_catch F.2.2.2.1 [⟨0, 10, 13, 13⟩] ⟨0, 10, 17, 15⟩ [] htab (List.forall_mem_cons.mpr ⟨Or.inr ⟨by decide, "java/lang/IndexOutOfBoundsException", F.2.2.2.2 (.classLink RL 13 "java/lang/IndexOutOfBoundsException") (by decide +kernel), hNc.2.1⟩, (fun _ h => nomatch h)⟩) (by decide) (by decide) (F.2.2.2.2 (.classLink RL 15 "java/lang/IllegalStateException") (by decide +kernel)) (va_Nw.use (xWd_on _ (by decide +kernel : Cond.castable "java/lang/IllegalStateException" "java/lang/IllegalStateException" ∈ xWd)) (hX.1 _ (by decide +kernel : Cond.castable "java/lang/IllegalStateException" "java/lang/IllegalStateException" ∈ xWd))) hq hcv hcl ?_
      refine lv_astore (lv' := [(4, .ref q9), (0, .ref (u 30)), (1, .int f), (2, .int t), (3, .ref oa)]) hx hb dL_take_17 hl (by decide) rfl (fun ls hl => ?_)
      refine lv_iconst (v := 2) hx hb dL_take_19 (by decide) ?_
      exact wz_ret F hr hlocks (by rw [q]; rfl) hA (fun z => absurd z hk0) hP hO hS (by exact Nat.le_of_ble_eq_true rfl) (by exact Nat.le_of_ble_eq_true rfl) dL_take_20
  · skip
    obtain ⟨hk0, hr0, hA⟩ := hp
    refine lv_i2l (v := Int32.toInt64 r) hx hb dL_take_8 rfl ?_
    refine wz_put F hJ hO hP (wz_hoW hoA hoz hA) hS dL_take_9 (fun H locs hP hO hS => ?_)
    refine lv_goto (tgt := 21) hx hb dL_take_10 (by decide) ?_
    refine lv_iconst (v := 0) hx hb dL_take_21 (by decide) ?_
    exact wz_ret F hr hlocks (by rw [hk0]; rfl) hA (fun _ => by rw [hr0]; rfl) hP hO hS (by exact Nat.le_of_ble_eq_true rfl) (by exact Nat.le_of_ble_eq_true rfl) dL_take_22
set_option maxHeartbeats 4000000 in
set_option maxRecDepth 100000 in
theorem lwc_where {l : Launch} (hfl : l.stackTraces = false) {D : va_G} {cI cII cJ : ClassId} {sa : Nat → Nat} {u : Nat → Nat} {V : Nat → Nat → Int32} {pq sp : Int32} {cn : Nat} {e : Option Nat} {sz : Nat} {b : Nat → Nat → Int32} {L : List Nat} {w : Nat → Nat → Int32} {nx : Nat → Option Nat} {z0 : Nat} {oa : Nat} (hN : (cAd u ++ L).Nodup) (f t : Int32) (hch : chn nx L) (he : e = L.head?) (hsz : sz = L.length) (hok : ∀ x, x ∈ L → okW (w x)) (hcn : cn ≤ 20) (hrc : ∀ k, k < cn → ∃ r, r < 6 ∧ b 11 k = nI r) (hoA : ¬ (oa ∈ cAd u ∨ oa ∈ L)) (hoz : oa < z0) : wz_Met l yL_where wvL_where 8 2 12 162 D u cI cII cJ sa z0 L oa (cW u cI cII V pq sp cn e sz b L w nx) [.ref (u 30), .int f, .int t, .ref oa] [1] (cWhere (b, cn, List.map w L) f t) := by
  refine wz_start rfl (by decide +kernel) (Nat.le_of_ble_eq_true rfl) (fun p e9 s m below meth c F hr hlocks htab hK hJ hNc hz H locs g hP hO hS hz9 hX hH ls hl => ?_)
  have hl : lv_has ls 5 [(0, .ref (u 30)), (1, .int f), (2, .int t), (3, .ref oa)] := hl
  have hx := F.1
  have hb := F.2.1
  refine lv_aload_n hx hb dL_where_0 rfl (lv_at hl 3 rfl) ?_
  refine lv_iconst (v := 0) hx hb dL_where_1 (by decide) ?_
  refine lv_aload_n hx hb dL_where_2 rfl (lv_at hl 0 rfl) ?_
  refine lv_iload_n hx hb dL_where_3 rfl (lv_at hl 1 rfl) ?_
  refine lv_iload_n hx hb dL_where_4 rfl (lv_at hl 2 rfl) ?_
  refine wz_callV F hK hX hz hH hoA [.int f, .int t] (cc_X3_where hfl hN f t hch he hsz hok hcn hrc) (cwV 2 F.2.2.2.2 gvL_where_X3_where rfl rfl rfl (by decide +kernel) ⟨Nat.le_of_ble_eq_true rfl, Nat.le_of_ble_eq_true rfl⟩) (og_rc hK (cPc hP)) hP hO hS rfl hl.1 rfl (lv_room (Nat.le_of_ble_eq_true rfl)) ⟨Nat.le_of_ble_eq_true rfl, Nat.le_of_ble_eq_true rfl⟩ dL_where_5 (fun E ce q9 V9 pq9 sp9 cn9 e9' sz9 b9 L9 w9 nx9 H locs hp hP hO hS hq hcv hcl => ?_) (fun r ra V9 pq9 sp9 cn9 e9' sz9 b9 L9 w9 nx9 H locs hp hP hO hS => ?_)
  · skip
    obtain ⟨hk0, hE, hA⟩ := hp
    have hop : (cWhere (b, cn, List.map w L) f t).1 = 0 ∨ (cWhere (b, cn, List.map w L) f t).1 = 1 := by unfold cWhere; (repeat' split) <;> simp
    rcases hop with q | q
    · exact absurd q hk0
    · skip
      rw [q, eName_1] at hE
      subst hE
      refine vx_catch F.2.2.2.1 [] ⟨0, 10, 13, 13⟩ [] htab (fun z hz => nomatch hz) (by decide) (by decide) (F.2.2.2.2 (.classLink RL 13 "java/lang/IndexOutOfBoundsException") (by decide +kernel)) (va_Nw.use (xWd_on _ (by decide +kernel : Cond.castable "java/lang/IndexOutOfBoundsException" "java/lang/IndexOutOfBoundsException" ∈ xWd)) (hX.1 _ (by decide +kernel : Cond.castable "java/lang/IndexOutOfBoundsException" "java/lang/IndexOutOfBoundsException" ∈ xWd))) hq hcv hcl ?_
      refine lv_astore (lv' := [(4, .ref q9), (0, .ref (u 30)), (1, .int f), (2, .int t), (3, .ref oa)]) hx hb dL_where_13 hl (by decide) rfl (fun ls hl => ?_)
      refine lv_iconst (v := 1) hx hb dL_where_15 (by decide) ?_
      exact wz_ret F hr hlocks (by rw [q]; rfl) hA (fun z => absurd z hk0) hP hO hS (by exact Nat.le_of_ble_eq_true rfl) (by exact Nat.le_of_ble_eq_true rfl) dL_where_16
  · skip
    obtain ⟨hk0, hr0, hA⟩ := hp
    refine lv_i2l (v := Int32.toInt64 r) hx hb dL_where_8 rfl ?_
    refine wz_put F hJ hO hP (wz_hoW hoA hoz hA) hS dL_where_9 (fun H locs hP hO hS => ?_)
    refine lv_goto (tgt := 17) hx hb dL_where_10 (by decide) ?_
    refine lv_iconst (v := 0) hx hb dL_where_17 (by decide) ?_
    exact wz_ret F hr hlocks (by rw [hk0]; rfl) hA (fun _ => by rw [hr0]; rfl) hP hO hS (by exact Nat.le_of_ble_eq_true rfl) (by exact Nat.le_of_ble_eq_true rfl) dL_where_18
set_option maxHeartbeats 4000000 in
set_option maxRecDepth 100000 in
theorem lwc_whereByAll {l : Launch} (hfl : l.stackTraces = false) {D : va_G} {cI cII cJ : ClassId} {sa : Nat → Nat} {u : Nat → Nat} {V : Nat → Nat → Int32} {pq sp : Int32} {cn : Nat} {e : Option Nat} {sz : Nat} {b : Nat → Nat → Int32} {L : List Nat} {w : Nat → Nat → Int32} {nx : Nat → Option Nat} {z0 : Nat} {oa : Nat} (hN : (cAd u ++ L).Nodup) (t : Int32) (hch : chn nx L) (he : e = L.head?) (hsz : sz = L.length) (hok : ∀ x, x ∈ L → okW (w x)) (hcn : cn ≤ 20) (hrc : ∀ k, k < cn → ∃ r, r < 6 ∧ b 11 k = nI r) (hoA : ¬ (oa ∈ cAd u ∨ oa ∈ L)) (hoz : oa < z0) : wz_Met l yL_whereByAll wvL_whereByAll 8 1 6 160 D u cI cII cJ sa z0 L oa (cW u cI cII V pq sp cn e sz b L w nx) [.ref (u 30), .int t, .ref oa] [1] (cWhereByAll (b, cn, List.map w L) t) := by
  refine wz_start rfl (by decide +kernel) (Nat.le_of_ble_eq_true rfl) (fun p e9 s m below meth c F hr hlocks htab hK hJ hNc hz H locs g hP hO hS hz9 hX hH ls hl => ?_)
  have hl : lv_has ls 4 [(0, .ref (u 30)), (1, .int t), (2, .ref oa)] := hl
  have hx := F.1
  have hb := F.2.1
  refine lv_aload_n hx hb dL_whereByAll_0 rfl (lv_at hl 2 rfl) ?_
  refine lv_iconst (v := 0) hx hb dL_whereByAll_1 (by decide) ?_
  refine lv_aload_n hx hb dL_whereByAll_2 rfl (lv_at hl 0 rfl) ?_
  refine lv_iload_n hx hb dL_whereByAll_3 rfl (lv_at hl 1 rfl) ?_
  refine wz_callV F hK hX hz hH hoA [.int t] (cc_X3_whereByAll hfl hN t hch he hsz hok hcn hrc) (cwV 1 F.2.2.2.2 gvL_whereByAll_X3_whereByAll rfl rfl rfl (by decide +kernel) ⟨Nat.le_of_ble_eq_true rfl, Nat.le_of_ble_eq_true rfl⟩) (og_rc hK (cPc hP)) hP hO hS rfl hl.1 rfl (lv_room (Nat.le_of_ble_eq_true rfl)) ⟨Nat.le_of_ble_eq_true rfl, Nat.le_of_ble_eq_true rfl⟩ dL_whereByAll_4 (fun E ce q9 V9 pq9 sp9 cn9 e9' sz9 b9 L9 w9 nx9 H locs hp hP hO hS hq hcv hcl => ?_) (fun r ra V9 pq9 sp9 cn9 e9' sz9 b9 L9 w9 nx9 H locs hp hP hO hS => ?_)
  · skip
    obtain ⟨hk0, hE, hA⟩ := hp
    have hop : (cWhereByAll (b, cn, List.map w L) t).1 = 0 ∨ (cWhereByAll (b, cn, List.map w L) t).1 = 1 := by unfold cWhereByAll; (repeat' split) <;> simp
    rcases hop with q | q
    · exact absurd q hk0
    · skip
      rw [q, eName_1] at hE
      subst hE
      refine vx_catch F.2.2.2.1 [] ⟨0, 9, 12, 13⟩ [] htab (fun z hz => nomatch hz) (by decide) (by decide) (F.2.2.2.2 (.classLink RL 13 "java/lang/IndexOutOfBoundsException") (by decide +kernel)) (va_Nw.use (xWd_on _ (by decide +kernel : Cond.castable "java/lang/IndexOutOfBoundsException" "java/lang/IndexOutOfBoundsException" ∈ xWd)) (hX.1 _ (by decide +kernel : Cond.castable "java/lang/IndexOutOfBoundsException" "java/lang/IndexOutOfBoundsException" ∈ xWd))) hq hcv hcl ?_
      refine lv_astore_n (lv' := [(3, .ref q9), (0, .ref (u 30)), (1, .int t), (2, .ref oa)]) hx hb dL_whereByAll_12 rfl hl (by decide) rfl (fun ls hl => ?_)
      refine lv_iconst (v := 1) hx hb dL_whereByAll_13 (by decide) ?_
      exact wz_ret F hr hlocks (by rw [q]; rfl) hA (fun z => absurd z hk0) hP hO hS (by exact Nat.le_of_ble_eq_true rfl) (by exact Nat.le_of_ble_eq_true rfl) dL_whereByAll_14
  · skip
    obtain ⟨hk0, hr0, hA⟩ := hp
    refine lv_i2l (v := Int32.toInt64 r) hx hb dL_whereByAll_7 rfl ?_
    refine wz_put F hJ hO hP (wz_hoW hoA hoz hA) hS dL_whereByAll_8 (fun H locs hP hO hS => ?_)
    refine lv_goto (tgt := 15) hx hb dL_whereByAll_9 (by decide) ?_
    refine lv_iconst (v := 0) hx hb dL_whereByAll_15 (by decide) ?_
    exact wz_ret F hr hlocks (by rw [hk0]; rfl) hA (fun _ => by rw [hr0]; rfl) hP hO hS (by exact Nat.le_of_ble_eq_true rfl) (by exact Nat.le_of_ble_eq_true rfl) dL_whereByAll_16
set_option maxHeartbeats 4000000 in
set_option maxRecDepth 100000 in
theorem lwc_count {l : Launch} (hfl : l.stackTraces = false) {D : va_G} {cI cII cJ : ClassId} {sa : Nat → Nat} {u : Nat → Nat} {V : Nat → Nat → Int32} {pq sp : Int32} {cn : Nat} {e : Option Nat} {sz : Nat} {b : Nat → Nat → Int32} {L : List Nat} {w : Nat → Nat → Int32} {nx : Nat → Option Nat} {z0 : Nat} {oa : Nat} (hN : (cAd u ++ L).Nodup) (f o : Int32) (hch : chn nx L) (he : e = L.head?) (hsz : sz = L.length) (hok : ∀ x, x ∈ L → okW (w x)) (hcn : cn ≤ 20) (hrc : ∀ k, k < cn → ∃ r, r < 6 ∧ b 11 k = nI r) (hoA : ¬ (oa ∈ cAd u ∨ oa ∈ L)) (hoz : oa < z0) : wz_Met l yL_count wvL_count 8 2 12 162 D u cI cII cJ sa z0 L oa (cW u cI cII V pq sp cn e sz b L w nx) [.ref (u 30), .int f, .int o, .ref oa] [1] (cCount (b, cn, List.map w L) f o) := by
  refine wz_start rfl (by decide +kernel) (Nat.le_of_ble_eq_true rfl) (fun p e9 s m below meth c F hr hlocks htab hK hJ hNc hz H locs g hP hO hS hz9 hX hH ls hl => ?_)
  have hl : lv_has ls 5 [(0, .ref (u 30)), (1, .int f), (2, .int o), (3, .ref oa)] := hl
  have hx := F.1
  have hb := F.2.1
  refine lv_aload_n hx hb dL_count_0 rfl (lv_at hl 3 rfl) ?_
  refine lv_iconst (v := 0) hx hb dL_count_1 (by decide) ?_
  refine lv_aload_n hx hb dL_count_2 rfl (lv_at hl 0 rfl) ?_
  refine lv_iload_n hx hb dL_count_3 rfl (lv_at hl 1 rfl) ?_
  refine lv_iload_n hx hb dL_count_4 rfl (lv_at hl 2 rfl) ?_
  refine wz_callV F hK hX hz hH hoA [.int f, .int o] (cc_X3_count hfl hN f o hch he hsz hok hcn hrc) (cwV 2 F.2.2.2.2 gvL_count_X3_count rfl rfl rfl (by decide +kernel) ⟨Nat.le_of_ble_eq_true rfl, Nat.le_of_ble_eq_true rfl⟩) (og_rc hK (cPc hP)) hP hO hS rfl hl.1 rfl (lv_room (Nat.le_of_ble_eq_true rfl)) ⟨Nat.le_of_ble_eq_true rfl, Nat.le_of_ble_eq_true rfl⟩ dL_count_5 (fun E ce q9 V9 pq9 sp9 cn9 e9' sz9 b9 L9 w9 nx9 H locs hp hP hO hS hq hcv hcl => ?_) (fun r ra V9 pq9 sp9 cn9 e9' sz9 b9 L9 w9 nx9 H locs hp hP hO hS => ?_)
  · skip
    obtain ⟨hk0, hE, hA⟩ := hp
    have hop : (cCount (b, cn, List.map w L) f o).1 = 0 ∨ (cCount (b, cn, List.map w L) f o).1 = 1 := by unfold cCount; (repeat' split) <;> simp
    rcases hop with q | q
    · exact absurd q hk0
    · skip
      rw [q, eName_1] at hE
      subst hE
      refine vx_catch F.2.2.2.1 [] ⟨0, 10, 13, 13⟩ [] htab (fun z hz => nomatch hz) (by decide) (by decide) (F.2.2.2.2 (.classLink RL 13 "java/lang/IndexOutOfBoundsException") (by decide +kernel)) (va_Nw.use (xWd_on _ (by decide +kernel : Cond.castable "java/lang/IndexOutOfBoundsException" "java/lang/IndexOutOfBoundsException" ∈ xWd)) (hX.1 _ (by decide +kernel : Cond.castable "java/lang/IndexOutOfBoundsException" "java/lang/IndexOutOfBoundsException" ∈ xWd))) hq hcv hcl ?_
      refine lv_astore (lv' := [(4, .ref q9), (0, .ref (u 30)), (1, .int f), (2, .int o), (3, .ref oa)]) hx hb dL_count_13 hl (by decide) rfl (fun ls hl => ?_)
      refine lv_iconst (v := 1) hx hb dL_count_15 (by decide) ?_
      exact wz_ret F hr hlocks (by rw [q]; rfl) hA (fun z => absurd z hk0) hP hO hS (by exact Nat.le_of_ble_eq_true rfl) (by exact Nat.le_of_ble_eq_true rfl) dL_count_16
  · skip
    obtain ⟨hk0, hr0, hA⟩ := hp
    refine lv_i2l (v := Int32.toInt64 r) hx hb dL_count_8 rfl ?_
    refine wz_put F hJ hO hP (wz_hoW hoA hoz hA) hS dL_count_9 (fun H locs hP hO hS => ?_)
    refine lv_goto (tgt := 17) hx hb dL_count_10 (by decide) ?_
    refine lv_iconst (v := 0) hx hb dL_count_17 (by decide) ?_
    exact wz_ret F hr hlocks (by rw [hk0]; rfl) hA (fun _ => by rw [hr0]; rfl) hP hO hS (by exact Nat.le_of_ble_eq_true rfl) (by exact Nat.le_of_ble_eq_true rfl) dL_count_18
set_option maxHeartbeats 4000000 in
set_option maxRecDepth 100000 in
theorem lwc_countByAll {l : Launch} (hfl : l.stackTraces = false) {D : va_G} {cI cII cJ : ClassId} {sa : Nat → Nat} {u : Nat → Nat} {V : Nat → Nat → Int32} {pq sp : Int32} {cn : Nat} {e : Option Nat} {sz : Nat} {b : Nat → Nat → Int32} {L : List Nat} {w : Nat → Nat → Int32} {nx : Nat → Option Nat} {z0 : Nat} {oa : Nat} (hN : (cAd u ++ L).Nodup) (o : Int32) (hch : chn nx L) (he : e = L.head?) (hsz : sz = L.length) (hok : ∀ x, x ∈ L → okW (w x)) (hcn : cn ≤ 20) (hrc : ∀ k, k < cn → ∃ r, r < 6 ∧ b 11 k = nI r) (hoA : ¬ (oa ∈ cAd u ∨ oa ∈ L)) (hoz : oa < z0) : wz_Met l yL_countByAll wvL_countByAll 8 1 6 160 D u cI cII cJ sa z0 L oa (cW u cI cII V pq sp cn e sz b L w nx) [.ref (u 30), .int o, .ref oa] [1] (cCountByAll (b, cn, List.map w L) o) := by
  refine wz_start rfl (by decide +kernel) (Nat.le_of_ble_eq_true rfl) (fun p e9 s m below meth c F hr hlocks htab hK hJ hNc hz H locs g hP hO hS hz9 hX hH ls hl => ?_)
  have hl : lv_has ls 4 [(0, .ref (u 30)), (1, .int o), (2, .ref oa)] := hl
  have hx := F.1
  have hb := F.2.1
  refine lv_aload_n hx hb dL_countByAll_0 rfl (lv_at hl 2 rfl) ?_
  refine lv_iconst (v := 0) hx hb dL_countByAll_1 (by decide) ?_
  refine lv_aload_n hx hb dL_countByAll_2 rfl (lv_at hl 0 rfl) ?_
  refine lv_iload_n hx hb dL_countByAll_3 rfl (lv_at hl 1 rfl) ?_
  refine wz_callV F hK hX hz hH hoA [.int o] (cc_X3_countByAll hfl hN o hch he hsz hok hcn hrc) (cwV 1 F.2.2.2.2 gvL_countByAll_X3_countByAll rfl rfl rfl (by decide +kernel) ⟨Nat.le_of_ble_eq_true rfl, Nat.le_of_ble_eq_true rfl⟩) (og_rc hK (cPc hP)) hP hO hS rfl hl.1 rfl (lv_room (Nat.le_of_ble_eq_true rfl)) ⟨Nat.le_of_ble_eq_true rfl, Nat.le_of_ble_eq_true rfl⟩ dL_countByAll_4 (fun E ce q9 V9 pq9 sp9 cn9 e9' sz9 b9 L9 w9 nx9 H locs hp hP hO hS hq hcv hcl => ?_) (fun r ra V9 pq9 sp9 cn9 e9' sz9 b9 L9 w9 nx9 H locs hp hP hO hS => ?_)
  · skip
    obtain ⟨hk0, hE, hA⟩ := hp
    have hop : (cCountByAll (b, cn, List.map w L) o).1 = 0 ∨ (cCountByAll (b, cn, List.map w L) o).1 = 1 := by unfold cCountByAll; (repeat' split) <;> simp
    rcases hop with q | q
    · exact absurd q hk0
    · skip
      rw [q, eName_1] at hE
      subst hE
      refine vx_catch F.2.2.2.1 [] ⟨0, 9, 12, 13⟩ [] htab (fun z hz => nomatch hz) (by decide) (by decide) (F.2.2.2.2 (.classLink RL 13 "java/lang/IndexOutOfBoundsException") (by decide +kernel)) (va_Nw.use (xWd_on _ (by decide +kernel : Cond.castable "java/lang/IndexOutOfBoundsException" "java/lang/IndexOutOfBoundsException" ∈ xWd)) (hX.1 _ (by decide +kernel : Cond.castable "java/lang/IndexOutOfBoundsException" "java/lang/IndexOutOfBoundsException" ∈ xWd))) hq hcv hcl ?_
      refine lv_astore_n (lv' := [(3, .ref q9), (0, .ref (u 30)), (1, .int o), (2, .ref oa)]) hx hb dL_countByAll_12 rfl hl (by decide) rfl (fun ls hl => ?_)
      refine lv_iconst (v := 1) hx hb dL_countByAll_13 (by decide) ?_
      exact wz_ret F hr hlocks (by rw [q]; rfl) hA (fun z => absurd z hk0) hP hO hS (by exact Nat.le_of_ble_eq_true rfl) (by exact Nat.le_of_ble_eq_true rfl) dL_countByAll_14
  · skip
    obtain ⟨hk0, hr0, hA⟩ := hp
    refine lv_i2l (v := Int32.toInt64 r) hx hb dL_countByAll_7 rfl ?_
    refine wz_put F hJ hO hP (wz_hoW hoA hoz hA) hS dL_countByAll_8 (fun H locs hP hO hS => ?_)
    refine lv_goto (tgt := 15) hx hb dL_countByAll_9 (by decide) ?_
    refine lv_iconst (v := 0) hx hb dL_countByAll_15 (by decide) ?_
    exact wz_ret F hr hlocks (by rw [hk0]; rfl) hA (fun _ => by rw [hr0]; rfl) hP hO hS (by exact Nat.le_of_ble_eq_true rfl) (by exact Nat.le_of_ble_eq_true rfl) dL_countByAll_16
set_option maxHeartbeats 4000000 in
set_option maxRecDepth 100000 in
theorem lwc_claims {l : Launch} (hfl : l.stackTraces = false) {D : va_G} {cI cII cJ : ClassId} {sa : Nat → Nat} {u : Nat → Nat} {V : Nat → Nat → Int32} {pq sp : Int32} {cn : Nat} {e : Option Nat} {sz : Nat} {b : Nat → Nat → Int32} {L : List Nat} {w : Nat → Nat → Int32} {nx : Nat → Option Nat} {z0 : Nat} {oa : Nat} (hN : (cAd u ++ L).Nodup) (f t : Int32) (hch : chn nx L) (he : e = L.head?) (hsz : sz = L.length) (hok : ∀ x, x ∈ L → okW (w x)) (hcn : cn ≤ 20) (hrc : ∀ k, k < cn → ∃ r, r < 6 ∧ b 11 k = nI r) (hoA : ¬ (oa ∈ cAd u ∨ oa ∈ L)) (hoz : oa < z0) : wz_Met l yL_claims wvL_claims 8 2 12 162 D u cI cII cJ sa z0 L oa (cW u cI cII V pq sp cn e sz b L w nx) [.ref (u 30), .int f, .int t, .ref oa] [1] (cClaims (b, cn, List.map w L) f t) := by
  refine wz_start rfl (by decide +kernel) (Nat.le_of_ble_eq_true rfl) (fun p e9 s m below meth c F hr hlocks htab hK hJ hNc hz H locs g hP hO hS hz9 hX hH ls hl => ?_)
  have hl : lv_has ls 5 [(0, .ref (u 30)), (1, .int f), (2, .int t), (3, .ref oa)] := hl
  have hx := F.1
  have hb := F.2.1
  refine lv_aload_n hx hb dL_claims_0 rfl (lv_at hl 3 rfl) ?_
  refine lv_iconst (v := 0) hx hb dL_claims_1 (by decide) ?_
  refine lv_aload_n hx hb dL_claims_2 rfl (lv_at hl 0 rfl) ?_
  refine lv_iload_n hx hb dL_claims_3 rfl (lv_at hl 1 rfl) ?_
  refine lv_iload_n hx hb dL_claims_4 rfl (lv_at hl 2 rfl) ?_
  refine wz_callV F hK hX hz hH hoA [.int f, .int t] (cc_X3_claims hfl hN f t hch he hsz hok hcn hrc) (cwV 2 F.2.2.2.2 gvL_claims_X3_claims rfl rfl rfl (by decide +kernel) ⟨Nat.le_of_ble_eq_true rfl, Nat.le_of_ble_eq_true rfl⟩) (og_rc hK (cPc hP)) hP hO hS rfl hl.1 rfl (lv_room (Nat.le_of_ble_eq_true rfl)) ⟨Nat.le_of_ble_eq_true rfl, Nat.le_of_ble_eq_true rfl⟩ dL_claims_5 (fun E ce q9 V9 pq9 sp9 cn9 e9' sz9 b9 L9 w9 nx9 H locs hp hP hO hS hq hcv hcl => ?_) (fun r ra V9 pq9 sp9 cn9 e9' sz9 b9 L9 w9 nx9 H locs hp hP hO hS => ?_)
  · skip
    obtain ⟨hk0, hE, hA⟩ := hp
    have hop : (cClaims (b, cn, List.map w L) f t).1 = 0 ∨ (cClaims (b, cn, List.map w L) f t).1 = 1 := by unfold cClaims; (repeat' split) <;> simp
    rcases hop with q | q
    · exact absurd q hk0
    · skip
      rw [q, eName_1] at hE
      subst hE
      refine vx_catch F.2.2.2.1 [] ⟨0, 10, 13, 13⟩ [] htab (fun z hz => nomatch hz) (by decide) (by decide) (F.2.2.2.2 (.classLink RL 13 "java/lang/IndexOutOfBoundsException") (by decide +kernel)) (va_Nw.use (xWd_on _ (by decide +kernel : Cond.castable "java/lang/IndexOutOfBoundsException" "java/lang/IndexOutOfBoundsException" ∈ xWd)) (hX.1 _ (by decide +kernel : Cond.castable "java/lang/IndexOutOfBoundsException" "java/lang/IndexOutOfBoundsException" ∈ xWd))) hq hcv hcl ?_
      refine lv_astore (lv' := [(4, .ref q9), (0, .ref (u 30)), (1, .int f), (2, .int t), (3, .ref oa)]) hx hb dL_claims_13 hl (by decide) rfl (fun ls hl => ?_)
      refine lv_iconst (v := 1) hx hb dL_claims_15 (by decide) ?_
      exact wz_ret F hr hlocks (by rw [q]; rfl) hA (fun z => absurd z hk0) hP hO hS (by exact Nat.le_of_ble_eq_true rfl) (by exact Nat.le_of_ble_eq_true rfl) dL_claims_16
  · skip
    obtain ⟨hk0, hr0, hA⟩ := hp
    refine lv_i2l (v := Int32.toInt64 r) hx hb dL_claims_8 rfl ?_
    refine wz_put F hJ hO hP (wz_hoW hoA hoz hA) hS dL_claims_9 (fun H locs hP hO hS => ?_)
    refine lv_goto (tgt := 17) hx hb dL_claims_10 (by decide) ?_
    refine lv_iconst (v := 0) hx hb dL_claims_17 (by decide) ?_
    exact wz_ret F hr hlocks (by rw [hk0]; rfl) hA (fun _ => by rw [hr0]; rfl) hP hO hS (by exact Nat.le_of_ble_eq_true rfl) (by exact Nat.le_of_ble_eq_true rfl) dL_claims_18
set_option maxHeartbeats 4000000 in
set_option maxRecDepth 100000 in
theorem lwc_meet {l : Launch} (hfl : l.stackTraces = false) {D : va_G} {cI cII cJ : ClassId} {sa : Nat → Nat} {u : Nat → Nat} {V : Nat → Nat → Int32} {pq sp : Int32} {cn : Nat} {e : Option Nat} {sz : Nat} {b : Nat → Nat → Int32} {L : List Nat} {w : Nat → Nat → Int32} {nx : Nat → Option Nat} {z0 : Nat} {oa : Nat} (hN : (cAd u ++ L).Nodup) (f o : Int32) (hch : chn nx L) (he : e = L.head?) (hsz : sz = L.length) (hok : ∀ x, x ∈ L → okW (w x)) (hcn : cn ≤ 20) (hrc : ∀ k, k < cn → ∃ r, r < 6 ∧ b 11 k = nI r) (hoA : ¬ (oa ∈ cAd u ∨ oa ∈ L)) (hoz : oa < z0) : wz_Met l yL_meet wvL_meet 8 3 18 134 D u cI cII cJ sa z0 L oa (cW u cI cII V pq sp cn e sz b L w nx) [.ref (u 30), .int f, .int o, .ref oa] [1, 2] (cMeet (b, cn, List.map w L) f o) := by
  refine wz_start rfl (by decide +kernel) (Nat.le_of_ble_eq_true rfl) (fun p e9 s m below meth c F hr hlocks htab hK hJ hNc hz H locs g hP hO hS hz9 hX hH ls hl => ?_)
  have hl : lv_has ls 5 [(0, .ref (u 30)), (1, .int f), (2, .int o), (3, .ref oa)] := hl
  have hx := F.1
  have hb := F.2.1
  refine lv_aload_n hx hb dL_meet_0 rfl (lv_at hl 3 rfl) ?_
  refine lv_iconst (v := 0) hx hb dL_meet_1 (by decide) ?_
  refine lv_aload_n hx hb dL_meet_2 rfl (lv_at hl 0 rfl) ?_
  refine lv_iload_n hx hb dL_meet_3 rfl (lv_at hl 1 rfl) ?_
  refine lv_iload_n hx hb dL_meet_4 rfl (lv_at hl 2 rfl) ?_
  refine wz_callV F hK hX hz hH hoA [.int f, .int o] (cc_X3_meet hfl hN f o hch he hsz hok hcn hrc) (cwV 2 F.2.2.2.2 gvL_meet_X3_meet rfl rfl rfl (by decide +kernel) ⟨Nat.le_of_ble_eq_true rfl, Nat.le_of_ble_eq_true rfl⟩) (og_rc hK (cPc hP)) hP hO hS rfl hl.1 rfl (lv_room (Nat.le_of_ble_eq_true rfl)) ⟨Nat.le_of_ble_eq_true rfl, Nat.le_of_ble_eq_true rfl⟩ dL_meet_5 (fun E ce q9 V9 pq9 sp9 cn9 e9' sz9 b9 L9 w9 nx9 H locs hp hP hO hS hq hcv hcl => ?_) (fun r ra V9 pq9 sp9 cn9 e9' sz9 b9 L9 w9 nx9 H locs hp hP hO hS => ?_)
  · skip
    obtain ⟨hk0, hE, hA⟩ := hp
    have hop : (cMeet (b, cn, List.map w L) f o).1 = 0 ∨ (cMeet (b, cn, List.map w L) f o).1 = 1 ∨ (cMeet (b, cn, List.map w L) f o).1 = 2 := by unfold cMeet; (repeat' split) <;> simp
    rcases hop with q | q | q
    · exact absurd q hk0
    · skip
      rw [q, eName_1] at hE
      subst hE
      refine vx_catch F.2.2.2.1 [] ⟨0, 10, 13, 13⟩ [⟨0, 10, 17, 39⟩] htab (fun z hz => nomatch hz) (by decide) (by decide) (F.2.2.2.2 (.classLink RL 13 "java/lang/IndexOutOfBoundsException") (by decide +kernel)) (va_Nw.use (xWd_on _ (by decide +kernel : Cond.castable "java/lang/IndexOutOfBoundsException" "java/lang/IndexOutOfBoundsException" ∈ xWd)) (hX.1 _ (by decide +kernel : Cond.castable "java/lang/IndexOutOfBoundsException" "java/lang/IndexOutOfBoundsException" ∈ xWd))) hq hcv hcl ?_
      refine lv_astore (lv' := [(4, .ref q9), (0, .ref (u 30)), (1, .int f), (2, .int o), (3, .ref oa)]) hx hb dL_meet_13 hl (by decide) rfl (fun ls hl => ?_)
      refine lv_iconst (v := 1) hx hb dL_meet_15 (by decide) ?_
      exact wz_ret F hr hlocks (by rw [q]; rfl) hA (fun z => absurd z hk0) hP hO hS (by exact Nat.le_of_ble_eq_true rfl) (by exact Nat.le_of_ble_eq_true rfl) dL_meet_16
    · skip
      rw [q, eName_2] at hE
      subst hE
      refine vx_catch F.2.2.2.1 [⟨0, 10, 13, 13⟩] ⟨0, 10, 17, 39⟩ [] htab (List.forall_mem_cons.mpr ⟨Or.inr ⟨by decide, "java/lang/IndexOutOfBoundsException", F.2.2.2.2 (.classLink RL 13 "java/lang/IndexOutOfBoundsException") (by decide +kernel), hNc.1⟩, (fun _ h => nomatch h)⟩) (by decide) (by decide) (F.2.2.2.2 (.classLink RL 39 "java/lang/IllegalArgumentException") (by decide +kernel)) (va_Nw.use (xWd_on _ (by decide +kernel : Cond.castable "java/lang/IllegalArgumentException" "java/lang/IllegalArgumentException" ∈ xWd)) (hX.1 _ (by decide +kernel : Cond.castable "java/lang/IllegalArgumentException" "java/lang/IllegalArgumentException" ∈ xWd))) hq hcv hcl ?_
      refine lv_astore (lv' := [(4, .ref q9), (0, .ref (u 30)), (1, .int f), (2, .int o), (3, .ref oa)]) hx hb dL_meet_17 hl (by decide) rfl (fun ls hl => ?_)
      refine lv_iconst (v := 2) hx hb dL_meet_19 (by decide) ?_
      exact wz_ret F hr hlocks (by rw [q]; rfl) hA (fun z => absurd z hk0) hP hO hS (by exact Nat.le_of_ble_eq_true rfl) (by exact Nat.le_of_ble_eq_true rfl) dL_meet_20
  · skip
    obtain ⟨hk0, hr0, hA⟩ := hp
    refine lv_i2l (v := Int32.toInt64 r) hx hb dL_meet_8 rfl ?_
    refine wz_put F hJ hO hP (wz_hoW hoA hoz hA) hS dL_meet_9 (fun H locs hP hO hS => ?_)
    refine lv_goto (tgt := 21) hx hb dL_meet_10 (by decide) ?_
    refine lv_iconst (v := 0) hx hb dL_meet_21 (by decide) ?_
    exact wz_ret F hr hlocks (by rw [hk0]; rfl) hA (fun _ => by rw [hr0]; rfl) hP hO hS (by exact Nat.le_of_ble_eq_true rfl) (by exact Nat.le_of_ble_eq_true rfl) dL_meet_22
set_option maxHeartbeats 4000000 in
set_option maxRecDepth 100000 in
theorem lwc_known {l : Launch} (hfl : l.stackTraces = false) {D : va_G} {cI cII cJ : ClassId} {sa : Nat → Nat} {u : Nat → Nat} {V : Nat → Nat → Int32} {pq sp : Int32} {cn : Nat} {e : Option Nat} {sz : Nat} {b : Nat → Nat → Int32} {L : List Nat} {w : Nat → Nat → Int32} {nx : Nat → Option Nat} {z0 : Nat} {oa : Nat} (hN : (cAd u ++ L).Nodup) (f : Int32) (hch : chn nx L) (he : e = L.head?) (hsz : sz = L.length) (hok : ∀ x, x ∈ L → okW (w x)) (hcn : cn ≤ 20) (hrc : ∀ k, k < cn → ∃ r, r < 6 ∧ b 11 k = nI r) (hoA : ¬ (oa ∈ cAd u ∨ oa ∈ L)) (hoz : oa < z0) : wz_Met l yL_known wvL_known 8 1 6 132 D u cI cII cJ sa z0 L oa (cW u cI cII V pq sp cn e sz b L w nx) [.ref (u 30), .int f, .ref oa] [1] (cKnown (b, cn, List.map w L) f) := by
  refine wz_start rfl (by decide +kernel) (Nat.le_of_ble_eq_true rfl) (fun p e9 s m below meth c F hr hlocks htab hK hJ hNc hz H locs g hP hO hS hz9 hX hH ls hl => ?_)
  have hl : lv_has ls 4 [(0, .ref (u 30)), (1, .int f), (2, .ref oa)] := hl
  have hx := F.1
  have hb := F.2.1
  refine lv_aload_n hx hb dL_known_0 rfl (lv_at hl 2 rfl) ?_
  refine lv_iconst (v := 0) hx hb dL_known_1 (by decide) ?_
  refine lv_aload_n hx hb dL_known_2 rfl (lv_at hl 0 rfl) ?_
  refine lv_iload_n hx hb dL_known_3 rfl (lv_at hl 1 rfl) ?_
  refine wz_callV F hK hX hz hH hoA [.int f] (cc_X3_known hfl hN f hch he hsz hok hcn hrc) (cwV 1 F.2.2.2.2 gvL_known_X3_known rfl rfl rfl (by decide +kernel) ⟨Nat.le_of_ble_eq_true rfl, Nat.le_of_ble_eq_true rfl⟩) (og_rc hK (cPc hP)) hP hO hS rfl hl.1 rfl (lv_room (Nat.le_of_ble_eq_true rfl)) ⟨Nat.le_of_ble_eq_true rfl, Nat.le_of_ble_eq_true rfl⟩ dL_known_4 (fun E ce q9 V9 pq9 sp9 cn9 e9' sz9 b9 L9 w9 nx9 H locs hp hP hO hS hq hcv hcl => ?_) (fun r ra V9 pq9 sp9 cn9 e9' sz9 b9 L9 w9 nx9 H locs hp hP hO hS => ?_)
  · skip
    obtain ⟨hk0, hE, hA⟩ := hp
    have hop : (cKnown (b, cn, List.map w L) f).1 = 0 ∨ (cKnown (b, cn, List.map w L) f).1 = 1 := by unfold cKnown; (repeat' split) <;> simp
    rcases hop with q | q
    · exact absurd q hk0
    · skip
      rw [q, eName_1] at hE
      subst hE
      refine vx_catch F.2.2.2.1 [] ⟨0, 9, 12, 13⟩ [] htab (fun z hz => nomatch hz) (by decide) (by decide) (F.2.2.2.2 (.classLink RL 13 "java/lang/IndexOutOfBoundsException") (by decide +kernel)) (va_Nw.use (xWd_on _ (by decide +kernel : Cond.castable "java/lang/IndexOutOfBoundsException" "java/lang/IndexOutOfBoundsException" ∈ xWd)) (hX.1 _ (by decide +kernel : Cond.castable "java/lang/IndexOutOfBoundsException" "java/lang/IndexOutOfBoundsException" ∈ xWd))) hq hcv hcl ?_
      refine lv_astore_n (lv' := [(3, .ref q9), (0, .ref (u 30)), (1, .int f), (2, .ref oa)]) hx hb dL_known_12 rfl hl (by decide) rfl (fun ls hl => ?_)
      refine lv_iconst (v := 1) hx hb dL_known_13 (by decide) ?_
      exact wz_ret F hr hlocks (by rw [q]; rfl) hA (fun z => absurd z hk0) hP hO hS (by exact Nat.le_of_ble_eq_true rfl) (by exact Nat.le_of_ble_eq_true rfl) dL_known_14
  · skip
    obtain ⟨hk0, hr0, hA⟩ := hp
    refine lv_i2l (v := Int32.toInt64 r) hx hb dL_known_7 rfl ?_
    refine wz_put F hJ hO hP (wz_hoW hoA hoz hA) hS dL_known_8 (fun H locs hP hO hS => ?_)
    refine lv_goto (tgt := 15) hx hb dL_known_9 (by decide) ?_
    refine lv_iconst (v := 0) hx hb dL_known_15 (by decide) ?_
    exact wz_ret F hr hlocks (by rw [hk0]; rfl) hA (fun _ => by rw [hr0]; rfl) hP hO hS (by exact Nat.le_of_ble_eq_true rfl) (by exact Nat.le_of_ble_eq_true rfl) dL_known_16
set_option maxHeartbeats 4000000 in
set_option maxRecDepth 100000 in
theorem lwc_clock {l : Launch} (hfl : l.stackTraces = false) {D : va_G} {cI cII cJ : ClassId} {sa : Nat → Nat} {u : Nat → Nat} {V : Nat → Nat → Int32} {pq sp : Int32} {cn : Nat} {e : Option Nat} {sz : Nat} {b : Nat → Nat → Int32} {L : List Nat} {w : Nat → Nat → Int32} {nx : Nat → Option Nat} {z0 : Nat} {oa : Nat} (hN : (cAd u ++ L).Nodup) (f : Int32) (hch : chn nx L) (he : e = L.head?) (hsz : sz = L.length) (hok : ∀ x, x ∈ L → okW (w x)) (hcn : cn ≤ 20) (hrc : ∀ k, k < cn → ∃ r, r < 6 ∧ b 11 k = nI r) (hoA : ¬ (oa ∈ cAd u ∨ oa ∈ L)) (hoz : oa < z0) : wz_Met l yL_clock wvL_clock 8 1 6 132 D u cI cII cJ sa z0 L oa (cW u cI cII V pq sp cn e sz b L w nx) [.ref (u 30), .int f, .ref oa] [1] (cClock (b, cn, List.map w L) f) := by
  refine wz_start rfl (by decide +kernel) (Nat.le_of_ble_eq_true rfl) (fun p e9 s m below meth c F hr hlocks htab hK hJ hNc hz H locs g hP hO hS hz9 hX hH ls hl => ?_)
  have hl : lv_has ls 4 [(0, .ref (u 30)), (1, .int f), (2, .ref oa)] := hl
  have hx := F.1
  have hb := F.2.1
  refine lv_aload_n hx hb dL_clock_0 rfl (lv_at hl 2 rfl) ?_
  refine lv_iconst (v := 0) hx hb dL_clock_1 (by decide) ?_
  refine lv_aload_n hx hb dL_clock_2 rfl (lv_at hl 0 rfl) ?_
  refine lv_iload_n hx hb dL_clock_3 rfl (lv_at hl 1 rfl) ?_
  refine wz_callV F hK hX hz hH hoA [.int f] (cc_X3_clock hfl hN f hch he hsz hok hcn hrc) (cwV 1 F.2.2.2.2 gvL_clock_X3_clock rfl rfl rfl (by decide +kernel) ⟨Nat.le_of_ble_eq_true rfl, Nat.le_of_ble_eq_true rfl⟩) (og_rc hK (cPc hP)) hP hO hS rfl hl.1 rfl (lv_room (Nat.le_of_ble_eq_true rfl)) ⟨Nat.le_of_ble_eq_true rfl, Nat.le_of_ble_eq_true rfl⟩ dL_clock_4 (fun E ce q9 V9 pq9 sp9 cn9 e9' sz9 b9 L9 w9 nx9 H locs hp hP hO hS hq hcv hcl => ?_) (fun r ra V9 pq9 sp9 cn9 e9' sz9 b9 L9 w9 nx9 H locs hp hP hO hS => ?_)
  · skip
    obtain ⟨hk0, hE, hA⟩ := hp
    have hop : (cClock (b, cn, List.map w L) f).1 = 0 ∨ (cClock (b, cn, List.map w L) f).1 = 1 := by unfold cClock; (repeat' split) <;> simp
    rcases hop with q | q
    · exact absurd q hk0
    · skip
      rw [q, eName_1] at hE
      subst hE
      refine vx_catch F.2.2.2.1 [] ⟨0, 9, 12, 13⟩ [] htab (fun z hz => nomatch hz) (by decide) (by decide) (F.2.2.2.2 (.classLink RL 13 "java/lang/IndexOutOfBoundsException") (by decide +kernel)) (va_Nw.use (xWd_on _ (by decide +kernel : Cond.castable "java/lang/IndexOutOfBoundsException" "java/lang/IndexOutOfBoundsException" ∈ xWd)) (hX.1 _ (by decide +kernel : Cond.castable "java/lang/IndexOutOfBoundsException" "java/lang/IndexOutOfBoundsException" ∈ xWd))) hq hcv hcl ?_
      refine lv_astore_n (lv' := [(3, .ref q9), (0, .ref (u 30)), (1, .int f), (2, .ref oa)]) hx hb dL_clock_12 rfl hl (by decide) rfl (fun ls hl => ?_)
      refine lv_iconst (v := 1) hx hb dL_clock_13 (by decide) ?_
      exact wz_ret F hr hlocks (by rw [q]; rfl) hA (fun z => absurd z hk0) hP hO hS (by exact Nat.le_of_ble_eq_true rfl) (by exact Nat.le_of_ble_eq_true rfl) dL_clock_14
  · skip
    obtain ⟨hk0, hr0, hA⟩ := hp
    refine lv_i2l (v := Int32.toInt64 r) hx hb dL_clock_7 rfl ?_
    refine wz_put F hJ hO hP (wz_hoW hoA hoz hA) hS dL_clock_8 (fun H locs hP hO hS => ?_)
    refine lv_goto (tgt := 15) hx hb dL_clock_9 (by decide) ?_
    refine lv_iconst (v := 0) hx hb dL_clock_15 (by decide) ?_
    exact wz_ret F hr hlocks (by rw [hk0]; rfl) hA (fun _ => by rw [hr0]; rfl) hP hO hS (by exact Nat.le_of_ble_eq_true rfl) (by exact Nat.le_of_ble_eq_true rfl) dL_clock_16
set_option maxHeartbeats 4000000 in
set_option maxRecDepth 100000 in
theorem lwc_guest {l : Launch} (hfl : l.stackTraces = false) {D : va_G} {cI cII cJ : ClassId} {sa : Nat → Nat} {u : Nat → Nat} {V : Nat → Nat → Int32} {pq sp : Int32} {cn : Nat} {e : Option Nat} {sz : Nat} {b : Nat → Nat → Int32} {L : List Nat} {w : Nat → Nat → Int32} {nx : Nat → Option Nat} {z0 : Nat} {oa : Nat} (hN : (cAd u ++ L).Nodup) (f o x1 x2 x3 : Int32) (hch : chn nx L) (he : e = L.head?) (hsz : sz = L.length) (hok : ∀ x, x ∈ L → okW (w x)) (hcn : cn ≤ 20) (hrc : ∀ k, k < cn → ∃ r, r < 6 ∧ b 11 k = nI r) (hoA : ¬ (oa ∈ cAd u ∨ oa ∈ L)) (hoz : oa < z0) : wz_Met l yL_guest wvL_guest 8 7 46 138 D u cI cII cJ sa z0 L oa (cW u cI cII V pq sp cn e sz b L w nx) [.ref (u 30), .int f, .int o, .int x1, .int x2, .int x3, .ref oa] [1, 2, 3] (cGuest (b, cn, List.map w L) f o x1 x2 x3) := by
  refine wz_start rfl (by decide +kernel) (Nat.le_of_ble_eq_true rfl) (fun p e9 s m below meth c F hr hlocks htab hK hJ hNc hz H locs g hP hO hS hz9 hX hH ls hl => ?_)
  have hl : lv_has ls 8 [(0, .ref (u 30)), (1, .int f), (2, .int o), (3, .int x1), (4, .int x2), (5, .int x3), (6, .ref oa)] := hl
  have hx := F.1
  have hb := F.2.1
  refine lv_aload hx hb dL_guest_0 (lv_at hl 6 rfl) ?_
  refine lv_iconst (v := 0) hx hb dL_guest_2 (by decide) ?_
  refine lv_aload_n hx hb dL_guest_3 rfl (lv_at hl 0 rfl) ?_
  refine lv_iload_n hx hb dL_guest_4 rfl (lv_at hl 1 rfl) ?_
  refine lv_iload_n hx hb dL_guest_5 rfl (lv_at hl 2 rfl) ?_
  refine lv_iload_n hx hb dL_guest_6 rfl (lv_at hl 3 rfl) ?_
  refine lv_iload hx hb dL_guest_7 (lv_at hl 4 rfl) ?_
  refine lv_iload hx hb dL_guest_9 (lv_at hl 5 rfl) ?_
  refine wz_callV F hK hX hz hH hoA [.int f, .int o, .int x1, .int x2, .int x3] (cc_X3_guest hfl hN f o x1 x2 x3 hch he hsz hok hcn hrc) (cwV 5 F.2.2.2.2 gvL_guest_X3_guest rfl rfl rfl (by decide +kernel) ⟨Nat.le_of_ble_eq_true rfl, Nat.le_of_ble_eq_true rfl⟩) (og_rc hK (cPc hP)) hP hO hS rfl hl.1 rfl (lv_room (Nat.le_of_ble_eq_true rfl)) ⟨Nat.le_of_ble_eq_true rfl, Nat.le_of_ble_eq_true rfl⟩ dL_guest_11 (fun E ce q9 V9 pq9 sp9 cn9 e9' sz9 b9 L9 w9 nx9 H locs hp hP hO hS hq hcv hcl => ?_) (fun r ra V9 pq9 sp9 cn9 e9' sz9 b9 L9 w9 nx9 H locs hp hP hO hS => ?_)
  · skip
    obtain ⟨hk0, hE, hA⟩ := hp
    have hop : (cGuest (b, cn, List.map w L) f o x1 x2 x3).1 = 0 ∨ (cGuest (b, cn, List.map w L) f o x1 x2 x3).1 = 1 ∨ (cGuest (b, cn, List.map w L) f o x1 x2 x3).1 = 2 ∨ (cGuest (b, cn, List.map w L) f o x1 x2 x3).1 = 3 := by unfold cGuest; (repeat' split) <;> simp
    rcases hop with q | q | q | q
    · exact absurd q hk0
    · skip
      rw [q, eName_1] at hE
      subst hE
      refine vx_catch F.2.2.2.1 [] ⟨0, 16, 19, 13⟩ [⟨0, 16, 23, 39⟩, ⟨0, 16, 27, 15⟩] htab (fun z hz => nomatch hz) (by decide) (by decide) (F.2.2.2.2 (.classLink RL 13 "java/lang/IndexOutOfBoundsException") (by decide +kernel)) (va_Nw.use (xWd_on _ (by decide +kernel : Cond.castable "java/lang/IndexOutOfBoundsException" "java/lang/IndexOutOfBoundsException" ∈ xWd)) (hX.1 _ (by decide +kernel : Cond.castable "java/lang/IndexOutOfBoundsException" "java/lang/IndexOutOfBoundsException" ∈ xWd))) hq hcv hcl ?_
      refine lv_astore (lv' := [(7, .ref q9), (0, .ref (u 30)), (1, .int f), (2, .int o), (3, .int x1), (4, .int x2), (5, .int x3), (6, .ref oa)]) hx hb dL_guest_19 hl (by decide) rfl (fun ls hl => ?_)
      refine lv_iconst (v := 1) hx hb dL_guest_21 (by decide) ?_
      exact wz_ret F hr hlocks (by rw [q]; rfl) hA (fun z => absurd z hk0) hP hO hS (by exact Nat.le_of_ble_eq_true rfl) (by exact Nat.le_of_ble_eq_true rfl) dL_guest_22
    · skip
      rw [q, eName_2] at hE
      subst hE
      refine vx_catch F.2.2.2.1 [⟨0, 16, 19, 13⟩] ⟨0, 16, 23, 39⟩ [⟨0, 16, 27, 15⟩] htab (List.forall_mem_cons.mpr ⟨Or.inr ⟨by decide, "java/lang/IndexOutOfBoundsException", F.2.2.2.2 (.classLink RL 13 "java/lang/IndexOutOfBoundsException") (by decide +kernel), hNc.1⟩, (fun _ h => nomatch h)⟩) (by decide) (by decide) (F.2.2.2.2 (.classLink RL 39 "java/lang/IllegalArgumentException") (by decide +kernel)) (va_Nw.use (xWd_on _ (by decide +kernel : Cond.castable "java/lang/IllegalArgumentException" "java/lang/IllegalArgumentException" ∈ xWd)) (hX.1 _ (by decide +kernel : Cond.castable "java/lang/IllegalArgumentException" "java/lang/IllegalArgumentException" ∈ xWd))) hq hcv hcl ?_
      refine lv_astore (lv' := [(7, .ref q9), (0, .ref (u 30)), (1, .int f), (2, .int o), (3, .int x1), (4, .int x2), (5, .int x3), (6, .ref oa)]) hx hb dL_guest_23 hl (by decide) rfl (fun ls hl => ?_)
      refine lv_iconst (v := 2) hx hb dL_guest_25 (by decide) ?_
      exact wz_ret F hr hlocks (by rw [q]; rfl) hA (fun z => absurd z hk0) hP hO hS (by exact Nat.le_of_ble_eq_true rfl) (by exact Nat.le_of_ble_eq_true rfl) dL_guest_26
    · skip
      rw [q, eName_3] at hE
      subst hE
      refine vx_catch F.2.2.2.1 [⟨0, 16, 19, 13⟩, ⟨0, 16, 23, 39⟩] ⟨0, 16, 27, 15⟩ [] htab (List.forall_mem_cons.mpr ⟨Or.inr ⟨by decide, "java/lang/IndexOutOfBoundsException", F.2.2.2.2 (.classLink RL 13 "java/lang/IndexOutOfBoundsException") (by decide +kernel), hNc.2.1⟩, (List.forall_mem_cons.mpr ⟨Or.inr ⟨by decide, "java/lang/IllegalArgumentException", F.2.2.2.2 (.classLink RL 39 "java/lang/IllegalArgumentException") (by decide +kernel), hNc.2.2⟩, (fun _ h => nomatch h)⟩)⟩) (by decide) (by decide) (F.2.2.2.2 (.classLink RL 15 "java/lang/IllegalStateException") (by decide +kernel)) (va_Nw.use (xWd_on _ (by decide +kernel : Cond.castable "java/lang/IllegalStateException" "java/lang/IllegalStateException" ∈ xWd)) (hX.1 _ (by decide +kernel : Cond.castable "java/lang/IllegalStateException" "java/lang/IllegalStateException" ∈ xWd))) hq hcv hcl ?_
      refine lv_astore (lv' := [(7, .ref q9), (0, .ref (u 30)), (1, .int f), (2, .int o), (3, .int x1), (4, .int x2), (5, .int x3), (6, .ref oa)]) hx hb dL_guest_27 hl (by decide) rfl (fun ls hl => ?_)
      refine lv_iconst (v := 3) hx hb dL_guest_29 (by decide) ?_
      exact wz_ret F hr hlocks (by rw [q]; rfl) hA (fun z => absurd z hk0) hP hO hS (by exact Nat.le_of_ble_eq_true rfl) (by exact Nat.le_of_ble_eq_true rfl) dL_guest_30
  · skip
    obtain ⟨hk0, hr0, hA⟩ := hp
    refine lv_i2l (v := Int32.toInt64 r) hx hb dL_guest_14 rfl ?_
    refine wz_put F hJ hO hP (wz_hoW hoA hoz hA) hS dL_guest_15 (fun H locs hP hO hS => ?_)
    refine lv_goto (tgt := 31) hx hb dL_guest_16 (by decide) ?_
    refine lv_iconst (v := 0) hx hb dL_guest_31 (by decide) ?_
    exact wz_ret F hr hlocks (by rw [hk0]; rfl) hA (fun _ => by rw [hr0]; rfl) hP hO hS (by exact Nat.le_of_ble_eq_true rfl) (by exact Nat.le_of_ble_eq_true rfl) dL_guest_32
set_option maxHeartbeats 4000000 in
set_option maxRecDepth 100000 in
theorem lwc_guests {l : Launch} (hfl : l.stackTraces = false) {D : va_G} {cI cII cJ : ClassId} {sa : Nat → Nat} {u : Nat → Nat} {V : Nat → Nat → Int32} {pq sp : Int32} {cn : Nat} {e : Option Nat} {sz : Nat} {b : Nat → Nat → Int32} {L : List Nat} {w : Nat → Nat → Int32} {nx : Nat → Option Nat} {z0 : Nat} {oa : Nat} (hN : (cAd u ++ L).Nodup) (f d : Int32) (hch : chn nx L) (he : e = L.head?) (hsz : sz = L.length) (hok : ∀ x, x ∈ L → okW (w x)) (hcn : cn ≤ 20) (hrc : ∀ k, k < cn → ∃ r, r < 6 ∧ b 11 k = nI r) (hoA : ¬ (oa ∈ cAd u ∨ oa ∈ L)) (hoz : oa < z0) : wz_Met l yL_guests wvL_guests 8 2 12 162 D u cI cII cJ sa z0 L oa (cW u cI cII V pq sp cn e sz b L w nx) [.ref (u 30), .int f, .int d, .ref oa] [1, 2] (cGuests (b, cn, List.map w L) f d) := by
  refine wz_start rfl (by decide +kernel) (Nat.le_of_ble_eq_true rfl) (fun p e9 s m below meth c F hr hlocks htab hK hJ hNc hz H locs g hP hO hS hz9 hX hH ls hl => ?_)
  have hl : lv_has ls 5 [(0, .ref (u 30)), (1, .int f), (2, .int d), (3, .ref oa)] := hl
  have hx := F.1
  have hb := F.2.1
  refine lv_aload_n hx hb dL_guests_0 rfl (lv_at hl 3 rfl) ?_
  refine lv_iconst (v := 0) hx hb dL_guests_1 (by decide) ?_
  refine lv_aload_n hx hb dL_guests_2 rfl (lv_at hl 0 rfl) ?_
  refine lv_iload_n hx hb dL_guests_3 rfl (lv_at hl 1 rfl) ?_
  refine lv_iload_n hx hb dL_guests_4 rfl (lv_at hl 2 rfl) ?_
  refine wz_callV F hK hX hz hH hoA [.int f, .int d] (cc_X3_guests hfl hN f d hch he hsz hok hcn hrc) (cwV 2 F.2.2.2.2 gvL_guests_X3_guests rfl rfl rfl (by decide +kernel) ⟨Nat.le_of_ble_eq_true rfl, Nat.le_of_ble_eq_true rfl⟩) (og_rc hK (cPc hP)) hP hO hS rfl hl.1 rfl (lv_room (Nat.le_of_ble_eq_true rfl)) ⟨Nat.le_of_ble_eq_true rfl, Nat.le_of_ble_eq_true rfl⟩ dL_guests_5 (fun E ce q9 V9 pq9 sp9 cn9 e9' sz9 b9 L9 w9 nx9 H locs hp hP hO hS hq hcv hcl => ?_) (fun r ra V9 pq9 sp9 cn9 e9' sz9 b9 L9 w9 nx9 H locs hp hP hO hS => ?_)
  · skip
    obtain ⟨hk0, hE, hA⟩ := hp
    have hop : (cGuests (b, cn, List.map w L) f d).1 = 0 ∨ (cGuests (b, cn, List.map w L) f d).1 = 1 ∨ (cGuests (b, cn, List.map w L) f d).1 = 2 := by unfold cGuests; (repeat' split) <;> simp
    rcases hop with q | q | q
    · exact absurd q hk0
    · skip
      rw [q, eName_1] at hE
      subst hE
      refine vx_catch F.2.2.2.1 [] ⟨0, 10, 13, 13⟩ [⟨0, 10, 17, 39⟩] htab (fun z hz => nomatch hz) (by decide) (by decide) (F.2.2.2.2 (.classLink RL 13 "java/lang/IndexOutOfBoundsException") (by decide +kernel)) (va_Nw.use (xWd_on _ (by decide +kernel : Cond.castable "java/lang/IndexOutOfBoundsException" "java/lang/IndexOutOfBoundsException" ∈ xWd)) (hX.1 _ (by decide +kernel : Cond.castable "java/lang/IndexOutOfBoundsException" "java/lang/IndexOutOfBoundsException" ∈ xWd))) hq hcv hcl ?_
      refine lv_astore (lv' := [(4, .ref q9), (0, .ref (u 30)), (1, .int f), (2, .int d), (3, .ref oa)]) hx hb dL_guests_13 hl (by decide) rfl (fun ls hl => ?_)
      refine lv_iconst (v := 1) hx hb dL_guests_15 (by decide) ?_
      exact wz_ret F hr hlocks (by rw [q]; rfl) hA (fun z => absurd z hk0) hP hO hS (by exact Nat.le_of_ble_eq_true rfl) (by exact Nat.le_of_ble_eq_true rfl) dL_guests_16
    · skip
      rw [q, eName_2] at hE
      subst hE
      refine vx_catch F.2.2.2.1 [⟨0, 10, 13, 13⟩] ⟨0, 10, 17, 39⟩ [] htab (List.forall_mem_cons.mpr ⟨Or.inr ⟨by decide, "java/lang/IndexOutOfBoundsException", F.2.2.2.2 (.classLink RL 13 "java/lang/IndexOutOfBoundsException") (by decide +kernel), hNc.1⟩, (fun _ h => nomatch h)⟩) (by decide) (by decide) (F.2.2.2.2 (.classLink RL 39 "java/lang/IllegalArgumentException") (by decide +kernel)) (va_Nw.use (xWd_on _ (by decide +kernel : Cond.castable "java/lang/IllegalArgumentException" "java/lang/IllegalArgumentException" ∈ xWd)) (hX.1 _ (by decide +kernel : Cond.castable "java/lang/IllegalArgumentException" "java/lang/IllegalArgumentException" ∈ xWd))) hq hcv hcl ?_
      refine lv_astore (lv' := [(4, .ref q9), (0, .ref (u 30)), (1, .int f), (2, .int d), (3, .ref oa)]) hx hb dL_guests_17 hl (by decide) rfl (fun ls hl => ?_)
      refine lv_iconst (v := 2) hx hb dL_guests_19 (by decide) ?_
      exact wz_ret F hr hlocks (by rw [q]; rfl) hA (fun z => absurd z hk0) hP hO hS (by exact Nat.le_of_ble_eq_true rfl) (by exact Nat.le_of_ble_eq_true rfl) dL_guests_20
  · skip
    obtain ⟨hk0, hr0, hA⟩ := hp
    refine lv_i2l (v := Int32.toInt64 r) hx hb dL_guests_8 rfl ?_
    refine wz_put F hJ hO hP (wz_hoW hoA hoz hA) hS dL_guests_9 (fun H locs hP hO hS => ?_)
    refine lv_goto (tgt := 21) hx hb dL_guests_10 (by decide) ?_
    refine lv_iconst (v := 0) hx hb dL_guests_21 (by decide) ?_
    exact wz_ret F hr hlocks (by rw [hk0]; rfl) hA (fun _ => by rw [hr0]; rfl) hP hO hS (by exact Nat.le_of_ble_eq_true rfl) (by exact Nat.le_of_ble_eq_true rfl) dL_guests_22
set_option maxHeartbeats 4000000 in
set_option maxRecDepth 100000 in
theorem lwc_setNeed {l : Launch} (hfl : l.stackTraces = false) {D : va_G} {cI cII cJ : ClassId} {sa : Nat → Nat} {u : Nat → Nat} {V : Nat → Nat → Int32} {pq sp : Int32} {cn : Nat} {e : Option Nat} {sz : Nat} {b : Nat → Nat → Int32} {L : List Nat} {w : Nat → Nat → Int32} {nx : Nat → Option Nat} {z0 : Nat} {oa : Nat} (hN : (cAd u ++ L).Nodup) (r o x : Int32) (hch : chn nx L) (he : e = L.head?) (hsz : sz = L.length) (hok : ∀ x, x ∈ L → okW (w x)) (hcn : cn ≤ 20) (hrc : ∀ k, k < cn → ∃ r, r < 6 ∧ b 11 k = nI r) (hoA : ¬ (oa ∈ cAd u ∨ oa ∈ L)) (hoz : oa < z0) : wz_Met l yL_setNeed wvL_setNeed 8 3 18 136 D u cI cII cJ sa z0 L oa (cW u cI cII V pq sp cn e sz b L w nx) [.ref (u 30), .int r, .int o, .int x, .ref oa] [1, 2] (cSetNeed (b, cn, List.map w L) r o x) := by
  refine wz_start rfl (by decide +kernel) (Nat.le_of_ble_eq_true rfl) (fun p e9 s m below meth c F hr hlocks htab hK hJ hNc hz H locs g hP hO hS hz9 hX hH ls hl => ?_)
  have hl : lv_has ls 6 [(0, .ref (u 30)), (1, .int r), (2, .int o), (3, .int x), (4, .ref oa)] := hl
  have hx := F.1
  have hb := F.2.1
  refine lv_aload hx hb dL_setNeed_0 (lv_at hl 4 rfl) ?_
  refine lv_iconst (v := 0) hx hb dL_setNeed_2 (by decide) ?_
  refine lv_aload_n hx hb dL_setNeed_3 rfl (lv_at hl 0 rfl) ?_
  refine lv_iload_n hx hb dL_setNeed_4 rfl (lv_at hl 1 rfl) ?_
  refine lv_iload_n hx hb dL_setNeed_5 rfl (lv_at hl 2 rfl) ?_
  refine lv_iload_n hx hb dL_setNeed_6 rfl (lv_at hl 3 rfl) ?_
  refine wz_callV F hK hX hz hH hoA [.int r, .int o, .int x] (cc_X3_setNeed hfl hN r o x hch he hsz hok hcn hrc) (cwV 3 F.2.2.2.2 gvL_setNeed_X3_setNeed rfl rfl rfl (by decide +kernel) ⟨Nat.le_of_ble_eq_true rfl, Nat.le_of_ble_eq_true rfl⟩) (og_rc hK (cPc hP)) hP hO hS rfl hl.1 rfl (lv_room (Nat.le_of_ble_eq_true rfl)) ⟨Nat.le_of_ble_eq_true rfl, Nat.le_of_ble_eq_true rfl⟩ dL_setNeed_7 (fun E ce q9 V9 pq9 sp9 cn9 e9' sz9 b9 L9 w9 nx9 H locs hp hP hO hS hq hcv hcl => ?_) (fun r ra V9 pq9 sp9 cn9 e9' sz9 b9 L9 w9 nx9 H locs hp hP hO hS => ?_)
  · skip
    obtain ⟨hk0, hE, hA⟩ := hp
    have hop : (cSetNeed (b, cn, List.map w L) r o x).1 = 0 ∨ (cSetNeed (b, cn, List.map w L) r o x).1 = 1 ∨ (cSetNeed (b, cn, List.map w L) r o x).1 = 2 := by unfold cSetNeed; (repeat' split) <;> simp
    rcases hop with q | q | q
    · exact absurd q hk0
    · skip
      rw [q, eName_1] at hE
      subst hE
      refine vx_catch F.2.2.2.1 [] ⟨0, 12, 15, 13⟩ [⟨0, 12, 19, 39⟩] htab (fun z hz => nomatch hz) (by decide) (by decide) (F.2.2.2.2 (.classLink RL 13 "java/lang/IndexOutOfBoundsException") (by decide +kernel)) (va_Nw.use (xWd_on _ (by decide +kernel : Cond.castable "java/lang/IndexOutOfBoundsException" "java/lang/IndexOutOfBoundsException" ∈ xWd)) (hX.1 _ (by decide +kernel : Cond.castable "java/lang/IndexOutOfBoundsException" "java/lang/IndexOutOfBoundsException" ∈ xWd))) hq hcv hcl ?_
      refine lv_astore (lv' := [(5, .ref q9), (0, .ref (u 30)), (1, .int r), (2, .int o), (3, .int x), (4, .ref oa)]) hx hb dL_setNeed_15 hl (by decide) rfl (fun ls hl => ?_)
      refine lv_iconst (v := 1) hx hb dL_setNeed_17 (by decide) ?_
      exact wz_ret F hr hlocks (by rw [q]; rfl) hA (fun z => absurd z hk0) hP hO hS (by exact Nat.le_of_ble_eq_true rfl) (by exact Nat.le_of_ble_eq_true rfl) dL_setNeed_18
    · skip
      rw [q, eName_2] at hE
      subst hE
      refine vx_catch F.2.2.2.1 [⟨0, 12, 15, 13⟩] ⟨0, 12, 19, 39⟩ [] htab (List.forall_mem_cons.mpr ⟨Or.inr ⟨by decide, "java/lang/IndexOutOfBoundsException", F.2.2.2.2 (.classLink RL 13 "java/lang/IndexOutOfBoundsException") (by decide +kernel), hNc.1⟩, (fun _ h => nomatch h)⟩) (by decide) (by decide) (F.2.2.2.2 (.classLink RL 39 "java/lang/IllegalArgumentException") (by decide +kernel)) (va_Nw.use (xWd_on _ (by decide +kernel : Cond.castable "java/lang/IllegalArgumentException" "java/lang/IllegalArgumentException" ∈ xWd)) (hX.1 _ (by decide +kernel : Cond.castable "java/lang/IllegalArgumentException" "java/lang/IllegalArgumentException" ∈ xWd))) hq hcv hcl ?_
      refine lv_astore (lv' := [(5, .ref q9), (0, .ref (u 30)), (1, .int r), (2, .int o), (3, .int x), (4, .ref oa)]) hx hb dL_setNeed_19 hl (by decide) rfl (fun ls hl => ?_)
      refine lv_iconst (v := 2) hx hb dL_setNeed_21 (by decide) ?_
      exact wz_ret F hr hlocks (by rw [q]; rfl) hA (fun z => absurd z hk0) hP hO hS (by exact Nat.le_of_ble_eq_true rfl) (by exact Nat.le_of_ble_eq_true rfl) dL_setNeed_22
  · skip
    obtain ⟨hk0, hr0, hA⟩ := hp
    refine lv_i2l (v := Int32.toInt64 r) hx hb dL_setNeed_10 rfl ?_
    refine wz_put F hJ hO hP (wz_hoW hoA hoz hA) hS dL_setNeed_11 (fun H locs hP hO hS => ?_)
    refine lv_goto (tgt := 23) hx hb dL_setNeed_12 (by decide) ?_
    refine lv_iconst (v := 0) hx hb dL_setNeed_23 (by decide) ?_
    exact wz_ret F hr hlocks (by rw [hk0]; rfl) hA (fun _ => by rw [hr0]; rfl) hP hO hS (by exact Nat.le_of_ble_eq_true rfl) (by exact Nat.le_of_ble_eq_true rfl) dL_setNeed_24
set_option maxHeartbeats 4000000 in
set_option maxRecDepth 100000 in
theorem lwc_plan {l : Launch} (hfl : l.stackTraces = false) {D : va_G} {cI cII cJ : ClassId} {sa : Nat → Nat} {u : Nat → Nat} {V : Nat → Nat → Int32} {pq sp : Int32} {cn : Nat} {e : Option Nat} {sz : Nat} {b : Nat → Nat → Int32} {L : List Nat} {w : Nat → Nat → Int32} {nx : Nat → Option Nat} {z0 : Nat} {oa : Nat} (hN : (cAd u ++ L).Nodup) (f r d : Int32) (hch : chn nx L) (he : e = L.head?) (hsz : sz = L.length) (hok : ∀ x, x ∈ L → okW (w x)) (hcn : cn ≤ 20) (hrc : ∀ k, k < cn → ∃ r, r < 6 ∧ b 11 k = nI r) (hoA : ¬ (oa ∈ cAd u ∨ oa ∈ L)) (hoz : oa < z0) : wz_Met l yL_plan wvL_plan 8 5 34 164 D u cI cII cJ sa z0 L oa (cW u cI cII V pq sp cn e sz b L w nx) [.ref (u 30), .int f, .int r, .int d, .ref oa] [1, 2, 3] (cPlan (b, cn, List.map w L) f r d) := by
  refine wz_start rfl (by decide +kernel) (Nat.le_of_ble_eq_true rfl) (fun p e9 s m below meth c F hr hlocks htab hK hJ hNc hz H locs g hP hO hS hz9 hX hH ls hl => ?_)
  have hl : lv_has ls 6 [(0, .ref (u 30)), (1, .int f), (2, .int r), (3, .int d), (4, .ref oa)] := hl
  have hx := F.1
  have hb := F.2.1
  refine lv_aload hx hb dL_plan_0 (lv_at hl 4 rfl) ?_
  refine lv_iconst (v := 0) hx hb dL_plan_2 (by decide) ?_
  refine lv_aload_n hx hb dL_plan_3 rfl (lv_at hl 0 rfl) ?_
  refine lv_iload_n hx hb dL_plan_4 rfl (lv_at hl 1 rfl) ?_
  refine lv_iload_n hx hb dL_plan_5 rfl (lv_at hl 2 rfl) ?_
  refine lv_iload_n hx hb dL_plan_6 rfl (lv_at hl 3 rfl) ?_
  refine wz_callV F hK hX hz hH hoA [.int f, .int r, .int d] (cc_X3_plan hfl hN f r d hch he hsz hok hcn hrc) (cwV 3 F.2.2.2.2 gvL_plan_X3_plan rfl rfl rfl (by decide +kernel) ⟨Nat.le_of_ble_eq_true rfl, Nat.le_of_ble_eq_true rfl⟩) (og_rc hK (cPc hP)) hP hO hS rfl hl.1 rfl (lv_room (Nat.le_of_ble_eq_true rfl)) ⟨Nat.le_of_ble_eq_true rfl, Nat.le_of_ble_eq_true rfl⟩ dL_plan_7 (fun E ce q9 V9 pq9 sp9 cn9 e9' sz9 b9 L9 w9 nx9 H locs hp hP hO hS hq hcv hcl => ?_) (fun r ra V9 pq9 sp9 cn9 e9' sz9 b9 L9 w9 nx9 H locs hp hP hO hS => ?_)
  · skip
    obtain ⟨hk0, hE, hA⟩ := hp
    have hop : (cPlan (b, cn, List.map w L) f r d).1 = 0 ∨ (cPlan (b, cn, List.map w L) f r d).1 = 1 ∨ (cPlan (b, cn, List.map w L) f r d).1 = 2 ∨ (cPlan (b, cn, List.map w L) f r d).1 = 3 := by unfold cPlan; (repeat' split) <;> simp
    rcases hop with q | q | q | q
    · exact absurd q hk0
    · skip
      rw [q, eName_1] at hE
      subst hE
      refine vx_catch F.2.2.2.1 [] ⟨0, 12, 15, 13⟩ [⟨0, 12, 19, 39⟩, ⟨0, 12, 23, 15⟩] htab (fun z hz => nomatch hz) (by decide) (by decide) (F.2.2.2.2 (.classLink RL 13 "java/lang/IndexOutOfBoundsException") (by decide +kernel)) (va_Nw.use (xWd_on _ (by decide +kernel : Cond.castable "java/lang/IndexOutOfBoundsException" "java/lang/IndexOutOfBoundsException" ∈ xWd)) (hX.1 _ (by decide +kernel : Cond.castable "java/lang/IndexOutOfBoundsException" "java/lang/IndexOutOfBoundsException" ∈ xWd))) hq hcv hcl ?_
      refine lv_astore (lv' := [(5, .ref q9), (0, .ref (u 30)), (1, .int f), (2, .int r), (3, .int d), (4, .ref oa)]) hx hb dL_plan_15 hl (by decide) rfl (fun ls hl => ?_)
      refine lv_iconst (v := 1) hx hb dL_plan_17 (by decide) ?_
      exact wz_ret F hr hlocks (by rw [q]; rfl) hA (fun z => absurd z hk0) hP hO hS (by exact Nat.le_of_ble_eq_true rfl) (by exact Nat.le_of_ble_eq_true rfl) dL_plan_18
    · skip
      rw [q, eName_2] at hE
      subst hE
      refine vx_catch F.2.2.2.1 [⟨0, 12, 15, 13⟩] ⟨0, 12, 19, 39⟩ [⟨0, 12, 23, 15⟩] htab (List.forall_mem_cons.mpr ⟨Or.inr ⟨by decide, "java/lang/IndexOutOfBoundsException", F.2.2.2.2 (.classLink RL 13 "java/lang/IndexOutOfBoundsException") (by decide +kernel), hNc.1⟩, (fun _ h => nomatch h)⟩) (by decide) (by decide) (F.2.2.2.2 (.classLink RL 39 "java/lang/IllegalArgumentException") (by decide +kernel)) (va_Nw.use (xWd_on _ (by decide +kernel : Cond.castable "java/lang/IllegalArgumentException" "java/lang/IllegalArgumentException" ∈ xWd)) (hX.1 _ (by decide +kernel : Cond.castable "java/lang/IllegalArgumentException" "java/lang/IllegalArgumentException" ∈ xWd))) hq hcv hcl ?_
      refine lv_astore (lv' := [(5, .ref q9), (0, .ref (u 30)), (1, .int f), (2, .int r), (3, .int d), (4, .ref oa)]) hx hb dL_plan_19 hl (by decide) rfl (fun ls hl => ?_)
      refine lv_iconst (v := 2) hx hb dL_plan_21 (by decide) ?_
      exact wz_ret F hr hlocks (by rw [q]; rfl) hA (fun z => absurd z hk0) hP hO hS (by exact Nat.le_of_ble_eq_true rfl) (by exact Nat.le_of_ble_eq_true rfl) dL_plan_22
    · skip
      rw [q, eName_3] at hE
      subst hE
      refine vx_catch F.2.2.2.1 [⟨0, 12, 15, 13⟩, ⟨0, 12, 19, 39⟩] ⟨0, 12, 23, 15⟩ [] htab (List.forall_mem_cons.mpr ⟨Or.inr ⟨by decide, "java/lang/IndexOutOfBoundsException", F.2.2.2.2 (.classLink RL 13 "java/lang/IndexOutOfBoundsException") (by decide +kernel), hNc.2.1⟩, (List.forall_mem_cons.mpr ⟨Or.inr ⟨by decide, "java/lang/IllegalArgumentException", F.2.2.2.2 (.classLink RL 39 "java/lang/IllegalArgumentException") (by decide +kernel), hNc.2.2⟩, (fun _ h => nomatch h)⟩)⟩) (by decide) (by decide) (F.2.2.2.2 (.classLink RL 15 "java/lang/IllegalStateException") (by decide +kernel)) (va_Nw.use (xWd_on _ (by decide +kernel : Cond.castable "java/lang/IllegalStateException" "java/lang/IllegalStateException" ∈ xWd)) (hX.1 _ (by decide +kernel : Cond.castable "java/lang/IllegalStateException" "java/lang/IllegalStateException" ∈ xWd))) hq hcv hcl ?_
      refine lv_astore (lv' := [(5, .ref q9), (0, .ref (u 30)), (1, .int f), (2, .int r), (3, .int d), (4, .ref oa)]) hx hb dL_plan_23 hl (by decide) rfl (fun ls hl => ?_)
      refine lv_iconst (v := 3) hx hb dL_plan_25 (by decide) ?_
      exact wz_ret F hr hlocks (by rw [q]; rfl) hA (fun z => absurd z hk0) hP hO hS (by exact Nat.le_of_ble_eq_true rfl) (by exact Nat.le_of_ble_eq_true rfl) dL_plan_26
  · skip
    obtain ⟨hk0, hr0, hA⟩ := hp
    refine lv_i2l (v := Int32.toInt64 r) hx hb dL_plan_10 rfl ?_
    refine wz_put F hJ hO hP (wz_hoW hoA hoz hA) hS dL_plan_11 (fun H locs hP hO hS => ?_)
    refine lv_goto (tgt := 27) hx hb dL_plan_12 (by decide) ?_
    refine lv_iconst (v := 0) hx hb dL_plan_27 (by decide) ?_
    exact wz_ret F hr hlocks (by rw [hk0]; rfl) hA (fun _ => by rw [hr0]; rfl) hP hO hS (by exact Nat.le_of_ble_eq_true rfl) (by exact Nat.le_of_ble_eq_true rfl) dL_plan_28
set_option maxHeartbeats 4000000 in
set_option maxRecDepth 100000 in
theorem lwc_keep {l : Launch} (hfl : l.stackTraces = false) {D : va_G} {cI cII cJ : ClassId} {sa : Nat → Nat} {u : Nat → Nat} {V : Nat → Nat → Int32} {pq sp : Int32} {cn : Nat} {e : Option Nat} {sz : Nat} {b : Nat → Nat → Int32} {L : List Nat} {w : Nat → Nat → Int32} {nx : Nat → Option Nat} {z0 : Nat} {oa : Nat} (hN : (cAd u ++ L).Nodup) (f k : Int32) (hch : chn nx L) (he : e = L.head?) (hsz : sz = L.length) (hok : ∀ x, x ∈ L → okW (w x)) (hcn : cn ≤ 20) (hrc : ∀ k, k < cn → ∃ r, r < 6 ∧ b 11 k = nI r) (hoA : ¬ (oa ∈ cAd u ∨ oa ∈ L)) (hoz : oa < z0) : wz_Met l yL_keep wvL_keep 8 44 424 164 D u cI cII cJ sa z0 L oa (cW u cI cII V pq sp cn e sz b L w nx) [.ref (u 30), .int f, .int k, .ref oa] [1, 3] (cKeep (b, cn, List.map w L) f k) := by
  refine wz_start rfl (by decide +kernel) (Nat.le_of_ble_eq_true rfl) (fun p e9 s m below meth c F hr hlocks htab hK hJ hNc hz H locs g hP hO hS hz9 hX hH ls hl => ?_)
  have hl : lv_has ls 5 [(0, .ref (u 30)), (1, .int f), (2, .int k), (3, .ref oa)] := hl
  have hx := F.1
  have hb := F.2.1
  refine lv_aload_n hx hb dL_keep_0 rfl (lv_at hl 3 rfl) ?_
  refine lv_iconst (v := 0) hx hb dL_keep_1 (by decide) ?_
  refine lv_aload_n hx hb dL_keep_2 rfl (lv_at hl 0 rfl) ?_
  refine lv_iload_n hx hb dL_keep_3 rfl (lv_at hl 1 rfl) ?_
  refine lv_iload_n hx hb dL_keep_4 rfl (lv_at hl 2 rfl) ?_
  refine wz_callV F hK hX hz hH hoA [.int f, .int k] (cc_X3_keep hfl hN f k hch he hsz hok hcn hrc) (cwV 2 F.2.2.2.2 gvL_keep_X3_keep rfl rfl rfl (by decide +kernel) ⟨Nat.le_of_ble_eq_true rfl, Nat.le_of_ble_eq_true rfl⟩) (og_rc hK (cPc hP)) hP hO hS rfl hl.1 rfl (lv_room (Nat.le_of_ble_eq_true rfl)) ⟨Nat.le_of_ble_eq_true rfl, Nat.le_of_ble_eq_true rfl⟩ dL_keep_5 (fun E ce q9 V9 pq9 sp9 cn9 e9' sz9 b9 L9 w9 nx9 H locs hp hP hO hS hq hcv hcl => ?_) (fun r ra V9 pq9 sp9 cn9 e9' sz9 b9 L9 w9 nx9 H locs hp hP hO hS => ?_)
  · skip
    obtain ⟨hk0, hE, hA⟩ := hp
    have hop : (cKeep (b, cn, List.map w L) f k).1 = 0 ∨ (cKeep (b, cn, List.map w L) f k).1 = 1 ∨ (cKeep (b, cn, List.map w L) f k).1 = 3 := by unfold cKeep; (repeat' split) <;> simp
    rcases hop with q | q | q
    · exact absurd q hk0
    · skip
      rw [q, eName_1] at hE
      subst hE
      refine vx_catch F.2.2.2.1 [] ⟨0, 10, 13, 13⟩ [⟨0, 10, 17, 15⟩] htab (fun z hz => nomatch hz) (by decide) (by decide) (F.2.2.2.2 (.classLink RL 13 "java/lang/IndexOutOfBoundsException") (by decide +kernel)) (va_Nw.use (xWd_on _ (by decide +kernel : Cond.castable "java/lang/IndexOutOfBoundsException" "java/lang/IndexOutOfBoundsException" ∈ xWd)) (hX.1 _ (by decide +kernel : Cond.castable "java/lang/IndexOutOfBoundsException" "java/lang/IndexOutOfBoundsException" ∈ xWd))) hq hcv hcl ?_
      refine lv_astore (lv' := [(4, .ref q9), (0, .ref (u 30)), (1, .int f), (2, .int k), (3, .ref oa)]) hx hb dL_keep_13 hl (by decide) rfl (fun ls hl => ?_)
      refine lv_iconst (v := 1) hx hb dL_keep_15 (by decide) ?_
      exact wz_ret F hr hlocks (by rw [q]; rfl) hA (fun z => absurd z hk0) hP hO hS (by exact Nat.le_of_ble_eq_true rfl) (by exact Nat.le_of_ble_eq_true rfl) dL_keep_16
    · skip
      rw [q, eName_3] at hE
      subst hE
      refine vx_catch F.2.2.2.1 [⟨0, 10, 13, 13⟩] ⟨0, 10, 17, 15⟩ [] htab (List.forall_mem_cons.mpr ⟨Or.inr ⟨by decide, "java/lang/IndexOutOfBoundsException", F.2.2.2.2 (.classLink RL 13 "java/lang/IndexOutOfBoundsException") (by decide +kernel), hNc.2.1⟩, (fun _ h => nomatch h)⟩) (by decide) (by decide) (F.2.2.2.2 (.classLink RL 15 "java/lang/IllegalStateException") (by decide +kernel)) (va_Nw.use (xWd_on _ (by decide +kernel : Cond.castable "java/lang/IllegalStateException" "java/lang/IllegalStateException" ∈ xWd)) (hX.1 _ (by decide +kernel : Cond.castable "java/lang/IllegalStateException" "java/lang/IllegalStateException" ∈ xWd))) hq hcv hcl ?_
      refine lv_astore (lv' := [(4, .ref q9), (0, .ref (u 30)), (1, .int f), (2, .int k), (3, .ref oa)]) hx hb dL_keep_17 hl (by decide) rfl (fun ls hl => ?_)
      refine lv_iconst (v := 2) hx hb dL_keep_19 (by decide) ?_
      exact wz_ret F hr hlocks (by rw [q]; rfl) hA (fun z => absurd z hk0) hP hO hS (by exact Nat.le_of_ble_eq_true rfl) (by exact Nat.le_of_ble_eq_true rfl) dL_keep_20
  · skip
    obtain ⟨hk0, hr0, hA⟩ := hp
    refine lv_i2l (v := Int32.toInt64 r) hx hb dL_keep_8 rfl ?_
    refine wz_put F hJ hO hP (wz_hoW hoA hoz hA) hS dL_keep_9 (fun H locs hP hO hS => ?_)
    refine lv_goto (tgt := 21) hx hb dL_keep_10 (by decide) ?_
    refine lv_iconst (v := 0) hx hb dL_keep_21 (by decide) ?_
    exact wz_ret F hr hlocks (by rw [hk0]; rfl) hA (fun _ => by rw [hr0]; rfl) hP hO hS (by exact Nat.le_of_ble_eq_true rfl) (by exact Nat.le_of_ble_eq_true rfl) dL_keep_22
set_option maxHeartbeats 4000000 in
set_option maxRecDepth 100000 in
theorem lwc_drop {l : Launch} (hfl : l.stackTraces = false) {D : va_G} {cI cII cJ : ClassId} {sa : Nat → Nat} {u : Nat → Nat} {V : Nat → Nat → Int32} {pq sp : Int32} {cn : Nat} {e : Option Nat} {sz : Nat} {b : Nat → Nat → Int32} {L : List Nat} {w : Nat → Nat → Int32} {nx : Nat → Option Nat} {z0 : Nat} {oa : Nat} (hN : (cAd u ++ L).Nodup) (f k : Int32) (hch : chn nx L) (he : e = L.head?) (hsz : sz = L.length) (hok : ∀ x, x ∈ L → okW (w x)) (hcn : cn ≤ 20) (hrc : ∀ k, k < cn → ∃ r, r < 6 ∧ b 11 k = nI r) (hoA : ¬ (oa ∈ cAd u ∨ oa ∈ L)) (hoz : oa < z0) : wz_Met l yL_drop wvL_drop 8 5 34 162 D u cI cII cJ sa z0 L oa (cW u cI cII V pq sp cn e sz b L w nx) [.ref (u 30), .int f, .int k, .ref oa] [1, 3] (cDrop (b, cn, List.map w L) f k) := by
  refine wz_start rfl (by decide +kernel) (Nat.le_of_ble_eq_true rfl) (fun p e9 s m below meth c F hr hlocks htab hK hJ hNc hz H locs g hP hO hS hz9 hX hH ls hl => ?_)
  have hl : lv_has ls 5 [(0, .ref (u 30)), (1, .int f), (2, .int k), (3, .ref oa)] := hl
  have hx := F.1
  have hb := F.2.1
  refine lv_aload_n hx hb dL_drop_0 rfl (lv_at hl 3 rfl) ?_
  refine lv_iconst (v := 0) hx hb dL_drop_1 (by decide) ?_
  refine lv_aload_n hx hb dL_drop_2 rfl (lv_at hl 0 rfl) ?_
  refine lv_iload_n hx hb dL_drop_3 rfl (lv_at hl 1 rfl) ?_
  refine lv_iload_n hx hb dL_drop_4 rfl (lv_at hl 2 rfl) ?_
  refine wz_callV F hK hX hz hH hoA [.int f, .int k] (cc_X3_drop hfl hN f k hch he hsz hok hcn hrc) (cwV 2 F.2.2.2.2 gvL_drop_X3_drop rfl rfl rfl (by decide +kernel) ⟨Nat.le_of_ble_eq_true rfl, Nat.le_of_ble_eq_true rfl⟩) (og_rc hK (cPc hP)) hP hO hS rfl hl.1 rfl (lv_room (Nat.le_of_ble_eq_true rfl)) ⟨Nat.le_of_ble_eq_true rfl, Nat.le_of_ble_eq_true rfl⟩ dL_drop_5 (fun E ce q9 V9 pq9 sp9 cn9 e9' sz9 b9 L9 w9 nx9 H locs hp hP hO hS hq hcv hcl => ?_) (fun r ra V9 pq9 sp9 cn9 e9' sz9 b9 L9 w9 nx9 H locs hp hP hO hS => ?_)
  · skip
    obtain ⟨hk0, hE, hA⟩ := hp
    have hop : (cDrop (b, cn, List.map w L) f k).1 = 0 ∨ (cDrop (b, cn, List.map w L) f k).1 = 1 ∨ (cDrop (b, cn, List.map w L) f k).1 = 3 := by unfold cDrop; (repeat' split) <;> simp
    rcases hop with q | q | q
    · exact absurd q hk0
    · skip
      rw [q, eName_1] at hE
      subst hE
      refine vx_catch F.2.2.2.1 [] ⟨0, 10, 13, 13⟩ [⟨0, 10, 17, 15⟩] htab (fun z hz => nomatch hz) (by decide) (by decide) (F.2.2.2.2 (.classLink RL 13 "java/lang/IndexOutOfBoundsException") (by decide +kernel)) (va_Nw.use (xWd_on _ (by decide +kernel : Cond.castable "java/lang/IndexOutOfBoundsException" "java/lang/IndexOutOfBoundsException" ∈ xWd)) (hX.1 _ (by decide +kernel : Cond.castable "java/lang/IndexOutOfBoundsException" "java/lang/IndexOutOfBoundsException" ∈ xWd))) hq hcv hcl ?_
      refine lv_astore (lv' := [(4, .ref q9), (0, .ref (u 30)), (1, .int f), (2, .int k), (3, .ref oa)]) hx hb dL_drop_13 hl (by decide) rfl (fun ls hl => ?_)
      refine lv_iconst (v := 1) hx hb dL_drop_15 (by decide) ?_
      exact wz_ret F hr hlocks (by rw [q]; rfl) hA (fun z => absurd z hk0) hP hO hS (by exact Nat.le_of_ble_eq_true rfl) (by exact Nat.le_of_ble_eq_true rfl) dL_drop_16
    · skip
      rw [q, eName_3] at hE
      subst hE
      refine vx_catch F.2.2.2.1 [⟨0, 10, 13, 13⟩] ⟨0, 10, 17, 15⟩ [] htab (List.forall_mem_cons.mpr ⟨Or.inr ⟨by decide, "java/lang/IndexOutOfBoundsException", F.2.2.2.2 (.classLink RL 13 "java/lang/IndexOutOfBoundsException") (by decide +kernel), hNc.2.1⟩, (fun _ h => nomatch h)⟩) (by decide) (by decide) (F.2.2.2.2 (.classLink RL 15 "java/lang/IllegalStateException") (by decide +kernel)) (va_Nw.use (xWd_on _ (by decide +kernel : Cond.castable "java/lang/IllegalStateException" "java/lang/IllegalStateException" ∈ xWd)) (hX.1 _ (by decide +kernel : Cond.castable "java/lang/IllegalStateException" "java/lang/IllegalStateException" ∈ xWd))) hq hcv hcl ?_
      refine lv_astore (lv' := [(4, .ref q9), (0, .ref (u 30)), (1, .int f), (2, .int k), (3, .ref oa)]) hx hb dL_drop_17 hl (by decide) rfl (fun ls hl => ?_)
      refine lv_iconst (v := 2) hx hb dL_drop_19 (by decide) ?_
      exact wz_ret F hr hlocks (by rw [q]; rfl) hA (fun z => absurd z hk0) hP hO hS (by exact Nat.le_of_ble_eq_true rfl) (by exact Nat.le_of_ble_eq_true rfl) dL_drop_20
  · skip
    obtain ⟨hk0, hr0, hA⟩ := hp
    refine lv_i2l (v := Int32.toInt64 r) hx hb dL_drop_8 rfl ?_
    refine wz_put F hJ hO hP (wz_hoW hoA hoz hA) hS dL_drop_9 (fun H locs hP hO hS => ?_)
    refine lv_goto (tgt := 21) hx hb dL_drop_10 (by decide) ?_
    refine lv_iconst (v := 0) hx hb dL_drop_21 (by decide) ?_
    exact wz_ret F hr hlocks (by rw [hk0]; rfl) hA (fun _ => by rw [hr0]; rfl) hP hO hS (by exact Nat.le_of_ble_eq_true rfl) (by exact Nat.le_of_ble_eq_true rfl) dL_drop_22
set_option maxHeartbeats 4000000 in
set_option maxRecDepth 100000 in
theorem lwc_bake {l : Launch} (hfl : l.stackTraces = false) {D : va_G} {cI cII cJ : ClassId} {sa : Nat → Nat} {u : Nat → Nat} {V : Nat → Nat → Int32} {pq sp : Int32} {cn : Nat} {e : Option Nat} {sz : Nat} {b : Nat → Nat → Int32} {L : List Nat} {w : Nat → Nat → Int32} {nx : Nat → Option Nat} {z0 : Nat} {oa : Nat} (hN : (cAd u ++ L).Nodup) (f k : Int32) (hch : chn nx L) (he : e = L.head?) (hsz : sz = L.length) (hok : ∀ x, x ∈ L → okW (w x)) (hcn : cn ≤ 20) (hrc : ∀ k, k < cn → ∃ r, r < 6 ∧ b 11 k = nI r) (hoA : ¬ (oa ∈ cAd u ∨ oa ∈ L)) (hoz : oa < z0) : wz_Met l yL_bake wvL_bake 8 46 440 164 D u cI cII cJ sa z0 L oa (cW u cI cII V pq sp cn e sz b L w nx) [.ref (u 30), .int f, .int k, .ref oa] [1, 3] (cBake (b, cn, List.map w L) f k) := by
  refine wz_start rfl (by decide +kernel) (Nat.le_of_ble_eq_true rfl) (fun p e9 s m below meth c F hr hlocks htab hK hJ hNc hz H locs g hP hO hS hz9 hX hH ls hl => ?_)
  have hl : lv_has ls 5 [(0, .ref (u 30)), (1, .int f), (2, .int k), (3, .ref oa)] := hl
  have hx := F.1
  have hb := F.2.1
  refine lv_aload_n hx hb dL_bake_0 rfl (lv_at hl 3 rfl) ?_
  refine lv_iconst (v := 0) hx hb dL_bake_1 (by decide) ?_
  refine lv_aload_n hx hb dL_bake_2 rfl (lv_at hl 0 rfl) ?_
  refine lv_iload_n hx hb dL_bake_3 rfl (lv_at hl 1 rfl) ?_
  refine lv_iload_n hx hb dL_bake_4 rfl (lv_at hl 2 rfl) ?_
  refine wz_callV F hK hX hz hH hoA [.int f, .int k] (cc_X3_bake hfl hN f k hch he hsz hok hcn hrc) (cwV 2 F.2.2.2.2 gvL_bake_X3_bake rfl rfl rfl (by decide +kernel) ⟨Nat.le_of_ble_eq_true rfl, Nat.le_of_ble_eq_true rfl⟩) (og_rc hK (cPc hP)) hP hO hS rfl hl.1 rfl (lv_room (Nat.le_of_ble_eq_true rfl)) ⟨Nat.le_of_ble_eq_true rfl, Nat.le_of_ble_eq_true rfl⟩ dL_bake_5 (fun E ce q9 V9 pq9 sp9 cn9 e9' sz9 b9 L9 w9 nx9 H locs hp hP hO hS hq hcv hcl => ?_) (fun r ra V9 pq9 sp9 cn9 e9' sz9 b9 L9 w9 nx9 H locs hp hP hO hS => ?_)
  · skip
    obtain ⟨hk0, hE, hA⟩ := hp
    have hop : (cBake (b, cn, List.map w L) f k).1 = 0 ∨ (cBake (b, cn, List.map w L) f k).1 = 1 ∨ (cBake (b, cn, List.map w L) f k).1 = 3 := by unfold cBake; (repeat' split) <;> simp
    rcases hop with q | q | q
    · exact absurd q hk0
    · skip
      rw [q, eName_1] at hE
      subst hE
      refine vx_catch F.2.2.2.1 [] ⟨0, 10, 13, 13⟩ [⟨0, 10, 17, 15⟩] htab (fun z hz => nomatch hz) (by decide) (by decide) (F.2.2.2.2 (.classLink RL 13 "java/lang/IndexOutOfBoundsException") (by decide +kernel)) (va_Nw.use (xWd_on _ (by decide +kernel : Cond.castable "java/lang/IndexOutOfBoundsException" "java/lang/IndexOutOfBoundsException" ∈ xWd)) (hX.1 _ (by decide +kernel : Cond.castable "java/lang/IndexOutOfBoundsException" "java/lang/IndexOutOfBoundsException" ∈ xWd))) hq hcv hcl ?_
      refine lv_astore (lv' := [(4, .ref q9), (0, .ref (u 30)), (1, .int f), (2, .int k), (3, .ref oa)]) hx hb dL_bake_13 hl (by decide) rfl (fun ls hl => ?_)
      refine lv_iconst (v := 1) hx hb dL_bake_15 (by decide) ?_
      exact wz_ret F hr hlocks (by rw [q]; rfl) hA (fun z => absurd z hk0) hP hO hS (by exact Nat.le_of_ble_eq_true rfl) (by exact Nat.le_of_ble_eq_true rfl) dL_bake_16
    · skip
      rw [q, eName_3] at hE
      subst hE
      refine vx_catch F.2.2.2.1 [⟨0, 10, 13, 13⟩] ⟨0, 10, 17, 15⟩ [] htab (List.forall_mem_cons.mpr ⟨Or.inr ⟨by decide, "java/lang/IndexOutOfBoundsException", F.2.2.2.2 (.classLink RL 13 "java/lang/IndexOutOfBoundsException") (by decide +kernel), hNc.2.1⟩, (fun _ h => nomatch h)⟩) (by decide) (by decide) (F.2.2.2.2 (.classLink RL 15 "java/lang/IllegalStateException") (by decide +kernel)) (va_Nw.use (xWd_on _ (by decide +kernel : Cond.castable "java/lang/IllegalStateException" "java/lang/IllegalStateException" ∈ xWd)) (hX.1 _ (by decide +kernel : Cond.castable "java/lang/IllegalStateException" "java/lang/IllegalStateException" ∈ xWd))) hq hcv hcl ?_
      refine lv_astore (lv' := [(4, .ref q9), (0, .ref (u 30)), (1, .int f), (2, .int k), (3, .ref oa)]) hx hb dL_bake_17 hl (by decide) rfl (fun ls hl => ?_)
      refine lv_iconst (v := 2) hx hb dL_bake_19 (by decide) ?_
      exact wz_ret F hr hlocks (by rw [q]; rfl) hA (fun z => absurd z hk0) hP hO hS (by exact Nat.le_of_ble_eq_true rfl) (by exact Nat.le_of_ble_eq_true rfl) dL_bake_20
  · skip
    obtain ⟨hk0, hr0, hA⟩ := hp
    refine lv_i2l (v := Int32.toInt64 r) hx hb dL_bake_8 rfl ?_
    refine wz_put F hJ hO hP (wz_hoW hoA hoz hA) hS dL_bake_9 (fun H locs hP hO hS => ?_)
    refine lv_goto (tgt := 21) hx hb dL_bake_10 (by decide) ?_
    refine lv_iconst (v := 0) hx hb dL_bake_21 (by decide) ?_
    exact wz_ret F hr hlocks (by rw [hk0]; rfl) hA (fun _ => by rw [hr0]; rfl) hP hO hS (by exact Nat.le_of_ble_eq_true rfl) (by exact Nat.le_of_ble_eq_true rfl) dL_bake_22
set_option maxHeartbeats 4000000 in
set_option maxRecDepth 100000 in
theorem lwc_cake {l : Launch} (hfl : l.stackTraces = false) {D : va_G} {cI cII cJ : ClassId} {sa : Nat → Nat} {u : Nat → Nat} {V : Nat → Nat → Int32} {pq sp : Int32} {cn : Nat} {e : Option Nat} {sz : Nat} {b : Nat → Nat → Int32} {L : List Nat} {w : Nat → Nat → Int32} {nx : Nat → Option Nat} {z0 : Nat} {oa : Nat} (hN : (cAd u ++ L).Nodup) (f k : Int32) (hch : chn nx L) (he : e = L.head?) (hsz : sz = L.length) (hok : ∀ x, x ∈ L → okW (w x)) (hcn : cn ≤ 20) (hrc : ∀ k, k < cn → ∃ r, r < 6 ∧ b 11 k = nI r) (hoA : ¬ (oa ∈ cAd u ∨ oa ∈ L)) (hoz : oa < z0) : wz_Met l yL_cake wvL_cake 8 2 12 162 D u cI cII cJ sa z0 L oa (cW u cI cII V pq sp cn e sz b L w nx) [.ref (u 30), .int f, .int k, .ref oa] [1] (cCake (b, cn, List.map w L) f k) := by
  refine wz_start rfl (by decide +kernel) (Nat.le_of_ble_eq_true rfl) (fun p e9 s m below meth c F hr hlocks htab hK hJ hNc hz H locs g hP hO hS hz9 hX hH ls hl => ?_)
  have hl : lv_has ls 5 [(0, .ref (u 30)), (1, .int f), (2, .int k), (3, .ref oa)] := hl
  have hx := F.1
  have hb := F.2.1
  refine lv_aload_n hx hb dL_cake_0 rfl (lv_at hl 3 rfl) ?_
  refine lv_iconst (v := 0) hx hb dL_cake_1 (by decide) ?_
  refine lv_aload_n hx hb dL_cake_2 rfl (lv_at hl 0 rfl) ?_
  refine lv_iload_n hx hb dL_cake_3 rfl (lv_at hl 1 rfl) ?_
  refine lv_iload_n hx hb dL_cake_4 rfl (lv_at hl 2 rfl) ?_
  refine wz_callV F hK hX hz hH hoA [.int f, .int k] (cc_X3_cake hfl hN f k hch he hsz hok hcn hrc) (cwV 2 F.2.2.2.2 gvL_cake_X3_cake rfl rfl rfl (by decide +kernel) ⟨Nat.le_of_ble_eq_true rfl, Nat.le_of_ble_eq_true rfl⟩) (og_rc hK (cPc hP)) hP hO hS rfl hl.1 rfl (lv_room (Nat.le_of_ble_eq_true rfl)) ⟨Nat.le_of_ble_eq_true rfl, Nat.le_of_ble_eq_true rfl⟩ dL_cake_5 (fun E ce q9 V9 pq9 sp9 cn9 e9' sz9 b9 L9 w9 nx9 H locs hp hP hO hS hq hcv hcl => ?_) (fun r ra V9 pq9 sp9 cn9 e9' sz9 b9 L9 w9 nx9 H locs hp hP hO hS => ?_)
  · skip
    obtain ⟨hk0, hE, hA⟩ := hp
    have hop : (cCake (b, cn, List.map w L) f k).1 = 0 ∨ (cCake (b, cn, List.map w L) f k).1 = 1 := by unfold cCake; (repeat' split) <;> simp
    rcases hop with q | q
    · exact absurd q hk0
    · skip
      rw [q, eName_1] at hE
      subst hE
      refine vx_catch F.2.2.2.1 [] ⟨0, 10, 13, 13⟩ [] htab (fun z hz => nomatch hz) (by decide) (by decide) (F.2.2.2.2 (.classLink RL 13 "java/lang/IndexOutOfBoundsException") (by decide +kernel)) (va_Nw.use (xWd_on _ (by decide +kernel : Cond.castable "java/lang/IndexOutOfBoundsException" "java/lang/IndexOutOfBoundsException" ∈ xWd)) (hX.1 _ (by decide +kernel : Cond.castable "java/lang/IndexOutOfBoundsException" "java/lang/IndexOutOfBoundsException" ∈ xWd))) hq hcv hcl ?_
      refine lv_astore (lv' := [(4, .ref q9), (0, .ref (u 30)), (1, .int f), (2, .int k), (3, .ref oa)]) hx hb dL_cake_13 hl (by decide) rfl (fun ls hl => ?_)
      refine lv_iconst (v := 1) hx hb dL_cake_15 (by decide) ?_
      exact wz_ret F hr hlocks (by rw [q]; rfl) hA (fun z => absurd z hk0) hP hO hS (by exact Nat.le_of_ble_eq_true rfl) (by exact Nat.le_of_ble_eq_true rfl) dL_cake_16
  · skip
    obtain ⟨hk0, hr0, hA⟩ := hp
    refine lv_i2l (v := Int32.toInt64 r) hx hb dL_cake_8 rfl ?_
    refine wz_put F hJ hO hP (wz_hoW hoA hoz hA) hS dL_cake_9 (fun H locs hP hO hS => ?_)
    refine lv_goto (tgt := 17) hx hb dL_cake_10 (by decide) ?_
    refine lv_iconst (v := 0) hx hb dL_cake_17 (by decide) ?_
    exact wz_ret F hr hlocks (by rw [hk0]; rfl) hA (fun _ => by rw [hr0]; rfl) hP hO hS (by exact Nat.le_of_ble_eq_true rfl) (by exact Nat.le_of_ble_eq_true rfl) dL_cake_18
set_option maxHeartbeats 4000000 in
set_option maxRecDepth 100000 in
theorem lwc_keptFor {l : Launch} (hfl : l.stackTraces = false) {D : va_G} {cI cII cJ : ClassId} {sa : Nat → Nat} {u : Nat → Nat} {V : Nat → Nat → Int32} {pq sp : Int32} {cn : Nat} {e : Option Nat} {sz : Nat} {b : Nat → Nat → Int32} {L : List Nat} {w : Nat → Nat → Int32} {nx : Nat → Option Nat} {z0 : Nat} {oa : Nat} (hN : (cAd u ++ L).Nodup) (f t : Int32) (hch : chn nx L) (he : e = L.head?) (hsz : sz = L.length) (hok : ∀ x, x ∈ L → okW (w x)) (hcn : cn ≤ 20) (hrc : ∀ k, k < cn → ∃ r, r < 6 ∧ b 11 k = nI r) (hoA : ¬ (oa ∈ cAd u ∨ oa ∈ L)) (hoz : oa < z0) : wz_Met l yL_keptFor wvL_keptFor 8 2 12 162 D u cI cII cJ sa z0 L oa (cW u cI cII V pq sp cn e sz b L w nx) [.ref (u 30), .int f, .int t, .ref oa] [1] (cKeptFor (b, cn, List.map w L) f t) := by
  refine wz_start rfl (by decide +kernel) (Nat.le_of_ble_eq_true rfl) (fun p e9 s m below meth c F hr hlocks htab hK hJ hNc hz H locs g hP hO hS hz9 hX hH ls hl => ?_)
  have hl : lv_has ls 5 [(0, .ref (u 30)), (1, .int f), (2, .int t), (3, .ref oa)] := hl
  have hx := F.1
  have hb := F.2.1
  refine lv_aload_n hx hb dL_keptFor_0 rfl (lv_at hl 3 rfl) ?_
  refine lv_iconst (v := 0) hx hb dL_keptFor_1 (by decide) ?_
  refine lv_aload_n hx hb dL_keptFor_2 rfl (lv_at hl 0 rfl) ?_
  refine lv_iload_n hx hb dL_keptFor_3 rfl (lv_at hl 1 rfl) ?_
  refine lv_iload_n hx hb dL_keptFor_4 rfl (lv_at hl 2 rfl) ?_
  refine wz_callV F hK hX hz hH hoA [.int f, .int t] (cc_X3_keptFor hfl hN f t hch he hsz hok hcn hrc) (cwV 2 F.2.2.2.2 gvL_keptFor_X3_keptFor rfl rfl rfl (by decide +kernel) ⟨Nat.le_of_ble_eq_true rfl, Nat.le_of_ble_eq_true rfl⟩) (og_rc hK (cPc hP)) hP hO hS rfl hl.1 rfl (lv_room (Nat.le_of_ble_eq_true rfl)) ⟨Nat.le_of_ble_eq_true rfl, Nat.le_of_ble_eq_true rfl⟩ dL_keptFor_5 (fun E ce q9 V9 pq9 sp9 cn9 e9' sz9 b9 L9 w9 nx9 H locs hp hP hO hS hq hcv hcl => ?_) (fun r ra V9 pq9 sp9 cn9 e9' sz9 b9 L9 w9 nx9 H locs hp hP hO hS => ?_)
  · skip
    obtain ⟨hk0, hE, hA⟩ := hp
    have hop : (cKeptFor (b, cn, List.map w L) f t).1 = 0 ∨ (cKeptFor (b, cn, List.map w L) f t).1 = 1 := by unfold cKeptFor; (repeat' split) <;> simp
    rcases hop with q | q
    · exact absurd q hk0
    · skip
      rw [q, eName_1] at hE
      subst hE
      refine vx_catch F.2.2.2.1 [] ⟨0, 10, 13, 13⟩ [] htab (fun z hz => nomatch hz) (by decide) (by decide) (F.2.2.2.2 (.classLink RL 13 "java/lang/IndexOutOfBoundsException") (by decide +kernel)) (va_Nw.use (xWd_on _ (by decide +kernel : Cond.castable "java/lang/IndexOutOfBoundsException" "java/lang/IndexOutOfBoundsException" ∈ xWd)) (hX.1 _ (by decide +kernel : Cond.castable "java/lang/IndexOutOfBoundsException" "java/lang/IndexOutOfBoundsException" ∈ xWd))) hq hcv hcl ?_
      refine lv_astore (lv' := [(4, .ref q9), (0, .ref (u 30)), (1, .int f), (2, .int t), (3, .ref oa)]) hx hb dL_keptFor_13 hl (by decide) rfl (fun ls hl => ?_)
      refine lv_iconst (v := 1) hx hb dL_keptFor_15 (by decide) ?_
      exact wz_ret F hr hlocks (by rw [q]; rfl) hA (fun z => absurd z hk0) hP hO hS (by exact Nat.le_of_ble_eq_true rfl) (by exact Nat.le_of_ble_eq_true rfl) dL_keptFor_16
  · skip
    obtain ⟨hk0, hr0, hA⟩ := hp
    refine lv_i2l (v := Int32.toInt64 r) hx hb dL_keptFor_8 rfl ?_
    refine wz_put F hJ hO hP (wz_hoW hoA hoz hA) hS dL_keptFor_9 (fun H locs hP hO hS => ?_)
    refine lv_goto (tgt := 17) hx hb dL_keptFor_10 (by decide) ?_
    refine lv_iconst (v := 0) hx hb dL_keptFor_17 (by decide) ?_
    exact wz_ret F hr hlocks (by rw [hk0]; rfl) hA (fun _ => by rw [hr0]; rfl) hP hO hS (by exact Nat.le_of_ble_eq_true rfl) (by exact Nat.le_of_ble_eq_true rfl) dL_keptFor_18
set_option maxHeartbeats 4000000 in
set_option maxRecDepth 100000 in
theorem lwc_keptByAll {l : Launch} (hfl : l.stackTraces = false) {D : va_G} {cI cII cJ : ClassId} {sa : Nat → Nat} {u : Nat → Nat} {V : Nat → Nat → Int32} {pq sp : Int32} {cn : Nat} {e : Option Nat} {sz : Nat} {b : Nat → Nat → Int32} {L : List Nat} {w : Nat → Nat → Int32} {nx : Nat → Option Nat} {z0 : Nat} {oa : Nat} (hN : (cAd u ++ L).Nodup) (t : Int32) (hch : chn nx L) (he : e = L.head?) (hsz : sz = L.length) (hok : ∀ x, x ∈ L → okW (w x)) (hcn : cn ≤ 20) (hrc : ∀ k, k < cn → ∃ r, r < 6 ∧ b 11 k = nI r) (hoA : ¬ (oa ∈ cAd u ∨ oa ∈ L)) (hoz : oa < z0) : wz_Met l yL_keptByAll wvL_keptByAll 8 1 6 160 D u cI cII cJ sa z0 L oa (cW u cI cII V pq sp cn e sz b L w nx) [.ref (u 30), .int t, .ref oa] [1] (cKeptByAll (b, cn, List.map w L) t) := by
  refine wz_start rfl (by decide +kernel) (Nat.le_of_ble_eq_true rfl) (fun p e9 s m below meth c F hr hlocks htab hK hJ hNc hz H locs g hP hO hS hz9 hX hH ls hl => ?_)
  have hl : lv_has ls 4 [(0, .ref (u 30)), (1, .int t), (2, .ref oa)] := hl
  have hx := F.1
  have hb := F.2.1
  refine lv_aload_n hx hb dL_keptByAll_0 rfl (lv_at hl 2 rfl) ?_
  refine lv_iconst (v := 0) hx hb dL_keptByAll_1 (by decide) ?_
  refine lv_aload_n hx hb dL_keptByAll_2 rfl (lv_at hl 0 rfl) ?_
  refine lv_iload_n hx hb dL_keptByAll_3 rfl (lv_at hl 1 rfl) ?_
  refine wz_callV F hK hX hz hH hoA [.int t] (cc_X3_keptByAll hfl hN t hch he hsz hok hcn hrc) (cwV 1 F.2.2.2.2 gvL_keptByAll_X3_keptByAll rfl rfl rfl (by decide +kernel) ⟨Nat.le_of_ble_eq_true rfl, Nat.le_of_ble_eq_true rfl⟩) (og_rc hK (cPc hP)) hP hO hS rfl hl.1 rfl (lv_room (Nat.le_of_ble_eq_true rfl)) ⟨Nat.le_of_ble_eq_true rfl, Nat.le_of_ble_eq_true rfl⟩ dL_keptByAll_4 (fun E ce q9 V9 pq9 sp9 cn9 e9' sz9 b9 L9 w9 nx9 H locs hp hP hO hS hq hcv hcl => ?_) (fun r ra V9 pq9 sp9 cn9 e9' sz9 b9 L9 w9 nx9 H locs hp hP hO hS => ?_)
  · skip
    obtain ⟨hk0, hE, hA⟩ := hp
    have hop : (cKeptByAll (b, cn, List.map w L) t).1 = 0 ∨ (cKeptByAll (b, cn, List.map w L) t).1 = 1 := by unfold cKeptByAll; (repeat' split) <;> simp
    rcases hop with q | q
    · exact absurd q hk0
    · skip
      rw [q, eName_1] at hE
      subst hE
      refine vx_catch F.2.2.2.1 [] ⟨0, 9, 12, 13⟩ [] htab (fun z hz => nomatch hz) (by decide) (by decide) (F.2.2.2.2 (.classLink RL 13 "java/lang/IndexOutOfBoundsException") (by decide +kernel)) (va_Nw.use (xWd_on _ (by decide +kernel : Cond.castable "java/lang/IndexOutOfBoundsException" "java/lang/IndexOutOfBoundsException" ∈ xWd)) (hX.1 _ (by decide +kernel : Cond.castable "java/lang/IndexOutOfBoundsException" "java/lang/IndexOutOfBoundsException" ∈ xWd))) hq hcv hcl ?_
      refine lv_astore_n (lv' := [(3, .ref q9), (0, .ref (u 30)), (1, .int t), (2, .ref oa)]) hx hb dL_keptByAll_12 rfl hl (by decide) rfl (fun ls hl => ?_)
      refine lv_iconst (v := 1) hx hb dL_keptByAll_13 (by decide) ?_
      exact wz_ret F hr hlocks (by rw [q]; rfl) hA (fun z => absurd z hk0) hP hO hS (by exact Nat.le_of_ble_eq_true rfl) (by exact Nat.le_of_ble_eq_true rfl) dL_keptByAll_14
  · skip
    obtain ⟨hk0, hr0, hA⟩ := hp
    refine lv_i2l (v := Int32.toInt64 r) hx hb dL_keptByAll_7 rfl ?_
    refine wz_put F hJ hO hP (wz_hoW hoA hoz hA) hS dL_keptByAll_8 (fun H locs hP hO hS => ?_)
    refine lv_goto (tgt := 15) hx hb dL_keptByAll_9 (by decide) ?_
    refine lv_iconst (v := 0) hx hb dL_keptByAll_15 (by decide) ?_
    exact wz_ret F hr hlocks (by rw [hk0]; rfl) hA (fun _ => by rw [hr0]; rfl) hP hO hS (by exact Nat.le_of_ble_eq_true rfl) (by exact Nat.le_of_ble_eq_true rfl) dL_keptByAll_16
set_option maxHeartbeats 4000000 in
set_option maxRecDepth 100000 in
theorem lwc_lacks {l : Launch} (hfl : l.stackTraces = false) {D : va_G} {cI cII cJ : ClassId} {sa : Nat → Nat} {u : Nat → Nat} {V : Nat → Nat → Int32} {pq sp : Int32} {cn : Nat} {e : Option Nat} {sz : Nat} {b : Nat → Nat → Int32} {L : List Nat} {w : Nat → Nat → Int32} {nx : Nat → Option Nat} {z0 : Nat} {oa : Nat} (hN : (cAd u ++ L).Nodup) (f k o : Int32) (hch : chn nx L) (he : e = L.head?) (hsz : sz = L.length) (hok : ∀ x, x ∈ L → okW (w x)) (hcn : cn ≤ 20) (hrc : ∀ k, k < cn → ∃ r, r < 6 ∧ b 11 k = nI r) (hoA : ¬ (oa ∈ cAd u ∨ oa ∈ L)) (hoz : oa < z0) : wz_Met l yL_lacks wvL_lacks 8 3 18 163 D u cI cII cJ sa z0 L oa (cW u cI cII V pq sp cn e sz b L w nx) [.ref (u 30), .int f, .int k, .int o, .ref oa] [1] (cLacks (b, cn, List.map w L) f k o) := by
  refine wz_start rfl (by decide +kernel) (Nat.le_of_ble_eq_true rfl) (fun p e9 s m below meth c F hr hlocks htab hK hJ hNc hz H locs g hP hO hS hz9 hX hH ls hl => ?_)
  have hl : lv_has ls 6 [(0, .ref (u 30)), (1, .int f), (2, .int k), (3, .int o), (4, .ref oa)] := hl
  have hx := F.1
  have hb := F.2.1
  refine lv_aload hx hb dL_lacks_0 (lv_at hl 4 rfl) ?_
  refine lv_iconst (v := 0) hx hb dL_lacks_2 (by decide) ?_
  refine lv_aload_n hx hb dL_lacks_3 rfl (lv_at hl 0 rfl) ?_
  refine lv_iload_n hx hb dL_lacks_4 rfl (lv_at hl 1 rfl) ?_
  refine lv_iload_n hx hb dL_lacks_5 rfl (lv_at hl 2 rfl) ?_
  refine lv_iload_n hx hb dL_lacks_6 rfl (lv_at hl 3 rfl) ?_
  refine wz_callV F hK hX hz hH hoA [.int f, .int k, .int o] (cc_X3_lacks hfl hN f k o hch he hsz hok hcn hrc) (cwV 3 F.2.2.2.2 gvL_lacks_X3_lacks rfl rfl rfl (by decide +kernel) ⟨Nat.le_of_ble_eq_true rfl, Nat.le_of_ble_eq_true rfl⟩) (og_rc hK (cPc hP)) hP hO hS rfl hl.1 rfl (lv_room (Nat.le_of_ble_eq_true rfl)) ⟨Nat.le_of_ble_eq_true rfl, Nat.le_of_ble_eq_true rfl⟩ dL_lacks_7 (fun E ce q9 V9 pq9 sp9 cn9 e9' sz9 b9 L9 w9 nx9 H locs hp hP hO hS hq hcv hcl => ?_) (fun r ra V9 pq9 sp9 cn9 e9' sz9 b9 L9 w9 nx9 H locs hp hP hO hS => ?_)
  · skip
    obtain ⟨hk0, hE, hA⟩ := hp
    have hop : (cLacks (b, cn, List.map w L) f k o).1 = 0 ∨ (cLacks (b, cn, List.map w L) f k o).1 = 1 := by unfold cLacks; (repeat' split) <;> simp
    rcases hop with q | q
    · exact absurd q hk0
    · skip
      rw [q, eName_1] at hE
      subst hE
      refine vx_catch F.2.2.2.1 [] ⟨0, 12, 15, 13⟩ [] htab (fun z hz => nomatch hz) (by decide) (by decide) (F.2.2.2.2 (.classLink RL 13 "java/lang/IndexOutOfBoundsException") (by decide +kernel)) (va_Nw.use (xWd_on _ (by decide +kernel : Cond.castable "java/lang/IndexOutOfBoundsException" "java/lang/IndexOutOfBoundsException" ∈ xWd)) (hX.1 _ (by decide +kernel : Cond.castable "java/lang/IndexOutOfBoundsException" "java/lang/IndexOutOfBoundsException" ∈ xWd))) hq hcv hcl ?_
      refine lv_astore (lv' := [(5, .ref q9), (0, .ref (u 30)), (1, .int f), (2, .int k), (3, .int o), (4, .ref oa)]) hx hb dL_lacks_15 hl (by decide) rfl (fun ls hl => ?_)
      refine lv_iconst (v := 1) hx hb dL_lacks_17 (by decide) ?_
      exact wz_ret F hr hlocks (by rw [q]; rfl) hA (fun z => absurd z hk0) hP hO hS (by exact Nat.le_of_ble_eq_true rfl) (by exact Nat.le_of_ble_eq_true rfl) dL_lacks_18
  · skip
    obtain ⟨hk0, hr0, hA⟩ := hp
    refine lv_i2l (v := Int32.toInt64 r) hx hb dL_lacks_10 rfl ?_
    refine wz_put F hJ hO hP (wz_hoW hoA hoz hA) hS dL_lacks_11 (fun H locs hP hO hS => ?_)
    refine lv_goto (tgt := 19) hx hb dL_lacks_12 (by decide) ?_
    refine lv_iconst (v := 0) hx hb dL_lacks_19 (by decide) ?_
    exact wz_ret F hr hlocks (by rw [hk0]; rfl) hA (fun _ => by rw [hr0]; rfl) hP hO hS (by exact Nat.le_of_ble_eq_true rfl) (by exact Nat.le_of_ble_eq_true rfl) dL_lacks_20
set_option maxHeartbeats 4000000 in
set_option maxRecDepth 100000 in
theorem lwc_isUnfit {l : Launch} (hfl : l.stackTraces = false) {D : va_G} {cI cII cJ : ClassId} {sa : Nat → Nat} {u : Nat → Nat} {V : Nat → Nat → Int32} {pq sp : Int32} {cn : Nat} {e : Option Nat} {sz : Nat} {b : Nat → Nat → Int32} {L : List Nat} {w : Nat → Nat → Int32} {nx : Nat → Option Nat} {z0 : Nat} {oa : Nat} (hN : (cAd u ++ L).Nodup) (f k : Int32) (hch : chn nx L) (he : e = L.head?) (hsz : sz = L.length) (hok : ∀ x, x ∈ L → okW (w x)) (hcn : cn ≤ 20) (hrc : ∀ k, k < cn → ∃ r, r < 6 ∧ b 11 k = nI r) (hoA : ¬ (oa ∈ cAd u ∨ oa ∈ L)) (hoz : oa < z0) : wz_Met l yL_isUnfit wvL_isUnfit 8 2 12 162 D u cI cII cJ sa z0 L oa (cW u cI cII V pq sp cn e sz b L w nx) [.ref (u 30), .int f, .int k, .ref oa] [1] (cIsUnfit (b, cn, List.map w L) f k) := by
  refine wz_start rfl (by decide +kernel) (Nat.le_of_ble_eq_true rfl) (fun p e9 s m below meth c F hr hlocks htab hK hJ hNc hz H locs g hP hO hS hz9 hX hH ls hl => ?_)
  have hl : lv_has ls 5 [(0, .ref (u 30)), (1, .int f), (2, .int k), (3, .ref oa)] := hl
  have hx := F.1
  have hb := F.2.1
  refine lv_aload_n hx hb dL_isUnfit_0 rfl (lv_at hl 3 rfl) ?_
  refine lv_iconst (v := 0) hx hb dL_isUnfit_1 (by decide) ?_
  refine lv_aload_n hx hb dL_isUnfit_2 rfl (lv_at hl 0 rfl) ?_
  refine lv_iload_n hx hb dL_isUnfit_3 rfl (lv_at hl 1 rfl) ?_
  refine lv_iload_n hx hb dL_isUnfit_4 rfl (lv_at hl 2 rfl) ?_
  refine wz_callV F hK hX hz hH hoA [.int f, .int k] (cc_X3_isUnfit hfl hN f k hch he hsz hok hcn hrc) (cwV 2 F.2.2.2.2 gvL_isUnfit_X3_isUnfit rfl rfl rfl (by decide +kernel) ⟨Nat.le_of_ble_eq_true rfl, Nat.le_of_ble_eq_true rfl⟩) (og_rc hK (cPc hP)) hP hO hS rfl hl.1 rfl (lv_room (Nat.le_of_ble_eq_true rfl)) ⟨Nat.le_of_ble_eq_true rfl, Nat.le_of_ble_eq_true rfl⟩ dL_isUnfit_5 (fun E ce q9 V9 pq9 sp9 cn9 e9' sz9 b9 L9 w9 nx9 H locs hp hP hO hS hq hcv hcl => ?_) (fun r ra V9 pq9 sp9 cn9 e9' sz9 b9 L9 w9 nx9 H locs hp hP hO hS => ?_)
  · skip
    obtain ⟨hk0, hE, hA⟩ := hp
    have hop : (cIsUnfit (b, cn, List.map w L) f k).1 = 0 ∨ (cIsUnfit (b, cn, List.map w L) f k).1 = 1 := by unfold cIsUnfit; (repeat' split) <;> simp
    rcases hop with q | q
    · exact absurd q hk0
    · skip
      rw [q, eName_1] at hE
      subst hE
      refine vx_catch F.2.2.2.1 [] ⟨0, 17, 20, 13⟩ [] htab (fun z hz => nomatch hz) (by decide) (by decide) (F.2.2.2.2 (.classLink RL 13 "java/lang/IndexOutOfBoundsException") (by decide +kernel)) (va_Nw.use (xWd_on _ (by decide +kernel : Cond.castable "java/lang/IndexOutOfBoundsException" "java/lang/IndexOutOfBoundsException" ∈ xWd)) (hX.1 _ (by decide +kernel : Cond.castable "java/lang/IndexOutOfBoundsException" "java/lang/IndexOutOfBoundsException" ∈ xWd))) hq hcv hcl ?_
      refine lv_astore (lv' := [(4, .ref q9), (0, .ref (u 30)), (1, .int f), (2, .int k), (3, .ref oa)]) hx hb dL_isUnfit_20 hl (by decide) rfl (fun ls hl => ?_)
      refine lv_iconst (v := 1) hx hb dL_isUnfit_22 (by decide) ?_
      exact wz_ret F hr hlocks (by rw [q]; rfl) hA (fun z => absurd z hk0) hP hO hS (by exact Nat.le_of_ble_eq_true rfl) (by exact Nat.le_of_ble_eq_true rfl) dL_isUnfit_23
  · skip
    obtain ⟨hk0, hr0, hA⟩ := hp
    have hop : (cIsUnfit (b, cn, List.map w L) f k).2.1 = 0 ∨ (cIsUnfit (b, cn, List.map w L) f k).2.1 = 1 := by unfold cIsUnfit; (repeat' split) <;> first | exact Or.inl rfl | exact bI_01 _
    rw [hr0] at hop
    refine lv_if_eq (tgt := 15) hx hb dL_isUnfit_8 (by decide) (fun c_1 => ?_) (fun c_1 => ?_)
    · skip
      refine lv_lconst (v := 0) hx hb dL_isUnfit_15 (by decide) ?_
      refine wz_put F hJ hO hP (wz_hoW hoA hoz hA) hS dL_isUnfit_16 (fun H locs hP hO hS => ?_)
      refine lv_goto (tgt := 24) hx hb dL_isUnfit_17 (by decide) ?_
      refine lv_iconst (v := 0) hx hb dL_isUnfit_24 (by decide) ?_
      exact wz_ret F hr hlocks (by rw [hk0]; rfl) hA (fun _ => by rw [hr0, c_1]; rfl) hP hO hS (by exact Nat.le_of_ble_eq_true rfl) (by exact Nat.le_of_ble_eq_true rfl) dL_isUnfit_25
    · skip
      refine lv_lconst (v := 1) hx hb dL_isUnfit_11 (by decide) ?_
      refine lv_goto (tgt := 16) hx hb dL_isUnfit_12 (by decide) ?_
      refine wz_put F hJ hO hP (wz_hoW hoA hoz hA) hS dL_isUnfit_16 (fun H locs hP hO hS => ?_)
      refine lv_goto (tgt := 24) hx hb dL_isUnfit_17 (by decide) ?_
      refine lv_iconst (v := 0) hx hb dL_isUnfit_24 (by decide) ?_
      exact wz_ret F hr hlocks (by rw [hk0]; rfl) hA (fun _ => by rw [hr0, hop.resolve_left c_1]; rfl) hP hO hS (by exact Nat.le_of_ble_eq_true rfl) (by exact Nat.le_of_ble_eq_true rfl) dL_isUnfit_25
set_option maxHeartbeats 4000000 in
set_option maxRecDepth 100000 in
theorem lwc_isSpoilt {l : Launch} (hfl : l.stackTraces = false) {D : va_G} {cI cII cJ : ClassId} {sa : Nat → Nat} {u : Nat → Nat} {V : Nat → Nat → Int32} {pq sp : Int32} {cn : Nat} {e : Option Nat} {sz : Nat} {b : Nat → Nat → Int32} {L : List Nat} {w : Nat → Nat → Int32} {nx : Nat → Option Nat} {z0 : Nat} {oa : Nat} (hN : (cAd u ++ L).Nodup) (f k : Int32) (hch : chn nx L) (he : e = L.head?) (hsz : sz = L.length) (hok : ∀ x, x ∈ L → okW (w x)) (hcn : cn ≤ 20) (hrc : ∀ k, k < cn → ∃ r, r < 6 ∧ b 11 k = nI r) (hoA : ¬ (oa ∈ cAd u ∨ oa ∈ L)) (hoz : oa < z0) : wz_Met l yL_isSpoilt wvL_isSpoilt 8 2 12 162 D u cI cII cJ sa z0 L oa (cW u cI cII V pq sp cn e sz b L w nx) [.ref (u 30), .int f, .int k, .ref oa] [1] (cIsSpoilt (b, cn, List.map w L) f k) := by
  refine wz_start rfl (by decide +kernel) (Nat.le_of_ble_eq_true rfl) (fun p e9 s m below meth c F hr hlocks htab hK hJ hNc hz H locs g hP hO hS hz9 hX hH ls hl => ?_)
  have hl : lv_has ls 5 [(0, .ref (u 30)), (1, .int f), (2, .int k), (3, .ref oa)] := hl
  have hx := F.1
  have hb := F.2.1
  refine lv_aload_n hx hb dL_isSpoilt_0 rfl (lv_at hl 3 rfl) ?_
  refine lv_iconst (v := 0) hx hb dL_isSpoilt_1 (by decide) ?_
  refine lv_aload_n hx hb dL_isSpoilt_2 rfl (lv_at hl 0 rfl) ?_
  refine lv_iload_n hx hb dL_isSpoilt_3 rfl (lv_at hl 1 rfl) ?_
  refine lv_iload_n hx hb dL_isSpoilt_4 rfl (lv_at hl 2 rfl) ?_
  refine wz_callV F hK hX hz hH hoA [.int f, .int k] (cc_X3_isSpoilt hfl hN f k hch he hsz hok hcn hrc) (cwV 2 F.2.2.2.2 gvL_isSpoilt_X3_isSpoilt rfl rfl rfl (by decide +kernel) ⟨Nat.le_of_ble_eq_true rfl, Nat.le_of_ble_eq_true rfl⟩) (og_rc hK (cPc hP)) hP hO hS rfl hl.1 rfl (lv_room (Nat.le_of_ble_eq_true rfl)) ⟨Nat.le_of_ble_eq_true rfl, Nat.le_of_ble_eq_true rfl⟩ dL_isSpoilt_5 (fun E ce q9 V9 pq9 sp9 cn9 e9' sz9 b9 L9 w9 nx9 H locs hp hP hO hS hq hcv hcl => ?_) (fun r ra V9 pq9 sp9 cn9 e9' sz9 b9 L9 w9 nx9 H locs hp hP hO hS => ?_)
  · skip
    obtain ⟨hk0, hE, hA⟩ := hp
    have hop : (cIsSpoilt (b, cn, List.map w L) f k).1 = 0 ∨ (cIsSpoilt (b, cn, List.map w L) f k).1 = 1 := by unfold cIsSpoilt; (repeat' split) <;> simp
    rcases hop with q | q
    · exact absurd q hk0
    · skip
      rw [q, eName_1] at hE
      subst hE
      refine vx_catch F.2.2.2.1 [] ⟨0, 17, 20, 13⟩ [] htab (fun z hz => nomatch hz) (by decide) (by decide) (F.2.2.2.2 (.classLink RL 13 "java/lang/IndexOutOfBoundsException") (by decide +kernel)) (va_Nw.use (xWd_on _ (by decide +kernel : Cond.castable "java/lang/IndexOutOfBoundsException" "java/lang/IndexOutOfBoundsException" ∈ xWd)) (hX.1 _ (by decide +kernel : Cond.castable "java/lang/IndexOutOfBoundsException" "java/lang/IndexOutOfBoundsException" ∈ xWd))) hq hcv hcl ?_
      refine lv_astore (lv' := [(4, .ref q9), (0, .ref (u 30)), (1, .int f), (2, .int k), (3, .ref oa)]) hx hb dL_isSpoilt_20 hl (by decide) rfl (fun ls hl => ?_)
      refine lv_iconst (v := 1) hx hb dL_isSpoilt_22 (by decide) ?_
      exact wz_ret F hr hlocks (by rw [q]; rfl) hA (fun z => absurd z hk0) hP hO hS (by exact Nat.le_of_ble_eq_true rfl) (by exact Nat.le_of_ble_eq_true rfl) dL_isSpoilt_23
  · skip
    obtain ⟨hk0, hr0, hA⟩ := hp
    have hop : (cIsSpoilt (b, cn, List.map w L) f k).2.1 = 0 ∨ (cIsSpoilt (b, cn, List.map w L) f k).2.1 = 1 := by unfold cIsSpoilt; (repeat' split) <;> first | exact Or.inl rfl | exact bI_01 _
    rw [hr0] at hop
    refine lv_if_eq (tgt := 15) hx hb dL_isSpoilt_8 (by decide) (fun c_1 => ?_) (fun c_1 => ?_)
    · skip
      refine lv_lconst (v := 0) hx hb dL_isSpoilt_15 (by decide) ?_
      refine wz_put F hJ hO hP (wz_hoW hoA hoz hA) hS dL_isSpoilt_16 (fun H locs hP hO hS => ?_)
      refine lv_goto (tgt := 24) hx hb dL_isSpoilt_17 (by decide) ?_
      refine lv_iconst (v := 0) hx hb dL_isSpoilt_24 (by decide) ?_
      exact wz_ret F hr hlocks (by rw [hk0]; rfl) hA (fun _ => by rw [hr0, c_1]; rfl) hP hO hS (by exact Nat.le_of_ble_eq_true rfl) (by exact Nat.le_of_ble_eq_true rfl) dL_isSpoilt_25
    · skip
      refine lv_lconst (v := 1) hx hb dL_isSpoilt_11 (by decide) ?_
      refine lv_goto (tgt := 16) hx hb dL_isSpoilt_12 (by decide) ?_
      refine wz_put F hJ hO hP (wz_hoW hoA hoz hA) hS dL_isSpoilt_16 (fun H locs hP hO hS => ?_)
      refine lv_goto (tgt := 24) hx hb dL_isSpoilt_17 (by decide) ?_
      refine lv_iconst (v := 0) hx hb dL_isSpoilt_24 (by decide) ?_
      exact wz_ret F hr hlocks (by rw [hk0]; rfl) hA (fun _ => by rw [hr0, hop.resolve_left c_1]; rfl) hP hO hS (by exact Nat.le_of_ble_eq_true rfl) (by exact Nat.le_of_ble_eq_true rfl) dL_isSpoilt_25
set_option maxHeartbeats 4000000 in
set_option maxRecDepth 100000 in
theorem lwc_missing {l : Launch} (hfl : l.stackTraces = false) {D : va_G} {cI cII cJ : ClassId} {sa : Nat → Nat} {u : Nat → Nat} {V : Nat → Nat → Int32} {pq sp : Int32} {cn : Nat} {e : Option Nat} {sz : Nat} {b : Nat → Nat → Int32} {L : List Nat} {w : Nat → Nat → Int32} {nx : Nat → Option Nat} {z0 : Nat} {oa : Nat} (hN : (cAd u ++ L).Nodup) (f o : Int32) (hch : chn nx L) (he : e = L.head?) (hsz : sz = L.length) (hok : ∀ x, x ∈ L → okW (w x)) (hcn : cn ≤ 20) (hrc : ∀ k, k < cn → ∃ r, r < 6 ∧ b 11 k = nI r) (hoA : ¬ (oa ∈ cAd u ∨ oa ∈ L)) (hoz : oa < z0) : wz_Met l yL_missing wvL_missing 8 2 12 164 D u cI cII cJ sa z0 L oa (cW u cI cII V pq sp cn e sz b L w nx) [.ref (u 30), .int f, .int o, .ref oa] [1] (cMissing (b, cn, List.map w L) f o) := by
  refine wz_start rfl (by decide +kernel) (Nat.le_of_ble_eq_true rfl) (fun p e9 s m below meth c F hr hlocks htab hK hJ hNc hz H locs g hP hO hS hz9 hX hH ls hl => ?_)
  have hl : lv_has ls 5 [(0, .ref (u 30)), (1, .int f), (2, .int o), (3, .ref oa)] := hl
  have hx := F.1
  have hb := F.2.1
  refine lv_aload_n hx hb dL_missing_0 rfl (lv_at hl 3 rfl) ?_
  refine lv_iconst (v := 0) hx hb dL_missing_1 (by decide) ?_
  refine lv_aload_n hx hb dL_missing_2 rfl (lv_at hl 0 rfl) ?_
  refine lv_iload_n hx hb dL_missing_3 rfl (lv_at hl 1 rfl) ?_
  refine lv_iload_n hx hb dL_missing_4 rfl (lv_at hl 2 rfl) ?_
  refine wz_callV F hK hX hz hH hoA [.int f, .int o] (cc_X3_missing hfl hN f o hch he hsz hok hcn hrc) (cwV 2 F.2.2.2.2 gvL_missing_X3_missing rfl rfl rfl (by decide +kernel) ⟨Nat.le_of_ble_eq_true rfl, Nat.le_of_ble_eq_true rfl⟩) (og_rc hK (cPc hP)) hP hO hS rfl hl.1 rfl (lv_room (Nat.le_of_ble_eq_true rfl)) ⟨Nat.le_of_ble_eq_true rfl, Nat.le_of_ble_eq_true rfl⟩ dL_missing_5 (fun E ce q9 V9 pq9 sp9 cn9 e9' sz9 b9 L9 w9 nx9 H locs hp hP hO hS hq hcv hcl => ?_) (fun r ra V9 pq9 sp9 cn9 e9' sz9 b9 L9 w9 nx9 H locs hp hP hO hS => ?_)
  · skip
    obtain ⟨hk0, hE, hA⟩ := hp
    have hop : (cMissing (b, cn, List.map w L) f o).1 = 0 ∨ (cMissing (b, cn, List.map w L) f o).1 = 1 := by unfold cMissing; (repeat' split) <;> simp
    rcases hop with q | q
    · exact absurd q hk0
    · skip
      rw [q, eName_1] at hE
      subst hE
      refine vx_catch F.2.2.2.1 [] ⟨0, 10, 13, 13⟩ [] htab (fun z hz => nomatch hz) (by decide) (by decide) (F.2.2.2.2 (.classLink RL 13 "java/lang/IndexOutOfBoundsException") (by decide +kernel)) (va_Nw.use (xWd_on _ (by decide +kernel : Cond.castable "java/lang/IndexOutOfBoundsException" "java/lang/IndexOutOfBoundsException" ∈ xWd)) (hX.1 _ (by decide +kernel : Cond.castable "java/lang/IndexOutOfBoundsException" "java/lang/IndexOutOfBoundsException" ∈ xWd))) hq hcv hcl ?_
      refine lv_astore (lv' := [(4, .ref q9), (0, .ref (u 30)), (1, .int f), (2, .int o), (3, .ref oa)]) hx hb dL_missing_13 hl (by decide) rfl (fun ls hl => ?_)
      refine lv_iconst (v := 1) hx hb dL_missing_15 (by decide) ?_
      exact wz_ret F hr hlocks (by rw [q]; rfl) hA (fun z => absurd z hk0) hP hO hS (by exact Nat.le_of_ble_eq_true rfl) (by exact Nat.le_of_ble_eq_true rfl) dL_missing_16
  · skip
    obtain ⟨hk0, hr0, hA⟩ := hp
    refine lv_i2l (v := Int32.toInt64 r) hx hb dL_missing_8 rfl ?_
    refine wz_put F hJ hO hP (wz_hoW hoA hoz hA) hS dL_missing_9 (fun H locs hP hO hS => ?_)
    refine lv_goto (tgt := 17) hx hb dL_missing_10 (by decide) ?_
    refine lv_iconst (v := 0) hx hb dL_missing_17 (by decide) ?_
    exact wz_ret F hr hlocks (by rw [hk0]; rfl) hA (fun _ => by rw [hr0]; rfl) hP hO hS (by exact Nat.le_of_ble_eq_true rfl) (by exact Nat.le_of_ble_eq_true rfl) dL_missing_18
