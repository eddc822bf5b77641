/-! the object writes a word -/
theorem insL_perm (w : Nat → Nat → Int32) (x : Nat) : ∀ M : List Nat, (insL w x M).Perm (x :: M)
  | [] => List.Perm.refl _
  | y :: M => by
    unfold insL
    split
    · exact (List.Perm.cons y (insL_perm w x M)).trans (List.Perm.swap x y M)
    · exact List.Perm.refl _
theorem insL_nodup {u : Nat → Nat} {L : List Nat} {a : Nat} (w : Nat → Nat → Int32) (hN : (cAd u ++ (L ++ [a])).Nodup) : (cAd u ++ insL w a L).Nodup := by
  have h1 : (insL w a L).Perm (L ++ [a]) := (insL_perm w a L).trans (List.perm_append_comm (l₁ := [a]) (l₂ := L))
  exact ((List.Perm.append_left (cAd u) h1).nodup_iff).mpr hN
/-- what a call of write leaves: the new word ra, the chain with it -/
def wrPost (u : Nat → Nat) (V : Nat → Nat → Int32) (pq sp : Int32) (cn : Nat) (sz : Nat) (b : Nat → Nat → Int32) (L : List Nat) (w : Nat → Nat → Int32) (z0 f : Nat) (kd sb ck : Int32) : PostC := fun _ ra V9 pq9 sp9 cn9 e9 sz9 b9 L9 w9 nx9 =>
  V9 = V ∧ pq9 = pq ∧ sp9 = sp ∧ cn9 = cn ∧ e9 = L9.head? ∧ sz9 = sz + 1 ∧ b9 = upA b 10 f (b 10 f + 1) ∧ w9 = stW w ra (mkW kd (b 10 f + 1) (nI f) sb ck) ∧ L9 = insL w9 ra L ∧ chn nx9 L9 ∧ (cAd u ++ L9).Nodup ∧ ra ∉ L ∧ z0 ≤ ra
set_option maxHeartbeats 4000000 in
set_option maxRecDepth 100000 in
theorem cc_X3_write {l : Launch} {D : va_G} {cI cII : ClassId} {u : Nat → Nat} {V : Nat → Nat → Int32} {pq sp : Int32} {cn : Nat} {e : Option Nat} {sz : Nat} {b : Nat → Nat → Int32} {L : List Nat} {w : Nat → Nat → Int32} {nx : Nat → Option Nat} {z0 : Nat} (hN : (cAd u ++ L).Nodup) (f : Nat) (kd : Int32) (sb : Int32) (ck : Int32) (hf5 : f < 5) (hch : chn nx L) (he : e = L.head?) : cw_Met l yX3_write wsX3_write 2 1 10 44 D u cI cII z0 L (cW u cI cII V pq sp cn e sz b L w nx) [.ref (u 30), .int (nI f), .int kd, .int sb, .int ck] kR (wrPost u V pq sp cn sz b L w z0 f kd sb ck) := by
  suffices h9 : ∀ L0, L0 = L → cw_Met l yX3_write wsX3_write 2 1 10 44 D u cI cII z0 L0 (cW u cI cII V pq sp cn e sz b L w nx) [.ref (u 30), .int (nI f), .int kd, .int sb, .int ck] kR (wrPost u V pq sp cn sz b L w z0 f kd sb ck) by exact h9 _ rfl
  intro L0 hL0
  have hLz : ∀ a, a ∈ L → a ∈ L0 ∨ z0 ≤ a := fun a z => Or.inl (by rw [hL0]; exact z)
  refine cw_start rfl (by decide +kernel) (Nat.le_of_ble_eq_true rfl) (fun p e9 s m below meth c F hr hlocks hK hz H locs hP hS hz9 ls hl => ?_)
  have hl : lv_has ls 6 [(0, .ref (u 30)), (1, .int (nI f)), (2, .int kd), (3, .int sb), (4, .int ck)] := hl
  have hx := F.1
  have hb := F.2.1
  have hinO : ∀ w ∈ wsX30, w ∈ wsX3_write := by decide +kernel
  have hinW : ∀ w ∈ wsX10, w ∈ wsX3_write := by decide +kernel
  have hNL : L.Nodup := (List.nodup_append.mp hN).2.1
  refine lv_aload_n hx hb dX3_write_0 rfl (lv_at hl 0 rfl) ?_
  refine og_get F hK hinO (cPc hP) 2 (by decide) (by decide +kernel) rfl dX3_write_1 ?_
  refine lv_iload_n hx hb dX3_write_4 rfl (lv_at hl 1 rfl) ?_
  refine lv_dup2_11 hx hb dX3_write_5 rfl rfl ?_
  refine cg_ald F hK (cPc hP) 2 5 rfl f rfl (by omega) (by decide) dX3_write_6 ?_
  refine lv_iconst (v := 1) hx hb dX3_write_7 (by decide) ?_
  refine lv_iadd hx hb dX3_write_8 ?_
  refine cp_ast F hK hN (cG_in hLz) hP hS 10 11 5 rfl f rfl (by omega) (by decide) rfl dX3_write_9 (fun H locs hP hS => ?_)
  refine wn_new F hK hinW hN (cG_in hLz) (fun q h => Or.inr (Nat.le_trans (Nat.le_of_eq hz.symm) h)) hP hS (by decide +kernel) (by decide +kernel) (by decide +kernel) (Nat.le_of_ble_eq_true rfl) (Nat.le_of_ble_eq_true rfl) dX3_write_10 (fun a H ha1 ha2 haA hP h0 hS => ?_)
  have haz : z0 ≤ a := haA.resolve_left (fun q => q.elim ha1 (fun r => ha2 (hL0 ▸ r)))
  refine lv_dup hx hb dX3_write_13 rfl ?_
  refine lv_iload_n hx hb dX3_write_14 rfl (lv_at hl 2 rfl) ?_
  refine lv_aload_n hx hb dX3_write_15 rfl (lv_at hl 0 rfl) ?_
  refine og_get F hK hinO (cPc hP) 2 (by decide) (by decide +kernel) rfl dX3_write_16 ?_
  refine lv_iload_n hx hb dX3_write_19 rfl (lv_at hl 1 rfl) ?_
  refine cg_ald F hK (cPc hP) 2 5 rfl f rfl (by omega) (by decide) dX3_write_20 ?_
  refine lw_E (b 10 f + 1) (by simp [upA, pk_us]) ?_
  refine lv_iload_n hx hb dX3_write_21 rfl (lv_at hl 1 rfl) ?_
  refine lv_iload_n hx hb dX3_write_22 rfl (lv_at hl 3 rfl) ?_
  refine lv_iload hx hb dX3_write_23 (lv_at hl 4 rfl) ?_
  refine wn_init F hK (cG_in hLz) ha1 ha2 haA hP h0 hS (cwI 5 F.2.2.2.2 gX3_write_X1_init rfl rfl rfl (F.2.2.2.2 (.initialized RX1) (by decide +kernel)) (F.2.2.2.2 (.methodLink RX3 169 yX1_init) (by decide +kernel)) (F.2.2.2.2 (.instanceMethod yX1_init) (by decide +kernel)) rfl (by decide +kernel) ⟨Nat.le_of_ble_eq_true rfl, Nat.le_of_ble_eq_true rfl⟩) hl.1 (lv_room (Nat.le_of_ble_eq_true rfl)) ⟨Nat.le_of_ble_eq_true rfl, Nat.le_of_ble_eq_true rfl⟩ dX3_write_25 (fun H locs hP hS => ?_)
  have hN := cAd_push hN ha1 ha2
  have hLz : ∀ x, x ∈ L ++ [a] → x ∈ L0 ∨ z0 ≤ x := fun x hx => (List.mem_append.mp hx).elim (hLz x) (fun q => Or.inr (by rw [List.mem_singleton] at q; rw [q]; exact haz))
  refine lv_astore (lv' := [(5, .ref a), (0, .ref (u 30)), (1, .int (nI f)), (2, .int kd), (3, .int sb), (4, .int ck)]) hx hb dX3_write_28 hl (by decide) rfl (fun ls hl => ?_)
  refine lv_aload_n hx hb dX3_write_30 rfl (lv_at hl 1 rfl) ?_
  refine og_get F hK hinO (cPc hP) 0 (by decide) (by decide +kernel) rfl dX3_write_31 ?_
  refine lv_aload hx hb dX3_write_34 (lv_at hl 0 rfl) ?_
  refine cw_callV F hK [.ref a] (cc_X2_insert hN a (by simp) (L) (fun z h => List.mem_append_left _ h) (ha2) (hNL) (chn_congr (fun z hz => va_up_ne _ _ (show z ≠ a from fun q => ha2 (q ▸ hz))) hch) (he)) (cwV 1 F.2.2.2.2 gX3_write_X2_insert rfl rfl rfl (by decide +kernel) ⟨Nat.le_of_ble_eq_true rfl, Nat.le_of_ble_eq_true rfl⟩) (kg_rc hK (cPc hP)) hP hS (cG_sub hLz (Nat.le_trans (Nat.le_of_eq hz.symm) hS.1)) rfl hl.1 rfl (lv_room (Nat.le_of_ble_eq_true rfl)) ⟨Nat.le_of_ble_eq_true rfl, Nat.le_of_ble_eq_true rfl⟩ dX3_write_36 (fun r_w_1 ra_w_1 V_w_1 pc_w_1 sp_w_1 cc_w_1 e_w_1 sz_w_1 b_w_1 L_w_1 w_w_1 nx_w_1 H locs hp_w_1 hP hsz_w_1 hfr_w_1 hS => ?_)
  obtain ⟨e2_w_1, e3_w_1, e4_w_1, e5_w_1, e6_w_1, e7_w_1, e8_w_1, e9_w_1, e10_w_1, hch_w_1⟩ := hp_w_1
  rw [e2_w_1, e3_w_1, e4_w_1, e5_w_1, e6_w_1, e7_w_1, e8_w_1, e9_w_1, e10_w_1] at hP
  have hP := cW_perm (L1 := insL (stW w a (mkW kd (b 10 f + 1) (nI f) sb ck)) a L) (fun z hz => by rcases (insL_mem _ _ _ _).mp hz with q | q; rw [q]; simp; exact List.mem_append_left _ q) hP
  refine lv_aload hx hb dX3_write_39 (lv_at hl 0 rfl) ?_
  exact cw_reta F hr hlocks hP hS (⟨rfl, rfl, rfl, rfl, rfl, rfl, rfl, rfl, rfl, hch_w_1, insL_nodup _ hN, ha2, haz⟩) (by omega) (by omega) dX3_write_41
