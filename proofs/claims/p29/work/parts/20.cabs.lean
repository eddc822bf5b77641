/-! the state of the object without addresses: the words in their order -/
theorem upA_self (b : Nat → Nat → Int32) (k i : Nat) : upA b k i (b k i) = b := by
  funext z j; simp only [upA]; split
  · rename_i h; subst h; by_cases q : j = i
    · subst q; exact pk_us
    · simp [upd, q]
  · rfl
theorem upA_tw (b : Nat → Nat → Int32) (k i : Nat) (x y : Int32) : upA (upA b k i x) k i y = upA b k i y := by
  funext z j; simp only [upA]; split
  · rename_i h; subst h; by_cases q : j = i
    · subst q; simp [upd]
    · simp [upd, q]
  · rfl
def insA (x : Nat → Int32) : List (Nat → Int32) → List (Nat → Int32)
  | [] => [x]
  | y :: M => if wLater x y then y :: insA x M else x :: y :: M
theorem insA_map {w : Nat → Nat → Int32} {a : Nat} {x : Nat → Int32} : ∀ {L : List Nat}, a ∉ L → (insL (stW w a x) a L).map (stW w a x) = insA x (L.map w)
  | [], _ => by simp [insL, insA, stW]
  | y :: M, h => by
    have hy : y ≠ a := fun q => h (by rw [q]; exact List.mem_cons_self)
    have hm : a ∉ M := fun q => h (List.mem_cons_of_mem _ q)
    have ey : stW w a x y = w y := by simp [stW, hy]
    have ea : stW w a x a = x := by simp [stW]
    have hmap : ∀ N : List Nat, a ∉ N → N.map (stW w a x) = N.map w := fun N hN => List.map_congr_left (fun z hz => by simp [stW, show z ≠ a from fun q => hN (q ▸ hz)])
    unfold insL
    rw [ea, ey]
    show _ = if wLater x (w y) then w y :: insA x (M.map w) else x :: w y :: M.map w
    split
    · rw [List.map_cons, ey, insA_map hm]
    · rw [List.map_cons, List.map_cons, ea, ey, hmap M hm]
theorem insA_len (x : Nat → Int32) : ∀ M, (insA x M).length = M.length + 1
  | [] => rfl
  | y :: M => by unfold insA; split <;> simp [insA_len x M]
theorem insA_mem (x : Nat → Int32) : ∀ M z, z ∈ insA x M ↔ z = x ∨ z ∈ M
  | [], z => by simp [insA]
  | y :: M, z => by
    unfold insA; split
    · rw [List.mem_cons, insA_mem x M z, List.mem_cons]
      constructor
      · rintro (h | h | h)
        · exact Or.inr (Or.inl h)
        · exact Or.inl h
        · exact Or.inr (Or.inr h)
      · rintro (h | h | h)
        · exact Or.inr (Or.inl h)
        · exact Or.inl h
        · exact Or.inr (Or.inr h)
    · simp only [List.mem_cons]
/-- what a method leaves, the places of the words aside -/
def aSt (u : Nat → Nat) (L0 : List Nat) (z0 : Nat) (V : Nat → Nat → Int32) (pq sp : Int32) (cn : Nat) (b : Nat → Nat → Int32) (ws : List (Nat → Int32)) : PostC := fun _ ra V9 pq9 sp9 cn9 e9 sz9 b9 L9 w9 nx9 =>
  V9 = V ∧ pq9 = pq ∧ sp9 = sp ∧ cn9 = cn ∧ e9 = L9.head? ∧ sz9 = L9.length ∧ b9 = b ∧ L9.map w9 = ws ∧ chn nx9 L9 ∧ (cAd u ++ L9).Nodup ∧ ∀ x, x ∈ L9 → x ∈ L0 ∨ z0 ≤ x
/-- the keeps of one food: steps left, the step, how many are still to be kept, the clock, the words -/
def wkG (V : Nat → Nat → Int32) (f ck fo : Nat) : Nat → Nat → Int32 → Int32 → List (Nat → Int32) → Int32 × List (Nat → Int32)
  | 0, _, _, c, ws => (c, ws)
  | m + 1, j, lf, c, ws => if 0 < lf then (if vFree V (fo + 8 * j) then wkG V f ck fo m (j + 1) (lf + -1) (c + 1) (insA (mkW 4 (c + 1) (nI f) (nI (fo + 8 * j)) (nI ck)) ws) else wkG V f ck fo m (j + 1) lf c ws) else (c, ws)
def wkF (V b : Nat → Nat → Int32) (f ck fo : Nat) (c : Int32) (ws : List (Nat → Int32)) : Int32 × List (Nat → Int32) := wkG V f ck fo 5 0 (cKeepable V b ck fo) c ws
set_option maxHeartbeats 4000000 in
set_option maxRecDepth 100000 in
theorem cc_X3_writeKeeps {l : Launch} {D : va_G} {cI cII : ClassId} {u : Nat → Nat} {V : Nat → Nat → Int32} {pq sp : Int32} {cn : Nat} {e : Option Nat} {sz : Nat} {b : Nat → Nat → Int32} {L : List Nat} {w : Nat → Nat → Int32} {nx : Nat → Option Nat} {z0 : Nat} (hN : (cAd u ++ L).Nodup) (f : Nat) (ck : Nat) (fo : Nat) (hf5 : f < 5) (hk20 : ck < 20) (hfo : fo < 8) (hR : ∃ r, r < 6 ∧ b 11 ck = nI r) (hch : chn nx L) (he : e = L.head?) (hsz : sz = L.length) : cw_Met l yX3_writeKeeps wsX3_writeKeeps 3 5 50 69 D u cI cII z0 L (cW u cI cII V pq sp cn e sz b L w nx) [.ref (u 30), .int (nI f), .int (nI ck), .int (nI fo)] kV (aSt u L z0 V pq sp cn (upA b 10 f (wkF V b f ck fo (b 10 f) (L.map w)).1) (wkF V b f ck fo (b 10 f) (L.map w)).2) := by
  suffices h9 : ∀ L0, L0 = L → cw_Met l yX3_writeKeeps wsX3_writeKeeps 3 5 50 69 D u cI cII z0 L0 (cW u cI cII V pq sp cn e sz b L w nx) [.ref (u 30), .int (nI f), .int (nI ck), .int (nI fo)] kV (aSt u L z0 V pq sp cn (upA b 10 f (wkF V b f ck fo (b 10 f) (L.map w)).1) (wkF V b f ck fo (b 10 f) (L.map w)).2) by exact h9 _ rfl
  intro L0 hL0
  have hLz : ∀ a, a ∈ L → a ∈ L0 ∨ z0 ≤ a := fun a z => Or.inl (by rw [hL0]; exact z)
  refine cw_start rfl (by decide +kernel) (Nat.le_of_ble_eq_true rfl) (fun p e9 s m below meth c F hr hlocks hK hz H locs hP hS hz9 ls hl => ?_)
  have hl : lv_has ls 6 [(0, .ref (u 30)), (1, .int (nI f)), (2, .int (nI ck)), (3, .int (nI fo))] := hl
  have hx := F.1
  have hb := F.2.1
  have hinV : ∀ w ∈ wsX00, w ∈ wsX3_writeKeeps := by decide +kernel
  have hinO : ∀ w ∈ wsX30, w ∈ wsX3_writeKeeps := by decide +kernel
  have hinK : ∀ w ∈ wsX20, w ∈ wsX3_writeKeeps := by decide +kernel
  have hinW : ∀ w ∈ wsX10, w ∈ wsX3_writeKeeps := by decide +kernel
  refine lv_aload_n hx hb dX3_writeKeeps_0 rfl (lv_at hl 0 rfl) ?_
  refine lv_iload_n hx hb dX3_writeKeeps_1 rfl (lv_at hl 2 rfl) ?_
  refine lv_iload_n hx hb dX3_writeKeeps_2 rfl (lv_at hl 3 rfl) ?_
  refine ro_callV F hK [.int (nI ck), .int (nI fo)] (cc_X3_keepable (cPv hP) (cPc hP) ck fo (by first | assumption | omega) (by first | assumption | omega) (by first | assumption | omega)) (cwV 2 F.2.2.2.2 gX3_writeKeeps_X3_keepable rfl rfl rfl (by decide +kernel) ⟨Nat.le_of_ble_eq_true rfl, Nat.le_of_ble_eq_true rfl⟩) (og_rc hK (cPc hP)) rfl hl.1 rfl (lv_room (Nat.le_of_ble_eq_true rfl)) ⟨by first | exact Nat.le_of_ble_eq_true rfl | (have z : k2 ≤ 5 := (by omega); exact z), by first | exact Nat.le_of_ble_eq_true rfl | (have z : 10 * k2 ≤ 50 := (by omega); exact z)⟩ dX3_writeKeeps_3 ?_
  refine lv_istore (lv' := [(4, .int (cKeepable V b ck fo)), (0, .ref (u 30)), (1, .int (nI f)), (2, .int (nI ck)), (3, .int (nI fo))]) hx hb dX3_writeKeeps_6 hl (by decide) rfl (fun ls hl => ?_)
  refine lv_iload_n hx hb dX3_writeKeeps_8 rfl (lv_at hl 4 rfl) ?_
  refine lv_istore (lv' := [(5, .int (nI fo)), (4, .int (cKeepable V b ck fo)), (0, .ref (u 30)), (1, .int (nI f)), (2, .int (nI ck)), (3, .int (nI fo))]) hx hb dX3_writeKeeps_9 hl (by decide) rfl (fun ls hl => ?_)
  have L11_u_1 : ∀ (k9u_1 : Nat) (L2 : List Nat) (w2 : Nat → Nat → Int32) (nx2 : Nat → Option Nat) (c2 : Int32) (lf : Int32) (t : Nat) (j : Nat) (mm : Nat) (k2 : Nat) (H : Heap) (locs : List Loc) (ls : Array Slot), 5 - j < k9u_1 → t = fo + 8 * j → j + mm = 5 → k2 ≤ j → (cAd u ++ L2).Nodup → (∀ a, a ∈ L2 → a ∈ L0 ∨ z0 ≤ a) → chn nx2 L2 → wkG V f ck fo mm j lf c2 (L2.map w2) = wkF V b f ck fo (b 10 f) (L.map w) → va_P D vwCl (cW u cI cII V pq sp cn (L2.head?) L2.length (upA b 10 f c2) L2 w2 nx2) H → va_S (cG u L0 z0) s.heap H locs → lv_has ls 6 [(5, .int (nI t)), (4, .int lf), (0, .ref (u 30)), (1, .int (nI f)), (2, .int (nI ck)), (3, .int (nI fo))] → cwW p l e9 3 5 50 69 s m [.ref (u 30), .int (nI f), .int (nI ck), .int (nI fo)] below meth c H locs k2 (10 * k2) D u cI cII z0 L0 kV (aSt u L z0 V pq sp cn (upA b 10 f (wkF V b f ck fo (b 10 f) (L.map w)).1) (wkF V b f ck fo (b 10 f) (L.map w)).2) (F0 m 11 ls []) := by
    intro k9u_1
    induction k9u_1 with
    | zero => intro L2 w2 nx2 c2 lf t j mm k2 H locs ls hk; exact absurd hk (Nat.not_lt_zero _)
    | succ k9u_1 ihu_1 =>
      intro L2 w2 nx2 c2 lf t j mm k2 H locs ls hk ht hm hk2 hN hLz hch hf hP hS hl
      refine lv_iload hx hb dX3_writeKeeps_11 (lv_at hl 0 rfl) ?_
      refine lv_bipush (v := 40) hx hb dX3_writeKeeps_13 (by decide) ?_
      refine lw_ge (tgt := 54) hx hb t 40 (by omega) (by omega) dX3_writeKeeps_15 (by decide) (fun c_2 => ?_) (fun c_2 => ?_)
      · skip
        exact cw_retv F hr hlocks hP hS ((by have hf9 : wkF V b f ck fo (b 10 f) (L.map w) = (c2, L2.map w2) := (by rw [← hf]; obtain rfl : mm = 0 := (by omega); rfl); rw [hf9]; exact ⟨rfl, rfl, rfl, rfl, rfl, rfl, rfl, rfl, hch, hN, fun x hx => hL0 ▸ hLz x hx⟩)) (by omega) (by omega) dX3_writeKeeps_54
      · skip
        refine lv_iload hx hb dX3_writeKeeps_18 (lv_at hl 1 rfl) ?_
        refine lv_if_le (tgt := 54) hx hb dX3_writeKeeps_20 (by decide) (fun c_3 => ?_) (fun c_3 => ?_)
        · skip
          exact cw_retv F hr hlocks hP hS ((by have hf9 : wkF V b f ck fo (b 10 f) (L.map w) = (c2, L2.map w2) := (by rw [← hf]; cases mm with | zero => rfl | succ m9 => simp [wkG, Int32.not_lt.mpr c_3]); rw [hf9]; exact ⟨rfl, rfl, rfl, rfl, rfl, rfl, rfl, rfl, hch, hN, fun x hx => hL0 ▸ hLz x hx⟩)) (by omega) (by omega) dX3_writeKeeps_54
        · skip
          have hlf : 0 < lf := Int32.not_le.mp c_3
          refine lv_aload_n hx hb dX3_writeKeeps_23 rfl (lv_at hl 2 rfl) ?_
          refine og_get F hK hinO (cPc hP) 1 (by decide) (by decide +kernel) rfl dX3_writeKeeps_24 ?_
          refine lv_iload hx hb dX3_writeKeeps_27 (lv_at hl 0 rfl) ?_
          refine ro_callV F hK [.int (nI t)] (cc_X0_isFree (cPv hP) t (by first | assumption | omega)) (cwV 1 F.2.2.2.2 gX3_writeKeeps_X0_isFree rfl rfl rfl (by decide +kernel) ⟨Nat.le_of_ble_eq_true rfl, Nat.le_of_ble_eq_true rfl⟩) (vg_rc hK (cPv hP)) rfl hl.1 rfl (lv_room (Nat.le_of_ble_eq_true rfl)) ⟨by first | exact Nat.le_of_ble_eq_true rfl | (have z : k2 ≤ 5 := (by omega); exact z), by first | exact Nat.le_of_ble_eq_true rfl | (have z : 10 * k2 ≤ 50 := (by omega); exact z)⟩ dX3_writeKeeps_29 ?_
          refine lw_beq (tgt := 48) hx hb dX3_writeKeeps_32 (by decide) (fun c_4 => ?_) (fun c_4 => ?_)
          · skip
            refine lv_iinc (v := nI (t + 8)) (lv' := [(5, .int (nI (t + 8))), (4, .int lf), (0, .ref (u 30)), (1, .int (nI f)), (2, .int (nI ck)), (3, .int (nI fo))]) hx hb dX3_writeKeeps_48 hl (k := 0) rfl (show nI t + Int32.ofInt 8 = _ from nI_add t 8) (by decide) rfl (fun ls hl => ?_)
            refine lv_goto (tgt := 11) hx hb dX3_writeKeeps_51 (by decide) ?_
            exact ihu_1  L2 w2 nx2 c2 lf (t + 8) (j + 1) (mm - 1) k2 _ _ ls (by omega) (by first | omega | assumption) (by first | omega | assumption) (by first | omega | assumption) (hN) (hLz) (hch) (by rw [← hf]; obtain ⟨m9, rfl⟩ : ∃ m9, mm = m9 + 1 := ⟨mm - 1, by omega⟩; subst ht; simp [wkG, c_2, c_3, hlf, c_4]) hP hS (lv_sub hl [0, 1, 2, 3, 4, 5] rfl)
          · skip
            refine lv_aload_n hx hb dX3_writeKeeps_35 rfl (lv_at hl 2 rfl) ?_
            refine lv_iload_n hx hb dX3_writeKeeps_36 rfl (lv_at hl 3 rfl) ?_
            refine lv_iconst (v := 4) hx hb dX3_writeKeeps_37 (by decide) ?_
            refine lv_iload hx hb dX3_writeKeeps_38 (lv_at hl 0 rfl) ?_
            refine lv_iload_n hx hb dX3_writeKeeps_40 rfl (lv_at hl 4 rfl) ?_
            have hzo_w_5 : z0 ≤ Array.size H := Nat.le_trans (Nat.le_of_eq hz.symm) hS.1
            refine cw_callV F hK [.int (nI f), .int 4, .int (nI t), .int (nI ck)] (cc_X3_write hN f 4 (nI t) (nI ck) (by first | assumption | omega) (by first | assumption | omega) (rfl)) (cwV 4 F.2.2.2.2 gX3_writeKeeps_X3_write rfl rfl rfl (by decide +kernel) ⟨Nat.le_of_ble_eq_true rfl, Nat.le_of_ble_eq_true rfl⟩) (og_rc hK (cPc hP)) hP hS (cG_sub hLz (Nat.le_trans (Nat.le_of_eq hz.symm) hS.1)) rfl hl.1 rfl (lv_room (Nat.le_of_ble_eq_true rfl)) ⟨by have z : k2 + 1 ≤ 5 := (by omega); exact z, by have z : 10 * k2 + 10 ≤ 50 := (by omega); exact z⟩ dX3_writeKeeps_41 (fun r_w_5 ra_w_5 V_w_5 pc_w_5 sp_w_5 cc_w_5 e_w_5 sz_w_5 b_w_5 L_w_5 w_w_5 nx_w_5 H locs hp_w_5 hP hsz_w_5 hfr_w_5 hS => ?_)
            obtain ⟨e2_w_5, e3_w_5, e4_w_5, e5_w_5, e6_w_5, e7_w_5, e8_w_5, hw_w_5, hL_w_5, hch_w_5, hN_w_5, hra_w_5, hrz_w_5⟩ := hp_w_5
            rw [e2_w_5, e3_w_5, e4_w_5, e5_w_5, e6_w_5, e7_w_5, e8_w_5] at hP
            have hmem_w_5 : ra_w_5 ∈ L_w_5 := by rw [hL_w_5]; exact (insL_mem _ _ _ _).mpr (Or.inl rfl)
            rw [upA_s] at hw_w_5 hP
            rw [upA_tw] at hP
            have hws_w_5 : L_w_5.map w_w_5 = insA (mkW 4 (c2 + 1) (nI f) (nI t) (nI ck)) (L2.map w2) := by rw [hL_w_5, hw_w_5]; exact (insA_map hra_w_5).trans (congrArg (insA _) (rfl))
            have hlen_w_5 : L2.length + 1 = L_w_5.length := by rw [hL_w_5, insL_len]
            rw [hlen_w_5] at hP
            have hLz_w_5 : ∀ a, a ∈ L_w_5 → a ∈ L0 ∨ z0 ≤ a := fun a ha => by rw [hL_w_5] at ha; exact ((insL_mem _ _ _ _).mp ha).elim (fun q => Or.inr (by rw [q]; exact Nat.le_trans hzo_w_5 hrz_w_5)) (hLz a)
            refine lv_pop hx hb dX3_writeKeeps_44 rfl ?_
            refine lv_iinc (v := lf + -1) (lv' := [(4, .int (lf + -1)), (5, .int (nI t)), (0, .ref (u 30)), (1, .int (nI f)), (2, .int (nI ck)), (3, .int (nI fo))]) hx hb dX3_writeKeeps_45 hl (k := 1) rfl rfl (by decide) rfl (fun ls hl => ?_)
            refine lv_iinc (v := nI (t + 8)) (lv' := [(5, .int (nI (t + 8))), (4, .int (lf + -1)), (0, .ref (u 30)), (1, .int (nI f)), (2, .int (nI ck)), (3, .int (nI fo))]) hx hb dX3_writeKeeps_48 hl (k := 1) rfl (show nI t + Int32.ofInt 8 = _ from nI_add t 8) (by decide) rfl (fun ls hl => ?_)
            refine lv_goto (tgt := 11) hx hb dX3_writeKeeps_51 (by decide) ?_
            exact ihu_1  L_w_5 w_w_5 nx_w_5 (c2 + 1) (lf + -1) (t + 8) (j + 1) (mm - 1) (k2 + 1) _ _ ls (by omega) (by first | omega | assumption) (by first | omega | assumption) (by first | omega | assumption) (hN_w_5) (hLz_w_5) (hch_w_5) (by rw [← hf]; obtain ⟨m9, rfl⟩ : ∃ m9, mm = m9 + 1 := ⟨mm - 1, by omega⟩; rw [hws_w_5]; subst ht; simp [wkG, c_2, c_3, hlf, c_4]) hP hS (lv_sub hl [0, 1, 2, 3, 4, 5] rfl)
  exact L11_u_1 _ L w nx (b 10 f) (cKeepable V b ck fo) fo 0 5 0 _ _ ls (Nat.lt_succ_self _) (by first | omega | assumption) (by first | omega | assumption) (by first | omega | assumption) (hN) (hLz) (hch) (rfl) (by rw [upA_self, ← he, ← hsz]; exact hP) hS (lv_sub hl [0, 1, 2, 3, 4, 5] rfl)
