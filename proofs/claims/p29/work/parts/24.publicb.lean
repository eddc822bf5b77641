/-! meet, guest, missing, keep, bake -/
theorem upW_st (w : Nat → Nat → Int32) (a k : Nat) (x : Nat → Int32) (v : Int32) : upW (stW w a x) a k v = stW w a (upd x k v) := by
  funext z; simp only [upW, stW]; split
  · rename_i h; simp
  · rfl
theorem insL_cg {w : Nat → Nat → Int32} {a : Nat} {x y : Nat → Int32} (h1 : x 1 = y 1) (h2 : x 2 = y 2) : ∀ {L : List Nat}, a ∉ L → insL (stW w a x) a L = insL (stW w a y) a L
  | [], _ => rfl
  | z :: M, h => by
    have hz : z ≠ a := fun q => h (by rw [q]; exact List.mem_cons_self)
    have e1 : ∀ v, stW w a v z = w z := fun v => by simp [stW, hz]
    have e2 : ∀ v, stW w a v a = v := fun v => by simp [stW]
    unfold insL
    rw [e1, e1, e2, e2, insL_cg h1 h2 (fun q => h (List.mem_cons_of_mem _ q))]
    have e3 : wLater x (w z) = wLater y (w z) := by simp only [wLater, h1, h2]
    rw [e3]
theorem guest_map {w w1 : Nat → Nat → Int32} {a : Nat} {x : Nat → Int32} {x5 x6 x7 : Int32} {L L1 : List Nat} (ha : a ∉ L) (hw : w1 = stW w a x) (hL : L1 = insL w1 a L) : L1.map (stW w a (upd (upd (upd x 5 x5) 6 x6) 7 x7)) = insA (upd (upd (upd x 5 x5) 6 x6) 7 x7) (L.map w) := by
  rw [hL, hw, insL_cg (y := upd (upd (upd x 5 x5) 6 x6) 7 x7) (by simp [upd]) (by simp [upd]) ha, insA_map ha]
def shOne (fr : Int32) (x : Nat → Int32) : Nat → Int32 := if x 8 &&& fr = 0 then x else if x 8 &&& fr = fr then x else upd x 8 (x 8 ||| fr)
def shN (fr : Int32) : List (Nat → Int32) → Nat
  | [] => 0
  | x :: M => (if x 8 &&& fr = 0 then 0 else if x 8 &&& fr = fr then 0 else 1) + shN fr M
theorem shF_out {fr : Int32} : ∀ {L : List Nat} {y : Nat} {w : Nat → Nat → Int32} {z : Nat}, z ∉ L → (shF fr L (y, w)).2 z = w z
  | [], _, _, _, _ => rfl
  | x :: M, y, w, z, h => by
    have hz : z ≠ x := fun q => h (by rw [q]; exact List.mem_cons_self)
    have hm : z ∉ M := fun q => h (List.mem_cons_of_mem _ q)
    unfold shF
    dsimp only
    split
    · exact shF_out hm
    · split
      · exact shF_out hm
      · rw [shF_out hm]; simp [upW, hz]
theorem shF_A {fr : Int32} : ∀ {L : List Nat} {y : Nat} {w : Nat → Nat → Int32}, L.Nodup → (shF fr L (y, w)).1 = y + shN fr (L.map w) ∧ L.map (shF fr L (y, w)).2 = (L.map w).map (shOne fr)
  | [], _, _, _ => ⟨rfl, rfl⟩
  | x :: M, y, w, h => by
    obtain ⟨hx, hM⟩ := List.nodup_cons.mp h
    have hmap : ∀ v, M.map (upW w x 8 v) = M.map w := fun v => List.map_congr_left (fun z hz => by simp [upW, show z ≠ x from fun q => hx (q ▸ hz)])
    unfold shF
    dsimp only
    rw [List.map_cons, List.map_cons, List.map_cons]
    show _ ∧ _ = shOne fr (w x) :: _
    unfold shOne shN
    split
    · obtain ⟨a1, a2⟩ := shF_A (fr := fr) (y := y) (w := w) hM
      exact ⟨by rw [a1]; omega, by rw [a2, shF_out hx]; rfl⟩
    · split
      · obtain ⟨a1, a2⟩ := shF_A (fr := fr) (y := y) (w := w) hM
        exact ⟨by rw [a1]; omega, by rw [a2, shF_out hx]; rfl⟩
      · obtain ⟨a1, a2⟩ := shF_A (fr := fr) (y := y + 1) (w := upW w x 8 (w x 8 ||| fr)) hM
        rw [hmap] at a1 a2
        exact ⟨by rw [a1]; omega, by rw [a2, shF_out hx]; simp [upW, shOne]⟩
def cmStep (V b : Nat → Nat → Int32) (o i : Nat) (y : Int32) : Int32 := if V 6 i = 1 then y + b (20 + jn (b 11 i)) o else y
def msF (V b : Nat → Nat → Int32) (cn o : Nat) : Int32 := if 0 < foldU (cmStep V b o) 0 cn - nI (vSome V o) then foldU (cmStep V b o) 0 cn - nI (vSome V o) else 0
def ckpStep (V b : Nat → Nat → Int32) (k i : Nat) (y : Int32) : Int32 := y + cKeepable V b k i
def kwStep (V b : Nat → Nat → Int32) (f k i : Nat) (z : Int32 × List (Nat → Int32)) : Int32 × List (Nat → Int32) := wkF V b f k i z.1 z.2
def kwF (V b : Nat → Nat → Int32) (f k : Nat) (ws : List (Nat → Int32)) (i : Nat) : Int32 × List (Nat → Int32) := foldU (kwStep V b f k) (b 10 f, ws) i
def blP (V b : Nat → Nat → Int32) (k i : Nat) : Bool := decide (0 < cLack V b k i)
def blF (V b : Nat → Nat → Int32) (k : Nat) : Bool := foldU (fun i x => x || blP V b k i) false 8
def bkStep (V : Nat → Nat → Int32) (f k i : Nat) (z : Int32 × List (Nat → Int32)) : Int32 × List (Nat → Int32) := if V 2 i = nI k then (z.1 + 1, insA (mkW 1 (z.1 + 1) (nI f) (nI i) (nI k)) z.2) else z
def bkF (V b : Nat → Nat → Int32) (f k : Nat) (ws : List (Nat → Int32)) (i : Nat) : Int32 × List (Nat → Int32) := foldU (bkStep V f k) (b 10 f, ws) i
theorem cLack_up (V b : Nat → Nat → Int32) (f : Nat) (c : Int32) (k fo : Nat) : cLack V (upA b 10 f c) k fo = cLack V b k fo := by
  unfold cLack
  rw [upA_k (k := 10) (z := 11) (by omega), upA_k (k := 10) (z := 20 + jn (b 11 k)) (by omega)]
theorem wkF_up (V b : Nat → Nat → Int32) (g : Nat) (x : Int32) (f ck fo : Nat) (c : Int32) (ws : List (Nat → Int32)) : wkF V (upA b 10 g x) f ck fo c ws = wkF V b f ck fo c ws := by
  unfold wkF cKeepable; rw [cLack_up]
def cGuest (cs : CS) (f : Int32) (o : Int32) (x1 : Int32) (x2 : Int32) (x3 : Int32) : OP :=
  if nOk f 5 = false then (1, 0, cs) else if nOk o 8 = false then (1, 0, cs) else if rOk x1 0 99 = false then (2, 0, cs) else if rOk x2 x1 99 = false then (2, 0, cs) else if rOk x3 0 255 = false then (2, 0, cs) else if roomOk cs.2.2.length 1 = false then (3, 0, cs) else (0, cs.1 10 (jn f) + 1, (upA cs.1 10 (jn f) (cs.1 10 (jn f) + 1), cs.2.1, insA (upd (upd (upd (mkW 2 (cs.1 10 (jn f) + 1) f o (-1)) 5 x1) 6 x2) 7 x3) cs.2.2))
set_option maxHeartbeats 4000000 in
set_option maxRecDepth 100000 in
theorem cc_X3_guest {l : Launch} (hfl : l.stackTraces = false) {D : va_G} {cI cII : ClassId} {sa : Nat → Nat} {u : Nat → Nat} {V : Nat → Nat → Int32} {pq sp : Int32} {cn : Nat} {e : Option Nat} {sz : Nat} {b : Nat → Nat → Int32} {L : List Nat} {w : Nat → Nat → Int32} {nx : Nat → Option Nat} {z0 : Nat} (hN : (cAd u ++ L).Nodup) (f : Int32) (o : Int32) (x1 : Int32) (x2 : Int32) (x3 : Int32) (hch : chn nx L) (he : e = L.head?) (hsz : sz = L.length) (hok : ∀ x, x ∈ L → okW (w x)) (hcn : cn ≤ 20) (hrc : ∀ k, k < cn → ∃ r, r < 6 ∧ b 11 k = nI r) : xc_Met l yX3_guest wsX3_guest 7 7 46 112 D u cI cII sa z0 L (cW u cI cII V pq sp cn e sz b L w nx) [.ref (u 30), .int f, .int o, .int x1, .int x2, .int x3] kI (pPost u L z0 (cGuest (b, cn, List.map w L) f o x1 x2 x3)) (pPX u L z0 (cGuest (b, cn, List.map w L) f o x1 x2 x3)) := by
  suffices h9 : ∀ L0, L0 = L → xc_Met l yX3_guest wsX3_guest 7 7 46 112 D u cI cII sa z0 L0 (cW u cI cII V pq sp cn e sz b L w nx) [.ref (u 30), .int f, .int o, .int x1, .int x2, .int x3] kI (pPost u L z0 (cGuest (b, cn, List.map w L) f o x1 x2 x3)) (pPX u L z0 (cGuest (b, cn, List.map w L) f o x1 x2 x3)) by exact h9 _ rfl
  intro L0 hL0
  have hLz : ∀ a, a ∈ L → a ∈ L0 ∨ z0 ≤ a := fun a z => Or.inl (by rw [hL0]; exact z)
  refine xc_start rfl (by decide +kernel) (Nat.le_of_ble_eq_true rfl) (fun p e9 s m below meth c F hr hlocks hK hz H locs hP hS hz9 hX hout ls hl => ?_)
  have hl : lv_has ls 7 [(0, .ref (u 30)), (1, .int f), (2, .int o), (3, .int x1), (4, .int x2), (5, .int x3)] := hl
  have hx := F.1
  have hb := F.2.1
  have hinO : ∀ w ∈ wsX30, w ∈ wsX3_guest := by decide +kernel
  have hinK : ∀ w ∈ wsX20, w ∈ wsX3_guest := by decide +kernel
  have hinW : ∀ w ∈ wsX10, w ∈ wsX3_guest := by decide +kernel
  refine lv_iload_n hx hb dX3_guest_0 rfl (lv_at hl 1 rfl) ?_
  refine lv_iconst (v := 5) hx hb dX3_guest_1 (by decide) ?_
  refine xc_callS F hK hX (Nat.le_trans (Nat.le_of_eq hz.symm) hS.1) [.int f, .int 5] (cc_X3_checkNumber hfl hN f 5 ) (va_cwS 2 F.2.2.2.2 gX3_guest_X3_checkNumber rfl rfl rfl (by decide +kernel) ⟨Nat.le_of_ble_eq_true rfl, Nat.le_of_ble_eq_true rfl⟩) hP hS (cG_sub hLz (Nat.le_trans (Nat.le_of_eq hz.symm) hS.1)) hout hlocks (fun E9 V9 pq9 sp9 cn9 e9' sz9 b9 L9 w9 nx9 h9 => pPX_of (b, cn, List.map w L) 1 (by simp [cGuest, cWr, ← hsz, h9.2.1]) (by decide) h9.1 (aS_of h9.2.2 ⟨rfl, rfl, rfl, he, hsz, hch, hN, fun x hx => hL0 ▸ hLz x hx⟩)) rfl hl.1 rfl (lv_room (Nat.le_of_ble_eq_true rfl)) ⟨(Nat.le_of_ble_eq_true rfl), (Nat.le_of_ble_eq_true rfl)⟩ (Nat.le_of_ble_eq_true rfl) (Nat.le_of_ble_eq_true rfl) dX3_guest_2 (fun r_w_1 ra_w_1 V_w_1 pc_w_1 sp_w_1 cc_w_1 e_w_1 sz_w_1 b_w_1 L_w_1 w_w_1 nx_w_1 H locs hp_w_1 hP hsz_w_1 hfr_w_1 hS => ?_)
  obtain ⟨hb_w_1, -, e2_w_1, e3_w_1, e4_w_1, e5_w_1, e6_w_1, e7_w_1, e8_w_1, e9_w_1, e10_w_1, e11_w_1⟩ := hp_w_1
  rw [e2_w_1, e3_w_1, e4_w_1, e5_w_1, e6_w_1, e7_w_1, e8_w_1, e9_w_1, e10_w_1, e11_w_1] at hP
  obtain ⟨jf, hjf, rfl⟩ := nOk_nat (k := 5) (by omega) rfl hb_w_1
  have njf : jn (nI jf) = jf := jn_nI (by omega)
  refine lv_iload_n hx hb dX3_guest_5 rfl (lv_at hl 2 rfl) ?_
  refine lv_bipush (v := 8) hx hb dX3_guest_6 (by decide) ?_
  refine xc_callS F hK hX (Nat.le_trans (Nat.le_of_eq hz.symm) hS.1) [.int o, .int 8] (cc_X3_checkNumber hfl hN o 8 ) (va_cwS 2 F.2.2.2.2 gX3_guest_X3_checkNumber rfl rfl rfl (by decide +kernel) ⟨Nat.le_of_ble_eq_true rfl, Nat.le_of_ble_eq_true rfl⟩) hP hS (cG_sub hLz (Nat.le_trans (Nat.le_of_eq hz.symm) hS.1)) hout hlocks (fun E9 V9 pq9 sp9 cn9 e9' sz9 b9 L9 w9 nx9 h9 => pPX_of (b, cn, List.map w L) 1 (by simp [cGuest, cWr, hb_w_1, njf, ← hsz, h9.2.1]) (by decide) h9.1 (aS_of h9.2.2 ⟨rfl, rfl, rfl, he, hsz, hch, hN, fun x hx => hL0 ▸ hLz x hx⟩)) rfl hl.1 rfl (lv_room (Nat.le_of_ble_eq_true rfl)) ⟨(Nat.le_of_ble_eq_true rfl), (Nat.le_of_ble_eq_true rfl)⟩ (Nat.le_of_ble_eq_true rfl) (Nat.le_of_ble_eq_true rfl) dX3_guest_8 (fun r_w_2 ra_w_2 V_w_2 pc_w_2 sp_w_2 cc_w_2 e_w_2 sz_w_2 b_w_2 L_w_2 w_w_2 nx_w_2 H locs hp_w_2 hP hsz_w_2 hfr_w_2 hS => ?_)
  obtain ⟨hb_w_2, -, e2_w_2, e3_w_2, e4_w_2, e5_w_2, e6_w_2, e7_w_2, e8_w_2, e9_w_2, e10_w_2, e11_w_2⟩ := hp_w_2
  rw [e2_w_2, e3_w_2, e4_w_2, e5_w_2, e6_w_2, e7_w_2, e8_w_2, e9_w_2, e10_w_2, e11_w_2] at hP
  obtain ⟨jo, hjo, rfl⟩ := nOk_nat (k := 8) (by omega) rfl hb_w_2
  have njo : jn (nI jo) = jo := jn_nI (by omega)
  refine lv_iload_n hx hb dX3_guest_11 rfl (lv_at hl 3 rfl) ?_
  refine lv_iconst (v := 0) hx hb dX3_guest_12 (by decide) ?_
  refine lv_bipush (v := 99) hx hb dX3_guest_13 (by decide) ?_
  refine xc_callS F hK hX (Nat.le_trans (Nat.le_of_eq hz.symm) hS.1) [.int x1, .int 0, .int 99] (cc_X3_checkRange hfl hN x1 0 99 ) (va_cwS 3 F.2.2.2.2 gX3_guest_X3_checkRange rfl rfl rfl (by decide +kernel) ⟨Nat.le_of_ble_eq_true rfl, Nat.le_of_ble_eq_true rfl⟩) hP hS (cG_sub hLz (Nat.le_trans (Nat.le_of_eq hz.symm) hS.1)) hout hlocks (fun E9 V9 pq9 sp9 cn9 e9' sz9 b9 L9 w9 nx9 h9 => pPX_of (b, cn, List.map w L) 2 (by simp [cGuest, cWr, hb_w_1, njf, hb_w_2, njo, ← hsz, h9.2.1]) (by decide) h9.1 (aS_of h9.2.2 ⟨rfl, rfl, rfl, he, hsz, hch, hN, fun x hx => hL0 ▸ hLz x hx⟩)) rfl hl.1 rfl (lv_room (Nat.le_of_ble_eq_true rfl)) ⟨(Nat.le_of_ble_eq_true rfl), (Nat.le_of_ble_eq_true rfl)⟩ (Nat.le_of_ble_eq_true rfl) (Nat.le_of_ble_eq_true rfl) dX3_guest_15 (fun r_w_3 ra_w_3 V_w_3 pc_w_3 sp_w_3 cc_w_3 e_w_3 sz_w_3 b_w_3 L_w_3 w_w_3 nx_w_3 H locs hp_w_3 hP hsz_w_3 hfr_w_3 hS => ?_)
  obtain ⟨hb_w_3, -, e2_w_3, e3_w_3, e4_w_3, e5_w_3, e6_w_3, e7_w_3, e8_w_3, e9_w_3, e10_w_3, e11_w_3⟩ := hp_w_3
  rw [e2_w_3, e3_w_3, e4_w_3, e5_w_3, e6_w_3, e7_w_3, e8_w_3, e9_w_3, e10_w_3, e11_w_3] at hP
  refine lv_iload hx hb dX3_guest_18 (lv_at hl 4 rfl) ?_
  refine lv_iload_n hx hb dX3_guest_20 rfl (lv_at hl 3 rfl) ?_
  refine lv_bipush (v := 99) hx hb dX3_guest_21 (by decide) ?_
  refine xc_callS F hK hX (Nat.le_trans (Nat.le_of_eq hz.symm) hS.1) [.int x2, .int x1, .int 99] (cc_X3_checkRange hfl hN x2 x1 99 ) (va_cwS 3 F.2.2.2.2 gX3_guest_X3_checkRange rfl rfl rfl (by decide +kernel) ⟨Nat.le_of_ble_eq_true rfl, Nat.le_of_ble_eq_true rfl⟩) hP hS (cG_sub hLz (Nat.le_trans (Nat.le_of_eq hz.symm) hS.1)) hout hlocks (fun E9 V9 pq9 sp9 cn9 e9' sz9 b9 L9 w9 nx9 h9 => pPX_of (b, cn, List.map w L) 2 (by simp [cGuest, cWr, hb_w_1, njf, hb_w_2, njo, hb_w_3, ← hsz, h9.2.1]) (by decide) h9.1 (aS_of h9.2.2 ⟨rfl, rfl, rfl, he, hsz, hch, hN, fun x hx => hL0 ▸ hLz x hx⟩)) rfl hl.1 rfl (lv_room (Nat.le_of_ble_eq_true rfl)) ⟨(Nat.le_of_ble_eq_true rfl), (Nat.le_of_ble_eq_true rfl)⟩ (Nat.le_of_ble_eq_true rfl) (Nat.le_of_ble_eq_true rfl) dX3_guest_23 (fun r_w_4 ra_w_4 V_w_4 pc_w_4 sp_w_4 cc_w_4 e_w_4 sz_w_4 b_w_4 L_w_4 w_w_4 nx_w_4 H locs hp_w_4 hP hsz_w_4 hfr_w_4 hS => ?_)
  obtain ⟨hb_w_4, -, e2_w_4, e3_w_4, e4_w_4, e5_w_4, e6_w_4, e7_w_4, e8_w_4, e9_w_4, e10_w_4, e11_w_4⟩ := hp_w_4
  rw [e2_w_4, e3_w_4, e4_w_4, e5_w_4, e6_w_4, e7_w_4, e8_w_4, e9_w_4, e10_w_4, e11_w_4] at hP
  refine lv_iload hx hb dX3_guest_26 (lv_at hl 5 rfl) ?_
  refine lv_iconst (v := 0) hx hb dX3_guest_28 (by decide) ?_
  refine lv_sipush (v := 255) hx hb dX3_guest_29 (by decide) ?_
  refine xc_callS F hK hX (Nat.le_trans (Nat.le_of_eq hz.symm) hS.1) [.int x3, .int 0, .int 255] (cc_X3_checkRange hfl hN x3 0 255 ) (va_cwS 3 F.2.2.2.2 gX3_guest_X3_checkRange rfl rfl rfl (by decide +kernel) ⟨Nat.le_of_ble_eq_true rfl, Nat.le_of_ble_eq_true rfl⟩) hP hS (cG_sub hLz (Nat.le_trans (Nat.le_of_eq hz.symm) hS.1)) hout hlocks (fun E9 V9 pq9 sp9 cn9 e9' sz9 b9 L9 w9 nx9 h9 => pPX_of (b, cn, List.map w L) 2 (by simp [cGuest, cWr, hb_w_1, njf, hb_w_2, njo, hb_w_3, hb_w_4, ← hsz, h9.2.1]) (by decide) h9.1 (aS_of h9.2.2 ⟨rfl, rfl, rfl, he, hsz, hch, hN, fun x hx => hL0 ▸ hLz x hx⟩)) rfl hl.1 rfl (lv_room (Nat.le_of_ble_eq_true rfl)) ⟨(Nat.le_of_ble_eq_true rfl), (Nat.le_of_ble_eq_true rfl)⟩ (Nat.le_of_ble_eq_true rfl) (Nat.le_of_ble_eq_true rfl) dX3_guest_32 (fun r_w_5 ra_w_5 V_w_5 pc_w_5 sp_w_5 cc_w_5 e_w_5 sz_w_5 b_w_5 L_w_5 w_w_5 nx_w_5 H locs hp_w_5 hP hsz_w_5 hfr_w_5 hS => ?_)
  obtain ⟨hb_w_5, -, e2_w_5, e3_w_5, e4_w_5, e5_w_5, e6_w_5, e7_w_5, e8_w_5, e9_w_5, e10_w_5, e11_w_5⟩ := hp_w_5
  rw [e2_w_5, e3_w_5, e4_w_5, e5_w_5, e6_w_5, e7_w_5, e8_w_5, e9_w_5, e10_w_5, e11_w_5] at hP
  refine lv_aload_n hx hb dX3_guest_35 rfl (lv_at hl 0 rfl) ?_
  refine lv_iconst (v := 1) hx hb dX3_guest_36 (by decide) ?_
  refine xc_callV F hK hX (Nat.le_trans (Nat.le_of_eq hz.symm) hS.1) [.int 1] (cc_X3_checkRoomFor hfl hN 1 ) (cwV 1 F.2.2.2.2 gX3_guest_X3_checkRoomFor rfl rfl rfl (by decide +kernel) ⟨Nat.le_of_ble_eq_true rfl, Nat.le_of_ble_eq_true rfl⟩) (og_rc hK (cPc hP)) hP hS (cG_sub hLz (Nat.le_trans (Nat.le_of_eq hz.symm) hS.1)) hout hlocks (fun E9 V9 pq9 sp9 cn9 e9' sz9 b9 L9 w9 nx9 h9 => pPX_of (b, cn, List.map w L) 3 (by simp [cGuest, cWr, hb_w_1, njf, hb_w_2, njo, hb_w_3, hb_w_4, hb_w_5, ← hsz, h9.2.1]) (by decide) h9.1 (aS_of h9.2.2 ⟨rfl, rfl, rfl, he, hsz, hch, hN, fun x hx => hL0 ▸ hLz x hx⟩)) rfl hl.1 rfl (lv_room (Nat.le_of_ble_eq_true rfl)) ⟨(Nat.le_of_ble_eq_true rfl), (Nat.le_of_ble_eq_true rfl)⟩ (Nat.le_of_ble_eq_true rfl) (Nat.le_of_ble_eq_true rfl) dX3_guest_37 (fun r_w_6 ra_w_6 V_w_6 pc_w_6 sp_w_6 cc_w_6 e_w_6 sz_w_6 b_w_6 L_w_6 w_w_6 nx_w_6 H locs hp_w_6 hP hsz_w_6 hfr_w_6 hS => ?_)
  obtain ⟨hb_w_6, -, e2_w_6, e3_w_6, e4_w_6, e5_w_6, e6_w_6, e7_w_6, e8_w_6, e9_w_6, e10_w_6, e11_w_6⟩ := hp_w_6
  rw [e2_w_6, e3_w_6, e4_w_6, e5_w_6, e6_w_6, e7_w_6, e8_w_6, e9_w_6, e10_w_6, e11_w_6] at hP
  refine lv_aload_n hx hb dX3_guest_40 rfl (lv_at hl 0 rfl) ?_
  refine lv_iload_n hx hb dX3_guest_41 rfl (lv_at hl 1 rfl) ?_
  refine lv_iconst (v := 2) hx hb dX3_guest_42 (by decide) ?_
  refine lv_iload_n hx hb dX3_guest_43 rfl (lv_at hl 2 rfl) ?_
  refine lv_iconst (v := (-1)) hx hb dX3_guest_44 (by decide) ?_
  have hzo_w_7 : z0 ≤ Array.size H := Nat.le_trans (Nat.le_of_eq hz.symm) hS.1
  refine cw_callV F hK [.int (nI jf), .int 2, .int (nI jo), .int (-1)] (cc_X3_write hN jf 2 (nI jo) (-1) (by first | assumption | omega | rfl) (by first | assumption | omega | rfl) (by first | assumption | omega | rfl)) (cwV 4 F.2.2.2.2 gX3_guest_X3_write rfl rfl rfl (by decide +kernel) ⟨Nat.le_of_ble_eq_true rfl, Nat.le_of_ble_eq_true rfl⟩) (og_rc hK (cPc hP)) hP hS (cG_sub hLz (Nat.le_trans (Nat.le_of_eq hz.symm) hS.1)) rfl hl.1 rfl (lv_room (Nat.le_of_ble_eq_true rfl)) ⟨Nat.le_of_ble_eq_true rfl, Nat.le_of_ble_eq_true rfl⟩ dX3_guest_45 (fun r_w_7 ra_w_7 V_w_7 pc_w_7 sp_w_7 cc_w_7 e_w_7 sz_w_7 b_w_7 L_w_7 w_w_7 nx_w_7 H locs hp_w_7 hP hsz_w_7 hfr_w_7 hS => ?_)
  obtain ⟨e2_w_7, e3_w_7, e4_w_7, e5_w_7, e6_w_7, e7_w_7, e8_w_7, hw_w_7, hL_w_7, hch_w_7, hN_w_7, hra_w_7, hrz_w_7⟩ := hp_w_7
  rw [e2_w_7, e3_w_7, e4_w_7, e5_w_7, e6_w_7, e7_w_7, e8_w_7] at hP
  have hmem_w_7 : ra_w_7 ∈ L_w_7 := by rw [hL_w_7]; exact (insL_mem _ _ _ _).mpr (Or.inl rfl)
  have hws_w_7 : L_w_7.map w_w_7 = insA (mkW 2 (b 10 jf + 1) (nI jf) (nI jo) (-1)) (List.map w L) := by rw [hL_w_7, hw_w_7]; exact (insA_map hra_w_7).trans (congrArg (insA _) (rfl))
  have hlen_w_7 : sz + 1 = L_w_7.length := by rw [hL_w_7, insL_len, hsz]
  rw [hlen_w_7] at hP
  have hLz_w_7 : ∀ a, a ∈ L_w_7 → a ∈ L0 ∨ z0 ≤ a := fun a ha => by rw [hL_w_7] at ha; exact ((insL_mem _ _ _ _).mp ha).elim (fun q => Or.inr (by rw [q]; exact Nat.le_trans hzo_w_7 hrz_w_7)) (hLz a)
  have hN := hN_w_7
  have hLz := hLz_w_7
  have hch := hch_w_7
  refine lv_astore (lv' := [(6, .ref ra_w_7), (0, .ref (u 30)), (1, .int (nI jf)), (2, .int (nI jo)), (3, .int x1), (4, .int x2), (5, .int x3)]) hx hb dX3_guest_48 hl (by decide) rfl (fun ls hl => ?_)
  refine lv_aload hx hb dX3_guest_50 (lv_at hl 0 rfl) ?_
  refine lv_iload_n hx hb dX3_guest_52 rfl (lv_at hl 4 rfl) ?_
  refine wp_put F hK hinW hN (cG_in hLz) hP hS hmem_w_7 5 (by decide) (by decide +kernel) rfl rfl dX3_guest_53 (fun H locs hP hS => ?_)
  refine lv_aload hx hb dX3_guest_56 (lv_at hl 0 rfl) ?_
  refine lv_iload hx hb dX3_guest_58 (lv_at hl 5 rfl) ?_
  refine wp_put F hK hinW hN (cG_in hLz) hP hS hmem_w_7 6 (by decide) (by decide +kernel) rfl rfl dX3_guest_60 (fun H locs hP hS => ?_)
  refine lv_aload hx hb dX3_guest_63 (lv_at hl 0 rfl) ?_
  refine lv_iload hx hb dX3_guest_65 (lv_at hl 6 rfl) ?_
  refine wp_put F hK hinW hN (cG_in hLz) hP hS hmem_w_7 7 (by decide) (by decide +kernel) rfl rfl dX3_guest_67 (fun H locs hP hS => ?_)
  have hgw : upW (upW (upW w_w_7 ra_w_7 5 x1) ra_w_7 6 x2) ra_w_7 7 x3 = stW w ra_w_7 (upd (upd (upd (mkW 2 (b 10 jf + 1) (nI jf) (nI jo) (-1)) 5 x1) 6 x2) 7 x3) := by rw [hw_w_7, upW_st, upW_st, upW_st]
  rw [hgw] at hP
  refine lv_aload hx hb dX3_guest_70 (lv_at hl 0 rfl) ?_
  refine wg_get F hK hinW (cPw hP) hmem_w_7 1 (by decide) (by decide +kernel) rfl dX3_guest_72 ?_
  refine vx_ret ?_
  exact cw_reti F hr hlocks hP hS (pPost_of (upA b 10 jf (b 10 jf + 1), cn, insA (upd (upd (upd (mkW 2 (b 10 jf + 1) (nI jf) (nI jo) (-1)) 5 x1) 6 x2) 7 x3) (List.map w L)) (by simp [cGuest, cWr, hb_w_1, njf, hb_w_2, njo, hb_w_3, hb_w_4, hb_w_5, hb_w_6, hw_w_7, stW, mkW, ← hsz, bI, upd]) ⟨rfl, rfl, guest_map hra_w_7 hw_w_7 hL_w_7, rfl, rfl, hch_w_7, hN_w_7, fun x hx => hL0 ▸ hLz_w_7 x hx⟩) (by omega) (by omega) dX3_guest_75
def cMeet (cs : CS) (f : Int32) (o : Int32) : OP :=
  if nOk f 5 = false then (1, 0, cs) else if nOk o 5 = false then (1, 0, cs) else if jn f = jn o then (2, 0, cs) else (0, nI (shN (((1 : Int32) <<< (f &&& 31)) ||| ((1 : Int32) <<< (o &&& 31))) cs.2.2), (upA (upA cs.1 10 (jn f) (if cs.1 10 (jn f) < cs.1 10 (jn o) then cs.1 10 (jn o) else cs.1 10 (jn f))) 10 (jn o) (if cs.1 10 (jn f) < cs.1 10 (jn o) then cs.1 10 (jn o) else cs.1 10 (jn f)), cs.2.1, cs.2.2.map (shOne (((1 : Int32) <<< (f &&& 31)) ||| ((1 : Int32) <<< (o &&& 31))))))
set_option maxHeartbeats 4000000 in
set_option maxRecDepth 100000 in
theorem cc_X3_meet {l : Launch} (hfl : l.stackTraces = false) {D : va_G} {cI cII : ClassId} {sa : Nat → Nat} {u : Nat → Nat} {V : Nat → Nat → Int32} {pq sp : Int32} {cn : Nat} {e : Option Nat} {sz : Nat} {b : Nat → Nat → Int32} {L : List Nat} {w : Nat → Nat → Int32} {nx : Nat → Option Nat} {z0 : Nat} (hN : (cAd u ++ L).Nodup) (f : Int32) (o : Int32) (hch : chn nx L) (he : e = L.head?) (hsz : sz = L.length) (hok : ∀ x, x ∈ L → okW (w x)) (hcn : cn ≤ 20) (hrc : ∀ k, k < cn → ∃ r, r < 6 ∧ b 11 k = nI r) : xc_Met l yX3_meet wsX3_meet 7 3 18 111 D u cI cII sa z0 L (cW u cI cII V pq sp cn e sz b L w nx) [.ref (u 30), .int f, .int o] kI (pPost u L z0 (cMeet (b, cn, List.map w L) f o)) (pPX u L z0 (cMeet (b, cn, List.map w L) f o)) := by
  suffices h9 : ∀ L0, L0 = L → xc_Met l yX3_meet wsX3_meet 7 3 18 111 D u cI cII sa z0 L0 (cW u cI cII V pq sp cn e sz b L w nx) [.ref (u 30), .int f, .int o] kI (pPost u L z0 (cMeet (b, cn, List.map w L) f o)) (pPX u L z0 (cMeet (b, cn, List.map w L) f o)) by exact h9 _ rfl
  intro L0 hL0
  have hLz : ∀ a, a ∈ L → a ∈ L0 ∨ z0 ≤ a := fun a z => Or.inl (by rw [hL0]; exact z)
  refine xc_start rfl (by decide +kernel) (Nat.le_of_ble_eq_true rfl) (fun p e9 s m below meth c F hr hlocks hK hz H locs hP hS hz9 hX hout ls hl => ?_)
  have hl : lv_has ls 4 [(0, .ref (u 30)), (1, .int f), (2, .int o)] := hl
  have hx := F.1
  have hb := F.2.1
  have hinO : ∀ w ∈ wsX30, w ∈ wsX3_meet := by decide +kernel
  have hinK : ∀ w ∈ wsX20, w ∈ wsX3_meet := by decide +kernel
  have hinW : ∀ w ∈ wsX10, w ∈ wsX3_meet := by decide +kernel
  refine lv_iload_n hx hb dX3_meet_0 rfl (lv_at hl 1 rfl) ?_
  refine lv_iconst (v := 5) hx hb dX3_meet_1 (by decide) ?_
  refine xc_callS F hK hX (Nat.le_trans (Nat.le_of_eq hz.symm) hS.1) [.int f, .int 5] (cc_X3_checkNumber hfl hN f 5 ) (va_cwS 2 F.2.2.2.2 gX3_meet_X3_checkNumber rfl rfl rfl (by decide +kernel) ⟨Nat.le_of_ble_eq_true rfl, Nat.le_of_ble_eq_true rfl⟩) hP hS (cG_sub hLz (Nat.le_trans (Nat.le_of_eq hz.symm) hS.1)) hout hlocks (fun E9 V9 pq9 sp9 cn9 e9' sz9 b9 L9 w9 nx9 h9 => pPX_of (b, cn, List.map w L) 1 (by simp [cMeet, cWr, ← hsz, h9.2.1]) (by decide) h9.1 (aS_of h9.2.2 ⟨rfl, rfl, rfl, he, hsz, hch, hN, fun x hx => hL0 ▸ hLz x hx⟩)) rfl hl.1 rfl (lv_room (Nat.le_of_ble_eq_true rfl)) ⟨(Nat.le_of_ble_eq_true rfl), (Nat.le_of_ble_eq_true rfl)⟩ (Nat.le_of_ble_eq_true rfl) (Nat.le_of_ble_eq_true rfl) dX3_meet_2 (fun r_w_1 ra_w_1 V_w_1 pc_w_1 sp_w_1 cc_w_1 e_w_1 sz_w_1 b_w_1 L_w_1 w_w_1 nx_w_1 H locs hp_w_1 hP hsz_w_1 hfr_w_1 hS => ?_)
  obtain ⟨hb_w_1, -, e2_w_1, e3_w_1, e4_w_1, e5_w_1, e6_w_1, e7_w_1, e8_w_1, e9_w_1, e10_w_1, e11_w_1⟩ := hp_w_1
  rw [e2_w_1, e3_w_1, e4_w_1, e5_w_1, e6_w_1, e7_w_1, e8_w_1, e9_w_1, e10_w_1, e11_w_1] at hP
  obtain ⟨jf, hjf, rfl⟩ := nOk_nat (k := 5) (by omega) rfl hb_w_1
  have njf : jn (nI jf) = jf := jn_nI (by omega)
  refine lv_iload_n hx hb dX3_meet_5 rfl (lv_at hl 2 rfl) ?_
  refine lv_iconst (v := 5) hx hb dX3_meet_6 (by decide) ?_
  refine xc_callS F hK hX (Nat.le_trans (Nat.le_of_eq hz.symm) hS.1) [.int o, .int 5] (cc_X3_checkNumber hfl hN o 5 ) (va_cwS 2 F.2.2.2.2 gX3_meet_X3_checkNumber rfl rfl rfl (by decide +kernel) ⟨Nat.le_of_ble_eq_true rfl, Nat.le_of_ble_eq_true rfl⟩) hP hS (cG_sub hLz (Nat.le_trans (Nat.le_of_eq hz.symm) hS.1)) hout hlocks (fun E9 V9 pq9 sp9 cn9 e9' sz9 b9 L9 w9 nx9 h9 => pPX_of (b, cn, List.map w L) 1 (by simp [cMeet, cWr, hb_w_1, njf, ← hsz, h9.2.1]) (by decide) h9.1 (aS_of h9.2.2 ⟨rfl, rfl, rfl, he, hsz, hch, hN, fun x hx => hL0 ▸ hLz x hx⟩)) rfl hl.1 rfl (lv_room (Nat.le_of_ble_eq_true rfl)) ⟨(Nat.le_of_ble_eq_true rfl), (Nat.le_of_ble_eq_true rfl)⟩ (Nat.le_of_ble_eq_true rfl) (Nat.le_of_ble_eq_true rfl) dX3_meet_7 (fun r_w_2 ra_w_2 V_w_2 pc_w_2 sp_w_2 cc_w_2 e_w_2 sz_w_2 b_w_2 L_w_2 w_w_2 nx_w_2 H locs hp_w_2 hP hsz_w_2 hfr_w_2 hS => ?_)
  obtain ⟨hb_w_2, -, e2_w_2, e3_w_2, e4_w_2, e5_w_2, e6_w_2, e7_w_2, e8_w_2, e9_w_2, e10_w_2, e11_w_2⟩ := hp_w_2
  rw [e2_w_2, e3_w_2, e4_w_2, e5_w_2, e6_w_2, e7_w_2, e8_w_2, e9_w_2, e10_w_2, e11_w_2] at hP
  obtain ⟨jo, hjo, rfl⟩ := nOk_nat (k := 5) (by omega) rfl hb_w_2
  have njo : jn (nI jo) = jo := jn_nI (by omega)
  refine lv_iload_n hx hb dX3_meet_10 rfl (lv_at hl 1 rfl) ?_
  refine lv_iload_n hx hb dX3_meet_11 rfl (lv_at hl 2 rfl) ?_
  refine lw_ne (tgt := 25) hx hb jf jo (by omega) (by omega) dX3_meet_12 (by decide) (fun c_3 => ?_) (fun c_3 => ?_)
  · skip
    refine lv_aload_n hx hb dX3_meet_25 rfl (lv_at hl 0 rfl) ?_
    refine og_get F hK hinO (cPc hP) 2 (by decide) (by decide +kernel) rfl dX3_meet_26 ?_
    refine lv_iload_n hx hb dX3_meet_29 rfl (lv_at hl 1 rfl) ?_
    refine cg_ald F hK (cPc hP) 2 5 rfl jf rfl (by omega) (by decide) dX3_meet_30 ?_
    refine lv_aload_n hx hb dX3_meet_31 rfl (lv_at hl 0 rfl) ?_
    refine og_get F hK hinO (cPc hP) 2 (by decide) (by decide +kernel) rfl dX3_meet_32 ?_
    refine lv_iload_n hx hb dX3_meet_35 rfl (lv_at hl 2 rfl) ?_
    refine cg_ald F hK (cPc hP) 2 5 rfl jo rfl (by omega) (by decide) dX3_meet_36 ?_
    refine va_mmax hx hb (F.2.2.1.trans hl.1.symm) F.2.2.2.1 (F.2.2.2.2 (.methodLink RX3 89 Lib.Math.max.name) (by decide +kernel)) (F.2.2.2.2 (.static Lib.Math.max.name) (by decide +kernel)) (F.2.2.2.2 (.initialized "java/lang/Math") (by decide +kernel)) (F.2.2.2.2 (.code Lib.Math.max.name Lib.Math.max.code 2 (some .int)) (by decide +kernel)) (by exact Nat.le_of_ble_eq_true rfl) (by exact Nat.le_of_ble_eq_true rfl) (by first | exact Nat.zero_le _ | exact Nat.le_of_ble_eq_true rfl) (by first | exact Nat.zero_le _ | exact Nat.le_of_ble_eq_true rfl) dX3_meet_37 ?_
    refine lv_istore_n (lv' := [(3, .int (if b 10 jf < b 10 jo then b 10 jo else b 10 jf)), (0, .ref (u 30)), (1, .int (nI jf)), (2, .int (nI jo))]) hx hb dX3_meet_40 rfl hl (by decide) rfl (fun ls hl => ?_)
    refine lv_aload_n hx hb dX3_meet_41 rfl (lv_at hl 1 rfl) ?_
    refine og_get F hK hinO (cPc hP) 2 (by decide) (by decide +kernel) rfl dX3_meet_42 ?_
    refine lv_iload_n hx hb dX3_meet_45 rfl (lv_at hl 2 rfl) ?_
    refine lv_iload_n hx hb dX3_meet_46 rfl (lv_at hl 0 rfl) ?_
    refine cp_ast F hK hN (cG_in hLz) hP hS 10 11 5 rfl jf rfl (by omega) (by decide) rfl dX3_meet_47 (fun H locs hP hS => ?_)
    refine lv_aload_n hx hb dX3_meet_48 rfl (lv_at hl 1 rfl) ?_
    refine og_get F hK hinO (cPc hP) 2 (by decide) (by decide +kernel) rfl dX3_meet_49 ?_
    refine lv_iload_n hx hb dX3_meet_52 rfl (lv_at hl 3 rfl) ?_
    refine lv_iload_n hx hb dX3_meet_53 rfl (lv_at hl 0 rfl) ?_
    refine cp_ast F hK hN (cG_in hLz) hP hS 10 11 5 rfl jo rfl (by omega) (by decide) rfl dX3_meet_54 (fun H locs hP hS => ?_)
    refine lv_aload_n hx hb dX3_meet_55 rfl (lv_at hl 1 rfl) ?_
    refine og_get F hK hinO (cPc hP) 0 (by decide) (by decide +kernel) rfl dX3_meet_56 ?_
    refine lv_iconst (v := 1) hx hb dX3_meet_59 (by decide) ?_
    refine lv_iload_n hx hb dX3_meet_60 rfl (lv_at hl 2 rfl) ?_
    refine lv_ishl hx hb dX3_meet_61 ?_
    refine lv_iconst (v := 1) hx hb dX3_meet_62 (by decide) ?_
    refine lv_iload_n hx hb dX3_meet_63 rfl (lv_at hl 3 rfl) ?_
    refine lv_ishl hx hb dX3_meet_64 ?_
    refine lv_ior hx hb dX3_meet_65 ?_
    refine cw_callV F hK [.int ((1 <<< (nI jf &&& 31)) ||| (1 <<< (nI jo &&& 31)))] (cc_X2_shareAmong hN ((1 <<< (nI jf &&& 31)) ||| (1 <<< (nI jo &&& 31))) (by first | assumption | omega | rfl) (by first | assumption | omega | rfl)) (cwV 1 F.2.2.2.2 gX3_meet_X2_shareAmong rfl rfl rfl (by decide +kernel) ⟨Nat.le_of_ble_eq_true rfl, Nat.le_of_ble_eq_true rfl⟩) (kg_rc hK (cPc hP)) hP hS (cG_sub hLz (Nat.le_trans (Nat.le_of_eq hz.symm) hS.1)) rfl hl.1 rfl (lv_room (Nat.le_of_ble_eq_true rfl)) ⟨Nat.le_of_ble_eq_true rfl, Nat.le_of_ble_eq_true rfl⟩ dX3_meet_66 (fun r_w_4 ra_w_4 V_w_4 pc_w_4 sp_w_4 cc_w_4 e_w_4 sz_w_4 b_w_4 L_w_4 w_w_4 nx_w_4 H locs hp_w_4 hP hsz_w_4 hfr_w_4 hS => ?_)
    obtain ⟨e1_w_4, e2_w_4, e3_w_4, e4_w_4, e5_w_4, e6_w_4, e7_w_4, e8_w_4, e9_w_4, e10_w_4, e11_w_4⟩ := hp_w_4
    rw [e2_w_4, e3_w_4, e4_w_4, e5_w_4, e6_w_4, e7_w_4, e8_w_4, e9_w_4, e10_w_4, e11_w_4] at hP
    rw [e1_w_4]
    have hNL : L.Nodup := (List.nodup_append.mp hN).2.1
    obtain ⟨hs1, hs2⟩ := shF_A (fr := ((1 : Int32) <<< (nI jf &&& 31)) ||| ((1 : Int32) <<< (nI jo &&& 31))) (y := 0) (w := w) hNL
    rw [Nat.zero_add] at hs1
    refine vx_ret ?_
    exact cw_reti F hr hlocks hP hS (pPost_of (upA (upA b 10 jf (if b 10 jf < b 10 jo then b 10 jo else b 10 jf)) 10 jo (if b 10 jf < b 10 jo then b 10 jo else b 10 jf), cn, List.map (shOne (((1 : Int32) <<< (nI jf &&& 31)) ||| ((1 : Int32) <<< (nI jo &&& 31)))) (List.map w L)) (by simp [cMeet, cWr, hb_w_1, njf, hb_w_2, njo, c_3, hs1, hs2, ← hsz, bI]) ⟨rfl, rfl, hs2, he, hsz, hch, hN, fun x hx => hL0 ▸ hLz x hx⟩) (by omega) (by omega) dX3_meet_69
  · skip
    exact xt_throw F hfl hP hS hX hout hlocks hl.1 "java/lang/IllegalArgumentException" 84 86 88 6 "a fridge can't meet itself" rfl (by decide +kernel) rfl (by decide +kernel) (by decide +kernel) (by decide +kernel) xn_IA xg_IA dX3_meet_15 dX3_meet_18 dX3_meet_19 dX3_meet_21 dX3_meet_24 ⟨(Nat.le_of_ble_eq_true rfl), (Nat.le_of_ble_eq_true rfl), (Nat.le_of_ble_eq_true rfl), (Nat.le_of_ble_eq_true rfl)⟩ (pPX_of (b, cn, List.map w L) 2 (by simp [cMeet, cWr, hb_w_1, njf, hb_w_2, njo, c_3, ← hsz]) (by decide) rfl ⟨rfl, rfl, rfl, he, hsz, hch, hN, fun x hx => hL0 ▸ hLz x hx⟩) (Nat.le_of_ble_eq_true rfl) (Nat.le_of_ble_eq_true rfl)
def cMissing (cs : CS) (f : Int32) (o : Int32) : OP :=
  if nOk f 5 = false then (1, 0, cs) else if nOk o 8 = false then (1, 0, cs) else (0, msF (cLk cs.1 cs.2.2 f).1 cs.1 cs.2.1 (jn o), cs)
set_option maxHeartbeats 4000000 in
set_option maxRecDepth 100000 in
theorem cc_X3_missing {l : Launch} (hfl : l.stackTraces = false) {D : va_G} {cI cII : ClassId} {sa : Nat → Nat} {u : Nat → Nat} {V : Nat → Nat → Int32} {pq sp : Int32} {cn : Nat} {e : Option Nat} {sz : Nat} {b : Nat → Nat → Int32} {L : List Nat} {w : Nat → Nat → Int32} {nx : Nat → Option Nat} {z0 : Nat} (hN : (cAd u ++ L).Nodup) (f : Int32) (o : Int32) (hch : chn nx L) (he : e = L.head?) (hsz : sz = L.length) (hok : ∀ x, x ∈ L → okW (w x)) (hcn : cn ≤ 20) (hrc : ∀ k, k < cn → ∃ r, r < 6 ∧ b 11 k = nI r) : xc_Met l yX3_missing wsX3_missing 7 2 12 140 D u cI cII sa z0 L (cW u cI cII V pq sp cn e sz b L w nx) [.ref (u 30), .int f, .int o] kI (pPost u L z0 (cMissing (b, cn, List.map w L) f o)) (pPX u L z0 (cMissing (b, cn, List.map w L) f o)) := by
  suffices h9 : ∀ L0, L0 = L → xc_Met l yX3_missing wsX3_missing 7 2 12 140 D u cI cII sa z0 L0 (cW u cI cII V pq sp cn e sz b L w nx) [.ref (u 30), .int f, .int o] kI (pPost u L z0 (cMissing (b, cn, List.map w L) f o)) (pPX u L z0 (cMissing (b, cn, List.map w L) f o)) by exact h9 _ rfl
  intro L0 hL0
  have hLz : ∀ a, a ∈ L → a ∈ L0 ∨ z0 ≤ a := fun a z => Or.inl (by rw [hL0]; exact z)
  refine xc_start rfl (by decide +kernel) (Nat.le_of_ble_eq_true rfl) (fun p e9 s m below meth c F hr hlocks hK hz H locs hP hS hz9 hX hout ls hl => ?_)
  have hl : lv_has ls 5 [(0, .ref (u 30)), (1, .int f), (2, .int o)] := hl
  have hx := F.1
  have hb := F.2.1
  have hinV : ∀ w ∈ wsX00, w ∈ wsX3_missing := by decide +kernel
  have hinO : ∀ w ∈ wsX30, w ∈ wsX3_missing := by decide +kernel
  have hinK : ∀ w ∈ wsX20, w ∈ wsX3_missing := by decide +kernel
  have hinW : ∀ w ∈ wsX10, w ∈ wsX3_missing := by decide +kernel
  refine lv_iload_n hx hb dX3_missing_0 rfl (lv_at hl 1 rfl) ?_
  refine lv_iconst (v := 5) hx hb dX3_missing_1 (by decide) ?_
  refine xc_callS F hK hX (Nat.le_trans (Nat.le_of_eq hz.symm) hS.1) [.int f, .int 5] (cc_X3_checkNumber hfl hN f 5 ) (va_cwS 2 F.2.2.2.2 gX3_missing_X3_checkNumber rfl rfl rfl (by decide +kernel) ⟨Nat.le_of_ble_eq_true rfl, Nat.le_of_ble_eq_true rfl⟩) hP hS (cG_sub hLz (Nat.le_trans (Nat.le_of_eq hz.symm) hS.1)) hout hlocks (fun E9 V9 pq9 sp9 cn9 e9' sz9 b9 L9 w9 nx9 h9 => pPX_of (b, cn, List.map w L) 1 (by simp [cMissing, msF, cWr, ← hsz, h9.2.1]) (by decide) h9.1 (aS_of h9.2.2 ⟨rfl, rfl, rfl, he, hsz, hch, hN, fun x hx => hL0 ▸ hLz x hx⟩)) rfl hl.1 rfl (lv_room (Nat.le_of_ble_eq_true rfl)) ⟨(Nat.le_of_ble_eq_true rfl), (Nat.le_of_ble_eq_true rfl)⟩ (Nat.le_of_ble_eq_true rfl) (Nat.le_of_ble_eq_true rfl) dX3_missing_2 (fun r_w_1 ra_w_1 V_w_1 pc_w_1 sp_w_1 cc_w_1 e_w_1 sz_w_1 b_w_1 L_w_1 w_w_1 nx_w_1 H locs hp_w_1 hP hsz_w_1 hfr_w_1 hS => ?_)
  obtain ⟨hb_w_1, -, e2_w_1, e3_w_1, e4_w_1, e5_w_1, e6_w_1, e7_w_1, e8_w_1, e9_w_1, e10_w_1, e11_w_1⟩ := hp_w_1
  rw [e2_w_1, e3_w_1, e4_w_1, e5_w_1, e6_w_1, e7_w_1, e8_w_1, e9_w_1, e10_w_1, e11_w_1] at hP
  obtain ⟨jf, hjf, rfl⟩ := nOk_nat (k := 5) (by omega) rfl hb_w_1
  have njf : jn (nI jf) = jf := jn_nI (by omega)
  refine lv_iload_n hx hb dX3_missing_5 rfl (lv_at hl 2 rfl) ?_
  refine lv_bipush (v := 8) hx hb dX3_missing_6 (by decide) ?_
  refine xc_callS F hK hX (Nat.le_trans (Nat.le_of_eq hz.symm) hS.1) [.int o, .int 8] (cc_X3_checkNumber hfl hN o 8 ) (va_cwS 2 F.2.2.2.2 gX3_missing_X3_checkNumber rfl rfl rfl (by decide +kernel) ⟨Nat.le_of_ble_eq_true rfl, Nat.le_of_ble_eq_true rfl⟩) hP hS (cG_sub hLz (Nat.le_trans (Nat.le_of_eq hz.symm) hS.1)) hout hlocks (fun E9 V9 pq9 sp9 cn9 e9' sz9 b9 L9 w9 nx9 h9 => pPX_of (b, cn, List.map w L) 1 (by simp [cMissing, msF, cWr, hb_w_1, njf, ← hsz, h9.2.1]) (by decide) h9.1 (aS_of h9.2.2 ⟨rfl, rfl, rfl, he, hsz, hch, hN, fun x hx => hL0 ▸ hLz x hx⟩)) rfl hl.1 rfl (lv_room (Nat.le_of_ble_eq_true rfl)) ⟨(Nat.le_of_ble_eq_true rfl), (Nat.le_of_ble_eq_true rfl)⟩ (Nat.le_of_ble_eq_true rfl) (Nat.le_of_ble_eq_true rfl) dX3_missing_8 (fun r_w_2 ra_w_2 V_w_2 pc_w_2 sp_w_2 cc_w_2 e_w_2 sz_w_2 b_w_2 L_w_2 w_w_2 nx_w_2 H locs hp_w_2 hP hsz_w_2 hfr_w_2 hS => ?_)
  obtain ⟨hb_w_2, -, e2_w_2, e3_w_2, e4_w_2, e5_w_2, e6_w_2, e7_w_2, e8_w_2, e9_w_2, e10_w_2, e11_w_2⟩ := hp_w_2
  rw [e2_w_2, e3_w_2, e4_w_2, e5_w_2, e6_w_2, e7_w_2, e8_w_2, e9_w_2, e10_w_2, e11_w_2] at hP
  obtain ⟨jo, hjo, rfl⟩ := nOk_nat (k := 8) (by omega) rfl hb_w_2
  have njo : jn (nI jo) = jo := jn_nI (by omega)
  refine lv_aload_n hx hb dX3_missing_11 rfl (lv_at hl 0 rfl) ?_
  refine lv_iload_n hx hb dX3_missing_12 rfl (lv_at hl 1 rfl) ?_
  refine cw_callV F hK [.int (nI jf)] (cc_X3_lookAs hN jf (by first | assumption | omega | rfl) (by first | assumption | omega | rfl) (by first | assumption | omega | rfl)) (cwV 1 F.2.2.2.2 gX3_missing_X3_lookAs rfl rfl rfl (by decide +kernel) ⟨Nat.le_of_ble_eq_true rfl, Nat.le_of_ble_eq_true rfl⟩) (og_rc hK (cPc hP)) hP hS (cG_sub hLz (Nat.le_trans (Nat.le_of_eq hz.symm) hS.1)) rfl hl.1 rfl (lv_room (Nat.le_of_ble_eq_true rfl)) ⟨Nat.le_of_ble_eq_true rfl, Nat.le_of_ble_eq_true rfl⟩ dX3_missing_13 (fun r_w_3 ra_w_3 V_w_3 pc_w_3 sp_w_3 cc_w_3 e_w_3 sz_w_3 b_w_3 L_w_3 w_w_3 nx_w_3 H locs hp_w_3 hP hsz_w_3 hfr_w_3 hS => ?_)
  obtain ⟨-, e2_w_3, e3_w_3, e4_w_3, e5_w_3, e6_w_3, e7_w_3, e8_w_3, e9_w_3, e10_w_3, e11_w_3⟩ := hp_w_3
  rw [e2_w_3, e3_w_3, e4_w_3, e5_w_3, e6_w_3, e7_w_3, e8_w_3, e9_w_3, e10_w_3, e11_w_3] at hP
  obtain ⟨V1, pq1, sp1, hlk⟩ : ∃ V1 pq1 sp1, cLk b (List.map w L) (nI jf) = (V1, pq1, sp1) := ⟨_, _, _, rfl⟩
  have hlk9 : rdV w ((1 : Int32) <<< (nI jf &&& 31)) (b 12) L = (V1, pq1, sp1) := (rdV_A _ _ _ _).trans hlk
  have hP : va_P D vwCl (cW u cI cII V1 pq1 sp1 cn e sz b L w nx) H := by rw [hlk9] at hP; exact hP
  refine lv_iconst (v := 0) hx hb dX3_missing_16 (by decide) ?_
  refine lv_istore_n (lv' := [(3, .int 0), (0, .ref (u 30)), (1, .int (nI jf)), (2, .int (nI jo))]) hx hb dX3_missing_17 rfl hl (by decide) rfl (fun ls hl => ?_)
  refine lv_iconst (v := 0) hx hb dX3_missing_18 (by decide) ?_
  refine lv_istore (lv' := [(4, .int 0), (3, .int 0), (0, .ref (u 30)), (1, .int (nI jf)), (2, .int (nI jo))]) hx hb dX3_missing_19 hl (by decide) rfl (fun ls hl => ?_)
  have L21_u_4 : ∀ (k9u_4 : Nat) (i : Nat) (y : Int32) (H : Heap) (locs : List Loc) (ls : Array Slot), cn - i < k9u_4 → i ≤ cn → y = foldU (cmStep V1 b jo) 0 i → va_P D vwCl (cW u cI cII V1 pq1 sp1 cn e sz b L w nx) H → va_S (cG u L0 z0) s.heap H locs → lv_has ls 5 [(3, .int y), (4, .int (nI i)), (0, .ref (u 30)), (1, .int (nI jf)), (2, .int (nI jo))] → xcW p l e9 7 2 12 140 s m [.ref (u 30), .int (nI jf), .int (nI jo)] below meth c H locs (0 + 1 + 1) (0 + 6 + 6) D u cI cII z0 L0 kI (pPost u L z0 (cMissing (b, cn, List.map w L) (nI jf) (nI jo))) (pPX u L z0 (cMissing (b, cn, List.map w L) (nI jf) (nI jo))) (F0 m 21 ls []) := by
    intro k9u_4
    induction k9u_4 with
    | zero => intro i y H locs ls hk; exact absurd hk (Nat.not_lt_zero _)
    | succ k9u_4 ihu_4 =>
      intro i y H locs ls hk hi hf hP hS hl
      refine lv_iload hx hb dX3_missing_21 (lv_at hl 1 rfl) ?_
      refine lv_aload_n hx hb dX3_missing_23 rfl (lv_at hl 2 rfl) ?_
      refine og_get F hK hinO (cPc hP) 6 (by decide) (by decide +kernel) rfl dX3_missing_24 ?_
      refine lw_ge (tgt := 67) hx hb i cn (by omega) (by omega) dX3_missing_27 (by decide) (fun c_5 => ?_) (fun c_5 => ?_)
      · skip
        have hic : i = cn := by omega
        rw [hic] at hf
        refine lv_iconst (v := 0) hx hb dX3_missing_67 (by decide) ?_
        refine lv_iload_n hx hb dX3_missing_68 rfl (lv_at hl 0 rfl) ?_
        refine lv_aload_n hx hb dX3_missing_69 rfl (lv_at hl 2 rfl) ?_
        refine og_get F hK hinO (cPc hP) 1 (by decide) (by decide +kernel) rfl dX3_missing_70 ?_
        refine lv_iload_n hx hb dX3_missing_73 rfl (lv_at hl 4 rfl) ?_
        refine ro_callV F hK [.int (nI jo)] (cc_X0_thingsSomewhere (cPv hP) jo (by first | assumption | omega)) (cwV 1 F.2.2.2.2 gX3_missing_X0_thingsSomewhere rfl rfl rfl (by decide +kernel) ⟨Nat.le_of_ble_eq_true rfl, Nat.le_of_ble_eq_true rfl⟩) (vg_rc hK (cPv hP)) rfl hl.1 rfl (lv_room (Nat.le_of_ble_eq_true rfl)) ⟨Nat.le_of_ble_eq_true rfl, Nat.le_of_ble_eq_true rfl⟩ dX3_missing_74 ?_
        refine lv_isub hx hb dX3_missing_77 ?_
        refine va_mmax hx hb (F.2.2.1.trans hl.1.symm) F.2.2.2.1 (F.2.2.2.2 (.methodLink RX3 89 Lib.Math.max.name) (by decide +kernel)) (F.2.2.2.2 (.static Lib.Math.max.name) (by decide +kernel)) (F.2.2.2.2 (.initialized "java/lang/Math") (by decide +kernel)) (F.2.2.2.2 (.code Lib.Math.max.name Lib.Math.max.code 2 (some .int)) (by decide +kernel)) (by exact Nat.le_of_ble_eq_true rfl) (by exact Nat.le_of_ble_eq_true rfl) (by first | exact Nat.zero_le _ | exact Nat.le_of_ble_eq_true rfl) (by first | exact Nat.zero_le _ | exact Nat.le_of_ble_eq_true rfl) dX3_missing_78 ?_
        refine vx_ret ?_
        exact cw_reti F hr hlocks hP hS (pPost_of (b, cn, List.map w L) (by simp [cMissing, msF, cWr, hb_w_1, njf, hb_w_2, njo, hlk, c_5, hf, ← hsz, bI]) ⟨rfl, rfl, rfl, he, hsz, hch, hN, fun x hx => hL0 ▸ hLz x hx⟩) (by omega) (by omega) dX3_missing_81
      · skip
        refine lv_aload_n hx hb dX3_missing_30 rfl (lv_at hl 2 rfl) ?_
        refine og_get F hK hinO (cPc hP) 1 (by decide) (by decide +kernel) rfl dX3_missing_31 ?_
        refine vg_get F hK hinV (cPv hP) 6 (by decide) (by decide +kernel) rfl dX3_missing_34 ?_
        refine lv_iload hx hb dX3_missing_37 (lv_at hl 1 rfl) ?_
        refine cg_ald F hK (cPv hP) 7 20 rfl i rfl (by omega) (by decide) dX3_missing_39 ?_
        refine lv_iconst (v := 1) hx hb dX3_missing_40 (by decide) ?_
        refine lv_icmp_ne (tgt := 61) hx hb dX3_missing_41 (by decide) (fun c_6 => ?_) (fun c_6 => ?_)
        · skip
          refine lv_iinc (v := nI (i + 1)) (lv' := [(4, .int (nI (i + 1))), (3, .int y), (0, .ref (u 30)), (1, .int (nI jf)), (2, .int (nI jo))]) hx hb dX3_missing_61 hl (k := 1) rfl (show nI i + Int32.ofInt 1 = _ from nI_add i 1) (by decide) rfl (fun ls hl => ?_)
          refine lv_goto (tgt := 21) hx hb dX3_missing_64 (by decide) ?_
          exact ihu_4  (i + 1) y _ _ ls (by omega) (by first | omega | assumption) (by rw [foldU_s, ← hf]; simp [cmStep, hb_w_1, njf, hb_w_2, njo, hlk, c_5, c_6]) hP hS (lv_sub hl [1, 0, 2, 3, 4] rfl)
        · skip
          refine lv_iload_n hx hb dX3_missing_44 rfl (lv_at hl 0 rfl) ?_
          refine lv_aload_n hx hb dX3_missing_45 rfl (lv_at hl 2 rfl) ?_
          refine og_get F hK hinO (cPc hP) 3 (by decide) (by decide +kernel) rfl dX3_missing_46 ?_
          refine lv_aload_n hx hb dX3_missing_49 rfl (lv_at hl 2 rfl) ?_
          refine og_get F hK hinO (cPc hP) 4 (by decide) (by decide +kernel) rfl dX3_missing_50 ?_
          refine lv_iload hx hb dX3_missing_53 (lv_at hl 1 rfl) ?_
          refine cg_ald F hK (cPc hP) 3 20 rfl i rfl (by omega) (by decide) dX3_missing_55 ?_
          obtain ⟨jr, hjr, ejr⟩ := hrc i (by omega)
          refine lw_N jr ejr ?_
          have njr : jn (b 11 i) = jr := by rw [ejr]; exact jn_nI (by omega)
          refine cg_aald F hK (cPc hP) jr rfl (by omega) dX3_missing_56 ?_
          refine lv_iload_n hx hb dX3_missing_57 rfl (lv_at hl 4 rfl) ?_
          refine cg_ald F hK (cPr (cPc hP) (j := jr) (by omega)) 0 8 rfl jo rfl (by omega) (by decide) dX3_missing_58 ?_
          refine lv_iadd hx hb dX3_missing_59 ?_
          refine lv_istore_n (lv' := [(3, .int (y + b (20 + jr) jo)), (4, .int (nI i)), (0, .ref (u 30)), (1, .int (nI jf)), (2, .int (nI jo))]) hx hb dX3_missing_60 rfl hl (by decide) rfl (fun ls hl => ?_)
          refine lv_iinc (v := nI (i + 1)) (lv' := [(4, .int (nI (i + 1))), (3, .int (y + b (20 + jr) jo)), (0, .ref (u 30)), (1, .int (nI jf)), (2, .int (nI jo))]) hx hb dX3_missing_61 hl (k := 1) rfl (show nI i + Int32.ofInt 1 = _ from nI_add i 1) (by decide) rfl (fun ls hl => ?_)
          refine lv_goto (tgt := 21) hx hb dX3_missing_64 (by decide) ?_
          exact ihu_4  (i + 1) (y + b (20 + jr) jo) _ _ ls (by omega) (by first | omega | assumption) (by rw [foldU_s, ← hf]; simp [cmStep, hb_w_1, njf, hb_w_2, njo, hlk, c_5, c_6, njr]) hP hS (lv_sub hl [1, 0, 2, 3, 4] rfl)
  exact L21_u_4 _ 0 0 _ _ ls (Nat.lt_succ_self _) (by first | omega | assumption) (rfl) hP hS (lv_sub hl [1, 0, 2, 3, 4] rfl)
def cKeep (cs : CS) (f : Int32) (k : Int32) : OP :=
  if nOk f 5 = false then (1, 0, cs) else if nOk k (nI cs.2.1) = false then (1, 0, cs) else if opnOk (cLk cs.1 cs.2.2 f).1 (jn k) = false then (3, 0, cs) else if roomOk cs.2.2.length (foldU (ckpStep (cLk cs.1 cs.2.2 f).1 cs.1 (jn k)) 0 8) = false then (3, 0, cs) else (0, foldU (ckpStep (cLk cs.1 cs.2.2 f).1 cs.1 (jn k)) 0 8, (upA cs.1 10 (jn f) (kwF (cLk cs.1 cs.2.2 f).1 cs.1 (jn f) (jn k) cs.2.2 8).1, cs.2.1, (kwF (cLk cs.1 cs.2.2 f).1 cs.1 (jn f) (jn k) cs.2.2 8).2))
set_option maxHeartbeats 4000000 in
set_option maxRecDepth 100000 in
theorem cc_X3_keep {l : Launch} (hfl : l.stackTraces = false) {D : va_G} {cI cII : ClassId} {sa : Nat → Nat} {u : Nat → Nat} {V : Nat → Nat → Int32} {pq sp : Int32} {cn : Nat} {e : Option Nat} {sz : Nat} {b : Nat → Nat → Int32} {L : List Nat} {w : Nat → Nat → Int32} {nx : Nat → Option Nat} {z0 : Nat} (hN : (cAd u ++ L).Nodup) (f : Int32) (k : Int32) (hch : chn nx L) (he : e = L.head?) (hsz : sz = L.length) (hok : ∀ x, x ∈ L → okW (w x)) (hcn : cn ≤ 20) (hrc : ∀ k, k < cn → ∃ r, r < 6 ∧ b 11 k = nI r) : xc_Met l yX3_keep wsX3_keep 7 44 424 140 D u cI cII sa z0 L (cW u cI cII V pq sp cn e sz b L w nx) [.ref (u 30), .int f, .int k] kI (pPost u L z0 (cKeep (b, cn, List.map w L) f k)) (pPX u L z0 (cKeep (b, cn, List.map w L) f k)) := by
  suffices h9 : ∀ L0, L0 = L → xc_Met l yX3_keep wsX3_keep 7 44 424 140 D u cI cII sa z0 L0 (cW u cI cII V pq sp cn e sz b L w nx) [.ref (u 30), .int f, .int k] kI (pPost u L z0 (cKeep (b, cn, List.map w L) f k)) (pPX u L z0 (cKeep (b, cn, List.map w L) f k)) by exact h9 _ rfl
  intro L0 hL0
  have hLz : ∀ a, a ∈ L → a ∈ L0 ∨ z0 ≤ a := fun a z => Or.inl (by rw [hL0]; exact z)
  refine xc_start rfl (by decide +kernel) (Nat.le_of_ble_eq_true rfl) (fun p e9 s m below meth c F hr hlocks hK hz H locs hP hS hz9 hX hout ls hl => ?_)
  have hl : lv_has ls 5 [(0, .ref (u 30)), (1, .int f), (2, .int k)] := hl
  have hx := F.1
  have hb := F.2.1
  have hinV : ∀ w ∈ wsX00, w ∈ wsX3_keep := by decide +kernel
  have hinO : ∀ w ∈ wsX30, w ∈ wsX3_keep := by decide +kernel
  have hinK : ∀ w ∈ wsX20, w ∈ wsX3_keep := by decide +kernel
  have hinW : ∀ w ∈ wsX10, w ∈ wsX3_keep := by decide +kernel
  refine lv_iload_n hx hb dX3_keep_0 rfl (lv_at hl 1 rfl) ?_
  refine lv_iconst (v := 5) hx hb dX3_keep_1 (by decide) ?_
  refine xc_callS F hK hX (Nat.le_trans (Nat.le_of_eq hz.symm) hS.1) [.int f, .int 5] (cc_X3_checkNumber hfl hN f 5 ) (va_cwS 2 F.2.2.2.2 gX3_keep_X3_checkNumber rfl rfl rfl (by decide +kernel) ⟨Nat.le_of_ble_eq_true rfl, Nat.le_of_ble_eq_true rfl⟩) hP hS (cG_sub hLz (Nat.le_trans (Nat.le_of_eq hz.symm) hS.1)) hout hlocks (fun E9 V9 pq9 sp9 cn9 e9' sz9 b9 L9 w9 nx9 h9 => pPX_of (b, cn, List.map w L) 1 (by simp [cKeep, cWr, ← hsz, h9.2.1]) (by decide) h9.1 (aS_of h9.2.2 ⟨rfl, rfl, rfl, he, hsz, hch, hN, fun x hx => hL0 ▸ hLz x hx⟩)) rfl hl.1 rfl (lv_room (Nat.le_of_ble_eq_true rfl)) ⟨(Nat.le_of_ble_eq_true rfl), (Nat.le_of_ble_eq_true rfl)⟩ (Nat.le_of_ble_eq_true rfl) (Nat.le_of_ble_eq_true rfl) dX3_keep_2 (fun r_w_1 ra_w_1 V_w_1 pc_w_1 sp_w_1 cc_w_1 e_w_1 sz_w_1 b_w_1 L_w_1 w_w_1 nx_w_1 H locs hp_w_1 hP hsz_w_1 hfr_w_1 hS => ?_)
  obtain ⟨hb_w_1, -, e2_w_1, e3_w_1, e4_w_1, e5_w_1, e6_w_1, e7_w_1, e8_w_1, e9_w_1, e10_w_1, e11_w_1⟩ := hp_w_1
  rw [e2_w_1, e3_w_1, e4_w_1, e5_w_1, e6_w_1, e7_w_1, e8_w_1, e9_w_1, e10_w_1, e11_w_1] at hP
  obtain ⟨jf, hjf, rfl⟩ := nOk_nat (k := 5) (by omega) rfl hb_w_1
  have njf : jn (nI jf) = jf := jn_nI (by omega)
  refine lv_iload_n hx hb dX3_keep_5 rfl (lv_at hl 2 rfl) ?_
  refine lv_aload_n hx hb dX3_keep_6 rfl (lv_at hl 0 rfl) ?_
  refine og_get F hK hinO (cPc hP) 6 (by decide) (by decide +kernel) rfl dX3_keep_7 ?_
  refine xc_callS F hK hX (Nat.le_trans (Nat.le_of_eq hz.symm) hS.1) [.int k, .int (nI cn)] (cc_X3_checkNumber hfl hN k (nI cn) ) (va_cwS 2 F.2.2.2.2 gX3_keep_X3_checkNumber rfl rfl rfl (by decide +kernel) ⟨Nat.le_of_ble_eq_true rfl, Nat.le_of_ble_eq_true rfl⟩) hP hS (cG_sub hLz (Nat.le_trans (Nat.le_of_eq hz.symm) hS.1)) hout hlocks (fun E9 V9 pq9 sp9 cn9 e9' sz9 b9 L9 w9 nx9 h9 => pPX_of (b, cn, List.map w L) 1 (by simp [cKeep, cWr, hb_w_1, njf, ← hsz, h9.2.1]) (by decide) h9.1 (aS_of h9.2.2 ⟨rfl, rfl, rfl, he, hsz, hch, hN, fun x hx => hL0 ▸ hLz x hx⟩)) rfl hl.1 rfl (lv_room (Nat.le_of_ble_eq_true rfl)) ⟨(Nat.le_of_ble_eq_true rfl), (Nat.le_of_ble_eq_true rfl)⟩ (Nat.le_of_ble_eq_true rfl) (Nat.le_of_ble_eq_true rfl) dX3_keep_10 (fun r_w_2 ra_w_2 V_w_2 pc_w_2 sp_w_2 cc_w_2 e_w_2 sz_w_2 b_w_2 L_w_2 w_w_2 nx_w_2 H locs hp_w_2 hP hsz_w_2 hfr_w_2 hS => ?_)
  obtain ⟨hb_w_2, -, e2_w_2, e3_w_2, e4_w_2, e5_w_2, e6_w_2, e7_w_2, e8_w_2, e9_w_2, e10_w_2, e11_w_2⟩ := hp_w_2
  rw [e2_w_2, e3_w_2, e4_w_2, e5_w_2, e6_w_2, e7_w_2, e8_w_2, e9_w_2, e10_w_2, e11_w_2] at hP
  obtain ⟨jk, hjk, rfl⟩ := nOk_nat (k := cn) (by omega) rfl hb_w_2
  have njk : jn (nI jk) = jk := jn_nI (by omega)
  refine lv_aload_n hx hb dX3_keep_13 rfl (lv_at hl 0 rfl) ?_
  refine lv_iload_n hx hb dX3_keep_14 rfl (lv_at hl 1 rfl) ?_
  refine cw_callV F hK [.int (nI jf)] (cc_X3_lookAs hN jf (by first | assumption | omega | rfl) (by first | assumption | omega | rfl) (by first | assumption | omega | rfl)) (cwV 1 F.2.2.2.2 gX3_keep_X3_lookAs rfl rfl rfl (by decide +kernel) ⟨Nat.le_of_ble_eq_true rfl, Nat.le_of_ble_eq_true rfl⟩) (og_rc hK (cPc hP)) hP hS (cG_sub hLz (Nat.le_trans (Nat.le_of_eq hz.symm) hS.1)) rfl hl.1 rfl (lv_room (Nat.le_of_ble_eq_true rfl)) ⟨Nat.le_of_ble_eq_true rfl, Nat.le_of_ble_eq_true rfl⟩ dX3_keep_15 (fun r_w_3 ra_w_3 V_w_3 pc_w_3 sp_w_3 cc_w_3 e_w_3 sz_w_3 b_w_3 L_w_3 w_w_3 nx_w_3 H locs hp_w_3 hP hsz_w_3 hfr_w_3 hS => ?_)
  obtain ⟨-, e2_w_3, e3_w_3, e4_w_3, e5_w_3, e6_w_3, e7_w_3, e8_w_3, e9_w_3, e10_w_3, e11_w_3⟩ := hp_w_3
  rw [e2_w_3, e3_w_3, e4_w_3, e5_w_3, e6_w_3, e7_w_3, e8_w_3, e9_w_3, e10_w_3, e11_w_3] at hP
  obtain ⟨V1, pq1, sp1, hlk⟩ : ∃ V1 pq1 sp1, cLk b (List.map w L) (nI jf) = (V1, pq1, sp1) := ⟨_, _, _, rfl⟩
  have hlk9 : rdV w ((1 : Int32) <<< (nI jf &&& 31)) (b 12) L = (V1, pq1, sp1) := (rdV_A _ _ _ _).trans hlk
  have hP : va_P D vwCl (cW u cI cII V1 pq1 sp1 cn e sz b L w nx) H := by rw [hlk9] at hP; exact hP
  refine lv_aload_n hx hb dX3_keep_18 rfl (lv_at hl 0 rfl) ?_
  refine lv_iload_n hx hb dX3_keep_19 rfl (lv_at hl 2 rfl) ?_
  refine xc_callV F hK hX (Nat.le_trans (Nat.le_of_eq hz.symm) hS.1) [.int (nI jk)] (cc_X3_checkOpen hfl hN jk (by first | assumption | omega | rfl)) (cwV 1 F.2.2.2.2 gX3_keep_X3_checkOpen rfl rfl rfl (by decide +kernel) ⟨Nat.le_of_ble_eq_true rfl, Nat.le_of_ble_eq_true rfl⟩) (og_rc hK (cPc hP)) hP hS (cG_sub hLz (Nat.le_trans (Nat.le_of_eq hz.symm) hS.1)) hout hlocks (fun E9 V9 pq9 sp9 cn9 e9' sz9 b9 L9 w9 nx9 h9 => pPX_of (b, cn, List.map w L) 3 (by simp [cKeep, cWr, hb_w_1, njf, hb_w_2, njk, hlk, ← hsz, h9.2.1]) (by decide) h9.1 (aS_of h9.2.2 ⟨rfl, rfl, rfl, he, hsz, hch, hN, fun x hx => hL0 ▸ hLz x hx⟩)) rfl hl.1 rfl (lv_room (Nat.le_of_ble_eq_true rfl)) ⟨(Nat.le_of_ble_eq_true rfl), (Nat.le_of_ble_eq_true rfl)⟩ (Nat.le_of_ble_eq_true rfl) (Nat.le_of_ble_eq_true rfl) dX3_keep_20 (fun r_w_4 ra_w_4 V_w_4 pc_w_4 sp_w_4 cc_w_4 e_w_4 sz_w_4 b_w_4 L_w_4 w_w_4 nx_w_4 H locs hp_w_4 hP hsz_w_4 hfr_w_4 hS => ?_)
  obtain ⟨hb_w_4, -, e2_w_4, e3_w_4, e4_w_4, e5_w_4, e6_w_4, e7_w_4, e8_w_4, e9_w_4, e10_w_4, e11_w_4⟩ := hp_w_4
  rw [e2_w_4, e3_w_4, e4_w_4, e5_w_4, e6_w_4, e7_w_4, e8_w_4, e9_w_4, e10_w_4, e11_w_4] at hP
  refine lv_iconst (v := 0) hx hb dX3_keep_23 (by decide) ?_
  refine lv_istore_n (lv' := [(3, .int 0), (0, .ref (u 30)), (1, .int (nI jf)), (2, .int (nI jk))]) hx hb dX3_keep_24 rfl hl (by decide) rfl (fun ls hl => ?_)
  refine lv_iconst (v := 0) hx hb dX3_keep_25 (by decide) ?_
  refine lv_istore (lv' := [(4, .int 0), (3, .int 0), (0, .ref (u 30)), (1, .int (nI jf)), (2, .int (nI jk))]) hx hb dX3_keep_26 hl (by decide) rfl (fun ls hl => ?_)
  have L28_u_5 : ∀ (k9u_5 : Nat) (i : Nat) (y : Int32) (H : Heap) (locs : List Loc) (ls : Array Slot), 8 - i < k9u_5 → i ≤ 8 → y = foldU (ckpStep V1 b jk) 0 i → va_P D vwCl (cW u cI cII V1 pq1 sp1 cn e sz b L w nx) H → va_S (cG u L0 z0) s.heap H locs → lv_has ls 5 [(3, .int y), (4, .int (nI i)), (0, .ref (u 30)), (1, .int (nI jf)), (2, .int (nI jk))] → xcW p l e9 7 44 424 140 s m [.ref (u 30), .int (nI jf), .int (nI jk)] below meth c H locs (0 + 1 + 1 + 1) (0 + 6 + 6 + 6) D u cI cII z0 L0 kI (pPost u L z0 (cKeep (b, cn, List.map w L) (nI jf) (nI jk))) (pPX u L z0 (cKeep (b, cn, List.map w L) (nI jf) (nI jk))) (F0 m 28 ls []) := by
    intro k9u_5
    induction k9u_5 with
    | zero => intro i y H locs ls hk; exact absurd hk (Nat.not_lt_zero _)
    | succ k9u_5 ihu_5 =>
      intro i y H locs ls hk hi hf hP hS hl
      refine lv_iload hx hb dX3_keep_28 (lv_at hl 1 rfl) ?_
      refine lv_bipush (v := 8) hx hb dX3_keep_30 (by decide) ?_
      refine lw_ge (tgt := 51) hx hb i 8 (by omega) (by omega) dX3_keep_32 (by decide) (fun c_6 => ?_) (fun c_6 => ?_)
      · skip
        have hi8 : i = 8 := by omega
        rw [hi8] at hf
        subst hf
        refine lv_aload_n hx hb dX3_keep_51 rfl (lv_at hl 2 rfl) ?_
        refine lv_iload_n hx hb dX3_keep_52 rfl (lv_at hl 0 rfl) ?_
        refine xc_callV F hK hX (Nat.le_trans (Nat.le_of_eq hz.symm) hS.1) [.int (foldU (ckpStep V1 b jk) 0 8)] (cc_X3_checkRoomFor hfl hN (foldU (ckpStep V1 b jk) 0 8) ) (cwV 1 F.2.2.2.2 gX3_keep_X3_checkRoomFor rfl rfl rfl (by decide +kernel) ⟨Nat.le_of_ble_eq_true rfl, Nat.le_of_ble_eq_true rfl⟩) (og_rc hK (cPc hP)) hP hS (cG_sub hLz (Nat.le_trans (Nat.le_of_eq hz.symm) hS.1)) hout hlocks (fun E9 V9 pq9 sp9 cn9 e9' sz9 b9 L9 w9 nx9 h9 => pPX_of (b, cn, List.map w L) 3 (by simp [cKeep, cWr, hb_w_1, njf, hb_w_2, njk, hlk, hb_w_4, c_6, ← hsz, h9.2.1]) (by decide) h9.1 (aS_of h9.2.2 ⟨rfl, rfl, rfl, he, hsz, hch, hN, fun x hx => hL0 ▸ hLz x hx⟩)) rfl hl.1 rfl (lv_room (Nat.le_of_ble_eq_true rfl)) ⟨(Nat.le_of_ble_eq_true rfl), (Nat.le_of_ble_eq_true rfl)⟩ (Nat.le_of_ble_eq_true rfl) (Nat.le_of_ble_eq_true rfl) dX3_keep_53 (fun r_w_7 ra_w_7 V_w_7 pc_w_7 sp_w_7 cc_w_7 e_w_7 sz_w_7 b_w_7 L_w_7 w_w_7 nx_w_7 H locs hp_w_7 hP hsz_w_7 hfr_w_7 hS => ?_)
        obtain ⟨hb_w_7, -, e2_w_7, e3_w_7, e4_w_7, e5_w_7, e6_w_7, e7_w_7, e8_w_7, e9_w_7, e10_w_7, e11_w_7⟩ := hp_w_7
        rw [e2_w_7, e3_w_7, e4_w_7, e5_w_7, e6_w_7, e7_w_7, e8_w_7, e9_w_7, e10_w_7, e11_w_7] at hP
        refine lv_iconst (v := 0) hx hb dX3_keep_56 (by decide) ?_
        refine lv_istore (lv' := [(4, .int 0), (3, .int (foldU (ckpStep V1 b jk) 0 8)), (0, .ref (u 30)), (1, .int (nI jf)), (2, .int (nI jk))]) hx hb dX3_keep_57 hl (by decide) rfl (fun ls hl => ?_)
        have L59_u_8 : ∀ (k9u_8 : Nat) (L2 : List Nat) (w2 : Nat → Nat → Int32) (nx2 : Nat → Option Nat) (c2 : Int32) (i2 : Nat) (H : Heap) (locs : List Loc) (ls : Array Slot), 8 - i2 < k9u_8 → i2 ≤ 8 → (cAd u ++ L2).Nodup → (∀ a, a ∈ L2 → a ∈ L0 ∨ z0 ≤ a) → chn nx2 L2 → kwF V1 b jf jk (List.map w L) i2 = (c2, List.map w2 L2) → va_P D vwCl (cW u cI cII V1 pq1 sp1 cn (L2.head?) L2.length (upA b 10 jf c2) L2 w2 nx2) H → va_S (cG u L0 z0) s.heap H locs → lv_has ls 5 [(4, .int (nI i2)), (3, .int (foldU (ckpStep V1 b jk) 0 8)), (0, .ref (u 30)), (1, .int (nI jf)), (2, .int (nI jk))] → xcW p l e9 7 44 424 140 s m [.ref (u 30), .int (nI jf), .int (nI jk)] below meth c H locs (4 + 5 * i2) (24 + 50 * i2) D u cI cII z0 L0 kI (pPost u L z0 (cKeep (b, cn, List.map w L) (nI jf) (nI jk))) (pPX u L z0 (cKeep (b, cn, List.map w L) (nI jf) (nI jk))) (F0 m 59 ls []) := by
          intro k9u_8
          induction k9u_8 with
          | zero => intro L2 w2 nx2 c2 i2 H locs ls hk; exact absurd hk (Nat.not_lt_zero _)
          | succ k9u_8 ihu_8 =>
            intro L2 w2 nx2 c2 i2 H locs ls hk hi2 hN hLz hch hf2 hP hS hl
            refine lv_iload hx hb dX3_keep_59 (lv_at hl 0 rfl) ?_
            refine lv_bipush (v := 8) hx hb dX3_keep_61 (by decide) ?_
            refine lw_ge (tgt := 80) hx hb i2 8 (by omega) (by omega) dX3_keep_63 (by decide) (fun c_9 => ?_) (fun c_9 => ?_)
            · skip
              have hi9 : i2 = 8 := by omega
              rw [hi9] at hf2
              refine lv_iload_n hx hb dX3_keep_80 rfl (lv_at hl 1 rfl) ?_
              refine vx_ret ?_
              exact cw_reti F hr hlocks hP hS (pPost_of (upA b 10 jf c2, cn, List.map w2 L2) (by simp [cKeep, cWr, hb_w_1, njf, hb_w_2, njk, hlk, hb_w_4, c_6, hb_w_7, c_9, hf2, ← hsz, bI]) ⟨rfl, rfl, rfl, rfl, rfl, hch, hN, fun x hx => hL0 ▸ hLz x hx⟩) (by omega) (by omega) dX3_keep_81
            · skip
              refine lv_aload_n hx hb dX3_keep_66 rfl (lv_at hl 2 rfl) ?_
              refine lv_iload_n hx hb dX3_keep_67 rfl (lv_at hl 3 rfl) ?_
              refine lv_iload_n hx hb dX3_keep_68 rfl (lv_at hl 4 rfl) ?_
              refine lv_iload hx hb dX3_keep_69 (lv_at hl 0 rfl) ?_
              have hzo_w_10 : z0 ≤ Array.size H := Nat.le_trans (Nat.le_of_eq hz.symm) hS.1
              refine cw_callV F hK [.int (nI jf), .int (nI jk), .int (nI i2)] (cc_X3_writeKeeps hN jf jk i2 (by first | assumption | omega | rfl) (by first | assumption | omega | rfl) (by first | assumption | omega | rfl) (by rw [upA_k (by omega)]; exact hrc jk hjk) (by first | assumption | omega | rfl) (rfl) (rfl)) (cwV 3 F.2.2.2.2 gX3_keep_X3_writeKeeps rfl rfl rfl (by decide +kernel) ⟨Nat.le_of_ble_eq_true rfl, Nat.le_of_ble_eq_true rfl⟩) (og_rc hK (cPc hP)) hP hS (cG_sub hLz (Nat.le_trans (Nat.le_of_eq hz.symm) hS.1)) rfl hl.1 rfl (lv_room (Nat.le_of_ble_eq_true rfl)) ⟨by have z : 4 + 5 * i2 + 5 ≤ 44 := (by omega); exact z, by have z : 24 + 50 * i2 + 50 ≤ 424 := (by omega); exact z⟩ dX3_keep_71 (fun r_w_10 ra_w_10 V_w_10 pc_w_10 sp_w_10 cc_w_10 e_w_10 sz_w_10 b_w_10 L_w_10 w_w_10 nx_w_10 H locs hp_w_10 hP hsz_w_10 hfr_w_10 hS => ?_)
              obtain ⟨e1_w_10, e2_w_10, e3_w_10, e4_w_10, e5_w_10, e6_w_10, e7_w_10, hws_w_10, hch_w_10, hN_w_10, hLq_w_10⟩ := hp_w_10
              rw [e1_w_10, e2_w_10, e3_w_10, e4_w_10, e5_w_10, e6_w_10, e7_w_10, wkF_up, upA_s, upA_tw] at hP
              rw [wkF_up, upA_s] at hws_w_10
              have hLz_w_10 : ∀ a, a ∈ L_w_10 → a ∈ L0 ∨ z0 ≤ a := fun a ha => (hLq_w_10 a ha).elim (hLz a) (fun q => Or.inr (Nat.le_trans hzo_w_10 q))
              refine lv_iinc (v := nI (i2 + 1)) (lv' := [(4, .int (nI (i2 + 1))), (3, .int (foldU (ckpStep V1 b jk) 0 8)), (0, .ref (u 30)), (1, .int (nI jf)), (2, .int (nI jk))]) hx hb dX3_keep_74 hl (k := 0) rfl (show nI i2 + Int32.ofInt 1 = _ from nI_add i2 1) (by decide) rfl (fun ls hl => ?_)
              refine lv_goto (tgt := 59) hx hb dX3_keep_77 (by decide) ?_
              exact ihu_8  L_w_10 w_w_10 nx_w_10 ((wkF V1 b jf jk i2 c2 (List.map w2 L2)).1) (i2 + 1) _ _ ls (by omega) (by first | omega | assumption) (hN_w_10) (hLz_w_10) (hch_w_10) (by unfold kwF at hf2 ⊢; rw [foldU_s, hf2]; show wkF V1 b jf jk i2 c2 (List.map w2 L2) = _; rw [hws_w_10]) hP hS (lv_sub hl [0, 1, 2, 3, 4] rfl)
        exact L59_u_8 _ L w nx (b 10 jf) 0 _ _ ls (Nat.lt_succ_self _) (by first | omega | assumption) (hN) (hLz) (hch) (rfl) (by rw [upA_self, ← he, ← hsz]; exact hP) hS (lv_sub hl [0, 1, 2, 3, 4] rfl)
      · skip
        refine lv_iload_n hx hb dX3_keep_35 rfl (lv_at hl 0 rfl) ?_
        refine lv_aload_n hx hb dX3_keep_36 rfl (lv_at hl 2 rfl) ?_
        refine lv_iload_n hx hb dX3_keep_37 rfl (lv_at hl 4 rfl) ?_
        refine lv_iload hx hb dX3_keep_38 (lv_at hl 1 rfl) ?_
        refine ro_callV F hK [.int (nI jk), .int (nI i)] (cc_X3_keepable (cPv hP) (cPc hP) jk i (by first | assumption | omega) (by first | assumption | omega) (hrc jk hjk)) (cwV 2 F.2.2.2.2 gX3_keep_X3_keepable rfl rfl rfl (by decide +kernel) ⟨Nat.le_of_ble_eq_true rfl, Nat.le_of_ble_eq_true rfl⟩) (og_rc hK (cPc hP)) rfl hl.1 rfl (lv_room (Nat.le_of_ble_eq_true rfl)) ⟨by first | exact Nat.le_of_ble_eq_true rfl | (have z : 4 + 5 * i2 ≤ 44 := (by omega); exact z), by first | exact Nat.le_of_ble_eq_true rfl | (have z : 24 + 50 * i2 ≤ 424 := (by omega); exact z)⟩ dX3_keep_40 ?_
        refine lv_iadd hx hb dX3_keep_43 ?_
        refine lv_istore_n (lv' := [(3, .int (y + (cKeepable V1 b jk i))), (4, .int (nI i)), (0, .ref (u 30)), (1, .int (nI jf)), (2, .int (nI jk))]) hx hb dX3_keep_44 rfl hl (by decide) rfl (fun ls hl => ?_)
        refine lv_iinc (v := nI (i + 1)) (lv' := [(4, .int (nI (i + 1))), (3, .int (y + (cKeepable V1 b jk i))), (0, .ref (u 30)), (1, .int (nI jf)), (2, .int (nI jk))]) hx hb dX3_keep_45 hl (k := 1) rfl (show nI i + Int32.ofInt 1 = _ from nI_add i 1) (by decide) rfl (fun ls hl => ?_)
        refine lv_goto (tgt := 28) hx hb dX3_keep_48 (by decide) ?_
        exact ihu_5  (i + 1) (y + (cKeepable V1 b jk i)) _ _ ls (by omega) (by first | omega | assumption) (by rw [foldU_s, ← hf]; rfl) hP hS (lv_sub hl [1, 0, 2, 3, 4] rfl)
  exact L28_u_5 _ 0 0 _ _ ls (Nat.lt_succ_self _) (by first | omega | assumption) (rfl) hP hS (lv_sub hl [1, 0, 2, 3, 4] rfl)
def cBake (cs : CS) (f : Int32) (k : Int32) : OP :=
  if nOk f 5 = false then (1, 0, cs) else if nOk k (nI cs.2.1) = false then (1, 0, cs) else if opnOk (cLk cs.1 cs.2.2 f).1 (jn k) = false then (3, 0, cs) else if blF (cLk cs.1 cs.2.2 f).1 cs.1 (jn k) = true then (3, 0, cs) else if roomOk cs.2.2.length (nI (cKeptAll (cLk cs.1 cs.2.2 f).1 k + 1)) = false then (3, 0, cs) else (0, nI (cKeptAll (cLk cs.1 cs.2.2 f).1 k), (upA cs.1 10 (jn f) ((bkF (cLk cs.1 cs.2.2 f).1 cs.1 (jn f) (jn k) cs.2.2 40).1 + 1), cs.2.1, insA (mkW 6 ((bkF (cLk cs.1 cs.2.2 f).1 cs.1 (jn f) (jn k) cs.2.2 40).1 + 1) f (-1) k) (bkF (cLk cs.1 cs.2.2 f).1 cs.1 (jn f) (jn k) cs.2.2 40).2))
set_option maxHeartbeats 4000000 in
set_option maxRecDepth 100000 in
theorem cc_X3_bake {l : Launch} (hfl : l.stackTraces = false) {D : va_G} {cI cII : ClassId} {sa : Nat → Nat} {u : Nat → Nat} {V : Nat → Nat → Int32} {pq sp : Int32} {cn : Nat} {e : Option Nat} {sz : Nat} {b : Nat → Nat → Int32} {L : List Nat} {w : Nat → Nat → Int32} {nx : Nat → Option Nat} {z0 : Nat} (hN : (cAd u ++ L).Nodup) (f : Int32) (k : Int32) (hch : chn nx L) (he : e = L.head?) (hsz : sz = L.length) (hok : ∀ x, x ∈ L → okW (w x)) (hcn : cn ≤ 20) (hrc : ∀ k, k < cn → ∃ r, r < 6 ∧ b 11 k = nI r) : xc_Met l yX3_bake wsX3_bake 7 46 440 140 D u cI cII sa z0 L (cW u cI cII V pq sp cn e sz b L w nx) [.ref (u 30), .int f, .int k] kI (pPost u L z0 (cBake (b, cn, List.map w L) f k)) (pPX u L z0 (cBake (b, cn, List.map w L) f k)) := by
  suffices h9 : ∀ L0, L0 = L → xc_Met l yX3_bake wsX3_bake 7 46 440 140 D u cI cII sa z0 L0 (cW u cI cII V pq sp cn e sz b L w nx) [.ref (u 30), .int f, .int k] kI (pPost u L z0 (cBake (b, cn, List.map w L) f k)) (pPX u L z0 (cBake (b, cn, List.map w L) f k)) by exact h9 _ rfl
  intro L0 hL0
  have hLz : ∀ a, a ∈ L → a ∈ L0 ∨ z0 ≤ a := fun a z => Or.inl (by rw [hL0]; exact z)
  refine xc_start rfl (by decide +kernel) (Nat.le_of_ble_eq_true rfl) (fun p e9 s m below meth c F hr hlocks hK hz H locs hP hS hz9 hX hout ls hl => ?_)
  have hl : lv_has ls 5 [(0, .ref (u 30)), (1, .int f), (2, .int k)] := hl
  have hx := F.1
  have hb := F.2.1
  have hinV : ∀ w ∈ wsX00, w ∈ wsX3_bake := by decide +kernel
  have hinO : ∀ w ∈ wsX30, w ∈ wsX3_bake := by decide +kernel
  have hinK : ∀ w ∈ wsX20, w ∈ wsX3_bake := by decide +kernel
  have hinW : ∀ w ∈ wsX10, w ∈ wsX3_bake := by decide +kernel
  refine lv_iload_n hx hb dX3_bake_0 rfl (lv_at hl 1 rfl) ?_
  refine lv_iconst (v := 5) hx hb dX3_bake_1 (by decide) ?_
  refine xc_callS F hK hX (Nat.le_trans (Nat.le_of_eq hz.symm) hS.1) [.int f, .int 5] (cc_X3_checkNumber hfl hN f 5 ) (va_cwS 2 F.2.2.2.2 gX3_bake_X3_checkNumber rfl rfl rfl (by decide +kernel) ⟨Nat.le_of_ble_eq_true rfl, Nat.le_of_ble_eq_true rfl⟩) hP hS (cG_sub hLz (Nat.le_trans (Nat.le_of_eq hz.symm) hS.1)) hout hlocks (fun E9 V9 pq9 sp9 cn9 e9' sz9 b9 L9 w9 nx9 h9 => pPX_of (b, cn, List.map w L) 1 (by simp [cBake, cWr, ← hsz, h9.2.1]) (by decide) h9.1 (aS_of h9.2.2 ⟨rfl, rfl, rfl, he, hsz, hch, hN, fun x hx => hL0 ▸ hLz x hx⟩)) rfl hl.1 rfl (lv_room (Nat.le_of_ble_eq_true rfl)) ⟨(Nat.le_of_ble_eq_true rfl), (Nat.le_of_ble_eq_true rfl)⟩ (Nat.le_of_ble_eq_true rfl) (Nat.le_of_ble_eq_true rfl) dX3_bake_2 (fun r_w_1 ra_w_1 V_w_1 pc_w_1 sp_w_1 cc_w_1 e_w_1 sz_w_1 b_w_1 L_w_1 w_w_1 nx_w_1 H locs hp_w_1 hP hsz_w_1 hfr_w_1 hS => ?_)
  obtain ⟨hb_w_1, -, e2_w_1, e3_w_1, e4_w_1, e5_w_1, e6_w_1, e7_w_1, e8_w_1, e9_w_1, e10_w_1, e11_w_1⟩ := hp_w_1
  rw [e2_w_1, e3_w_1, e4_w_1, e5_w_1, e6_w_1, e7_w_1, e8_w_1, e9_w_1, e10_w_1, e11_w_1] at hP
  obtain ⟨jf, hjf, rfl⟩ := nOk_nat (k := 5) (by omega) rfl hb_w_1
  have njf : jn (nI jf) = jf := jn_nI (by omega)
  refine lv_iload_n hx hb dX3_bake_5 rfl (lv_at hl 2 rfl) ?_
  refine lv_aload_n hx hb dX3_bake_6 rfl (lv_at hl 0 rfl) ?_
  refine og_get F hK hinO (cPc hP) 6 (by decide) (by decide +kernel) rfl dX3_bake_7 ?_
  refine xc_callS F hK hX (Nat.le_trans (Nat.le_of_eq hz.symm) hS.1) [.int k, .int (nI cn)] (cc_X3_checkNumber hfl hN k (nI cn) ) (va_cwS 2 F.2.2.2.2 gX3_bake_X3_checkNumber rfl rfl rfl (by decide +kernel) ⟨Nat.le_of_ble_eq_true rfl, Nat.le_of_ble_eq_true rfl⟩) hP hS (cG_sub hLz (Nat.le_trans (Nat.le_of_eq hz.symm) hS.1)) hout hlocks (fun E9 V9 pq9 sp9 cn9 e9' sz9 b9 L9 w9 nx9 h9 => pPX_of (b, cn, List.map w L) 1 (by simp [cBake, cWr, hb_w_1, njf, ← hsz, h9.2.1]) (by decide) h9.1 (aS_of h9.2.2 ⟨rfl, rfl, rfl, he, hsz, hch, hN, fun x hx => hL0 ▸ hLz x hx⟩)) rfl hl.1 rfl (lv_room (Nat.le_of_ble_eq_true rfl)) ⟨(Nat.le_of_ble_eq_true rfl), (Nat.le_of_ble_eq_true rfl)⟩ (Nat.le_of_ble_eq_true rfl) (Nat.le_of_ble_eq_true rfl) dX3_bake_10 (fun r_w_2 ra_w_2 V_w_2 pc_w_2 sp_w_2 cc_w_2 e_w_2 sz_w_2 b_w_2 L_w_2 w_w_2 nx_w_2 H locs hp_w_2 hP hsz_w_2 hfr_w_2 hS => ?_)
  obtain ⟨hb_w_2, -, e2_w_2, e3_w_2, e4_w_2, e5_w_2, e6_w_2, e7_w_2, e8_w_2, e9_w_2, e10_w_2, e11_w_2⟩ := hp_w_2
  rw [e2_w_2, e3_w_2, e4_w_2, e5_w_2, e6_w_2, e7_w_2, e8_w_2, e9_w_2, e10_w_2, e11_w_2] at hP
  obtain ⟨jk, hjk, rfl⟩ := nOk_nat (k := cn) (by omega) rfl hb_w_2
  have njk : jn (nI jk) = jk := jn_nI (by omega)
  refine lv_aload_n hx hb dX3_bake_13 rfl (lv_at hl 0 rfl) ?_
  refine lv_iload_n hx hb dX3_bake_14 rfl (lv_at hl 1 rfl) ?_
  refine cw_callV F hK [.int (nI jf)] (cc_X3_lookAs hN jf (by first | assumption | omega | rfl) (by first | assumption | omega | rfl) (by first | assumption | omega | rfl)) (cwV 1 F.2.2.2.2 gX3_bake_X3_lookAs rfl rfl rfl (by decide +kernel) ⟨Nat.le_of_ble_eq_true rfl, Nat.le_of_ble_eq_true rfl⟩) (og_rc hK (cPc hP)) hP hS (cG_sub hLz (Nat.le_trans (Nat.le_of_eq hz.symm) hS.1)) rfl hl.1 rfl (lv_room (Nat.le_of_ble_eq_true rfl)) ⟨Nat.le_of_ble_eq_true rfl, Nat.le_of_ble_eq_true rfl⟩ dX3_bake_15 (fun r_w_3 ra_w_3 V_w_3 pc_w_3 sp_w_3 cc_w_3 e_w_3 sz_w_3 b_w_3 L_w_3 w_w_3 nx_w_3 H locs hp_w_3 hP hsz_w_3 hfr_w_3 hS => ?_)
  obtain ⟨-, e2_w_3, e3_w_3, e4_w_3, e5_w_3, e6_w_3, e7_w_3, e8_w_3, e9_w_3, e10_w_3, e11_w_3⟩ := hp_w_3
  rw [e2_w_3, e3_w_3, e4_w_3, e5_w_3, e6_w_3, e7_w_3, e8_w_3, e9_w_3, e10_w_3, e11_w_3] at hP
  obtain ⟨V1, pq1, sp1, hlk⟩ : ∃ V1 pq1 sp1, cLk b (List.map w L) (nI jf) = (V1, pq1, sp1) := ⟨_, _, _, rfl⟩
  have hlk9 : rdV w ((1 : Int32) <<< (nI jf &&& 31)) (b 12) L = (V1, pq1, sp1) := (rdV_A _ _ _ _).trans hlk
  have hP : va_P D vwCl (cW u cI cII V1 pq1 sp1 cn e sz b L w nx) H := by rw [hlk9] at hP; exact hP
  refine lv_aload_n hx hb dX3_bake_18 rfl (lv_at hl 0 rfl) ?_
  refine lv_iload_n hx hb dX3_bake_19 rfl (lv_at hl 2 rfl) ?_
  refine xc_callV F hK hX (Nat.le_trans (Nat.le_of_eq hz.symm) hS.1) [.int (nI jk)] (cc_X3_checkOpen hfl hN jk (by first | assumption | omega | rfl)) (cwV 1 F.2.2.2.2 gX3_bake_X3_checkOpen rfl rfl rfl (by decide +kernel) ⟨Nat.le_of_ble_eq_true rfl, Nat.le_of_ble_eq_true rfl⟩) (og_rc hK (cPc hP)) hP hS (cG_sub hLz (Nat.le_trans (Nat.le_of_eq hz.symm) hS.1)) hout hlocks (fun E9 V9 pq9 sp9 cn9 e9' sz9 b9 L9 w9 nx9 h9 => pPX_of (b, cn, List.map w L) 3 (by simp [cBake, cWr, hb_w_1, njf, hb_w_2, njk, hlk, ← hsz, h9.2.1]) (by decide) h9.1 (aS_of h9.2.2 ⟨rfl, rfl, rfl, he, hsz, hch, hN, fun x hx => hL0 ▸ hLz x hx⟩)) rfl hl.1 rfl (lv_room (Nat.le_of_ble_eq_true rfl)) ⟨(Nat.le_of_ble_eq_true rfl), (Nat.le_of_ble_eq_true rfl)⟩ (Nat.le_of_ble_eq_true rfl) (Nat.le_of_ble_eq_true rfl) dX3_bake_20 (fun r_w_4 ra_w_4 V_w_4 pc_w_4 sp_w_4 cc_w_4 e_w_4 sz_w_4 b_w_4 L_w_4 w_w_4 nx_w_4 H locs hp_w_4 hP hsz_w_4 hfr_w_4 hS => ?_)
  obtain ⟨hb_w_4, -, e2_w_4, e3_w_4, e4_w_4, e5_w_4, e6_w_4, e7_w_4, e8_w_4, e9_w_4, e10_w_4, e11_w_4⟩ := hp_w_4
  rw [e2_w_4, e3_w_4, e4_w_4, e5_w_4, e6_w_4, e7_w_4, e8_w_4, e9_w_4, e10_w_4, e11_w_4] at hP
  refine lv_iconst (v := 0) hx hb dX3_bake_23 (by decide) ?_
  refine lv_istore_n (lv' := [(3, .int 0), (0, .ref (u 30)), (1, .int (nI jf)), (2, .int (nI jk))]) hx hb dX3_bake_24 rfl hl (by decide) rfl (fun ls hl => ?_)
  have L25_u_5 : ∀ (k9u_5 : Nat) (i : Nat) (H : Heap) (locs : List Loc) (ls : Array Slot), 8 - i < k9u_5 → i ≤ 8 → foldU (fun i x => x || blP V1 b jk i) false i = false → va_P D vwCl (cW u cI cII V1 pq1 sp1 cn e sz b L w nx) H → va_S (cG u L0 z0) s.heap H locs → lv_has ls 5 [(3, .int (nI i)), (0, .ref (u 30)), (1, .int (nI jf)), (2, .int (nI jk))] → xcW p l e9 7 46 440 140 s m [.ref (u 30), .int (nI jf), .int (nI jk)] below meth c H locs (0 + 1 + 1 + 1) (0 + 6 + 6 + 6) D u cI cII z0 L0 kI (pPost u L z0 (cBake (b, cn, List.map w L) (nI jf) (nI jk))) (pPX u L z0 (cBake (b, cn, List.map w L) (nI jf) (nI jk))) (F0 m 25 ls []) := by
    intro k9u_5
    induction k9u_5 with
    | zero => intro i H locs ls hk; exact absurd hk (Nat.not_lt_zero _)
    | succ k9u_5 ihu_5 =>
      intro i H locs ls hk hi hf hP hS hl
      refine lv_iload_n hx hb dX3_bake_25 rfl (lv_at hl 0 rfl) ?_
      refine lv_bipush (v := 8) hx hb dX3_bake_26 (by decide) ?_
      refine lw_ge (tgt := 56) hx hb i 8 (by omega) (by omega) dX3_bake_28 (by decide) (fun c_6 => ?_) (fun c_6 => ?_)
      · skip
        have hi8 : i = 8 := by omega
        rw [hi8] at hf
        have hbl : blF V1 b jk = false := hf
        refine lv_aload_n hx hb dX3_bake_56 rfl (lv_at hl 1 rfl) ?_
        refine lv_iload_n hx hb dX3_bake_57 rfl (lv_at hl 3 rfl) ?_
        refine ro_callV F hK [.int (nI jk)] (cc_X3_keptInAll (cPv hP) (cPc hP) (nI jk) ) (cwV 1 F.2.2.2.2 gX3_bake_X3_keptInAll rfl rfl rfl (by decide +kernel) ⟨Nat.le_of_ble_eq_true rfl, Nat.le_of_ble_eq_true rfl⟩) (og_rc hK (cPc hP)) rfl hl.1 rfl (lv_room (Nat.le_of_ble_eq_true rfl)) ⟨by first | exact Nat.le_of_ble_eq_true rfl | (have z : 4 + k2 ≤ 46 := (by omega); exact z), by first | exact Nat.le_of_ble_eq_true rfl | (have z : 24 + 10 * k2 ≤ 440 := (by omega); exact z)⟩ dX3_bake_58 ?_
        refine lv_istore_n (lv' := [(3, .int (nI (cKeptAll V1 (nI jk)))), (0, .ref (u 30)), (1, .int (nI jf)), (2, .int (nI jk))]) hx hb dX3_bake_61 rfl hl (by decide) rfl (fun ls hl => ?_)
        refine lv_aload_n hx hb dX3_bake_62 rfl (lv_at hl 1 rfl) ?_
        refine lv_iload_n hx hb dX3_bake_63 rfl (lv_at hl 0 rfl) ?_
        refine lv_iconst (v := 1) hx hb dX3_bake_64 (by decide) ?_
        refine lw_add hx hb (i := (cKeptAll V1 (nI jk))) (j := 1) dX3_bake_65 ?_
        refine xc_callV F hK hX (Nat.le_trans (Nat.le_of_eq hz.symm) hS.1) [.int (nI ((cKeptAll V1 (nI jk)) + 1))] (cc_X3_checkRoomFor hfl hN (nI ((cKeptAll V1 (nI jk)) + 1)) ) (cwV 1 F.2.2.2.2 gX3_bake_X3_checkRoomFor rfl rfl rfl (by decide +kernel) ⟨Nat.le_of_ble_eq_true rfl, Nat.le_of_ble_eq_true rfl⟩) (og_rc hK (cPc hP)) hP hS (cG_sub hLz (Nat.le_trans (Nat.le_of_eq hz.symm) hS.1)) hout hlocks (fun E9 V9 pq9 sp9 cn9 e9' sz9 b9 L9 w9 nx9 h9 => pPX_of (b, cn, List.map w L) 3 (by simp [cBake, cWr, hb_w_1, njf, hb_w_2, njk, hlk, hb_w_4, c_6, hbl, ← hsz, h9.2.1]) (by decide) h9.1 (aS_of h9.2.2 ⟨rfl, rfl, rfl, he, hsz, hch, hN, fun x hx => hL0 ▸ hLz x hx⟩)) rfl hl.1 rfl (lv_room (Nat.le_of_ble_eq_true rfl)) ⟨(Nat.le_of_ble_eq_true rfl), (Nat.le_of_ble_eq_true rfl)⟩ (Nat.le_of_ble_eq_true rfl) (Nat.le_of_ble_eq_true rfl) dX3_bake_66 (fun r_w_7 ra_w_7 V_w_7 pc_w_7 sp_w_7 cc_w_7 e_w_7 sz_w_7 b_w_7 L_w_7 w_w_7 nx_w_7 H locs hp_w_7 hP hsz_w_7 hfr_w_7 hS => ?_)
        obtain ⟨hb_w_7, -, e2_w_7, e3_w_7, e4_w_7, e5_w_7, e6_w_7, e7_w_7, e8_w_7, e9_w_7, e10_w_7, e11_w_7⟩ := hp_w_7
        rw [e2_w_7, e3_w_7, e4_w_7, e5_w_7, e6_w_7, e7_w_7, e8_w_7, e9_w_7, e10_w_7, e11_w_7] at hP
        refine lv_iconst (v := 0) hx hb dX3_bake_69 (by decide) ?_
        refine lv_istore (lv' := [(4, .int 0), (3, .int (nI (cKeptAll V1 (nI jk)))), (0, .ref (u 30)), (1, .int (nI jf)), (2, .int (nI jk))]) hx hb dX3_bake_70 hl (by decide) rfl (fun ls hl => ?_)
        have L72_u_8 : ∀ (k9u_8 : Nat) (L2 : List Nat) (w2 : Nat → Nat → Int32) (nx2 : Nat → Option Nat) (c2 : Int32) (i2 : Nat) (k2 : Nat) (H : Heap) (locs : List Loc) (ls : Array Slot), 40 - i2 < k9u_8 → i2 ≤ 40 → k2 ≤ i2 → (cAd u ++ L2).Nodup → (∀ a, a ∈ L2 → a ∈ L0 ∨ z0 ≤ a) → chn nx2 L2 → bkF V1 b jf jk (List.map w L) i2 = (c2, List.map w2 L2) → va_P D vwCl (cW u cI cII V1 pq1 sp1 cn (L2.head?) L2.length (upA b 10 jf c2) L2 w2 nx2) H → va_S (cG u L0 z0) s.heap H locs → lv_has ls 5 [(4, .int (nI i2)), (3, .int (nI (cKeptAll V1 (nI jk)))), (0, .ref (u 30)), (1, .int (nI jf)), (2, .int (nI jk))] → xcW p l e9 7 46 440 140 s m [.ref (u 30), .int (nI jf), .int (nI jk)] below meth c H locs (4 + k2) (24 + 10 * k2) D u cI cII z0 L0 kI (pPost u L z0 (cBake (b, cn, List.map w L) (nI jf) (nI jk))) (pPX u L z0 (cBake (b, cn, List.map w L) (nI jf) (nI jk))) (F0 m 72 ls []) := by
          intro k9u_8
          induction k9u_8 with
          | zero => intro L2 w2 nx2 c2 i2 k2 H locs ls hk; exact absurd hk (Nat.not_lt_zero _)
          | succ k9u_8 ihu_8 =>
            intro L2 w2 nx2 c2 i2 k2 H locs ls hk hi2 hk2 hN hLz hch hf2 hP hS hl
            refine lv_iload hx hb dX3_bake_72 (lv_at hl 0 rfl) ?_
            refine lv_bipush (v := 40) hx hb dX3_bake_74 (by decide) ?_
            refine lw_ge (tgt := 109) hx hb i2 40 (by omega) (by omega) dX3_bake_76 (by decide) (fun c_9 => ?_) (fun c_9 => ?_)
            · skip
              have hi9 : i2 = 40 := by omega
              rw [hi9] at hf2
              refine lv_aload_n hx hb dX3_bake_109 rfl (lv_at hl 2 rfl) ?_
              refine lv_iload_n hx hb dX3_bake_110 rfl (lv_at hl 3 rfl) ?_
              refine lv_bipush (v := 6) hx hb dX3_bake_111 (by decide) ?_
              refine lv_iconst (v := (-1)) hx hb dX3_bake_113 (by decide) ?_
              refine lv_iload_n hx hb dX3_bake_114 rfl (lv_at hl 4 rfl) ?_
              have hzo_w_10 : z0 ≤ Array.size H := Nat.le_trans (Nat.le_of_eq hz.symm) hS.1
              refine cw_callV F hK [.int (nI jf), .int 6, .int (-1), .int (nI jk)] (cc_X3_write hN jf 6 (-1) (nI jk) (by first | assumption | omega | rfl) (by first | assumption | omega | rfl) (by first | rfl | exact he)) (cwV 4 F.2.2.2.2 gX3_bake_X3_write rfl rfl rfl (by decide +kernel) ⟨Nat.le_of_ble_eq_true rfl, Nat.le_of_ble_eq_true rfl⟩) (og_rc hK (cPc hP)) hP hS (cG_sub hLz (Nat.le_trans (Nat.le_of_eq hz.symm) hS.1)) rfl hl.1 rfl (lv_room (Nat.le_of_ble_eq_true rfl)) ⟨by have z : 4 + k2 + 1 ≤ 46 := (by omega); exact z, by have z : 24 + 10 * k2 + 10 ≤ 440 := (by omega); exact z⟩ dX3_bake_115 (fun r_w_10 ra_w_10 V_w_10 pc_w_10 sp_w_10 cc_w_10 e_w_10 sz_w_10 b_w_10 L_w_10 w_w_10 nx_w_10 H locs hp_w_10 hP hsz_w_10 hfr_w_10 hS => ?_)
              obtain ⟨e2_w_10, e3_w_10, e4_w_10, e5_w_10, e6_w_10, e7_w_10, e8_w_10, hw_w_10, hL_w_10, hch_w_10, hN_w_10, hra_w_10, hrz_w_10⟩ := hp_w_10
              rw [e2_w_10, e3_w_10, e4_w_10, e5_w_10, e6_w_10, e7_w_10, e8_w_10] at hP
              have hmem_w_10 : ra_w_10 ∈ L_w_10 := by rw [hL_w_10]; exact (insL_mem _ _ _ _).mpr (Or.inl rfl)
              rw [upA_s] at hw_w_10 hP
              rw [upA_tw] at hP
              have hws_w_10 : L_w_10.map w_w_10 = insA (mkW 6 (c2 + 1) (nI jf) (-1) (nI jk)) (List.map w2 L2) := by rw [hL_w_10, hw_w_10]; exact (insA_map hra_w_10).trans (congrArg (insA _) (rfl))
              have hlen_w_10 : L2.length + 1 = L_w_10.length := by rw [hL_w_10, insL_len]
              rw [hlen_w_10] at hP
              have hLz_w_10 : ∀ a, a ∈ L_w_10 → a ∈ L0 ∨ z0 ≤ a := fun a ha => by rw [hL_w_10] at ha; exact ((insL_mem _ _ _ _).mp ha).elim (fun q => Or.inr (by rw [q]; exact Nat.le_trans hzo_w_10 hrz_w_10)) (hLz a)
              have hN := hN_w_10
              have hLz := hLz_w_10
              have hch := hch_w_10
              refine lv_pop hx hb dX3_bake_118 rfl ?_
              refine lv_iload_n hx hb dX3_bake_119 rfl (lv_at hl 1 rfl) ?_
              refine vx_ret ?_
              exact cw_reti F hr hlocks hP hS (pPost_of (upA b 10 jf (c2 + 1), cn, insA (mkW 6 (c2 + 1) (nI jf) (-1) (nI jk)) (List.map w2 L2)) (by simp [cBake, cWr, hb_w_1, njf, hb_w_2, njk, hlk, hb_w_4, c_6, hbl, hb_w_7, c_9, hf2, hw_w_10, stW, mkW, ← hsz, bI]) ⟨rfl, rfl, hws_w_10, rfl, rfl, hch_w_10, hN_w_10, fun x hx => hL0 ▸ hLz_w_10 x hx⟩) (by omega) (by omega) dX3_bake_120
            · skip
              refine lv_aload_n hx hb dX3_bake_79 rfl (lv_at hl 2 rfl) ?_
              refine og_get F hK hinO (cPc hP) 1 (by decide) (by decide +kernel) rfl dX3_bake_80 ?_
              refine vg_get F hK hinV (cPv hP) 2 (by decide) (by decide +kernel) rfl dX3_bake_83 ?_
              refine lv_iload hx hb dX3_bake_86 (lv_at hl 0 rfl) ?_
              refine cg_ald F hK (cPv hP) 3 40 rfl i2 rfl (by omega) (by decide) dX3_bake_88 ?_
              refine lv_iload_n hx hb dX3_bake_89 rfl (lv_at hl 4 rfl) ?_
              refine lv_icmp_ne (tgt := 103) hx hb dX3_bake_90 (by decide) (fun c_11 => ?_) (fun c_11 => ?_)
              · skip
                refine lv_iinc (v := nI (i2 + 1)) (lv' := [(4, .int (nI (i2 + 1))), (3, .int (nI (cKeptAll V1 (nI jk)))), (0, .ref (u 30)), (1, .int (nI jf)), (2, .int (nI jk))]) hx hb dX3_bake_103 hl (k := 0) rfl (show nI i2 + Int32.ofInt 1 = _ from nI_add i2 1) (by decide) rfl (fun ls hl => ?_)
                refine lv_goto (tgt := 72) hx hb dX3_bake_106 (by decide) ?_
                exact ihu_8  L2 w2 nx2 c2 (i2 + 1) k2 _ _ ls (by omega) (by first | omega | assumption) (by first | omega | assumption) (hN) (hLz) (hch) (by unfold bkF at hf2 ⊢; rw [foldU_s, hf2]; show bkStep V1 jf jk i2 (c2, List.map w2 L2) = _; simp [bkStep, hb_w_1, njf, hb_w_2, njk, hlk, hb_w_4, c_6, hbl, hb_w_7, c_9, c_11]) hP hS (lv_sub hl [0, 1, 2, 3, 4] rfl)
              · skip
                refine lv_aload_n hx hb dX3_bake_93 rfl (lv_at hl 2 rfl) ?_
                refine lv_iload_n hx hb dX3_bake_94 rfl (lv_at hl 3 rfl) ?_
                refine lv_iconst (v := 1) hx hb dX3_bake_95 (by decide) ?_
                refine lv_iload hx hb dX3_bake_96 (lv_at hl 0 rfl) ?_
                refine lv_iload_n hx hb dX3_bake_98 rfl (lv_at hl 4 rfl) ?_
                have hzo_w_12 : z0 ≤ Array.size H := Nat.le_trans (Nat.le_of_eq hz.symm) hS.1
                refine cw_callV F hK [.int (nI jf), .int 1, .int (nI i2), .int (nI jk)] (cc_X3_write hN jf 1 (nI i2) (nI jk) (by first | assumption | omega | rfl) (by first | assumption | omega | rfl) (by first | rfl | exact he)) (cwV 4 F.2.2.2.2 gX3_bake_X3_write rfl rfl rfl (by decide +kernel) ⟨Nat.le_of_ble_eq_true rfl, Nat.le_of_ble_eq_true rfl⟩) (og_rc hK (cPc hP)) hP hS (cG_sub hLz (Nat.le_trans (Nat.le_of_eq hz.symm) hS.1)) rfl hl.1 rfl (lv_room (Nat.le_of_ble_eq_true rfl)) ⟨by have z : 4 + k2 + 1 ≤ 46 := (by omega); exact z, by have z : 24 + 10 * k2 + 10 ≤ 440 := (by omega); exact z⟩ dX3_bake_99 (fun r_w_12 ra_w_12 V_w_12 pc_w_12 sp_w_12 cc_w_12 e_w_12 sz_w_12 b_w_12 L_w_12 w_w_12 nx_w_12 H locs hp_w_12 hP hsz_w_12 hfr_w_12 hS => ?_)
                obtain ⟨e2_w_12, e3_w_12, e4_w_12, e5_w_12, e6_w_12, e7_w_12, e8_w_12, hw_w_12, hL_w_12, hch_w_12, hN_w_12, hra_w_12, hrz_w_12⟩ := hp_w_12
                rw [e2_w_12, e3_w_12, e4_w_12, e5_w_12, e6_w_12, e7_w_12, e8_w_12] at hP
                have hmem_w_12 : ra_w_12 ∈ L_w_12 := by rw [hL_w_12]; exact (insL_mem _ _ _ _).mpr (Or.inl rfl)
                rw [upA_s] at hw_w_12 hP
                rw [upA_tw] at hP
                have hws_w_12 : L_w_12.map w_w_12 = insA (mkW 1 (c2 + 1) (nI jf) (nI i2) (nI jk)) (List.map w2 L2) := by rw [hL_w_12, hw_w_12]; exact (insA_map hra_w_12).trans (congrArg (insA _) (rfl))
                have hlen_w_12 : L2.length + 1 = L_w_12.length := by rw [hL_w_12, insL_len]
                rw [hlen_w_12] at hP
                have hLz_w_12 : ∀ a, a ∈ L_w_12 → a ∈ L0 ∨ z0 ≤ a := fun a ha => by rw [hL_w_12] at ha; exact ((insL_mem _ _ _ _).mp ha).elim (fun q => Or.inr (by rw [q]; exact Nat.le_trans hzo_w_12 hrz_w_12)) (hLz a)
                have hN := hN_w_12
                have hLz := hLz_w_12
                have hch := hch_w_12
                refine lv_pop hx hb dX3_bake_102 rfl ?_
                refine lv_iinc (v := nI (i2 + 1)) (lv' := [(4, .int (nI (i2 + 1))), (3, .int (nI (cKeptAll V1 (nI jk)))), (0, .ref (u 30)), (1, .int (nI jf)), (2, .int (nI jk))]) hx hb dX3_bake_103 hl (k := 0) rfl (show nI i2 + Int32.ofInt 1 = _ from nI_add i2 1) (by decide) rfl (fun ls hl => ?_)
                refine lv_goto (tgt := 72) hx hb dX3_bake_106 (by decide) ?_
                exact ihu_8  L_w_12 w_w_12 nx_w_12 (c2 + 1) (i2 + 1) (k2 + 1) _ _ ls (by omega) (by first | omega | assumption) (by first | omega | assumption) (hN_w_12) (hLz_w_12) (hch_w_12) (by unfold bkF at hf2 ⊢; rw [foldU_s, hf2]; show bkStep V1 jf jk i2 (c2, List.map w2 L2) = _; rw [hws_w_12]; simp [bkStep, hb_w_1, njf, hb_w_2, njk, hlk, hb_w_4, c_6, hbl, hb_w_7, c_9, c_11]) hP hS (lv_sub hl [0, 1, 2, 3, 4] rfl)
        exact L72_u_8 _ L w nx (b 10 jf) 0 0 _ _ ls (Nat.lt_succ_self _) (by first | omega | assumption) (by first | omega | assumption) (hN) (hLz) (hch) (rfl) (by rw [upA_self, ← he, ← hsz]; exact hP) hS (lv_sub hl [0, 1, 2, 3, 4] rfl)
      · skip
        refine lv_aload_n hx hb dX3_bake_31 rfl (lv_at hl 1 rfl) ?_
        refine lv_iload_n hx hb dX3_bake_32 rfl (lv_at hl 3 rfl) ?_
        refine lv_iload_n hx hb dX3_bake_33 rfl (lv_at hl 0 rfl) ?_
        refine ro_callV F hK [.int (nI jk), .int (nI i)] (cc_X3_lacking (cPv hP) (cPc hP) jk i (by first | assumption | omega) (by first | assumption | omega) (hrc jk hjk)) (cwV 2 F.2.2.2.2 gX3_bake_X3_lacking rfl rfl rfl (by decide +kernel) ⟨Nat.le_of_ble_eq_true rfl, Nat.le_of_ble_eq_true rfl⟩) (og_rc hK (cPc hP)) rfl hl.1 rfl (lv_room (Nat.le_of_ble_eq_true rfl)) ⟨by first | exact Nat.le_of_ble_eq_true rfl | (have z : 4 + k2 ≤ 46 := (by omega); exact z), by first | exact Nat.le_of_ble_eq_true rfl | (have z : 24 + 10 * k2 ≤ 440 := (by omega); exact z)⟩ dX3_bake_34 ?_
        refine lv_if_le (tgt := 50) hx hb dX3_bake_37 (by decide) (fun c_13 => ?_) (fun c_13 => ?_)
        · skip
          refine lv_iinc (v := nI (i + 1)) (lv' := [(3, .int (nI (i + 1))), (0, .ref (u 30)), (1, .int (nI jf)), (2, .int (nI jk))]) hx hb dX3_bake_50 hl (k := 0) rfl (show nI i + Int32.ofInt 1 = _ from nI_add i 1) (by decide) rfl (fun ls hl => ?_)
          refine lv_goto (tgt := 25) hx hb dX3_bake_53 (by decide) ?_
          exact ihu_5  (i + 1) _ _ ls (by omega) (by first | omega | assumption) (by rw [foldU_s, hf]; simp [blP, hb_w_1, njf, hb_w_2, njk, hlk, hb_w_4, c_6, c_13]) hP hS (lv_sub hl [0, 1, 2, 3] rfl)
        · skip
          exact xt_throw F hfl hP hS hX hout hlocks hl.1 "java/lang/IllegalStateException" 53 143 57 9 "the cake lacks something" rfl (by decide +kernel) rfl (by decide +kernel) (by decide +kernel) (by decide +kernel) xn_IS xg_IS dX3_bake_40 dX3_bake_43 dX3_bake_44 dX3_bake_46 dX3_bake_49 ⟨(Nat.le_of_ble_eq_true rfl), (Nat.le_of_ble_eq_true rfl), (Nat.le_of_ble_eq_true rfl), (Nat.le_of_ble_eq_true rfl)⟩ (pPX_of (b, cn, List.map w L) 3 (by have hbl : blF V1 b jk = true := (foldU_or _ 8).mpr ⟨i, by omega, by simp [blP, Int32.not_le.mp c_13]⟩; simp [cBake, cWr, hb_w_1, njf, hb_w_2, njk, hlk, hb_w_4, c_6, c_13, ← hsz, hbl]) (by decide) rfl ⟨rfl, rfl, rfl, he, hsz, hch, hN, fun x hx => hL0 ▸ hLz x hx⟩) (Nat.le_of_ble_eq_true rfl) (Nat.le_of_ble_eq_true rfl)
  exact L25_u_5 _ 0 _ _ ls (Nat.lt_succ_self _) (by first | omega | assumption) (rfl) hP hS (lv_sub hl [0, 1, 2, 3] rfl)
