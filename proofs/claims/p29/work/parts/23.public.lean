/-! the public methods: what they do to the words, without addresses -/
abbrev CS : Type := (Nat → Nat → Int32) × Nat × List (Nat → Int32)
abbrev OP : Type := Nat × Int32 × CS
def rdA1 (fr : Int32) : List (Nat → Int32) → VS → VS
  | [], z => z
  | x :: M, z => rdA1 fr M (if x 8 &&& fr = 0 then z else hrS z x)
def rdA2 (fr : Int32) (dy : Nat → Int32) : List (Nat → Int32) → (Nat → Nat → Int32) → (Nat → Nat → Int32)
  | [], V => V
  | x :: M, V => rdA2 fr dy M (if x 0 = 4 then (if x 8 &&& fr = 0 then V else hkV V dy (jn (x 3)) (jn (x 4))) else V)
def rdA (fr : Int32) (dy : Nat → Int32) (ws : List (Nat → Int32)) : VS := (rdA2 fr dy ws (rdA1 fr ws (fgV, 0, 0)).1, (rdA1 fr ws (fgV, 0, 0)).2)
theorem rd1_A (w : Nat → Nat → Int32) (fr : Int32) : ∀ (L : List Nat) (z : VS), rd1 w fr L z = rdA1 fr (L.map w) z
  | [], _ => rfl
  | x :: M, z => by unfold rd1; rw [rd1_A w fr M]; rfl
theorem rd2_A (w : Nat → Nat → Int32) (fr : Int32) (dy : Nat → Int32) : ∀ (L : List Nat) (V : Nat → Nat → Int32), rd2 w fr dy L V = rdA2 fr dy (L.map w) V
  | [], _ => rfl
  | x :: M, V => by unfold rd2; rw [rd2_A w fr dy M]; rfl
theorem rdV_A (w : Nat → Nat → Int32) (fr : Int32) (dy : Nat → Int32) (L : List Nat) : rdV w fr dy L = rdA fr dy (L.map w) := by unfold rdV rdA; rw [rd1_A, rd2_A]
def cLk (b : Nat → Nat → Int32) (ws : List (Nat → Int32)) (f : Int32) : VS := rdA ((1 : Int32) <<< (f &&& 31)) (b 12) ws
def cLa (b : Nat → Nat → Int32) (ws : List (Nat → Int32)) : VS := rdA 31 (b 12) ws
def skA (fr : Int32) : List (Nat → Int32) → Nat
  | [] => 0
  | x :: M => (if x 8 &&& fr = 0 then 0 else 1) + skA fr M
theorem skF_A (w : Nat → Nat → Int32) (fr : Int32) : ∀ L : List Nat, skF w fr L = skA fr (L.map w)
  | [] => rfl
  | x :: M => by unfold skF; rw [skF_A w fr M]; rfl
def aS (u : Nat → Nat) (L0 : List Nat) (z0 : Nat) (cs : CS) : PostC := fun _ _ _ _ _ cn9 e9 sz9 b9 L9 w9 nx9 =>
  cn9 = cs.2.1 ∧ b9 = cs.1 ∧ L9.map w9 = cs.2.2 ∧ e9 = L9.head? ∧ sz9 = L9.length ∧ chn nx9 L9 ∧ (cAd u ++ L9).Nodup ∧ ∀ x, x ∈ L9 → x ∈ L0 ∨ z0 ≤ x
def pPost (u : Nat → Nat) (L0 : List Nat) (z0 : Nat) (op : OP) : PostC := fun r ra V9 pq9 sp9 cn9 e9 sz9 b9 L9 w9 nx9 => op.1 = 0 ∧ op.2.1 = r ∧ aS u L0 z0 op.2.2 r ra V9 pq9 sp9 cn9 e9 sz9 b9 L9 w9 nx9
def pPX (u : Nat → Nat) (L0 : List Nat) (z0 : Nat) (op : OP) : PostX := fun E r ra V9 pq9 sp9 cn9 e9 sz9 b9 L9 w9 nx9 => op.1 ≠ 0 ∧ E = eName op.1 ∧ aS u L0 z0 op.2.2 r ra V9 pq9 sp9 cn9 e9 sz9 b9 L9 w9 nx9
section PP
variable {u : Nat → Nat} {L0 : List Nat} {z0 : Nat} {op : OP} {cs : CS} {r : Int32} {ra : Nat} {V V9 : Nat → Nat → Int32} {pq sp pq9 sp9 : Int32} {cn cn9 : Nat} {e e9 : Option Nat} {sz sz9 : Nat} {b b9 : Nat → Nat → Int32} {L L9 : List Nat} {w w9 : Nat → Nat → Int32} {nx nx9 : Nat → Option Nat} {E : String} {k : Nat}
theorem aS_of (h9 : cEq 0 V pq sp cn e sz b L w nx 0 0 V9 pq9 sp9 cn9 e9 sz9 b9 L9 w9 nx9) (h : aS u L0 z0 cs 0 0 V pq sp cn e sz b L w nx) : aS u L0 z0 cs 0 0 V9 pq9 sp9 cn9 e9 sz9 b9 L9 w9 nx9 := by
  obtain ⟨-, rfl, rfl, rfl, rfl, rfl, rfl, rfl, rfl, rfl, rfl⟩ := h9
  exact h
theorem pPX_of (cs : CS) (k : Nat) (ho : op = (k, 0, cs)) (hk : k ≠ 0) (hE : E = eName k) (h : aS u L0 z0 cs 0 0 V9 pq9 sp9 cn9 e9 sz9 b9 L9 w9 nx9) : pPX u L0 z0 op E 0 0 V9 pq9 sp9 cn9 e9 sz9 b9 L9 w9 nx9 := by
  subst ho; exact ⟨hk, hE, h⟩
theorem pPost_of (cs : CS) (ho : op = (0, r, cs)) (h : aS u L0 z0 cs 0 0 V9 pq9 sp9 cn9 e9 sz9 b9 L9 w9 nx9) : pPost u L0 z0 op r ra V9 pq9 sp9 cn9 e9 sz9 b9 L9 w9 nx9 := by
  subst ho; exact ⟨rfl, rfl, h⟩
end PP
theorem nOk_nat {n bd : Int32} {k : Nat} (hk : k < 2 ^ 31) (hb : bd = nI k) (h : nOk n bd = true) : ∃ j, j < k ∧ n = nI j := by
  subst hb
  simp only [nOk, Bool.and_eq_true, Bool.not_eq_true', decide_eq_false_iff_not, decide_eq_true_eq] at h
  have h1 : (0 : Int) ≤ n.toInt := by
    have z := Int32.not_lt.mp h.1
    rw [Int32.le_iff_toInt_le] at z
    exact z
  have h2 : n.toInt < (nI k).toInt := Int32.lt_iff_toInt_lt.mp h.2
  have h3 : (nI k).toInt = k := nI_toInt hk
  refine ⟨n.toInt.toNat, by omega, ?_⟩
  rw [← Int32.toInt_inj, nI_toInt (by omega)]
  omega
def cWr (cs : CS) (f kd sb ck : Int32) : CS := (upA cs.1 10 (jn f) (cs.1 10 (jn f) + 1), cs.2.1, insA (mkW kd (cs.1 10 (jn f) + 1) f sb ck) cs.2.2)
def cWhere (cs : CS) (f : Int32) (t : Int32) : OP :=
  if nOk f 5 = false then (1, 0, cs) else if nOk t 40 = false then (1, 0, cs) else (0, (cLk cs.1 cs.2.2 f).1 0 (jn t), cs)
set_option maxHeartbeats 4000000 in
set_option maxRecDepth 100000 in
theorem cc_X3_where {l : Launch} (hfl : l.stackTraces = false) {D : va_G} {cI cII : ClassId} {sa : Nat → Nat} {u : Nat → Nat} {V : Nat → Nat → Int32} {pq sp : Int32} {cn : Nat} {e : Option Nat} {sz : Nat} {b : Nat → Nat → Int32} {L : List Nat} {w : Nat → Nat → Int32} {nx : Nat → Option Nat} {z0 : Nat} (hN : (cAd u ++ L).Nodup) (f : Int32) (t : Int32) (hch : chn nx L) (he : e = L.head?) (hsz : sz = L.length) (hok : ∀ x, x ∈ L → okW (w x)) (hcn : cn ≤ 20) (hrc : ∀ k, k < cn → ∃ r, r < 6 ∧ b 11 k = nI r) : xc_Met l yX3_where wsX3_where 7 2 12 140 D u cI cII sa z0 L (cW u cI cII V pq sp cn e sz b L w nx) [.ref (u 30), .int f, .int t] kI (pPost u L z0 (cWhere (b, cn, List.map w L) f t)) (pPX u L z0 (cWhere (b, cn, List.map w L) f t)) := by
  suffices h9 : ∀ L0, L0 = L → xc_Met l yX3_where wsX3_where 7 2 12 140 D u cI cII sa z0 L0 (cW u cI cII V pq sp cn e sz b L w nx) [.ref (u 30), .int f, .int t] kI (pPost u L z0 (cWhere (b, cn, List.map w L) f t)) (pPX u L z0 (cWhere (b, cn, List.map w L) f t)) by exact h9 _ rfl
  intro L0 hL0
  have hLz : ∀ a, a ∈ L → a ∈ L0 ∨ z0 ≤ a := fun a z => Or.inl (by rw [hL0]; exact z)
  refine xc_start rfl (by decide +kernel) (Nat.le_of_ble_eq_true rfl) (fun p e9 s m below meth c F hr hlocks hK hz H locs hP hS hz9 hX hout ls hl => ?_)
  have hl : lv_has ls 3 [(0, .ref (u 30)), (1, .int f), (2, .int t)] := hl
  have hx := F.1
  have hb := F.2.1
  have hinV : ∀ w ∈ wsX00, w ∈ wsX3_where := by decide +kernel
  have hinO : ∀ w ∈ wsX30, w ∈ wsX3_where := by decide +kernel
  have hinK : ∀ w ∈ wsX20, w ∈ wsX3_where := by decide +kernel
  have hinW : ∀ w ∈ wsX10, w ∈ wsX3_where := by decide +kernel
  refine lv_iload_n hx hb dX3_where_0 rfl (lv_at hl 1 rfl) ?_
  refine lv_iconst (v := 5) hx hb dX3_where_1 (by decide) ?_
  refine xc_callS F hK hX (Nat.le_trans (Nat.le_of_eq hz.symm) hS.1) [.int f, .int 5] (cc_X3_checkNumber hfl hN f 5 ) (va_cwS 2 F.2.2.2.2 gX3_where_X3_checkNumber rfl rfl rfl (by decide +kernel) ⟨Nat.le_of_ble_eq_true rfl, Nat.le_of_ble_eq_true rfl⟩) hP hS (cG_sub hLz (Nat.le_trans (Nat.le_of_eq hz.symm) hS.1)) hout hlocks (fun E9 V9 pq9 sp9 cn9 e9' sz9 b9 L9 w9 nx9 h9 => pPX_of (b, cn, List.map w L) 1 (by simp [cWhere, cWr, ← hsz, h9.2.1]) (by decide) h9.1 (aS_of h9.2.2 ⟨rfl, rfl, rfl, he, hsz, hch, hN, fun x hx => hL0 ▸ hLz x hx⟩)) rfl hl.1 rfl (lv_room (Nat.le_of_ble_eq_true rfl)) ⟨(Nat.le_of_ble_eq_true rfl), (Nat.le_of_ble_eq_true rfl)⟩ (Nat.le_of_ble_eq_true rfl) (Nat.le_of_ble_eq_true rfl) dX3_where_2 (fun r_w_1 ra_w_1 V_w_1 pc_w_1 sp_w_1 cc_w_1 e_w_1 sz_w_1 b_w_1 L_w_1 w_w_1 nx_w_1 H locs hp_w_1 hP hsz_w_1 hfr_w_1 hS => ?_)
  obtain ⟨hb_w_1, -, e2_w_1, e3_w_1, e4_w_1, e5_w_1, e6_w_1, e7_w_1, e8_w_1, e9_w_1, e10_w_1, e11_w_1⟩ := hp_w_1
  rw [e2_w_1, e3_w_1, e4_w_1, e5_w_1, e6_w_1, e7_w_1, e8_w_1, e9_w_1, e10_w_1, e11_w_1] at hP
  obtain ⟨jf, hjf, rfl⟩ := nOk_nat (k := 5) (by omega) rfl hb_w_1
  have njf : jn (nI jf) = jf := jn_nI (by omega)
  refine lv_iload_n hx hb dX3_where_5 rfl (lv_at hl 2 rfl) ?_
  refine lv_bipush (v := 40) hx hb dX3_where_6 (by decide) ?_
  refine xc_callS F hK hX (Nat.le_trans (Nat.le_of_eq hz.symm) hS.1) [.int t, .int 40] (cc_X3_checkNumber hfl hN t 40 ) (va_cwS 2 F.2.2.2.2 gX3_where_X3_checkNumber rfl rfl rfl (by decide +kernel) ⟨Nat.le_of_ble_eq_true rfl, Nat.le_of_ble_eq_true rfl⟩) hP hS (cG_sub hLz (Nat.le_trans (Nat.le_of_eq hz.symm) hS.1)) hout hlocks (fun E9 V9 pq9 sp9 cn9 e9' sz9 b9 L9 w9 nx9 h9 => pPX_of (b, cn, List.map w L) 1 (by simp [cWhere, cWr, hb_w_1, njf, ← hsz, h9.2.1]) (by decide) h9.1 (aS_of h9.2.2 ⟨rfl, rfl, rfl, he, hsz, hch, hN, fun x hx => hL0 ▸ hLz x hx⟩)) rfl hl.1 rfl (lv_room (Nat.le_of_ble_eq_true rfl)) ⟨(Nat.le_of_ble_eq_true rfl), (Nat.le_of_ble_eq_true rfl)⟩ (Nat.le_of_ble_eq_true rfl) (Nat.le_of_ble_eq_true rfl) dX3_where_8 (fun r_w_2 ra_w_2 V_w_2 pc_w_2 sp_w_2 cc_w_2 e_w_2 sz_w_2 b_w_2 L_w_2 w_w_2 nx_w_2 H locs hp_w_2 hP hsz_w_2 hfr_w_2 hS => ?_)
  obtain ⟨hb_w_2, -, e2_w_2, e3_w_2, e4_w_2, e5_w_2, e6_w_2, e7_w_2, e8_w_2, e9_w_2, e10_w_2, e11_w_2⟩ := hp_w_2
  rw [e2_w_2, e3_w_2, e4_w_2, e5_w_2, e6_w_2, e7_w_2, e8_w_2, e9_w_2, e10_w_2, e11_w_2] at hP
  obtain ⟨jt, hjt, rfl⟩ := nOk_nat (k := 40) (by omega) rfl hb_w_2
  have njt : jn (nI jt) = jt := jn_nI (by omega)
  refine lv_aload_n hx hb dX3_where_11 rfl (lv_at hl 0 rfl) ?_
  refine lv_iload_n hx hb dX3_where_12 rfl (lv_at hl 1 rfl) ?_
  refine cw_callV F hK [.int (nI jf)] (cc_X3_lookAs hN jf (by first | assumption | omega) (by first | assumption | omega) (by first | assumption | omega)) (cwV 1 F.2.2.2.2 gX3_where_X3_lookAs rfl rfl rfl (by decide +kernel) ⟨Nat.le_of_ble_eq_true rfl, Nat.le_of_ble_eq_true rfl⟩) (og_rc hK (cPc hP)) hP hS (cG_sub hLz (Nat.le_trans (Nat.le_of_eq hz.symm) hS.1)) rfl hl.1 rfl (lv_room (Nat.le_of_ble_eq_true rfl)) ⟨Nat.le_of_ble_eq_true rfl, Nat.le_of_ble_eq_true rfl⟩ dX3_where_13 (fun r_w_3 ra_w_3 V_w_3 pc_w_3 sp_w_3 cc_w_3 e_w_3 sz_w_3 b_w_3 L_w_3 w_w_3 nx_w_3 H locs hp_w_3 hP hsz_w_3 hfr_w_3 hS => ?_)
  obtain ⟨-, e2_w_3, e3_w_3, e4_w_3, e5_w_3, e6_w_3, e7_w_3, e8_w_3, e9_w_3, e10_w_3, e11_w_3⟩ := hp_w_3
  rw [e2_w_3, e3_w_3, e4_w_3, e5_w_3, e6_w_3, e7_w_3, e8_w_3, e9_w_3, e10_w_3, e11_w_3] at hP
  obtain ⟨V1, pq1, sp1, hlk⟩ : ∃ V1 pq1 sp1, cLk b (List.map w L) (nI jf) = (V1, pq1, sp1) := ⟨_, _, _, rfl⟩
  have hlk9 : rdV w ((1 : Int32) <<< (nI jf &&& 31)) (b 12) L = (V1, pq1, sp1) := (rdV_A _ _ _ _).trans hlk
  have hP : va_P D vwCl (cW u cI cII V1 pq1 sp1 cn e sz b L w nx) H := by rw [hlk9] at hP; exact hP
  refine lv_aload_n hx hb dX3_where_16 rfl (lv_at hl 0 rfl) ?_
  refine og_get F hK hinO (cPc hP) 1 (by decide) (by decide +kernel) rfl dX3_where_17 ?_
  refine vg_get F hK hinV (cPv hP) 0 (by decide) (by decide +kernel) rfl dX3_where_20 ?_
  refine lv_iload_n hx hb dX3_where_23 rfl (lv_at hl 2 rfl) ?_
  refine cg_ald F hK (cPv hP) 1 40 rfl jt rfl (by omega) (by decide) dX3_where_24 ?_
  refine vx_ret ?_
  exact cw_reti F hr hlocks hP hS (pPost_of (b, cn, List.map w L) (by simp [cWhere, cWr, hb_w_1, njf, hb_w_2, njt, hlk, ← hsz, bI]) ⟨rfl, rfl, rfl, he, hsz, hch, hN, fun x hx => hL0 ▸ hLz x hx⟩) (by omega) (by omega) dX3_where_25
def cWhereByAll (cs : CS) (t : Int32) : OP :=
  if nOk t 40 = false then (1, 0, cs) else (0, (cLa cs.1 cs.2.2).1 0 (jn t), cs)
set_option maxHeartbeats 4000000 in
set_option maxRecDepth 100000 in
theorem cc_X3_whereByAll {l : Launch} (hfl : l.stackTraces = false) {D : va_G} {cI cII : ClassId} {sa : Nat → Nat} {u : Nat → Nat} {V : Nat → Nat → Int32} {pq sp : Int32} {cn : Nat} {e : Option Nat} {sz : Nat} {b : Nat → Nat → Int32} {L : List Nat} {w : Nat → Nat → Int32} {nx : Nat → Option Nat} {z0 : Nat} (hN : (cAd u ++ L).Nodup) (t : Int32) (hch : chn nx L) (he : e = L.head?) (hsz : sz = L.length) (hok : ∀ x, x ∈ L → okW (w x)) (hcn : cn ≤ 20) (hrc : ∀ k, k < cn → ∃ r, r < 6 ∧ b 11 k = nI r) : xc_Met l yX3_whereByAll wsX3_whereByAll 7 1 6 139 D u cI cII sa z0 L (cW u cI cII V pq sp cn e sz b L w nx) [.ref (u 30), .int t] kI (pPost u L z0 (cWhereByAll (b, cn, List.map w L) t)) (pPX u L z0 (cWhereByAll (b, cn, List.map w L) t)) := by
  suffices h9 : ∀ L0, L0 = L → xc_Met l yX3_whereByAll wsX3_whereByAll 7 1 6 139 D u cI cII sa z0 L0 (cW u cI cII V pq sp cn e sz b L w nx) [.ref (u 30), .int t] kI (pPost u L z0 (cWhereByAll (b, cn, List.map w L) t)) (pPX u L z0 (cWhereByAll (b, cn, List.map w L) t)) by exact h9 _ rfl
  intro L0 hL0
  have hLz : ∀ a, a ∈ L → a ∈ L0 ∨ z0 ≤ a := fun a z => Or.inl (by rw [hL0]; exact z)
  refine xc_start rfl (by decide +kernel) (Nat.le_of_ble_eq_true rfl) (fun p e9 s m below meth c F hr hlocks hK hz H locs hP hS hz9 hX hout ls hl => ?_)
  have hl : lv_has ls 2 [(0, .ref (u 30)), (1, .int t)] := hl
  have hx := F.1
  have hb := F.2.1
  have hinV : ∀ w ∈ wsX00, w ∈ wsX3_whereByAll := by decide +kernel
  have hinO : ∀ w ∈ wsX30, w ∈ wsX3_whereByAll := by decide +kernel
  have hinK : ∀ w ∈ wsX20, w ∈ wsX3_whereByAll := by decide +kernel
  have hinW : ∀ w ∈ wsX10, w ∈ wsX3_whereByAll := by decide +kernel
  refine lv_iload_n hx hb dX3_whereByAll_0 rfl (lv_at hl 1 rfl) ?_
  refine lv_bipush (v := 40) hx hb dX3_whereByAll_1 (by decide) ?_
  refine xc_callS F hK hX (Nat.le_trans (Nat.le_of_eq hz.symm) hS.1) [.int t, .int 40] (cc_X3_checkNumber hfl hN t 40 ) (va_cwS 2 F.2.2.2.2 gX3_whereByAll_X3_checkNumber rfl rfl rfl (by decide +kernel) ⟨Nat.le_of_ble_eq_true rfl, Nat.le_of_ble_eq_true rfl⟩) hP hS (cG_sub hLz (Nat.le_trans (Nat.le_of_eq hz.symm) hS.1)) hout hlocks (fun E9 V9 pq9 sp9 cn9 e9' sz9 b9 L9 w9 nx9 h9 => pPX_of (b, cn, List.map w L) 1 (by simp [cWhereByAll, cWr, ← hsz, h9.2.1]) (by decide) h9.1 (aS_of h9.2.2 ⟨rfl, rfl, rfl, he, hsz, hch, hN, fun x hx => hL0 ▸ hLz x hx⟩)) rfl hl.1 rfl (lv_room (Nat.le_of_ble_eq_true rfl)) ⟨(Nat.le_of_ble_eq_true rfl), (Nat.le_of_ble_eq_true rfl)⟩ (Nat.le_of_ble_eq_true rfl) (Nat.le_of_ble_eq_true rfl) dX3_whereByAll_3 (fun r_w_1 ra_w_1 V_w_1 pc_w_1 sp_w_1 cc_w_1 e_w_1 sz_w_1 b_w_1 L_w_1 w_w_1 nx_w_1 H locs hp_w_1 hP hsz_w_1 hfr_w_1 hS => ?_)
  obtain ⟨hb_w_1, -, e2_w_1, e3_w_1, e4_w_1, e5_w_1, e6_w_1, e7_w_1, e8_w_1, e9_w_1, e10_w_1, e11_w_1⟩ := hp_w_1
  rw [e2_w_1, e3_w_1, e4_w_1, e5_w_1, e6_w_1, e7_w_1, e8_w_1, e9_w_1, e10_w_1, e11_w_1] at hP
  obtain ⟨jt, hjt, rfl⟩ := nOk_nat (k := 40) (by omega) rfl hb_w_1
  have njt : jn (nI jt) = jt := jn_nI (by omega)
  refine lv_aload_n hx hb dX3_whereByAll_6 rfl (lv_at hl 0 rfl) ?_
  refine cw_callV F hK [] (cc_X3_lookByAll hN  (by first | assumption | omega) (by first | assumption | omega) (by first | assumption | omega)) (cwV 0 F.2.2.2.2 gX3_whereByAll_X3_lookByAll rfl rfl rfl (by decide +kernel) ⟨Nat.le_of_ble_eq_true rfl, Nat.le_of_ble_eq_true rfl⟩) (og_rc hK (cPc hP)) hP hS (cG_sub hLz (Nat.le_trans (Nat.le_of_eq hz.symm) hS.1)) rfl hl.1 rfl (lv_room (Nat.le_of_ble_eq_true rfl)) ⟨Nat.le_of_ble_eq_true rfl, Nat.le_of_ble_eq_true rfl⟩ dX3_whereByAll_7 (fun r_w_2 ra_w_2 V_w_2 pc_w_2 sp_w_2 cc_w_2 e_w_2 sz_w_2 b_w_2 L_w_2 w_w_2 nx_w_2 H locs hp_w_2 hP hsz_w_2 hfr_w_2 hS => ?_)
  obtain ⟨-, e2_w_2, e3_w_2, e4_w_2, e5_w_2, e6_w_2, e7_w_2, e8_w_2, e9_w_2, e10_w_2, e11_w_2⟩ := hp_w_2
  rw [e2_w_2, e3_w_2, e4_w_2, e5_w_2, e6_w_2, e7_w_2, e8_w_2, e9_w_2, e10_w_2, e11_w_2] at hP
  obtain ⟨V1, pq1, sp1, hlk⟩ : ∃ V1 pq1 sp1, cLa b (List.map w L) = (V1, pq1, sp1) := ⟨_, _, _, rfl⟩
  have hlk9 : rdV w 31 (b 12) L = (V1, pq1, sp1) := (rdV_A _ _ _ _).trans hlk
  have hP : va_P D vwCl (cW u cI cII V1 pq1 sp1 cn e sz b L w nx) H := by rw [hlk9] at hP; exact hP
  refine lv_aload_n hx hb dX3_whereByAll_10 rfl (lv_at hl 0 rfl) ?_
  refine og_get F hK hinO (cPc hP) 1 (by decide) (by decide +kernel) rfl dX3_whereByAll_11 ?_
  refine vg_get F hK hinV (cPv hP) 0 (by decide) (by decide +kernel) rfl dX3_whereByAll_14 ?_
  refine lv_iload_n hx hb dX3_whereByAll_17 rfl (lv_at hl 1 rfl) ?_
  refine cg_ald F hK (cPv hP) 1 40 rfl jt rfl (by omega) (by decide) dX3_whereByAll_18 ?_
  refine vx_ret ?_
  exact cw_reti F hr hlocks hP hS (pPost_of (b, cn, List.map w L) (by simp [cWhereByAll, cWr, hb_w_1, njt, hlk, ← hsz, bI]) ⟨rfl, rfl, rfl, he, hsz, hch, hN, fun x hx => hL0 ▸ hLz x hx⟩) (by omega) (by omega) dX3_whereByAll_19
def cPut (cs : CS) (f : Int32) (t : Int32) : OP :=
  if nOk f 5 = false then (1, 0, cs) else if nOk t 40 = false then (1, 0, cs) else if (cLk cs.1 cs.2.2 f).1 0 (jn t) = f then (3, 0, cs) else if roomOk cs.2.2.length 1 = false then (3, 0, cs) else (0, cs.1 10 (jn f) + 1, cWr cs f 0 t (-1))
set_option maxHeartbeats 4000000 in
set_option maxRecDepth 100000 in
theorem cc_X3_put {l : Launch} (hfl : l.stackTraces = false) {D : va_G} {cI cII : ClassId} {sa : Nat → Nat} {u : Nat → Nat} {V : Nat → Nat → Int32} {pq sp : Int32} {cn : Nat} {e : Option Nat} {sz : Nat} {b : Nat → Nat → Int32} {L : List Nat} {w : Nat → Nat → Int32} {nx : Nat → Option Nat} {z0 : Nat} (hN : (cAd u ++ L).Nodup) (f : Int32) (t : Int32) (hch : chn nx L) (he : e = L.head?) (hsz : sz = L.length) (hok : ∀ x, x ∈ L → okW (w x)) (hcn : cn ≤ 20) (hrc : ∀ k, k < cn → ∃ r, r < 6 ∧ b 11 k = nI r) : xc_Met l yX3_put wsX3_put 7 4 28 140 D u cI cII sa z0 L (cW u cI cII V pq sp cn e sz b L w nx) [.ref (u 30), .int f, .int t] kI (pPost u L z0 (cPut (b, cn, List.map w L) f t)) (pPX u L z0 (cPut (b, cn, List.map w L) f t)) := by
  suffices h9 : ∀ L0, L0 = L → xc_Met l yX3_put wsX3_put 7 4 28 140 D u cI cII sa z0 L0 (cW u cI cII V pq sp cn e sz b L w nx) [.ref (u 30), .int f, .int t] kI (pPost u L z0 (cPut (b, cn, List.map w L) f t)) (pPX u L z0 (cPut (b, cn, List.map w L) f t)) by exact h9 _ rfl
  intro L0 hL0
  have hLz : ∀ a, a ∈ L → a ∈ L0 ∨ z0 ≤ a := fun a z => Or.inl (by rw [hL0]; exact z)
  refine xc_start rfl (by decide +kernel) (Nat.le_of_ble_eq_true rfl) (fun p e9 s m below meth c F hr hlocks hK hz H locs hP hS hz9 hX hout ls hl => ?_)
  have hl : lv_has ls 3 [(0, .ref (u 30)), (1, .int f), (2, .int t)] := hl
  have hx := F.1
  have hb := F.2.1
  have hinV : ∀ w ∈ wsX00, w ∈ wsX3_put := by decide +kernel
  have hinO : ∀ w ∈ wsX30, w ∈ wsX3_put := by decide +kernel
  have hinK : ∀ w ∈ wsX20, w ∈ wsX3_put := by decide +kernel
  have hinW : ∀ w ∈ wsX10, w ∈ wsX3_put := by decide +kernel
  refine lv_iload_n hx hb dX3_put_0 rfl (lv_at hl 1 rfl) ?_
  refine lv_iconst (v := 5) hx hb dX3_put_1 (by decide) ?_
  refine xc_callS F hK hX (Nat.le_trans (Nat.le_of_eq hz.symm) hS.1) [.int f, .int 5] (cc_X3_checkNumber hfl hN f 5 ) (va_cwS 2 F.2.2.2.2 gX3_put_X3_checkNumber rfl rfl rfl (by decide +kernel) ⟨Nat.le_of_ble_eq_true rfl, Nat.le_of_ble_eq_true rfl⟩) hP hS (cG_sub hLz (Nat.le_trans (Nat.le_of_eq hz.symm) hS.1)) hout hlocks (fun E9 V9 pq9 sp9 cn9 e9' sz9 b9 L9 w9 nx9 h9 => pPX_of (b, cn, List.map w L) 1 (by simp [cPut, cWr, ← hsz, h9.2.1]) (by decide) h9.1 (aS_of h9.2.2 ⟨rfl, rfl, rfl, he, hsz, hch, hN, fun x hx => hL0 ▸ hLz x hx⟩)) rfl hl.1 rfl (lv_room (Nat.le_of_ble_eq_true rfl)) ⟨(Nat.le_of_ble_eq_true rfl), (Nat.le_of_ble_eq_true rfl)⟩ (Nat.le_of_ble_eq_true rfl) (Nat.le_of_ble_eq_true rfl) dX3_put_2 (fun r_w_1 ra_w_1 V_w_1 pc_w_1 sp_w_1 cc_w_1 e_w_1 sz_w_1 b_w_1 L_w_1 w_w_1 nx_w_1 H locs hp_w_1 hP hsz_w_1 hfr_w_1 hS => ?_)
  obtain ⟨hb_w_1, -, e2_w_1, e3_w_1, e4_w_1, e5_w_1, e6_w_1, e7_w_1, e8_w_1, e9_w_1, e10_w_1, e11_w_1⟩ := hp_w_1
  rw [e2_w_1, e3_w_1, e4_w_1, e5_w_1, e6_w_1, e7_w_1, e8_w_1, e9_w_1, e10_w_1, e11_w_1] at hP
  obtain ⟨jf, hjf, rfl⟩ := nOk_nat (k := 5) (by omega) rfl hb_w_1
  have njf : jn (nI jf) = jf := jn_nI (by omega)
  refine lv_iload_n hx hb dX3_put_5 rfl (lv_at hl 2 rfl) ?_
  refine lv_bipush (v := 40) hx hb dX3_put_6 (by decide) ?_
  refine xc_callS F hK hX (Nat.le_trans (Nat.le_of_eq hz.symm) hS.1) [.int t, .int 40] (cc_X3_checkNumber hfl hN t 40 ) (va_cwS 2 F.2.2.2.2 gX3_put_X3_checkNumber rfl rfl rfl (by decide +kernel) ⟨Nat.le_of_ble_eq_true rfl, Nat.le_of_ble_eq_true rfl⟩) hP hS (cG_sub hLz (Nat.le_trans (Nat.le_of_eq hz.symm) hS.1)) hout hlocks (fun E9 V9 pq9 sp9 cn9 e9' sz9 b9 L9 w9 nx9 h9 => pPX_of (b, cn, List.map w L) 1 (by simp [cPut, cWr, hb_w_1, njf, ← hsz, h9.2.1]) (by decide) h9.1 (aS_of h9.2.2 ⟨rfl, rfl, rfl, he, hsz, hch, hN, fun x hx => hL0 ▸ hLz x hx⟩)) rfl hl.1 rfl (lv_room (Nat.le_of_ble_eq_true rfl)) ⟨(Nat.le_of_ble_eq_true rfl), (Nat.le_of_ble_eq_true rfl)⟩ (Nat.le_of_ble_eq_true rfl) (Nat.le_of_ble_eq_true rfl) dX3_put_8 (fun r_w_2 ra_w_2 V_w_2 pc_w_2 sp_w_2 cc_w_2 e_w_2 sz_w_2 b_w_2 L_w_2 w_w_2 nx_w_2 H locs hp_w_2 hP hsz_w_2 hfr_w_2 hS => ?_)
  obtain ⟨hb_w_2, -, e2_w_2, e3_w_2, e4_w_2, e5_w_2, e6_w_2, e7_w_2, e8_w_2, e9_w_2, e10_w_2, e11_w_2⟩ := hp_w_2
  rw [e2_w_2, e3_w_2, e4_w_2, e5_w_2, e6_w_2, e7_w_2, e8_w_2, e9_w_2, e10_w_2, e11_w_2] at hP
  obtain ⟨jt, hjt, rfl⟩ := nOk_nat (k := 40) (by omega) rfl hb_w_2
  have njt : jn (nI jt) = jt := jn_nI (by omega)
  refine lv_aload_n hx hb dX3_put_11 rfl (lv_at hl 0 rfl) ?_
  refine lv_iload_n hx hb dX3_put_12 rfl (lv_at hl 1 rfl) ?_
  refine cw_callV F hK [.int (nI jf)] (cc_X3_lookAs hN jf (by first | assumption | omega) (by first | assumption | omega) (by first | assumption | omega)) (cwV 1 F.2.2.2.2 gX3_put_X3_lookAs rfl rfl rfl (by decide +kernel) ⟨Nat.le_of_ble_eq_true rfl, Nat.le_of_ble_eq_true rfl⟩) (og_rc hK (cPc hP)) hP hS (cG_sub hLz (Nat.le_trans (Nat.le_of_eq hz.symm) hS.1)) rfl hl.1 rfl (lv_room (Nat.le_of_ble_eq_true rfl)) ⟨Nat.le_of_ble_eq_true rfl, Nat.le_of_ble_eq_true rfl⟩ dX3_put_13 (fun r_w_3 ra_w_3 V_w_3 pc_w_3 sp_w_3 cc_w_3 e_w_3 sz_w_3 b_w_3 L_w_3 w_w_3 nx_w_3 H locs hp_w_3 hP hsz_w_3 hfr_w_3 hS => ?_)
  obtain ⟨-, e2_w_3, e3_w_3, e4_w_3, e5_w_3, e6_w_3, e7_w_3, e8_w_3, e9_w_3, e10_w_3, e11_w_3⟩ := hp_w_3
  rw [e2_w_3, e3_w_3, e4_w_3, e5_w_3, e6_w_3, e7_w_3, e8_w_3, e9_w_3, e10_w_3, e11_w_3] at hP
  obtain ⟨V1, pq1, sp1, hlk⟩ : ∃ V1 pq1 sp1, cLk b (List.map w L) (nI jf) = (V1, pq1, sp1) := ⟨_, _, _, rfl⟩
  have hlk9 : rdV w ((1 : Int32) <<< (nI jf &&& 31)) (b 12) L = (V1, pq1, sp1) := (rdV_A _ _ _ _).trans hlk
  have hP : va_P D vwCl (cW u cI cII V1 pq1 sp1 cn e sz b L w nx) H := by rw [hlk9] at hP; exact hP
  refine lv_aload_n hx hb dX3_put_16 rfl (lv_at hl 0 rfl) ?_
  refine og_get F hK hinO (cPc hP) 1 (by decide) (by decide +kernel) rfl dX3_put_17 ?_
  refine vg_get F hK hinV (cPv hP) 0 (by decide) (by decide +kernel) rfl dX3_put_20 ?_
  refine lv_iload_n hx hb dX3_put_23 rfl (lv_at hl 2 rfl) ?_
  refine cg_ald F hK (cPv hP) 1 40 rfl jt rfl (by omega) (by decide) dX3_put_24 ?_
  refine lv_iload_n hx hb dX3_put_25 rfl (lv_at hl 1 rfl) ?_
  refine lv_icmp_ne (tgt := 39) hx hb dX3_put_26 (by decide) (fun c_4 => ?_) (fun c_4 => ?_)
  · skip
    refine lv_aload_n hx hb dX3_put_39 rfl (lv_at hl 0 rfl) ?_
    refine lv_iconst (v := 1) hx hb dX3_put_40 (by decide) ?_
    refine xc_callV F hK hX (Nat.le_trans (Nat.le_of_eq hz.symm) hS.1) [.int 1] (cc_X3_checkRoomFor hfl hN 1 ) (cwV 1 F.2.2.2.2 gX3_put_X3_checkRoomFor rfl rfl rfl (by decide +kernel) ⟨Nat.le_of_ble_eq_true rfl, Nat.le_of_ble_eq_true rfl⟩) (og_rc hK (cPc hP)) hP hS (cG_sub hLz (Nat.le_trans (Nat.le_of_eq hz.symm) hS.1)) hout hlocks (fun E9 V9 pq9 sp9 cn9 e9' sz9 b9 L9 w9 nx9 h9 => pPX_of (b, cn, List.map w L) 3 (by simp [cPut, cWr, hb_w_1, njf, hb_w_2, njt, hlk, c_4, ← hsz, h9.2.1]) (by decide) h9.1 (aS_of h9.2.2 ⟨rfl, rfl, rfl, he, hsz, hch, hN, fun x hx => hL0 ▸ hLz x hx⟩)) rfl hl.1 rfl (lv_room (Nat.le_of_ble_eq_true rfl)) ⟨(Nat.le_of_ble_eq_true rfl), (Nat.le_of_ble_eq_true rfl)⟩ (Nat.le_of_ble_eq_true rfl) (Nat.le_of_ble_eq_true rfl) dX3_put_41 (fun r_w_5 ra_w_5 V_w_5 pc_w_5 sp_w_5 cc_w_5 e_w_5 sz_w_5 b_w_5 L_w_5 w_w_5 nx_w_5 H locs hp_w_5 hP hsz_w_5 hfr_w_5 hS => ?_)
    obtain ⟨hb_w_5, -, e2_w_5, e3_w_5, e4_w_5, e5_w_5, e6_w_5, e7_w_5, e8_w_5, e9_w_5, e10_w_5, e11_w_5⟩ := hp_w_5
    rw [e2_w_5, e3_w_5, e4_w_5, e5_w_5, e6_w_5, e7_w_5, e8_w_5, e9_w_5, e10_w_5, e11_w_5] at hP
    refine lv_aload_n hx hb dX3_put_44 rfl (lv_at hl 0 rfl) ?_
    refine lv_iload_n hx hb dX3_put_45 rfl (lv_at hl 1 rfl) ?_
    refine lv_iconst (v := 0) hx hb dX3_put_46 (by decide) ?_
    refine lv_iload_n hx hb dX3_put_47 rfl (lv_at hl 2 rfl) ?_
    refine lv_iconst (v := (-1)) hx hb dX3_put_48 (by decide) ?_
    have hzo_w_6 : z0 ≤ Array.size H := Nat.le_trans (Nat.le_of_eq hz.symm) hS.1
    refine cw_callV F hK [.int (nI jf), .int 0, .int (nI jt), .int (-1)] (cc_X3_write hN jf 0 (nI jt) (-1) (by first | assumption | omega) (by first | assumption | omega) (by first | assumption | omega)) (cwV 4 F.2.2.2.2 gX3_put_X3_write rfl rfl rfl (by decide +kernel) ⟨Nat.le_of_ble_eq_true rfl, Nat.le_of_ble_eq_true rfl⟩) (og_rc hK (cPc hP)) hP hS (cG_sub hLz (Nat.le_trans (Nat.le_of_eq hz.symm) hS.1)) rfl hl.1 rfl (lv_room (Nat.le_of_ble_eq_true rfl)) ⟨Nat.le_of_ble_eq_true rfl, Nat.le_of_ble_eq_true rfl⟩ dX3_put_49 (fun r_w_6 ra_w_6 V_w_6 pc_w_6 sp_w_6 cc_w_6 e_w_6 sz_w_6 b_w_6 L_w_6 w_w_6 nx_w_6 H locs hp_w_6 hP hsz_w_6 hfr_w_6 hS => ?_)
    obtain ⟨e2_w_6, e3_w_6, e4_w_6, e5_w_6, e6_w_6, e7_w_6, e8_w_6, hw_w_6, hL_w_6, hch_w_6, hN_w_6, hra_w_6, hrz_w_6⟩ := hp_w_6
    rw [e2_w_6, e3_w_6, e4_w_6, e5_w_6, e6_w_6, e7_w_6, e8_w_6] at hP
    have hmem_w_6 : ra_w_6 ∈ L_w_6 := by rw [hL_w_6]; exact (insL_mem _ _ _ _).mpr (Or.inl rfl)
    have hws_w_6 : L_w_6.map w_w_6 = insA (mkW 0 (b 10 jf + 1) (nI jf) (nI jt) (-1)) (List.map w L) := by rw [hL_w_6, hw_w_6]; exact (insA_map hra_w_6).trans (congrArg (insA _) (rfl))
    have hlen_w_6 : sz + 1 = L_w_6.length := by rw [hL_w_6, insL_len, hsz]
    rw [hlen_w_6] at hP
    have hLz_w_6 : ∀ a, a ∈ L_w_6 → a ∈ L0 ∨ z0 ≤ a := fun a ha => by rw [hL_w_6] at ha; exact ((insL_mem _ _ _ _).mp ha).elim (fun q => Or.inr (by rw [q]; exact Nat.le_trans hzo_w_6 hrz_w_6)) (hLz a)
    refine wg_get F hK hinW (cPw hP) hmem_w_6 1 (by decide) (by decide +kernel) rfl dX3_put_52 ?_
    refine vx_ret ?_
    exact cw_reti F hr hlocks hP hS (pPost_of (upA b 10 jf (b 10 jf + 1), cn, insA (mkW 0 (b 10 jf + 1) (nI jf) (nI jt) (-1)) (List.map w L)) (by simp [cPut, cWr, hb_w_1, njf, hb_w_2, njt, hlk, c_4, hb_w_5, hw_w_6, stW, mkW, ← hsz, bI]) ⟨rfl, rfl, hws_w_6, rfl, rfl, hch_w_6, hN_w_6, fun x hx => hL0 ▸ hLz_w_6 x hx⟩) (by omega) (by omega) dX3_put_55
  · skip
    exact xt_throw F hfl hP hS hX hout hlocks hl.1 "java/lang/IllegalStateException" 53 55 57 4 "the fridge sees the thing in itself" rfl (by decide +kernel) rfl (by decide +kernel) (by decide +kernel) (by decide +kernel) xn_IS xg_IS dX3_put_29 dX3_put_32 dX3_put_33 dX3_put_35 dX3_put_38 ⟨(Nat.le_of_ble_eq_true rfl), (Nat.le_of_ble_eq_true rfl), (Nat.le_of_ble_eq_true rfl), (Nat.le_of_ble_eq_true rfl)⟩ (pPX_of (b, cn, List.map w L) 3 (by simp [cPut, cWr, hb_w_1, njf, hb_w_2, njt, hlk, c_4, ← hsz]) (by decide) rfl ⟨rfl, rfl, rfl, he, hsz, hch, hN, fun x hx => hL0 ▸ hLz x hx⟩) (Nat.le_of_ble_eq_true rfl) (Nat.le_of_ble_eq_true rfl)
def cTake (cs : CS) (f : Int32) (t : Int32) : OP :=
  if nOk f 5 = false then (1, 0, cs) else if nOk t 40 = false then (1, 0, cs) else if (cLk cs.1 cs.2.2 f).1 0 (jn t) = -1 then (3, 0, cs) else if roomOk cs.2.2.length 1 = false then (3, 0, cs) else (0, (cLk cs.1 cs.2.2 f).1 0 (jn t), cWr cs f 1 t (-1))
set_option maxHeartbeats 4000000 in
set_option maxRecDepth 100000 in
theorem cc_X3_take {l : Launch} (hfl : l.stackTraces = false) {D : va_G} {cI cII : ClassId} {sa : Nat → Nat} {u : Nat → Nat} {V : Nat → Nat → Int32} {pq sp : Int32} {cn : Nat} {e : Option Nat} {sz : Nat} {b : Nat → Nat → Int32} {L : List Nat} {w : Nat → Nat → Int32} {nx : Nat → Option Nat} {z0 : Nat} (hN : (cAd u ++ L).Nodup) (f : Int32) (t : Int32) (hch : chn nx L) (he : e = L.head?) (hsz : sz = L.length) (hok : ∀ x, x ∈ L → okW (w x)) (hcn : cn ≤ 20) (hrc : ∀ k, k < cn → ∃ r, r < 6 ∧ b 11 k = nI r) : xc_Met l yX3_take wsX3_take 7 4 28 140 D u cI cII sa z0 L (cW u cI cII V pq sp cn e sz b L w nx) [.ref (u 30), .int f, .int t] kI (pPost u L z0 (cTake (b, cn, List.map w L) f t)) (pPX u L z0 (cTake (b, cn, List.map w L) f t)) := by
  suffices h9 : ∀ L0, L0 = L → xc_Met l yX3_take wsX3_take 7 4 28 140 D u cI cII sa z0 L0 (cW u cI cII V pq sp cn e sz b L w nx) [.ref (u 30), .int f, .int t] kI (pPost u L z0 (cTake (b, cn, List.map w L) f t)) (pPX u L z0 (cTake (b, cn, List.map w L) f t)) by exact h9 _ rfl
  intro L0 hL0
  have hLz : ∀ a, a ∈ L → a ∈ L0 ∨ z0 ≤ a := fun a z => Or.inl (by rw [hL0]; exact z)
  refine xc_start rfl (by decide +kernel) (Nat.le_of_ble_eq_true rfl) (fun p e9 s m below meth c F hr hlocks hK hz H locs hP hS hz9 hX hout ls hl => ?_)
  have hl : lv_has ls 4 [(0, .ref (u 30)), (1, .int f), (2, .int t)] := hl
  have hx := F.1
  have hb := F.2.1
  have hinV : ∀ w ∈ wsX00, w ∈ wsX3_take := by decide +kernel
  have hinO : ∀ w ∈ wsX30, w ∈ wsX3_take := by decide +kernel
  have hinK : ∀ w ∈ wsX20, w ∈ wsX3_take := by decide +kernel
  have hinW : ∀ w ∈ wsX10, w ∈ wsX3_take := by decide +kernel
  refine lv_iload_n hx hb dX3_take_0 rfl (lv_at hl 1 rfl) ?_
  refine lv_iconst (v := 5) hx hb dX3_take_1 (by decide) ?_
  refine xc_callS F hK hX (Nat.le_trans (Nat.le_of_eq hz.symm) hS.1) [.int f, .int 5] (cc_X3_checkNumber hfl hN f 5 ) (va_cwS 2 F.2.2.2.2 gX3_take_X3_checkNumber rfl rfl rfl (by decide +kernel) ⟨Nat.le_of_ble_eq_true rfl, Nat.le_of_ble_eq_true rfl⟩) hP hS (cG_sub hLz (Nat.le_trans (Nat.le_of_eq hz.symm) hS.1)) hout hlocks (fun E9 V9 pq9 sp9 cn9 e9' sz9 b9 L9 w9 nx9 h9 => pPX_of (b, cn, List.map w L) 1 (by simp [cTake, cWr, ← hsz, h9.2.1]) (by decide) h9.1 (aS_of h9.2.2 ⟨rfl, rfl, rfl, he, hsz, hch, hN, fun x hx => hL0 ▸ hLz x hx⟩)) rfl hl.1 rfl (lv_room (Nat.le_of_ble_eq_true rfl)) ⟨(Nat.le_of_ble_eq_true rfl), (Nat.le_of_ble_eq_true rfl)⟩ (Nat.le_of_ble_eq_true rfl) (Nat.le_of_ble_eq_true rfl) dX3_take_2 (fun r_w_1 ra_w_1 V_w_1 pc_w_1 sp_w_1 cc_w_1 e_w_1 sz_w_1 b_w_1 L_w_1 w_w_1 nx_w_1 H locs hp_w_1 hP hsz_w_1 hfr_w_1 hS => ?_)
  obtain ⟨hb_w_1, -, e2_w_1, e3_w_1, e4_w_1, e5_w_1, e6_w_1, e7_w_1, e8_w_1, e9_w_1, e10_w_1, e11_w_1⟩ := hp_w_1
  rw [e2_w_1, e3_w_1, e4_w_1, e5_w_1, e6_w_1, e7_w_1, e8_w_1, e9_w_1, e10_w_1, e11_w_1] at hP
  obtain ⟨jf, hjf, rfl⟩ := nOk_nat (k := 5) (by omega) rfl hb_w_1
  have njf : jn (nI jf) = jf := jn_nI (by omega)
  refine lv_iload_n hx hb dX3_take_5 rfl (lv_at hl 2 rfl) ?_
  refine lv_bipush (v := 40) hx hb dX3_take_6 (by decide) ?_
  refine xc_callS F hK hX (Nat.le_trans (Nat.le_of_eq hz.symm) hS.1) [.int t, .int 40] (cc_X3_checkNumber hfl hN t 40 ) (va_cwS 2 F.2.2.2.2 gX3_take_X3_checkNumber rfl rfl rfl (by decide +kernel) ⟨Nat.le_of_ble_eq_true rfl, Nat.le_of_ble_eq_true rfl⟩) hP hS (cG_sub hLz (Nat.le_trans (Nat.le_of_eq hz.symm) hS.1)) hout hlocks (fun E9 V9 pq9 sp9 cn9 e9' sz9 b9 L9 w9 nx9 h9 => pPX_of (b, cn, List.map w L) 1 (by simp [cTake, cWr, hb_w_1, njf, ← hsz, h9.2.1]) (by decide) h9.1 (aS_of h9.2.2 ⟨rfl, rfl, rfl, he, hsz, hch, hN, fun x hx => hL0 ▸ hLz x hx⟩)) rfl hl.1 rfl (lv_room (Nat.le_of_ble_eq_true rfl)) ⟨(Nat.le_of_ble_eq_true rfl), (Nat.le_of_ble_eq_true rfl)⟩ (Nat.le_of_ble_eq_true rfl) (Nat.le_of_ble_eq_true rfl) dX3_take_8 (fun r_w_2 ra_w_2 V_w_2 pc_w_2 sp_w_2 cc_w_2 e_w_2 sz_w_2 b_w_2 L_w_2 w_w_2 nx_w_2 H locs hp_w_2 hP hsz_w_2 hfr_w_2 hS => ?_)
  obtain ⟨hb_w_2, -, e2_w_2, e3_w_2, e4_w_2, e5_w_2, e6_w_2, e7_w_2, e8_w_2, e9_w_2, e10_w_2, e11_w_2⟩ := hp_w_2
  rw [e2_w_2, e3_w_2, e4_w_2, e5_w_2, e6_w_2, e7_w_2, e8_w_2, e9_w_2, e10_w_2, e11_w_2] at hP
  obtain ⟨jt, hjt, rfl⟩ := nOk_nat (k := 40) (by omega) rfl hb_w_2
  have njt : jn (nI jt) = jt := jn_nI (by omega)
  refine lv_aload_n hx hb dX3_take_11 rfl (lv_at hl 0 rfl) ?_
  refine lv_iload_n hx hb dX3_take_12 rfl (lv_at hl 1 rfl) ?_
  refine cw_callV F hK [.int (nI jf)] (cc_X3_lookAs hN jf (by first | assumption | omega) (by first | assumption | omega) (by first | assumption | omega)) (cwV 1 F.2.2.2.2 gX3_take_X3_lookAs rfl rfl rfl (by decide +kernel) ⟨Nat.le_of_ble_eq_true rfl, Nat.le_of_ble_eq_true rfl⟩) (og_rc hK (cPc hP)) hP hS (cG_sub hLz (Nat.le_trans (Nat.le_of_eq hz.symm) hS.1)) rfl hl.1 rfl (lv_room (Nat.le_of_ble_eq_true rfl)) ⟨Nat.le_of_ble_eq_true rfl, Nat.le_of_ble_eq_true rfl⟩ dX3_take_13 (fun r_w_3 ra_w_3 V_w_3 pc_w_3 sp_w_3 cc_w_3 e_w_3 sz_w_3 b_w_3 L_w_3 w_w_3 nx_w_3 H locs hp_w_3 hP hsz_w_3 hfr_w_3 hS => ?_)
  obtain ⟨-, e2_w_3, e3_w_3, e4_w_3, e5_w_3, e6_w_3, e7_w_3, e8_w_3, e9_w_3, e10_w_3, e11_w_3⟩ := hp_w_3
  rw [e2_w_3, e3_w_3, e4_w_3, e5_w_3, e6_w_3, e7_w_3, e8_w_3, e9_w_3, e10_w_3, e11_w_3] at hP
  obtain ⟨V1, pq1, sp1, hlk⟩ : ∃ V1 pq1 sp1, cLk b (List.map w L) (nI jf) = (V1, pq1, sp1) := ⟨_, _, _, rfl⟩
  have hlk9 : rdV w ((1 : Int32) <<< (nI jf &&& 31)) (b 12) L = (V1, pq1, sp1) := (rdV_A _ _ _ _).trans hlk
  have hP : va_P D vwCl (cW u cI cII V1 pq1 sp1 cn e sz b L w nx) H := by rw [hlk9] at hP; exact hP
  refine lv_aload_n hx hb dX3_take_16 rfl (lv_at hl 0 rfl) ?_
  refine og_get F hK hinO (cPc hP) 1 (by decide) (by decide +kernel) rfl dX3_take_17 ?_
  refine vg_get F hK hinV (cPv hP) 0 (by decide) (by decide +kernel) rfl dX3_take_20 ?_
  refine lv_iload_n hx hb dX3_take_23 rfl (lv_at hl 2 rfl) ?_
  refine cg_ald F hK (cPv hP) 1 40 rfl jt rfl (by omega) (by decide) dX3_take_24 ?_
  refine lv_istore_n (lv' := [(3, .int (V1 0 jt)), (0, .ref (u 30)), (1, .int (nI jf)), (2, .int (nI jt))]) hx hb dX3_take_25 rfl hl (by decide) rfl (fun ls hl => ?_)
  refine lv_iload_n hx hb dX3_take_26 rfl (lv_at hl 0 rfl) ?_
  refine lv_iconst (v := (-1)) hx hb dX3_take_27 (by decide) ?_
  refine lv_icmp_ne (tgt := 41) hx hb dX3_take_28 (by decide) (fun c_4 => ?_) (fun c_4 => ?_)
  · skip
    refine lv_aload_n hx hb dX3_take_41 rfl (lv_at hl 1 rfl) ?_
    refine lv_iconst (v := 1) hx hb dX3_take_42 (by decide) ?_
    refine xc_callV F hK hX (Nat.le_trans (Nat.le_of_eq hz.symm) hS.1) [.int 1] (cc_X3_checkRoomFor hfl hN 1 ) (cwV 1 F.2.2.2.2 gX3_take_X3_checkRoomFor rfl rfl rfl (by decide +kernel) ⟨Nat.le_of_ble_eq_true rfl, Nat.le_of_ble_eq_true rfl⟩) (og_rc hK (cPc hP)) hP hS (cG_sub hLz (Nat.le_trans (Nat.le_of_eq hz.symm) hS.1)) hout hlocks (fun E9 V9 pq9 sp9 cn9 e9' sz9 b9 L9 w9 nx9 h9 => pPX_of (b, cn, List.map w L) 3 (by simp [cTake, cWr, hb_w_1, njf, hb_w_2, njt, hlk, c_4, ← hsz, h9.2.1]) (by decide) h9.1 (aS_of h9.2.2 ⟨rfl, rfl, rfl, he, hsz, hch, hN, fun x hx => hL0 ▸ hLz x hx⟩)) rfl hl.1 rfl (lv_room (Nat.le_of_ble_eq_true rfl)) ⟨(Nat.le_of_ble_eq_true rfl), (Nat.le_of_ble_eq_true rfl)⟩ (Nat.le_of_ble_eq_true rfl) (Nat.le_of_ble_eq_true rfl) dX3_take_43 (fun r_w_5 ra_w_5 V_w_5 pc_w_5 sp_w_5 cc_w_5 e_w_5 sz_w_5 b_w_5 L_w_5 w_w_5 nx_w_5 H locs hp_w_5 hP hsz_w_5 hfr_w_5 hS => ?_)
    obtain ⟨hb_w_5, -, e2_w_5, e3_w_5, e4_w_5, e5_w_5, e6_w_5, e7_w_5, e8_w_5, e9_w_5, e10_w_5, e11_w_5⟩ := hp_w_5
    rw [e2_w_5, e3_w_5, e4_w_5, e5_w_5, e6_w_5, e7_w_5, e8_w_5, e9_w_5, e10_w_5, e11_w_5] at hP
    refine lv_aload_n hx hb dX3_take_46 rfl (lv_at hl 1 rfl) ?_
    refine lv_iload_n hx hb dX3_take_47 rfl (lv_at hl 2 rfl) ?_
    refine lv_iconst (v := 1) hx hb dX3_take_48 (by decide) ?_
    refine lv_iload_n hx hb dX3_take_49 rfl (lv_at hl 3 rfl) ?_
    refine lv_iconst (v := (-1)) hx hb dX3_take_50 (by decide) ?_
    have hzo_w_6 : z0 ≤ Array.size H := Nat.le_trans (Nat.le_of_eq hz.symm) hS.1
    refine cw_callV F hK [.int (nI jf), .int 1, .int (nI jt), .int (-1)] (cc_X3_write hN jf 1 (nI jt) (-1) (by first | assumption | omega) (by first | assumption | omega) (by first | assumption | omega)) (cwV 4 F.2.2.2.2 gX3_take_X3_write rfl rfl rfl (by decide +kernel) ⟨Nat.le_of_ble_eq_true rfl, Nat.le_of_ble_eq_true rfl⟩) (og_rc hK (cPc hP)) hP hS (cG_sub hLz (Nat.le_trans (Nat.le_of_eq hz.symm) hS.1)) rfl hl.1 rfl (lv_room (Nat.le_of_ble_eq_true rfl)) ⟨Nat.le_of_ble_eq_true rfl, Nat.le_of_ble_eq_true rfl⟩ dX3_take_51 (fun r_w_6 ra_w_6 V_w_6 pc_w_6 sp_w_6 cc_w_6 e_w_6 sz_w_6 b_w_6 L_w_6 w_w_6 nx_w_6 H locs hp_w_6 hP hsz_w_6 hfr_w_6 hS => ?_)
    obtain ⟨e2_w_6, e3_w_6, e4_w_6, e5_w_6, e6_w_6, e7_w_6, e8_w_6, hw_w_6, hL_w_6, hch_w_6, hN_w_6, hra_w_6, hrz_w_6⟩ := hp_w_6
    rw [e2_w_6, e3_w_6, e4_w_6, e5_w_6, e6_w_6, e7_w_6, e8_w_6] at hP
    have hmem_w_6 : ra_w_6 ∈ L_w_6 := by rw [hL_w_6]; exact (insL_mem _ _ _ _).mpr (Or.inl rfl)
    have hws_w_6 : L_w_6.map w_w_6 = insA (mkW 1 (b 10 jf + 1) (nI jf) (nI jt) (-1)) (List.map w L) := by rw [hL_w_6, hw_w_6]; exact (insA_map hra_w_6).trans (congrArg (insA _) (rfl))
    have hlen_w_6 : sz + 1 = L_w_6.length := by rw [hL_w_6, insL_len, hsz]
    rw [hlen_w_6] at hP
    have hLz_w_6 : ∀ a, a ∈ L_w_6 → a ∈ L0 ∨ z0 ≤ a := fun a ha => by rw [hL_w_6] at ha; exact ((insL_mem _ _ _ _).mp ha).elim (fun q => Or.inr (by rw [q]; exact Nat.le_trans hzo_w_6 hrz_w_6)) (hLz a)
    refine lv_pop hx hb dX3_take_54 rfl ?_
    refine lv_iload_n hx hb dX3_take_55 rfl (lv_at hl 0 rfl) ?_
    refine vx_ret ?_
    exact cw_reti F hr hlocks hP hS (pPost_of (upA b 10 jf (b 10 jf + 1), cn, insA (mkW 1 (b 10 jf + 1) (nI jf) (nI jt) (-1)) (List.map w L)) (by simp [cTake, cWr, hb_w_1, njf, hb_w_2, njt, hlk, c_4, hb_w_5, hw_w_6, stW, mkW, ← hsz, bI]) ⟨rfl, rfl, hws_w_6, rfl, rfl, hch_w_6, hN_w_6, fun x hx => hL0 ▸ hLz_w_6 x hx⟩) (by omega) (by omega) dX3_take_56
  · skip
    exact xt_throw F hfl hP hS hX hout hlocks hl.1 "java/lang/IllegalStateException" 53 72 57 5 "the fridge sees the thing nowhere" rfl (by decide +kernel) rfl (by decide +kernel) (by decide +kernel) (by decide +kernel) xn_IS xg_IS dX3_take_31 dX3_take_34 dX3_take_35 dX3_take_37 dX3_take_40 ⟨(Nat.le_of_ble_eq_true rfl), (Nat.le_of_ble_eq_true rfl), (Nat.le_of_ble_eq_true rfl), (Nat.le_of_ble_eq_true rfl)⟩ (pPX_of (b, cn, List.map w L) 3 (by simp [cTake, cWr, hb_w_1, njf, hb_w_2, njt, hlk, c_4, ← hsz]) (by decide) rfl ⟨rfl, rfl, rfl, he, hsz, hch, hN, fun x hx => hL0 ▸ hLz x hx⟩) (Nat.le_of_ble_eq_true rfl) (Nat.le_of_ble_eq_true rfl)
def cCount (cs : CS) (f : Int32) (o : Int32) : OP :=
  if nOk f 5 = false then (1, 0, cs) else if nOk o 8 = false then (1, 0, cs) else (0, nI (vSome (cLk cs.1 cs.2.2 f).1 (jn o)), cs)
set_option maxHeartbeats 4000000 in
set_option maxRecDepth 100000 in
theorem cc_X3_count {l : Launch} (hfl : l.stackTraces = false) {D : va_G} {cI cII : ClassId} {sa : Nat → Nat} {u : Nat → Nat} {V : Nat → Nat → Int32} {pq sp : Int32} {cn : Nat} {e : Option Nat} {sz : Nat} {b : Nat → Nat → Int32} {L : List Nat} {w : Nat → Nat → Int32} {nx : Nat → Option Nat} {z0 : Nat} (hN : (cAd u ++ L).Nodup) (f : Int32) (o : Int32) (hch : chn nx L) (he : e = L.head?) (hsz : sz = L.length) (hok : ∀ x, x ∈ L → okW (w x)) (hcn : cn ≤ 20) (hrc : ∀ k, k < cn → ∃ r, r < 6 ∧ b 11 k = nI r) : xc_Met l yX3_count wsX3_count 7 2 12 140 D u cI cII sa z0 L (cW u cI cII V pq sp cn e sz b L w nx) [.ref (u 30), .int f, .int o] kI (pPost u L z0 (cCount (b, cn, List.map w L) f o)) (pPX u L z0 (cCount (b, cn, List.map w L) f o)) := by
  suffices h9 : ∀ L0, L0 = L → xc_Met l yX3_count wsX3_count 7 2 12 140 D u cI cII sa z0 L0 (cW u cI cII V pq sp cn e sz b L w nx) [.ref (u 30), .int f, .int o] kI (pPost u L z0 (cCount (b, cn, List.map w L) f o)) (pPX u L z0 (cCount (b, cn, List.map w L) f o)) by exact h9 _ rfl
  intro L0 hL0
  have hLz : ∀ a, a ∈ L → a ∈ L0 ∨ z0 ≤ a := fun a z => Or.inl (by rw [hL0]; exact z)
  refine xc_start rfl (by decide +kernel) (Nat.le_of_ble_eq_true rfl) (fun p e9 s m below meth c F hr hlocks hK hz H locs hP hS hz9 hX hout ls hl => ?_)
  have hl : lv_has ls 3 [(0, .ref (u 30)), (1, .int f), (2, .int o)] := hl
  have hx := F.1
  have hb := F.2.1
  have hinV : ∀ w ∈ wsX00, w ∈ wsX3_count := by decide +kernel
  have hinO : ∀ w ∈ wsX30, w ∈ wsX3_count := by decide +kernel
  have hinK : ∀ w ∈ wsX20, w ∈ wsX3_count := by decide +kernel
  have hinW : ∀ w ∈ wsX10, w ∈ wsX3_count := by decide +kernel
  refine lv_iload_n hx hb dX3_count_0 rfl (lv_at hl 1 rfl) ?_
  refine lv_iconst (v := 5) hx hb dX3_count_1 (by decide) ?_
  refine xc_callS F hK hX (Nat.le_trans (Nat.le_of_eq hz.symm) hS.1) [.int f, .int 5] (cc_X3_checkNumber hfl hN f 5 ) (va_cwS 2 F.2.2.2.2 gX3_count_X3_checkNumber rfl rfl rfl (by decide +kernel) ⟨Nat.le_of_ble_eq_true rfl, Nat.le_of_ble_eq_true rfl⟩) hP hS (cG_sub hLz (Nat.le_trans (Nat.le_of_eq hz.symm) hS.1)) hout hlocks (fun E9 V9 pq9 sp9 cn9 e9' sz9 b9 L9 w9 nx9 h9 => pPX_of (b, cn, List.map w L) 1 (by simp [cCount, cWr, ← hsz, h9.2.1]) (by decide) h9.1 (aS_of h9.2.2 ⟨rfl, rfl, rfl, he, hsz, hch, hN, fun x hx => hL0 ▸ hLz x hx⟩)) rfl hl.1 rfl (lv_room (Nat.le_of_ble_eq_true rfl)) ⟨(Nat.le_of_ble_eq_true rfl), (Nat.le_of_ble_eq_true rfl)⟩ (Nat.le_of_ble_eq_true rfl) (Nat.le_of_ble_eq_true rfl) dX3_count_2 (fun r_w_1 ra_w_1 V_w_1 pc_w_1 sp_w_1 cc_w_1 e_w_1 sz_w_1 b_w_1 L_w_1 w_w_1 nx_w_1 H locs hp_w_1 hP hsz_w_1 hfr_w_1 hS => ?_)
  obtain ⟨hb_w_1, -, e2_w_1, e3_w_1, e4_w_1, e5_w_1, e6_w_1, e7_w_1, e8_w_1, e9_w_1, e10_w_1, e11_w_1⟩ := hp_w_1
  rw [e2_w_1, e3_w_1, e4_w_1, e5_w_1, e6_w_1, e7_w_1, e8_w_1, e9_w_1, e10_w_1, e11_w_1] at hP
  obtain ⟨jf, hjf, rfl⟩ := nOk_nat (k := 5) (by omega) rfl hb_w_1
  have njf : jn (nI jf) = jf := jn_nI (by omega)
  refine lv_iload_n hx hb dX3_count_5 rfl (lv_at hl 2 rfl) ?_
  refine lv_bipush (v := 8) hx hb dX3_count_6 (by decide) ?_
  refine xc_callS F hK hX (Nat.le_trans (Nat.le_of_eq hz.symm) hS.1) [.int o, .int 8] (cc_X3_checkNumber hfl hN o 8 ) (va_cwS 2 F.2.2.2.2 gX3_count_X3_checkNumber rfl rfl rfl (by decide +kernel) ⟨Nat.le_of_ble_eq_true rfl, Nat.le_of_ble_eq_true rfl⟩) hP hS (cG_sub hLz (Nat.le_trans (Nat.le_of_eq hz.symm) hS.1)) hout hlocks (fun E9 V9 pq9 sp9 cn9 e9' sz9 b9 L9 w9 nx9 h9 => pPX_of (b, cn, List.map w L) 1 (by simp [cCount, cWr, hb_w_1, njf, ← hsz, h9.2.1]) (by decide) h9.1 (aS_of h9.2.2 ⟨rfl, rfl, rfl, he, hsz, hch, hN, fun x hx => hL0 ▸ hLz x hx⟩)) rfl hl.1 rfl (lv_room (Nat.le_of_ble_eq_true rfl)) ⟨(Nat.le_of_ble_eq_true rfl), (Nat.le_of_ble_eq_true rfl)⟩ (Nat.le_of_ble_eq_true rfl) (Nat.le_of_ble_eq_true rfl) dX3_count_8 (fun r_w_2 ra_w_2 V_w_2 pc_w_2 sp_w_2 cc_w_2 e_w_2 sz_w_2 b_w_2 L_w_2 w_w_2 nx_w_2 H locs hp_w_2 hP hsz_w_2 hfr_w_2 hS => ?_)
  obtain ⟨hb_w_2, -, e2_w_2, e3_w_2, e4_w_2, e5_w_2, e6_w_2, e7_w_2, e8_w_2, e9_w_2, e10_w_2, e11_w_2⟩ := hp_w_2
  rw [e2_w_2, e3_w_2, e4_w_2, e5_w_2, e6_w_2, e7_w_2, e8_w_2, e9_w_2, e10_w_2, e11_w_2] at hP
  obtain ⟨jo, hjo, rfl⟩ := nOk_nat (k := 8) (by omega) rfl hb_w_2
  have njo : jn (nI jo) = jo := jn_nI (by omega)
  refine lv_aload_n hx hb dX3_count_11 rfl (lv_at hl 0 rfl) ?_
  refine lv_iload_n hx hb dX3_count_12 rfl (lv_at hl 1 rfl) ?_
  refine cw_callV F hK [.int (nI jf)] (cc_X3_lookAs hN jf (by first | assumption | omega) (by first | assumption | omega) (by first | assumption | omega)) (cwV 1 F.2.2.2.2 gX3_count_X3_lookAs rfl rfl rfl (by decide +kernel) ⟨Nat.le_of_ble_eq_true rfl, Nat.le_of_ble_eq_true rfl⟩) (og_rc hK (cPc hP)) hP hS (cG_sub hLz (Nat.le_trans (Nat.le_of_eq hz.symm) hS.1)) rfl hl.1 rfl (lv_room (Nat.le_of_ble_eq_true rfl)) ⟨Nat.le_of_ble_eq_true rfl, Nat.le_of_ble_eq_true rfl⟩ dX3_count_13 (fun r_w_3 ra_w_3 V_w_3 pc_w_3 sp_w_3 cc_w_3 e_w_3 sz_w_3 b_w_3 L_w_3 w_w_3 nx_w_3 H locs hp_w_3 hP hsz_w_3 hfr_w_3 hS => ?_)
  obtain ⟨-, e2_w_3, e3_w_3, e4_w_3, e5_w_3, e6_w_3, e7_w_3, e8_w_3, e9_w_3, e10_w_3, e11_w_3⟩ := hp_w_3
  rw [e2_w_3, e3_w_3, e4_w_3, e5_w_3, e6_w_3, e7_w_3, e8_w_3, e9_w_3, e10_w_3, e11_w_3] at hP
  obtain ⟨V1, pq1, sp1, hlk⟩ : ∃ V1 pq1 sp1, cLk b (List.map w L) (nI jf) = (V1, pq1, sp1) := ⟨_, _, _, rfl⟩
  have hlk9 : rdV w ((1 : Int32) <<< (nI jf &&& 31)) (b 12) L = (V1, pq1, sp1) := (rdV_A _ _ _ _).trans hlk
  have hP : va_P D vwCl (cW u cI cII V1 pq1 sp1 cn e sz b L w nx) H := by rw [hlk9] at hP; exact hP
  refine lv_aload_n hx hb dX3_count_16 rfl (lv_at hl 0 rfl) ?_
  refine og_get F hK hinO (cPc hP) 1 (by decide) (by decide +kernel) rfl dX3_count_17 ?_
  refine lv_iload_n hx hb dX3_count_20 rfl (lv_at hl 2 rfl) ?_
  refine ro_callV F hK [.int (nI jo)] (cc_X0_thingsSomewhere (cPv hP) jo (by first | assumption | omega)) (cwV 1 F.2.2.2.2 gX3_count_X0_thingsSomewhere rfl rfl rfl (by decide +kernel) ⟨Nat.le_of_ble_eq_true rfl, Nat.le_of_ble_eq_true rfl⟩) (vg_rc hK (cPv hP)) rfl hl.1 rfl (lv_room (Nat.le_of_ble_eq_true rfl)) ⟨Nat.le_of_ble_eq_true rfl, Nat.le_of_ble_eq_true rfl⟩ dX3_count_21 ?_
  refine vx_ret ?_
  exact cw_reti F hr hlocks hP hS (pPost_of (b, cn, List.map w L) (by simp [cCount, cWr, hb_w_1, njf, hb_w_2, njo, hlk, ← hsz, bI]) ⟨rfl, rfl, rfl, he, hsz, hch, hN, fun x hx => hL0 ▸ hLz x hx⟩) (by omega) (by omega) dX3_count_24
def cCountByAll (cs : CS) (o : Int32) : OP :=
  if nOk o 8 = false then (1, 0, cs) else (0, nI (vSome (cLa cs.1 cs.2.2).1 (jn o)), cs)
set_option maxHeartbeats 4000000 in
set_option maxRecDepth 100000 in
theorem cc_X3_countByAll {l : Launch} (hfl : l.stackTraces = false) {D : va_G} {cI cII : ClassId} {sa : Nat → Nat} {u : Nat → Nat} {V : Nat → Nat → Int32} {pq sp : Int32} {cn : Nat} {e : Option Nat} {sz : Nat} {b : Nat → Nat → Int32} {L : List Nat} {w : Nat → Nat → Int32} {nx : Nat → Option Nat} {z0 : Nat} (hN : (cAd u ++ L).Nodup) (o : Int32) (hch : chn nx L) (he : e = L.head?) (hsz : sz = L.length) (hok : ∀ x, x ∈ L → okW (w x)) (hcn : cn ≤ 20) (hrc : ∀ k, k < cn → ∃ r, r < 6 ∧ b 11 k = nI r) : xc_Met l yX3_countByAll wsX3_countByAll 7 1 6 139 D u cI cII sa z0 L (cW u cI cII V pq sp cn e sz b L w nx) [.ref (u 30), .int o] kI (pPost u L z0 (cCountByAll (b, cn, List.map w L) o)) (pPX u L z0 (cCountByAll (b, cn, List.map w L) o)) := by
  suffices h9 : ∀ L0, L0 = L → xc_Met l yX3_countByAll wsX3_countByAll 7 1 6 139 D u cI cII sa z0 L0 (cW u cI cII V pq sp cn e sz b L w nx) [.ref (u 30), .int o] kI (pPost u L z0 (cCountByAll (b, cn, List.map w L) o)) (pPX u L z0 (cCountByAll (b, cn, List.map w L) o)) by exact h9 _ rfl
  intro L0 hL0
  have hLz : ∀ a, a ∈ L → a ∈ L0 ∨ z0 ≤ a := fun a z => Or.inl (by rw [hL0]; exact z)
  refine xc_start rfl (by decide +kernel) (Nat.le_of_ble_eq_true rfl) (fun p e9 s m below meth c F hr hlocks hK hz H locs hP hS hz9 hX hout ls hl => ?_)
  have hl : lv_has ls 2 [(0, .ref (u 30)), (1, .int o)] := hl
  have hx := F.1
  have hb := F.2.1
  have hinV : ∀ w ∈ wsX00, w ∈ wsX3_countByAll := by decide +kernel
  have hinO : ∀ w ∈ wsX30, w ∈ wsX3_countByAll := by decide +kernel
  have hinK : ∀ w ∈ wsX20, w ∈ wsX3_countByAll := by decide +kernel
  have hinW : ∀ w ∈ wsX10, w ∈ wsX3_countByAll := by decide +kernel
  refine lv_iload_n hx hb dX3_countByAll_0 rfl (lv_at hl 1 rfl) ?_
  refine lv_bipush (v := 8) hx hb dX3_countByAll_1 (by decide) ?_
  refine xc_callS F hK hX (Nat.le_trans (Nat.le_of_eq hz.symm) hS.1) [.int o, .int 8] (cc_X3_checkNumber hfl hN o 8 ) (va_cwS 2 F.2.2.2.2 gX3_countByAll_X3_checkNumber rfl rfl rfl (by decide +kernel) ⟨Nat.le_of_ble_eq_true rfl, Nat.le_of_ble_eq_true rfl⟩) hP hS (cG_sub hLz (Nat.le_trans (Nat.le_of_eq hz.symm) hS.1)) hout hlocks (fun E9 V9 pq9 sp9 cn9 e9' sz9 b9 L9 w9 nx9 h9 => pPX_of (b, cn, List.map w L) 1 (by simp [cCountByAll, cWr, ← hsz, h9.2.1]) (by decide) h9.1 (aS_of h9.2.2 ⟨rfl, rfl, rfl, he, hsz, hch, hN, fun x hx => hL0 ▸ hLz x hx⟩)) rfl hl.1 rfl (lv_room (Nat.le_of_ble_eq_true rfl)) ⟨(Nat.le_of_ble_eq_true rfl), (Nat.le_of_ble_eq_true rfl)⟩ (Nat.le_of_ble_eq_true rfl) (Nat.le_of_ble_eq_true rfl) dX3_countByAll_3 (fun r_w_1 ra_w_1 V_w_1 pc_w_1 sp_w_1 cc_w_1 e_w_1 sz_w_1 b_w_1 L_w_1 w_w_1 nx_w_1 H locs hp_w_1 hP hsz_w_1 hfr_w_1 hS => ?_)
  obtain ⟨hb_w_1, -, e2_w_1, e3_w_1, e4_w_1, e5_w_1, e6_w_1, e7_w_1, e8_w_1, e9_w_1, e10_w_1, e11_w_1⟩ := hp_w_1
  rw [e2_w_1, e3_w_1, e4_w_1, e5_w_1, e6_w_1, e7_w_1, e8_w_1, e9_w_1, e10_w_1, e11_w_1] at hP
  obtain ⟨jo, hjo, rfl⟩ := nOk_nat (k := 8) (by omega) rfl hb_w_1
  have njo : jn (nI jo) = jo := jn_nI (by omega)
  refine lv_aload_n hx hb dX3_countByAll_6 rfl (lv_at hl 0 rfl) ?_
  refine cw_callV F hK [] (cc_X3_lookByAll hN  (by first | assumption | omega) (by first | assumption | omega) (by first | assumption | omega)) (cwV 0 F.2.2.2.2 gX3_countByAll_X3_lookByAll rfl rfl rfl (by decide +kernel) ⟨Nat.le_of_ble_eq_true rfl, Nat.le_of_ble_eq_true rfl⟩) (og_rc hK (cPc hP)) hP hS (cG_sub hLz (Nat.le_trans (Nat.le_of_eq hz.symm) hS.1)) rfl hl.1 rfl (lv_room (Nat.le_of_ble_eq_true rfl)) ⟨Nat.le_of_ble_eq_true rfl, Nat.le_of_ble_eq_true rfl⟩ dX3_countByAll_7 (fun r_w_2 ra_w_2 V_w_2 pc_w_2 sp_w_2 cc_w_2 e_w_2 sz_w_2 b_w_2 L_w_2 w_w_2 nx_w_2 H locs hp_w_2 hP hsz_w_2 hfr_w_2 hS => ?_)
  obtain ⟨-, e2_w_2, e3_w_2, e4_w_2, e5_w_2, e6_w_2, e7_w_2, e8_w_2, e9_w_2, e10_w_2, e11_w_2⟩ := hp_w_2
  rw [e2_w_2, e3_w_2, e4_w_2, e5_w_2, e6_w_2, e7_w_2, e8_w_2, e9_w_2, e10_w_2, e11_w_2] at hP
  obtain ⟨V1, pq1, sp1, hlk⟩ : ∃ V1 pq1 sp1, cLa b (List.map w L) = (V1, pq1, sp1) := ⟨_, _, _, rfl⟩
  have hlk9 : rdV w 31 (b 12) L = (V1, pq1, sp1) := (rdV_A _ _ _ _).trans hlk
  have hP : va_P D vwCl (cW u cI cII V1 pq1 sp1 cn e sz b L w nx) H := by rw [hlk9] at hP; exact hP
  refine lv_aload_n hx hb dX3_countByAll_10 rfl (lv_at hl 0 rfl) ?_
  refine og_get F hK hinO (cPc hP) 1 (by decide) (by decide +kernel) rfl dX3_countByAll_11 ?_
  refine lv_iload_n hx hb dX3_countByAll_14 rfl (lv_at hl 1 rfl) ?_
  refine ro_callV F hK [.int (nI jo)] (cc_X0_thingsSomewhere (cPv hP) jo (by first | assumption | omega)) (cwV 1 F.2.2.2.2 gX3_countByAll_X0_thingsSomewhere rfl rfl rfl (by decide +kernel) ⟨Nat.le_of_ble_eq_true rfl, Nat.le_of_ble_eq_true rfl⟩) (vg_rc hK (cPv hP)) rfl hl.1 rfl (lv_room (Nat.le_of_ble_eq_true rfl)) ⟨Nat.le_of_ble_eq_true rfl, Nat.le_of_ble_eq_true rfl⟩ dX3_countByAll_15 ?_
  refine vx_ret ?_
  exact cw_reti F hr hlocks hP hS (pPost_of (b, cn, List.map w L) (by simp [cCountByAll, cWr, hb_w_1, njo, hlk, ← hsz, bI]) ⟨rfl, rfl, rfl, he, hsz, hch, hN, fun x hx => hL0 ▸ hLz x hx⟩) (by omega) (by omega) dX3_countByAll_18
def cClaims (cs : CS) (f : Int32) (t : Int32) : OP :=
  if nOk f 5 = false then (1, 0, cs) else if nOk t 40 = false then (1, 0, cs) else (0, vWrong (cLk cs.1 cs.2.2 f).1 (jn t), cs)
set_option maxHeartbeats 4000000 in
set_option maxRecDepth 100000 in
theorem cc_X3_claims {l : Launch} (hfl : l.stackTraces = false) {D : va_G} {cI cII : ClassId} {sa : Nat → Nat} {u : Nat → Nat} {V : Nat → Nat → Int32} {pq sp : Int32} {cn : Nat} {e : Option Nat} {sz : Nat} {b : Nat → Nat → Int32} {L : List Nat} {w : Nat → Nat → Int32} {nx : Nat → Option Nat} {z0 : Nat} (hN : (cAd u ++ L).Nodup) (f : Int32) (t : Int32) (hch : chn nx L) (he : e = L.head?) (hsz : sz = L.length) (hok : ∀ x, x ∈ L → okW (w x)) (hcn : cn ≤ 20) (hrc : ∀ k, k < cn → ∃ r, r < 6 ∧ b 11 k = nI r) : xc_Met l yX3_claims wsX3_claims 7 2 12 140 D u cI cII sa z0 L (cW u cI cII V pq sp cn e sz b L w nx) [.ref (u 30), .int f, .int t] kI (pPost u L z0 (cClaims (b, cn, List.map w L) f t)) (pPX u L z0 (cClaims (b, cn, List.map w L) f t)) := by
  suffices h9 : ∀ L0, L0 = L → xc_Met l yX3_claims wsX3_claims 7 2 12 140 D u cI cII sa z0 L0 (cW u cI cII V pq sp cn e sz b L w nx) [.ref (u 30), .int f, .int t] kI (pPost u L z0 (cClaims (b, cn, List.map w L) f t)) (pPX u L z0 (cClaims (b, cn, List.map w L) f t)) by exact h9 _ rfl
  intro L0 hL0
  have hLz : ∀ a, a ∈ L → a ∈ L0 ∨ z0 ≤ a := fun a z => Or.inl (by rw [hL0]; exact z)
  refine xc_start rfl (by decide +kernel) (Nat.le_of_ble_eq_true rfl) (fun p e9 s m below meth c F hr hlocks hK hz H locs hP hS hz9 hX hout ls hl => ?_)
  have hl : lv_has ls 3 [(0, .ref (u 30)), (1, .int f), (2, .int t)] := hl
  have hx := F.1
  have hb := F.2.1
  have hinV : ∀ w ∈ wsX00, w ∈ wsX3_claims := by decide +kernel
  have hinO : ∀ w ∈ wsX30, w ∈ wsX3_claims := by decide +kernel
  have hinK : ∀ w ∈ wsX20, w ∈ wsX3_claims := by decide +kernel
  have hinW : ∀ w ∈ wsX10, w ∈ wsX3_claims := by decide +kernel
  refine lv_iload_n hx hb dX3_claims_0 rfl (lv_at hl 1 rfl) ?_
  refine lv_iconst (v := 5) hx hb dX3_claims_1 (by decide) ?_
  refine xc_callS F hK hX (Nat.le_trans (Nat.le_of_eq hz.symm) hS.1) [.int f, .int 5] (cc_X3_checkNumber hfl hN f 5 ) (va_cwS 2 F.2.2.2.2 gX3_claims_X3_checkNumber rfl rfl rfl (by decide +kernel) ⟨Nat.le_of_ble_eq_true rfl, Nat.le_of_ble_eq_true rfl⟩) hP hS (cG_sub hLz (Nat.le_trans (Nat.le_of_eq hz.symm) hS.1)) hout hlocks (fun E9 V9 pq9 sp9 cn9 e9' sz9 b9 L9 w9 nx9 h9 => pPX_of (b, cn, List.map w L) 1 (by simp [cClaims, cWr, ← hsz, h9.2.1]) (by decide) h9.1 (aS_of h9.2.2 ⟨rfl, rfl, rfl, he, hsz, hch, hN, fun x hx => hL0 ▸ hLz x hx⟩)) rfl hl.1 rfl (lv_room (Nat.le_of_ble_eq_true rfl)) ⟨(Nat.le_of_ble_eq_true rfl), (Nat.le_of_ble_eq_true rfl)⟩ (Nat.le_of_ble_eq_true rfl) (Nat.le_of_ble_eq_true rfl) dX3_claims_2 (fun r_w_1 ra_w_1 V_w_1 pc_w_1 sp_w_1 cc_w_1 e_w_1 sz_w_1 b_w_1 L_w_1 w_w_1 nx_w_1 H locs hp_w_1 hP hsz_w_1 hfr_w_1 hS => ?_)
  obtain ⟨hb_w_1, -, e2_w_1, e3_w_1, e4_w_1, e5_w_1, e6_w_1, e7_w_1, e8_w_1, e9_w_1, e10_w_1, e11_w_1⟩ := hp_w_1
  rw [e2_w_1, e3_w_1, e4_w_1, e5_w_1, e6_w_1, e7_w_1, e8_w_1, e9_w_1, e10_w_1, e11_w_1] at hP
  obtain ⟨jf, hjf, rfl⟩ := nOk_nat (k := 5) (by omega) rfl hb_w_1
  have njf : jn (nI jf) = jf := jn_nI (by omega)
  refine lv_iload_n hx hb dX3_claims_5 rfl (lv_at hl 2 rfl) ?_
  refine lv_bipush (v := 40) hx hb dX3_claims_6 (by decide) ?_
  refine xc_callS F hK hX (Nat.le_trans (Nat.le_of_eq hz.symm) hS.1) [.int t, .int 40] (cc_X3_checkNumber hfl hN t 40 ) (va_cwS 2 F.2.2.2.2 gX3_claims_X3_checkNumber rfl rfl rfl (by decide +kernel) ⟨Nat.le_of_ble_eq_true rfl, Nat.le_of_ble_eq_true rfl⟩) hP hS (cG_sub hLz (Nat.le_trans (Nat.le_of_eq hz.symm) hS.1)) hout hlocks (fun E9 V9 pq9 sp9 cn9 e9' sz9 b9 L9 w9 nx9 h9 => pPX_of (b, cn, List.map w L) 1 (by simp [cClaims, cWr, hb_w_1, njf, ← hsz, h9.2.1]) (by decide) h9.1 (aS_of h9.2.2 ⟨rfl, rfl, rfl, he, hsz, hch, hN, fun x hx => hL0 ▸ hLz x hx⟩)) rfl hl.1 rfl (lv_room (Nat.le_of_ble_eq_true rfl)) ⟨(Nat.le_of_ble_eq_true rfl), (Nat.le_of_ble_eq_true rfl)⟩ (Nat.le_of_ble_eq_true rfl) (Nat.le_of_ble_eq_true rfl) dX3_claims_8 (fun r_w_2 ra_w_2 V_w_2 pc_w_2 sp_w_2 cc_w_2 e_w_2 sz_w_2 b_w_2 L_w_2 w_w_2 nx_w_2 H locs hp_w_2 hP hsz_w_2 hfr_w_2 hS => ?_)
  obtain ⟨hb_w_2, -, e2_w_2, e3_w_2, e4_w_2, e5_w_2, e6_w_2, e7_w_2, e8_w_2, e9_w_2, e10_w_2, e11_w_2⟩ := hp_w_2
  rw [e2_w_2, e3_w_2, e4_w_2, e5_w_2, e6_w_2, e7_w_2, e8_w_2, e9_w_2, e10_w_2, e11_w_2] at hP
  obtain ⟨jt, hjt, rfl⟩ := nOk_nat (k := 40) (by omega) rfl hb_w_2
  have njt : jn (nI jt) = jt := jn_nI (by omega)
  refine lv_aload_n hx hb dX3_claims_11 rfl (lv_at hl 0 rfl) ?_
  refine lv_iload_n hx hb dX3_claims_12 rfl (lv_at hl 1 rfl) ?_
  refine cw_callV F hK [.int (nI jf)] (cc_X3_lookAs hN jf (by first | assumption | omega) (by first | assumption | omega) (by first | assumption | omega)) (cwV 1 F.2.2.2.2 gX3_claims_X3_lookAs rfl rfl rfl (by decide +kernel) ⟨Nat.le_of_ble_eq_true rfl, Nat.le_of_ble_eq_true rfl⟩) (og_rc hK (cPc hP)) hP hS (cG_sub hLz (Nat.le_trans (Nat.le_of_eq hz.symm) hS.1)) rfl hl.1 rfl (lv_room (Nat.le_of_ble_eq_true rfl)) ⟨Nat.le_of_ble_eq_true rfl, Nat.le_of_ble_eq_true rfl⟩ dX3_claims_13 (fun r_w_3 ra_w_3 V_w_3 pc_w_3 sp_w_3 cc_w_3 e_w_3 sz_w_3 b_w_3 L_w_3 w_w_3 nx_w_3 H locs hp_w_3 hP hsz_w_3 hfr_w_3 hS => ?_)
  obtain ⟨-, e2_w_3, e3_w_3, e4_w_3, e5_w_3, e6_w_3, e7_w_3, e8_w_3, e9_w_3, e10_w_3, e11_w_3⟩ := hp_w_3
  rw [e2_w_3, e3_w_3, e4_w_3, e5_w_3, e6_w_3, e7_w_3, e8_w_3, e9_w_3, e10_w_3, e11_w_3] at hP
  obtain ⟨V1, pq1, sp1, hlk⟩ : ∃ V1 pq1 sp1, cLk b (List.map w L) (nI jf) = (V1, pq1, sp1) := ⟨_, _, _, rfl⟩
  have hlk9 : rdV w ((1 : Int32) <<< (nI jf &&& 31)) (b 12) L = (V1, pq1, sp1) := (rdV_A _ _ _ _).trans hlk
  have hP : va_P D vwCl (cW u cI cII V1 pq1 sp1 cn e sz b L w nx) H := by rw [hlk9] at hP; exact hP
  refine lv_aload_n hx hb dX3_claims_16 rfl (lv_at hl 0 rfl) ?_
  refine og_get F hK hinO (cPc hP) 1 (by decide) (by decide +kernel) rfl dX3_claims_17 ?_
  refine lv_iload_n hx hb dX3_claims_20 rfl (lv_at hl 2 rfl) ?_
  refine ro_callV F hK [.int (nI jt)] (cc_X0_wrongClaimers (cPv hP) jt (by first | assumption | omega)) (cwV 1 F.2.2.2.2 gX3_claims_X0_wrongClaimers rfl rfl rfl (by decide +kernel) ⟨Nat.le_of_ble_eq_true rfl, Nat.le_of_ble_eq_true rfl⟩) (vg_rc hK (cPv hP)) rfl hl.1 rfl (lv_room (Nat.le_of_ble_eq_true rfl)) ⟨Nat.le_of_ble_eq_true rfl, Nat.le_of_ble_eq_true rfl⟩ dX3_claims_21 ?_
  refine vx_ret ?_
  exact cw_reti F hr hlocks hP hS (pPost_of (b, cn, List.map w L) (by simp [cClaims, cWr, hb_w_1, njf, hb_w_2, njt, hlk, ← hsz, bI]) ⟨rfl, rfl, rfl, he, hsz, hch, hN, fun x hx => hL0 ▸ hLz x hx⟩) (by omega) (by omega) dX3_claims_24
def cWords (cs : CS) : OP :=
  (0, nI cs.2.2.length, cs)
set_option maxHeartbeats 4000000 in
set_option maxRecDepth 100000 in
theorem cc_X3_words {l : Launch} (hfl : l.stackTraces = false) {D : va_G} {cI cII : ClassId} {sa : Nat → Nat} {u : Nat → Nat} {V : Nat → Nat → Int32} {pq sp : Int32} {cn : Nat} {e : Option Nat} {sz : Nat} {b : Nat → Nat → Int32} {L : List Nat} {w : Nat → Nat → Int32} {nx : Nat → Option Nat} {z0 : Nat} (hN : (cAd u ++ L).Nodup)  (hch : chn nx L) (he : e = L.head?) (hsz : sz = L.length) (hok : ∀ x, x ∈ L → okW (w x)) (hcn : cn ≤ 20) (hrc : ∀ k, k < cn → ∃ r, r < 6 ∧ b 11 k = nI r) : xc_Met l yX3_words wsX3_words 0 0 0 0 D u cI cII sa z0 L (cW u cI cII V pq sp cn e sz b L w nx) [.ref (u 30)] kI (pPost u L z0 (cWords (b, cn, List.map w L))) (pPX u L z0 (cWords (b, cn, List.map w L))) := by
  suffices h9 : ∀ L0, L0 = L → xc_Met l yX3_words wsX3_words 0 0 0 0 D u cI cII sa z0 L0 (cW u cI cII V pq sp cn e sz b L w nx) [.ref (u 30)] kI (pPost u L z0 (cWords (b, cn, List.map w L))) (pPX u L z0 (cWords (b, cn, List.map w L))) by exact h9 _ rfl
  intro L0 hL0
  have hLz : ∀ a, a ∈ L → a ∈ L0 ∨ z0 ≤ a := fun a z => Or.inl (by rw [hL0]; exact z)
  refine xc_start rfl (by decide +kernel) (Nat.le_of_ble_eq_true rfl) (fun p e9 s m below meth c F hr hlocks hK hz H locs hP hS hz9 hX hout ls hl => ?_)
  have hl : lv_has ls 1 [(0, .ref (u 30))] := hl
  have hx := F.1
  have hb := F.2.1
  have hinO : ∀ w ∈ wsX30, w ∈ wsX3_words := by decide +kernel
  have hinK : ∀ w ∈ wsX20, w ∈ wsX3_words := by decide +kernel
  refine lv_aload_n hx hb dX3_words_0 rfl (lv_at hl 0 rfl) ?_
  refine og_get F hK hinO (cPc hP) 0 (by decide) (by decide +kernel) rfl dX3_words_1 ?_
  refine kg_get F hK hinK (cPc hP) 1 (by decide) (by decide +kernel) rfl dX3_words_4 ?_
  refine vx_ret ?_
  exact cw_reti F hr hlocks hP hS (pPost_of (b, cn, List.map w L) (by simp [cWords, cWr, ← hsz, bI]) ⟨rfl, rfl, rfl, he, hsz, hch, hN, fun x hx => hL0 ▸ hLz x hx⟩) (by omega) (by omega) dX3_words_7
def cKnown (cs : CS) (f : Int32) : OP :=
  if nOk f 5 = false then (1, 0, cs) else (0, nI (skA ((1 : Int32) <<< (f &&& 31)) cs.2.2), cs)
set_option maxHeartbeats 4000000 in
set_option maxRecDepth 100000 in
theorem cc_X3_known {l : Launch} (hfl : l.stackTraces = false) {D : va_G} {cI cII : ClassId} {sa : Nat → Nat} {u : Nat → Nat} {V : Nat → Nat → Int32} {pq sp : Int32} {cn : Nat} {e : Option Nat} {sz : Nat} {b : Nat → Nat → Int32} {L : List Nat} {w : Nat → Nat → Int32} {nx : Nat → Option Nat} {z0 : Nat} (hN : (cAd u ++ L).Nodup) (f : Int32) (hch : chn nx L) (he : e = L.head?) (hsz : sz = L.length) (hok : ∀ x, x ∈ L → okW (w x)) (hcn : cn ≤ 20) (hrc : ∀ k, k < cn → ∃ r, r < 6 ∧ b 11 k = nI r) : xc_Met l yX3_known wsX3_known 7 1 6 111 D u cI cII sa z0 L (cW u cI cII V pq sp cn e sz b L w nx) [.ref (u 30), .int f] kI (pPost u L z0 (cKnown (b, cn, List.map w L) f)) (pPX u L z0 (cKnown (b, cn, List.map w L) f)) := by
  suffices h9 : ∀ L0, L0 = L → xc_Met l yX3_known wsX3_known 7 1 6 111 D u cI cII sa z0 L0 (cW u cI cII V pq sp cn e sz b L w nx) [.ref (u 30), .int f] kI (pPost u L z0 (cKnown (b, cn, List.map w L) f)) (pPX u L z0 (cKnown (b, cn, List.map w L) f)) by exact h9 _ rfl
  intro L0 hL0
  have hLz : ∀ a, a ∈ L → a ∈ L0 ∨ z0 ≤ a := fun a z => Or.inl (by rw [hL0]; exact z)
  refine xc_start rfl (by decide +kernel) (Nat.le_of_ble_eq_true rfl) (fun p e9 s m below meth c F hr hlocks hK hz H locs hP hS hz9 hX hout ls hl => ?_)
  have hl : lv_has ls 2 [(0, .ref (u 30)), (1, .int f)] := hl
  have hx := F.1
  have hb := F.2.1
  have hinO : ∀ w ∈ wsX30, w ∈ wsX3_known := by decide +kernel
  have hinK : ∀ w ∈ wsX20, w ∈ wsX3_known := by decide +kernel
  have hinW : ∀ w ∈ wsX10, w ∈ wsX3_known := by decide +kernel
  refine lv_iload_n hx hb dX3_known_0 rfl (lv_at hl 1 rfl) ?_
  refine lv_iconst (v := 5) hx hb dX3_known_1 (by decide) ?_
  refine xc_callS F hK hX (Nat.le_trans (Nat.le_of_eq hz.symm) hS.1) [.int f, .int 5] (cc_X3_checkNumber hfl hN f 5 ) (va_cwS 2 F.2.2.2.2 gX3_known_X3_checkNumber rfl rfl rfl (by decide +kernel) ⟨Nat.le_of_ble_eq_true rfl, Nat.le_of_ble_eq_true rfl⟩) hP hS (cG_sub hLz (Nat.le_trans (Nat.le_of_eq hz.symm) hS.1)) hout hlocks (fun E9 V9 pq9 sp9 cn9 e9' sz9 b9 L9 w9 nx9 h9 => pPX_of (b, cn, List.map w L) 1 (by simp [cKnown, cWr, ← hsz, h9.2.1]) (by decide) h9.1 (aS_of h9.2.2 ⟨rfl, rfl, rfl, he, hsz, hch, hN, fun x hx => hL0 ▸ hLz x hx⟩)) rfl hl.1 rfl (lv_room (Nat.le_of_ble_eq_true rfl)) ⟨(Nat.le_of_ble_eq_true rfl), (Nat.le_of_ble_eq_true rfl)⟩ (Nat.le_of_ble_eq_true rfl) (Nat.le_of_ble_eq_true rfl) dX3_known_2 (fun r_w_1 ra_w_1 V_w_1 pc_w_1 sp_w_1 cc_w_1 e_w_1 sz_w_1 b_w_1 L_w_1 w_w_1 nx_w_1 H locs hp_w_1 hP hsz_w_1 hfr_w_1 hS => ?_)
  obtain ⟨hb_w_1, -, e2_w_1, e3_w_1, e4_w_1, e5_w_1, e6_w_1, e7_w_1, e8_w_1, e9_w_1, e10_w_1, e11_w_1⟩ := hp_w_1
  rw [e2_w_1, e3_w_1, e4_w_1, e5_w_1, e6_w_1, e7_w_1, e8_w_1, e9_w_1, e10_w_1, e11_w_1] at hP
  obtain ⟨jf, hjf, rfl⟩ := nOk_nat (k := 5) (by omega) rfl hb_w_1
  have njf : jn (nI jf) = jf := jn_nI (by omega)
  refine lv_aload_n hx hb dX3_known_5 rfl (lv_at hl 0 rfl) ?_
  refine og_get F hK hinO (cPc hP) 0 (by decide) (by decide +kernel) rfl dX3_known_6 ?_
  refine lv_iconst (v := 1) hx hb dX3_known_9 (by decide) ?_
  refine lv_iload_n hx hb dX3_known_10 rfl (lv_at hl 1 rfl) ?_
  refine lv_ishl hx hb dX3_known_11 ?_
  refine ro_callV F hK [.int (1 <<< (nI jf &&& 31))] (cc_X2_sizeKnownTo (cPc hP) (cPw hP) (1 <<< (nI jf &&& 31)) (by first | assumption | omega) (by first | assumption | omega)) (cwV 1 F.2.2.2.2 gX3_known_X2_sizeKnownTo rfl rfl rfl (by decide +kernel) ⟨Nat.le_of_ble_eq_true rfl, Nat.le_of_ble_eq_true rfl⟩) (kg_rc hK (cPc hP)) rfl hl.1 rfl (lv_room (Nat.le_of_ble_eq_true rfl)) ⟨Nat.le_of_ble_eq_true rfl, Nat.le_of_ble_eq_true rfl⟩ dX3_known_12 ?_
  refine vx_ret ?_
  exact cw_reti F hr hlocks hP hS (pPost_of (b, cn, List.map w L) (by simp [cKnown, cWr, hb_w_1, njf, ← hsz, bI, skF_A]) ⟨rfl, rfl, rfl, he, hsz, hch, hN, fun x hx => hL0 ▸ hLz x hx⟩) (by omega) (by omega) dX3_known_15
def cClock (cs : CS) (f : Int32) : OP :=
  if nOk f 5 = false then (1, 0, cs) else (0, cs.1 10 (jn f), cs)
set_option maxHeartbeats 4000000 in
set_option maxRecDepth 100000 in
theorem cc_X3_clock {l : Launch} (hfl : l.stackTraces = false) {D : va_G} {cI cII : ClassId} {sa : Nat → Nat} {u : Nat → Nat} {V : Nat → Nat → Int32} {pq sp : Int32} {cn : Nat} {e : Option Nat} {sz : Nat} {b : Nat → Nat → Int32} {L : List Nat} {w : Nat → Nat → Int32} {nx : Nat → Option Nat} {z0 : Nat} (hN : (cAd u ++ L).Nodup) (f : Int32) (hch : chn nx L) (he : e = L.head?) (hsz : sz = L.length) (hok : ∀ x, x ∈ L → okW (w x)) (hcn : cn ≤ 20) (hrc : ∀ k, k < cn → ∃ r, r < 6 ∧ b 11 k = nI r) : xc_Met l yX3_clock wsX3_clock 7 1 6 111 D u cI cII sa z0 L (cW u cI cII V pq sp cn e sz b L w nx) [.ref (u 30), .int f] kI (pPost u L z0 (cClock (b, cn, List.map w L) f)) (pPX u L z0 (cClock (b, cn, List.map w L) f)) := by
  suffices h9 : ∀ L0, L0 = L → xc_Met l yX3_clock wsX3_clock 7 1 6 111 D u cI cII sa z0 L0 (cW u cI cII V pq sp cn e sz b L w nx) [.ref (u 30), .int f] kI (pPost u L z0 (cClock (b, cn, List.map w L) f)) (pPX u L z0 (cClock (b, cn, List.map w L) f)) by exact h9 _ rfl
  intro L0 hL0
  have hLz : ∀ a, a ∈ L → a ∈ L0 ∨ z0 ≤ a := fun a z => Or.inl (by rw [hL0]; exact z)
  refine xc_start rfl (by decide +kernel) (Nat.le_of_ble_eq_true rfl) (fun p e9 s m below meth c F hr hlocks hK hz H locs hP hS hz9 hX hout ls hl => ?_)
  have hl : lv_has ls 2 [(0, .ref (u 30)), (1, .int f)] := hl
  have hx := F.1
  have hb := F.2.1
  have hinO : ∀ w ∈ wsX30, w ∈ wsX3_clock := by decide +kernel
  refine lv_iload_n hx hb dX3_clock_0 rfl (lv_at hl 1 rfl) ?_
  refine lv_iconst (v := 5) hx hb dX3_clock_1 (by decide) ?_
  refine xc_callS F hK hX (Nat.le_trans (Nat.le_of_eq hz.symm) hS.1) [.int f, .int 5] (cc_X3_checkNumber hfl hN f 5 ) (va_cwS 2 F.2.2.2.2 gX3_clock_X3_checkNumber rfl rfl rfl (by decide +kernel) ⟨Nat.le_of_ble_eq_true rfl, Nat.le_of_ble_eq_true rfl⟩) hP hS (cG_sub hLz (Nat.le_trans (Nat.le_of_eq hz.symm) hS.1)) hout hlocks (fun E9 V9 pq9 sp9 cn9 e9' sz9 b9 L9 w9 nx9 h9 => pPX_of (b, cn, List.map w L) 1 (by simp [cClock, cWr, ← hsz, h9.2.1]) (by decide) h9.1 (aS_of h9.2.2 ⟨rfl, rfl, rfl, he, hsz, hch, hN, fun x hx => hL0 ▸ hLz x hx⟩)) rfl hl.1 rfl (lv_room (Nat.le_of_ble_eq_true rfl)) ⟨(Nat.le_of_ble_eq_true rfl), (Nat.le_of_ble_eq_true rfl)⟩ (Nat.le_of_ble_eq_true rfl) (Nat.le_of_ble_eq_true rfl) dX3_clock_2 (fun r_w_1 ra_w_1 V_w_1 pc_w_1 sp_w_1 cc_w_1 e_w_1 sz_w_1 b_w_1 L_w_1 w_w_1 nx_w_1 H locs hp_w_1 hP hsz_w_1 hfr_w_1 hS => ?_)
  obtain ⟨hb_w_1, -, e2_w_1, e3_w_1, e4_w_1, e5_w_1, e6_w_1, e7_w_1, e8_w_1, e9_w_1, e10_w_1, e11_w_1⟩ := hp_w_1
  rw [e2_w_1, e3_w_1, e4_w_1, e5_w_1, e6_w_1, e7_w_1, e8_w_1, e9_w_1, e10_w_1, e11_w_1] at hP
  obtain ⟨jf, hjf, rfl⟩ := nOk_nat (k := 5) (by omega) rfl hb_w_1
  have njf : jn (nI jf) = jf := jn_nI (by omega)
  refine lv_aload_n hx hb dX3_clock_5 rfl (lv_at hl 0 rfl) ?_
  refine og_get F hK hinO (cPc hP) 2 (by decide) (by decide +kernel) rfl dX3_clock_6 ?_
  refine lv_iload_n hx hb dX3_clock_9 rfl (lv_at hl 1 rfl) ?_
  refine cg_ald F hK (cPc hP) 2 5 rfl jf rfl (by omega) (by decide) dX3_clock_10 ?_
  refine vx_ret ?_
  exact cw_reti F hr hlocks hP hS (pPost_of (b, cn, List.map w L) (by simp [cClock, cWr, hb_w_1, njf, ← hsz, bI]) ⟨rfl, rfl, rfl, he, hsz, hch, hN, fun x hx => hL0 ▸ hLz x hx⟩) (by omega) (by omega) dX3_clock_11
def cGuests (cs : CS) (f : Int32) (d : Int32) : OP :=
  if nOk f 5 = false then (1, 0, cs) else if rOk d 0 99 = false then (2, 0, cs) else (0, vGuests (cLk cs.1 cs.2.2 f).1 d, cs)
set_option maxHeartbeats 4000000 in
set_option maxRecDepth 100000 in
theorem cc_X3_guests {l : Launch} (hfl : l.stackTraces = false) {D : va_G} {cI cII : ClassId} {sa : Nat → Nat} {u : Nat → Nat} {V : Nat → Nat → Int32} {pq sp : Int32} {cn : Nat} {e : Option Nat} {sz : Nat} {b : Nat → Nat → Int32} {L : List Nat} {w : Nat → Nat → Int32} {nx : Nat → Option Nat} {z0 : Nat} (hN : (cAd u ++ L).Nodup) (f : Int32) (d : Int32) (hch : chn nx L) (he : e = L.head?) (hsz : sz = L.length) (hok : ∀ x, x ∈ L → okW (w x)) (hcn : cn ≤ 20) (hrc : ∀ k, k < cn → ∃ r, r < 6 ∧ b 11 k = nI r) : xc_Met l yX3_guests wsX3_guests 7 2 12 140 D u cI cII sa z0 L (cW u cI cII V pq sp cn e sz b L w nx) [.ref (u 30), .int f, .int d] kI (pPost u L z0 (cGuests (b, cn, List.map w L) f d)) (pPX u L z0 (cGuests (b, cn, List.map w L) f d)) := by
  suffices h9 : ∀ L0, L0 = L → xc_Met l yX3_guests wsX3_guests 7 2 12 140 D u cI cII sa z0 L0 (cW u cI cII V pq sp cn e sz b L w nx) [.ref (u 30), .int f, .int d] kI (pPost u L z0 (cGuests (b, cn, List.map w L) f d)) (pPX u L z0 (cGuests (b, cn, List.map w L) f d)) by exact h9 _ rfl
  intro L0 hL0
  have hLz : ∀ a, a ∈ L → a ∈ L0 ∨ z0 ≤ a := fun a z => Or.inl (by rw [hL0]; exact z)
  refine xc_start rfl (by decide +kernel) (Nat.le_of_ble_eq_true rfl) (fun p e9 s m below meth c F hr hlocks hK hz H locs hP hS hz9 hX hout ls hl => ?_)
  have hl : lv_has ls 3 [(0, .ref (u 30)), (1, .int f), (2, .int d)] := hl
  have hx := F.1
  have hb := F.2.1
  have hinV : ∀ w ∈ wsX00, w ∈ wsX3_guests := by decide +kernel
  have hinO : ∀ w ∈ wsX30, w ∈ wsX3_guests := by decide +kernel
  have hinK : ∀ w ∈ wsX20, w ∈ wsX3_guests := by decide +kernel
  have hinW : ∀ w ∈ wsX10, w ∈ wsX3_guests := by decide +kernel
  refine lv_iload_n hx hb dX3_guests_0 rfl (lv_at hl 1 rfl) ?_
  refine lv_iconst (v := 5) hx hb dX3_guests_1 (by decide) ?_
  refine xc_callS F hK hX (Nat.le_trans (Nat.le_of_eq hz.symm) hS.1) [.int f, .int 5] (cc_X3_checkNumber hfl hN f 5 ) (va_cwS 2 F.2.2.2.2 gX3_guests_X3_checkNumber rfl rfl rfl (by decide +kernel) ⟨Nat.le_of_ble_eq_true rfl, Nat.le_of_ble_eq_true rfl⟩) hP hS (cG_sub hLz (Nat.le_trans (Nat.le_of_eq hz.symm) hS.1)) hout hlocks (fun E9 V9 pq9 sp9 cn9 e9' sz9 b9 L9 w9 nx9 h9 => pPX_of (b, cn, List.map w L) 1 (by simp [cGuests, cWr, ← hsz, h9.2.1]) (by decide) h9.1 (aS_of h9.2.2 ⟨rfl, rfl, rfl, he, hsz, hch, hN, fun x hx => hL0 ▸ hLz x hx⟩)) rfl hl.1 rfl (lv_room (Nat.le_of_ble_eq_true rfl)) ⟨(Nat.le_of_ble_eq_true rfl), (Nat.le_of_ble_eq_true rfl)⟩ (Nat.le_of_ble_eq_true rfl) (Nat.le_of_ble_eq_true rfl) dX3_guests_2 (fun r_w_1 ra_w_1 V_w_1 pc_w_1 sp_w_1 cc_w_1 e_w_1 sz_w_1 b_w_1 L_w_1 w_w_1 nx_w_1 H locs hp_w_1 hP hsz_w_1 hfr_w_1 hS => ?_)
  obtain ⟨hb_w_1, -, e2_w_1, e3_w_1, e4_w_1, e5_w_1, e6_w_1, e7_w_1, e8_w_1, e9_w_1, e10_w_1, e11_w_1⟩ := hp_w_1
  rw [e2_w_1, e3_w_1, e4_w_1, e5_w_1, e6_w_1, e7_w_1, e8_w_1, e9_w_1, e10_w_1, e11_w_1] at hP
  obtain ⟨jf, hjf, rfl⟩ := nOk_nat (k := 5) (by omega) rfl hb_w_1
  have njf : jn (nI jf) = jf := jn_nI (by omega)
  refine lv_iload_n hx hb dX3_guests_5 rfl (lv_at hl 2 rfl) ?_
  refine lv_iconst (v := 0) hx hb dX3_guests_6 (by decide) ?_
  refine lv_bipush (v := 99) hx hb dX3_guests_7 (by decide) ?_
  refine xc_callS F hK hX (Nat.le_trans (Nat.le_of_eq hz.symm) hS.1) [.int d, .int 0, .int 99] (cc_X3_checkRange hfl hN d 0 99 ) (va_cwS 3 F.2.2.2.2 gX3_guests_X3_checkRange rfl rfl rfl (by decide +kernel) ⟨Nat.le_of_ble_eq_true rfl, Nat.le_of_ble_eq_true rfl⟩) hP hS (cG_sub hLz (Nat.le_trans (Nat.le_of_eq hz.symm) hS.1)) hout hlocks (fun E9 V9 pq9 sp9 cn9 e9' sz9 b9 L9 w9 nx9 h9 => pPX_of (b, cn, List.map w L) 2 (by simp [cGuests, cWr, hb_w_1, njf, ← hsz, h9.2.1]) (by decide) h9.1 (aS_of h9.2.2 ⟨rfl, rfl, rfl, he, hsz, hch, hN, fun x hx => hL0 ▸ hLz x hx⟩)) rfl hl.1 rfl (lv_room (Nat.le_of_ble_eq_true rfl)) ⟨(Nat.le_of_ble_eq_true rfl), (Nat.le_of_ble_eq_true rfl)⟩ (Nat.le_of_ble_eq_true rfl) (Nat.le_of_ble_eq_true rfl) dX3_guests_9 (fun r_w_2 ra_w_2 V_w_2 pc_w_2 sp_w_2 cc_w_2 e_w_2 sz_w_2 b_w_2 L_w_2 w_w_2 nx_w_2 H locs hp_w_2 hP hsz_w_2 hfr_w_2 hS => ?_)
  obtain ⟨hb_w_2, -, e2_w_2, e3_w_2, e4_w_2, e5_w_2, e6_w_2, e7_w_2, e8_w_2, e9_w_2, e10_w_2, e11_w_2⟩ := hp_w_2
  rw [e2_w_2, e3_w_2, e4_w_2, e5_w_2, e6_w_2, e7_w_2, e8_w_2, e9_w_2, e10_w_2, e11_w_2] at hP
  refine lv_aload_n hx hb dX3_guests_12 rfl (lv_at hl 0 rfl) ?_
  refine lv_iload_n hx hb dX3_guests_13 rfl (lv_at hl 1 rfl) ?_
  refine cw_callV F hK [.int (nI jf)] (cc_X3_lookAs hN jf (by first | assumption | omega) (by first | assumption | omega) (by first | assumption | omega)) (cwV 1 F.2.2.2.2 gX3_guests_X3_lookAs rfl rfl rfl (by decide +kernel) ⟨Nat.le_of_ble_eq_true rfl, Nat.le_of_ble_eq_true rfl⟩) (og_rc hK (cPc hP)) hP hS (cG_sub hLz (Nat.le_trans (Nat.le_of_eq hz.symm) hS.1)) rfl hl.1 rfl (lv_room (Nat.le_of_ble_eq_true rfl)) ⟨Nat.le_of_ble_eq_true rfl, Nat.le_of_ble_eq_true rfl⟩ dX3_guests_14 (fun r_w_3 ra_w_3 V_w_3 pc_w_3 sp_w_3 cc_w_3 e_w_3 sz_w_3 b_w_3 L_w_3 w_w_3 nx_w_3 H locs hp_w_3 hP hsz_w_3 hfr_w_3 hS => ?_)
  obtain ⟨-, e2_w_3, e3_w_3, e4_w_3, e5_w_3, e6_w_3, e7_w_3, e8_w_3, e9_w_3, e10_w_3, e11_w_3⟩ := hp_w_3
  rw [e2_w_3, e3_w_3, e4_w_3, e5_w_3, e6_w_3, e7_w_3, e8_w_3, e9_w_3, e10_w_3, e11_w_3] at hP
  obtain ⟨V1, pq1, sp1, hlk⟩ : ∃ V1 pq1 sp1, cLk b (List.map w L) (nI jf) = (V1, pq1, sp1) := ⟨_, _, _, rfl⟩
  have hlk9 : rdV w ((1 : Int32) <<< (nI jf &&& 31)) (b 12) L = (V1, pq1, sp1) := (rdV_A _ _ _ _).trans hlk
  have hP : va_P D vwCl (cW u cI cII V1 pq1 sp1 cn e sz b L w nx) H := by rw [hlk9] at hP; exact hP
  refine lv_aload_n hx hb dX3_guests_17 rfl (lv_at hl 0 rfl) ?_
  refine og_get F hK hinO (cPc hP) 1 (by decide) (by decide +kernel) rfl dX3_guests_18 ?_
  refine lv_iload_n hx hb dX3_guests_21 rfl (lv_at hl 2 rfl) ?_
  refine ro_callV F hK [.int d] (cc_X0_guestsOn (cPv hP) d ) (cwV 1 F.2.2.2.2 gX3_guests_X0_guestsOn rfl rfl rfl (by decide +kernel) ⟨Nat.le_of_ble_eq_true rfl, Nat.le_of_ble_eq_true rfl⟩) (vg_rc hK (cPv hP)) rfl hl.1 rfl (lv_room (Nat.le_of_ble_eq_true rfl)) ⟨Nat.le_of_ble_eq_true rfl, Nat.le_of_ble_eq_true rfl⟩ dX3_guests_22 ?_
  refine vx_ret ?_
  exact cw_reti F hr hlocks hP hS (pPost_of (b, cn, List.map w L) (by simp [cGuests, cWr, hb_w_1, njf, hb_w_2, hlk, ← hsz, bI]) ⟨rfl, rfl, rfl, he, hsz, hch, hN, fun x hx => hL0 ▸ hLz x hx⟩) (by omega) (by omega) dX3_guests_25
def cSetNeed (cs : CS) (r : Int32) (o : Int32) (x : Int32) : OP :=
  if nOk r 6 = false then (1, 0, cs) else if nOk o 8 = false then (1, 0, cs) else if rOk x 0 3 = false then (2, 0, cs) else (0, cs.1 (20 + jn r) (jn o), (upA cs.1 (20 + jn r) (jn o) x, cs.2))
set_option maxHeartbeats 4000000 in
set_option maxRecDepth 100000 in
theorem cc_X3_setNeed {l : Launch} (hfl : l.stackTraces = false) {D : va_G} {cI cII : ClassId} {sa : Nat → Nat} {u : Nat → Nat} {V : Nat → Nat → Int32} {pq sp : Int32} {cn : Nat} {e : Option Nat} {sz : Nat} {b : Nat → Nat → Int32} {L : List Nat} {w : Nat → Nat → Int32} {nx : Nat → Option Nat} {z0 : Nat} (hN : (cAd u ++ L).Nodup) (r : Int32) (o : Int32) (x : Int32) (hch : chn nx L) (he : e = L.head?) (hsz : sz = L.length) (hok : ∀ x, x ∈ L → okW (w x)) (hcn : cn ≤ 20) (hrc : ∀ k, k < cn → ∃ r, r < 6 ∧ b 11 k = nI r) : xc_Met l yX3_setNeed wsX3_setNeed 7 3 18 112 D u cI cII sa z0 L (cW u cI cII V pq sp cn e sz b L w nx) [.ref (u 30), .int r, .int o, .int x] kI (pPost u L z0 (cSetNeed (b, cn, List.map w L) r o x)) (pPX u L z0 (cSetNeed (b, cn, List.map w L) r o x)) := by
  suffices h9 : ∀ L0, L0 = L → xc_Met l yX3_setNeed wsX3_setNeed 7 3 18 112 D u cI cII sa z0 L0 (cW u cI cII V pq sp cn e sz b L w nx) [.ref (u 30), .int r, .int o, .int x] kI (pPost u L z0 (cSetNeed (b, cn, List.map w L) r o x)) (pPX u L z0 (cSetNeed (b, cn, List.map w L) r o x)) by exact h9 _ rfl
  intro L0 hL0
  have hLz : ∀ a, a ∈ L → a ∈ L0 ∨ z0 ≤ a := fun a z => Or.inl (by rw [hL0]; exact z)
  refine xc_start rfl (by decide +kernel) (Nat.le_of_ble_eq_true rfl) (fun p e9 s m below meth c F hr hlocks hK hz H locs hP hS hz9 hX hout ls hl => ?_)
  have hl : lv_has ls 5 [(0, .ref (u 30)), (1, .int r), (2, .int o), (3, .int x)] := hl
  have hx := F.1
  have hb := F.2.1
  have hinO : ∀ w ∈ wsX30, w ∈ wsX3_setNeed := by decide +kernel
  refine lv_iload_n hx hb dX3_setNeed_0 rfl (lv_at hl 1 rfl) ?_
  refine lv_bipush (v := 6) hx hb dX3_setNeed_1 (by decide) ?_
  refine xc_callS F hK hX (Nat.le_trans (Nat.le_of_eq hz.symm) hS.1) [.int r, .int 6] (cc_X3_checkNumber hfl hN r 6 ) (va_cwS 2 F.2.2.2.2 gX3_setNeed_X3_checkNumber rfl rfl rfl (by decide +kernel) ⟨Nat.le_of_ble_eq_true rfl, Nat.le_of_ble_eq_true rfl⟩) hP hS (cG_sub hLz (Nat.le_trans (Nat.le_of_eq hz.symm) hS.1)) hout hlocks (fun E9 V9 pq9 sp9 cn9 e9' sz9 b9 L9 w9 nx9 h9 => pPX_of (b, cn, List.map w L) 1 (by simp [cSetNeed, cWr, ← hsz, h9.2.1]) (by decide) h9.1 (aS_of h9.2.2 ⟨rfl, rfl, rfl, he, hsz, hch, hN, fun x hx => hL0 ▸ hLz x hx⟩)) rfl hl.1 rfl (lv_room (Nat.le_of_ble_eq_true rfl)) ⟨(Nat.le_of_ble_eq_true rfl), (Nat.le_of_ble_eq_true rfl)⟩ (Nat.le_of_ble_eq_true rfl) (Nat.le_of_ble_eq_true rfl) dX3_setNeed_3 (fun r_w_1 ra_w_1 V_w_1 pc_w_1 sp_w_1 cc_w_1 e_w_1 sz_w_1 b_w_1 L_w_1 w_w_1 nx_w_1 H locs hp_w_1 hP hsz_w_1 hfr_w_1 hS => ?_)
  obtain ⟨hb_w_1, -, e2_w_1, e3_w_1, e4_w_1, e5_w_1, e6_w_1, e7_w_1, e8_w_1, e9_w_1, e10_w_1, e11_w_1⟩ := hp_w_1
  rw [e2_w_1, e3_w_1, e4_w_1, e5_w_1, e6_w_1, e7_w_1, e8_w_1, e9_w_1, e10_w_1, e11_w_1] at hP
  obtain ⟨jr, hjr, rfl⟩ := nOk_nat (k := 6) (by omega) rfl hb_w_1
  have njr : jn (nI jr) = jr := jn_nI (by omega)
  refine lv_iload_n hx hb dX3_setNeed_6 rfl (lv_at hl 2 rfl) ?_
  refine lv_bipush (v := 8) hx hb dX3_setNeed_7 (by decide) ?_
  refine xc_callS F hK hX (Nat.le_trans (Nat.le_of_eq hz.symm) hS.1) [.int o, .int 8] (cc_X3_checkNumber hfl hN o 8 ) (va_cwS 2 F.2.2.2.2 gX3_setNeed_X3_checkNumber rfl rfl rfl (by decide +kernel) ⟨Nat.le_of_ble_eq_true rfl, Nat.le_of_ble_eq_true rfl⟩) hP hS (cG_sub hLz (Nat.le_trans (Nat.le_of_eq hz.symm) hS.1)) hout hlocks (fun E9 V9 pq9 sp9 cn9 e9' sz9 b9 L9 w9 nx9 h9 => pPX_of (b, cn, List.map w L) 1 (by simp [cSetNeed, cWr, hb_w_1, njr, ← hsz, h9.2.1]) (by decide) h9.1 (aS_of h9.2.2 ⟨rfl, rfl, rfl, he, hsz, hch, hN, fun x hx => hL0 ▸ hLz x hx⟩)) rfl hl.1 rfl (lv_room (Nat.le_of_ble_eq_true rfl)) ⟨(Nat.le_of_ble_eq_true rfl), (Nat.le_of_ble_eq_true rfl)⟩ (Nat.le_of_ble_eq_true rfl) (Nat.le_of_ble_eq_true rfl) dX3_setNeed_9 (fun r_w_2 ra_w_2 V_w_2 pc_w_2 sp_w_2 cc_w_2 e_w_2 sz_w_2 b_w_2 L_w_2 w_w_2 nx_w_2 H locs hp_w_2 hP hsz_w_2 hfr_w_2 hS => ?_)
  obtain ⟨hb_w_2, -, e2_w_2, e3_w_2, e4_w_2, e5_w_2, e6_w_2, e7_w_2, e8_w_2, e9_w_2, e10_w_2, e11_w_2⟩ := hp_w_2
  rw [e2_w_2, e3_w_2, e4_w_2, e5_w_2, e6_w_2, e7_w_2, e8_w_2, e9_w_2, e10_w_2, e11_w_2] at hP
  obtain ⟨jo, hjo, rfl⟩ := nOk_nat (k := 8) (by omega) rfl hb_w_2
  have njo : jn (nI jo) = jo := jn_nI (by omega)
  refine lv_iload_n hx hb dX3_setNeed_12 rfl (lv_at hl 3 rfl) ?_
  refine lv_iconst (v := 0) hx hb dX3_setNeed_13 (by decide) ?_
  refine lv_iconst (v := 3) hx hb dX3_setNeed_14 (by decide) ?_
  refine xc_callS F hK hX (Nat.le_trans (Nat.le_of_eq hz.symm) hS.1) [.int x, .int 0, .int 3] (cc_X3_checkRange hfl hN x 0 3 ) (va_cwS 3 F.2.2.2.2 gX3_setNeed_X3_checkRange rfl rfl rfl (by decide +kernel) ⟨Nat.le_of_ble_eq_true rfl, Nat.le_of_ble_eq_true rfl⟩) hP hS (cG_sub hLz (Nat.le_trans (Nat.le_of_eq hz.symm) hS.1)) hout hlocks (fun E9 V9 pq9 sp9 cn9 e9' sz9 b9 L9 w9 nx9 h9 => pPX_of (b, cn, List.map w L) 2 (by simp [cSetNeed, cWr, hb_w_1, njr, hb_w_2, njo, ← hsz, h9.2.1]) (by decide) h9.1 (aS_of h9.2.2 ⟨rfl, rfl, rfl, he, hsz, hch, hN, fun x hx => hL0 ▸ hLz x hx⟩)) rfl hl.1 rfl (lv_room (Nat.le_of_ble_eq_true rfl)) ⟨(Nat.le_of_ble_eq_true rfl), (Nat.le_of_ble_eq_true rfl)⟩ (Nat.le_of_ble_eq_true rfl) (Nat.le_of_ble_eq_true rfl) dX3_setNeed_15 (fun r_w_3 ra_w_3 V_w_3 pc_w_3 sp_w_3 cc_w_3 e_w_3 sz_w_3 b_w_3 L_w_3 w_w_3 nx_w_3 H locs hp_w_3 hP hsz_w_3 hfr_w_3 hS => ?_)
  obtain ⟨hb_w_3, -, e2_w_3, e3_w_3, e4_w_3, e5_w_3, e6_w_3, e7_w_3, e8_w_3, e9_w_3, e10_w_3, e11_w_3⟩ := hp_w_3
  rw [e2_w_3, e3_w_3, e4_w_3, e5_w_3, e6_w_3, e7_w_3, e8_w_3, e9_w_3, e10_w_3, e11_w_3] at hP
  refine lv_aload_n hx hb dX3_setNeed_18 rfl (lv_at hl 0 rfl) ?_
  refine og_get F hK hinO (cPc hP) 3 (by decide) (by decide +kernel) rfl dX3_setNeed_19 ?_
  refine lv_iload_n hx hb dX3_setNeed_22 rfl (lv_at hl 1 rfl) ?_
  refine cg_aald F hK (cPc hP) jr rfl (by omega) dX3_setNeed_23 ?_
  refine lv_iload_n hx hb dX3_setNeed_24 rfl (lv_at hl 2 rfl) ?_
  refine cg_ald F hK (cPr (cPc hP) (j := jr) (by omega)) 0 8 rfl jo rfl (by omega) (by decide) dX3_setNeed_25 ?_
  refine lv_istore (lv' := [(4, .int (b (20 + jr) jo)), (0, .ref (u 30)), (1, .int (nI jr)), (2, .int (nI jo)), (3, .int x)]) hx hb dX3_setNeed_26 hl (by decide) rfl (fun ls hl => ?_)
  refine lv_aload_n hx hb dX3_setNeed_28 rfl (lv_at hl 1 rfl) ?_
  refine og_get F hK hinO (cPc hP) 3 (by decide) (by decide +kernel) rfl dX3_setNeed_29 ?_
  refine lv_iload_n hx hb dX3_setNeed_32 rfl (lv_at hl 2 rfl) ?_
  refine cg_aald F hK (cPc hP) jr rfl (by omega) dX3_setNeed_33 ?_
  refine lv_iload_n hx hb dX3_setNeed_34 rfl (lv_at hl 3 rfl) ?_
  refine lv_iload_n hx hb dX3_setNeed_35 rfl (lv_at hl 4 rfl) ?_
  refine cp_row F hK hN (cG_in hLz) hP hS jr (by omega) jo rfl (by omega) dX3_setNeed_36 (fun H locs hP hS => ?_)
  refine lv_iload hx hb dX3_setNeed_37 (lv_at hl 0 rfl) ?_
  refine vx_ret ?_
  exact cw_reti F hr hlocks hP hS (pPost_of (upA b (20 + jr) jo x, cn, List.map w L) (by simp [cSetNeed, cWr, hb_w_1, njr, hb_w_2, njo, hb_w_3, ← hsz, bI]) ⟨rfl, rfl, rfl, he, hsz, hch, hN, fun x hx => hL0 ▸ hLz x hx⟩) (by omega) (by omega) dX3_setNeed_39
def cCakes (cs : CS) : OP :=
  (0, nI cs.2.1, cs)
set_option maxHeartbeats 4000000 in
set_option maxRecDepth 100000 in
theorem cc_X3_cakes {l : Launch} (hfl : l.stackTraces = false) {D : va_G} {cI cII : ClassId} {sa : Nat → Nat} {u : Nat → Nat} {V : Nat → Nat → Int32} {pq sp : Int32} {cn : Nat} {e : Option Nat} {sz : Nat} {b : Nat → Nat → Int32} {L : List Nat} {w : Nat → Nat → Int32} {nx : Nat → Option Nat} {z0 : Nat} (hN : (cAd u ++ L).Nodup)  (hch : chn nx L) (he : e = L.head?) (hsz : sz = L.length) (hok : ∀ x, x ∈ L → okW (w x)) (hcn : cn ≤ 20) (hrc : ∀ k, k < cn → ∃ r, r < 6 ∧ b 11 k = nI r) : xc_Met l yX3_cakes wsX3_cakes 0 0 0 0 D u cI cII sa z0 L (cW u cI cII V pq sp cn e sz b L w nx) [.ref (u 30)] kI (pPost u L z0 (cCakes (b, cn, List.map w L))) (pPX u L z0 (cCakes (b, cn, List.map w L))) := by
  suffices h9 : ∀ L0, L0 = L → xc_Met l yX3_cakes wsX3_cakes 0 0 0 0 D u cI cII sa z0 L0 (cW u cI cII V pq sp cn e sz b L w nx) [.ref (u 30)] kI (pPost u L z0 (cCakes (b, cn, List.map w L))) (pPX u L z0 (cCakes (b, cn, List.map w L))) by exact h9 _ rfl
  intro L0 hL0
  have hLz : ∀ a, a ∈ L → a ∈ L0 ∨ z0 ≤ a := fun a z => Or.inl (by rw [hL0]; exact z)
  refine xc_start rfl (by decide +kernel) (Nat.le_of_ble_eq_true rfl) (fun p e9 s m below meth c F hr hlocks hK hz H locs hP hS hz9 hX hout ls hl => ?_)
  have hl : lv_has ls 1 [(0, .ref (u 30))] := hl
  have hx := F.1
  have hb := F.2.1
  have hinO : ∀ w ∈ wsX30, w ∈ wsX3_cakes := by decide +kernel
  refine lv_aload_n hx hb dX3_cakes_0 rfl (lv_at hl 0 rfl) ?_
  refine og_get F hK hinO (cPc hP) 6 (by decide) (by decide +kernel) rfl dX3_cakes_1 ?_
  refine vx_ret ?_
  exact cw_reti F hr hlocks hP hS (pPost_of (b, cn, List.map w L) (by simp [cCakes, cWr, ← hsz, bI]) ⟨rfl, rfl, rfl, he, hsz, hch, hN, fun x hx => hL0 ▸ hLz x hx⟩) (by omega) (by omega) dX3_cakes_4
def cCake (cs : CS) (f : Int32) (k : Int32) : OP :=
  if nOk f 5 = false then (1, 0, cs) else if nOk k (nI cs.2.1) = false then (1, 0, cs) else (0, (cLk cs.1 cs.2.2 f).1 6 (jn k), cs)
set_option maxHeartbeats 4000000 in
set_option maxRecDepth 100000 in
theorem cc_X3_cake {l : Launch} (hfl : l.stackTraces = false) {D : va_G} {cI cII : ClassId} {sa : Nat → Nat} {u : Nat → Nat} {V : Nat → Nat → Int32} {pq sp : Int32} {cn : Nat} {e : Option Nat} {sz : Nat} {b : Nat → Nat → Int32} {L : List Nat} {w : Nat → Nat → Int32} {nx : Nat → Option Nat} {z0 : Nat} (hN : (cAd u ++ L).Nodup) (f : Int32) (k : Int32) (hch : chn nx L) (he : e = L.head?) (hsz : sz = L.length) (hok : ∀ x, x ∈ L → okW (w x)) (hcn : cn ≤ 20) (hrc : ∀ k, k < cn → ∃ r, r < 6 ∧ b 11 k = nI r) : xc_Met l yX3_cake wsX3_cake 7 2 12 140 D u cI cII sa z0 L (cW u cI cII V pq sp cn e sz b L w nx) [.ref (u 30), .int f, .int k] kI (pPost u L z0 (cCake (b, cn, List.map w L) f k)) (pPX u L z0 (cCake (b, cn, List.map w L) f k)) := by
  suffices h9 : ∀ L0, L0 = L → xc_Met l yX3_cake wsX3_cake 7 2 12 140 D u cI cII sa z0 L0 (cW u cI cII V pq sp cn e sz b L w nx) [.ref (u 30), .int f, .int k] kI (pPost u L z0 (cCake (b, cn, List.map w L) f k)) (pPX u L z0 (cCake (b, cn, List.map w L) f k)) by exact h9 _ rfl
  intro L0 hL0
  have hLz : ∀ a, a ∈ L → a ∈ L0 ∨ z0 ≤ a := fun a z => Or.inl (by rw [hL0]; exact z)
  refine xc_start rfl (by decide +kernel) (Nat.le_of_ble_eq_true rfl) (fun p e9 s m below meth c F hr hlocks hK hz H locs hP hS hz9 hX hout ls hl => ?_)
  have hl : lv_has ls 3 [(0, .ref (u 30)), (1, .int f), (2, .int k)] := hl
  have hx := F.1
  have hb := F.2.1
  have hinV : ∀ w ∈ wsX00, w ∈ wsX3_cake := by decide +kernel
  have hinO : ∀ w ∈ wsX30, w ∈ wsX3_cake := by decide +kernel
  have hinK : ∀ w ∈ wsX20, w ∈ wsX3_cake := by decide +kernel
  have hinW : ∀ w ∈ wsX10, w ∈ wsX3_cake := by decide +kernel
  refine lv_iload_n hx hb dX3_cake_0 rfl (lv_at hl 1 rfl) ?_
  refine lv_iconst (v := 5) hx hb dX3_cake_1 (by decide) ?_
  refine xc_callS F hK hX (Nat.le_trans (Nat.le_of_eq hz.symm) hS.1) [.int f, .int 5] (cc_X3_checkNumber hfl hN f 5 ) (va_cwS 2 F.2.2.2.2 gX3_cake_X3_checkNumber rfl rfl rfl (by decide +kernel) ⟨Nat.le_of_ble_eq_true rfl, Nat.le_of_ble_eq_true rfl⟩) hP hS (cG_sub hLz (Nat.le_trans (Nat.le_of_eq hz.symm) hS.1)) hout hlocks (fun E9 V9 pq9 sp9 cn9 e9' sz9 b9 L9 w9 nx9 h9 => pPX_of (b, cn, List.map w L) 1 (by simp [cCake, cWr, ← hsz, h9.2.1]) (by decide) h9.1 (aS_of h9.2.2 ⟨rfl, rfl, rfl, he, hsz, hch, hN, fun x hx => hL0 ▸ hLz x hx⟩)) rfl hl.1 rfl (lv_room (Nat.le_of_ble_eq_true rfl)) ⟨(Nat.le_of_ble_eq_true rfl), (Nat.le_of_ble_eq_true rfl)⟩ (Nat.le_of_ble_eq_true rfl) (Nat.le_of_ble_eq_true rfl) dX3_cake_2 (fun r_w_1 ra_w_1 V_w_1 pc_w_1 sp_w_1 cc_w_1 e_w_1 sz_w_1 b_w_1 L_w_1 w_w_1 nx_w_1 H locs hp_w_1 hP hsz_w_1 hfr_w_1 hS => ?_)
  obtain ⟨hb_w_1, -, e2_w_1, e3_w_1, e4_w_1, e5_w_1, e6_w_1, e7_w_1, e8_w_1, e9_w_1, e10_w_1, e11_w_1⟩ := hp_w_1
  rw [e2_w_1, e3_w_1, e4_w_1, e5_w_1, e6_w_1, e7_w_1, e8_w_1, e9_w_1, e10_w_1, e11_w_1] at hP
  obtain ⟨jf, hjf, rfl⟩ := nOk_nat (k := 5) (by omega) rfl hb_w_1
  have njf : jn (nI jf) = jf := jn_nI (by omega)
  refine lv_iload_n hx hb dX3_cake_5 rfl (lv_at hl 2 rfl) ?_
  refine lv_aload_n hx hb dX3_cake_6 rfl (lv_at hl 0 rfl) ?_
  refine og_get F hK hinO (cPc hP) 6 (by decide) (by decide +kernel) rfl dX3_cake_7 ?_
  refine xc_callS F hK hX (Nat.le_trans (Nat.le_of_eq hz.symm) hS.1) [.int k, .int (nI cn)] (cc_X3_checkNumber hfl hN k (nI cn) ) (va_cwS 2 F.2.2.2.2 gX3_cake_X3_checkNumber rfl rfl rfl (by decide +kernel) ⟨Nat.le_of_ble_eq_true rfl, Nat.le_of_ble_eq_true rfl⟩) hP hS (cG_sub hLz (Nat.le_trans (Nat.le_of_eq hz.symm) hS.1)) hout hlocks (fun E9 V9 pq9 sp9 cn9 e9' sz9 b9 L9 w9 nx9 h9 => pPX_of (b, cn, List.map w L) 1 (by simp [cCake, cWr, hb_w_1, njf, ← hsz, h9.2.1]) (by decide) h9.1 (aS_of h9.2.2 ⟨rfl, rfl, rfl, he, hsz, hch, hN, fun x hx => hL0 ▸ hLz x hx⟩)) rfl hl.1 rfl (lv_room (Nat.le_of_ble_eq_true rfl)) ⟨(Nat.le_of_ble_eq_true rfl), (Nat.le_of_ble_eq_true rfl)⟩ (Nat.le_of_ble_eq_true rfl) (Nat.le_of_ble_eq_true rfl) dX3_cake_10 (fun r_w_2 ra_w_2 V_w_2 pc_w_2 sp_w_2 cc_w_2 e_w_2 sz_w_2 b_w_2 L_w_2 w_w_2 nx_w_2 H locs hp_w_2 hP hsz_w_2 hfr_w_2 hS => ?_)
  obtain ⟨hb_w_2, -, e2_w_2, e3_w_2, e4_w_2, e5_w_2, e6_w_2, e7_w_2, e8_w_2, e9_w_2, e10_w_2, e11_w_2⟩ := hp_w_2
  rw [e2_w_2, e3_w_2, e4_w_2, e5_w_2, e6_w_2, e7_w_2, e8_w_2, e9_w_2, e10_w_2, e11_w_2] at hP
  obtain ⟨jk, hjk, rfl⟩ := nOk_nat (k := cn) (by omega) rfl hb_w_2
  have njk : jn (nI jk) = jk := jn_nI (by omega)
  refine lv_aload_n hx hb dX3_cake_13 rfl (lv_at hl 0 rfl) ?_
  refine lv_iload_n hx hb dX3_cake_14 rfl (lv_at hl 1 rfl) ?_
  refine cw_callV F hK [.int (nI jf)] (cc_X3_lookAs hN jf (by first | assumption | omega) (by first | assumption | omega) (by first | assumption | omega)) (cwV 1 F.2.2.2.2 gX3_cake_X3_lookAs rfl rfl rfl (by decide +kernel) ⟨Nat.le_of_ble_eq_true rfl, Nat.le_of_ble_eq_true rfl⟩) (og_rc hK (cPc hP)) hP hS (cG_sub hLz (Nat.le_trans (Nat.le_of_eq hz.symm) hS.1)) rfl hl.1 rfl (lv_room (Nat.le_of_ble_eq_true rfl)) ⟨Nat.le_of_ble_eq_true rfl, Nat.le_of_ble_eq_true rfl⟩ dX3_cake_15 (fun r_w_3 ra_w_3 V_w_3 pc_w_3 sp_w_3 cc_w_3 e_w_3 sz_w_3 b_w_3 L_w_3 w_w_3 nx_w_3 H locs hp_w_3 hP hsz_w_3 hfr_w_3 hS => ?_)
  obtain ⟨-, e2_w_3, e3_w_3, e4_w_3, e5_w_3, e6_w_3, e7_w_3, e8_w_3, e9_w_3, e10_w_3, e11_w_3⟩ := hp_w_3
  rw [e2_w_3, e3_w_3, e4_w_3, e5_w_3, e6_w_3, e7_w_3, e8_w_3, e9_w_3, e10_w_3, e11_w_3] at hP
  obtain ⟨V1, pq1, sp1, hlk⟩ : ∃ V1 pq1 sp1, cLk b (List.map w L) (nI jf) = (V1, pq1, sp1) := ⟨_, _, _, rfl⟩
  have hlk9 : rdV w ((1 : Int32) <<< (nI jf &&& 31)) (b 12) L = (V1, pq1, sp1) := (rdV_A _ _ _ _).trans hlk
  have hP : va_P D vwCl (cW u cI cII V1 pq1 sp1 cn e sz b L w nx) H := by rw [hlk9] at hP; exact hP
  refine lv_aload_n hx hb dX3_cake_18 rfl (lv_at hl 0 rfl) ?_
  refine og_get F hK hinO (cPc hP) 1 (by decide) (by decide +kernel) rfl dX3_cake_19 ?_
  refine vg_get F hK hinV (cPv hP) 6 (by decide) (by decide +kernel) rfl dX3_cake_22 ?_
  refine lv_iload_n hx hb dX3_cake_25 rfl (lv_at hl 2 rfl) ?_
  refine cg_ald F hK (cPv hP) 7 20 rfl jk rfl (by omega) (by decide) dX3_cake_26 ?_
  refine vx_ret ?_
  exact cw_reti F hr hlocks hP hS (pPost_of (b, cn, List.map w L) (by simp [cCake, cWr, hb_w_1, njf, hb_w_2, njk, hlk, ← hsz, bI]) ⟨rfl, rfl, rfl, he, hsz, hch, hN, fun x hx => hL0 ▸ hLz x hx⟩) (by omega) (by omega) dX3_cake_27
def cKeptFor (cs : CS) (f : Int32) (t : Int32) : OP :=
  if nOk f 5 = false then (1, 0, cs) else if nOk t 40 = false then (1, 0, cs) else (0, (cLk cs.1 cs.2.2 f).1 2 (jn t), cs)
set_option maxHeartbeats 4000000 in
set_option maxRecDepth 100000 in
theorem cc_X3_keptFor {l : Launch} (hfl : l.stackTraces = false) {D : va_G} {cI cII : ClassId} {sa : Nat → Nat} {u : Nat → Nat} {V : Nat → Nat → Int32} {pq sp : Int32} {cn : Nat} {e : Option Nat} {sz : Nat} {b : Nat → Nat → Int32} {L : List Nat} {w : Nat → Nat → Int32} {nx : Nat → Option Nat} {z0 : Nat} (hN : (cAd u ++ L).Nodup) (f : Int32) (t : Int32) (hch : chn nx L) (he : e = L.head?) (hsz : sz = L.length) (hok : ∀ x, x ∈ L → okW (w x)) (hcn : cn ≤ 20) (hrc : ∀ k, k < cn → ∃ r, r < 6 ∧ b 11 k = nI r) : xc_Met l yX3_keptFor wsX3_keptFor 7 2 12 140 D u cI cII sa z0 L (cW u cI cII V pq sp cn e sz b L w nx) [.ref (u 30), .int f, .int t] kI (pPost u L z0 (cKeptFor (b, cn, List.map w L) f t)) (pPX u L z0 (cKeptFor (b, cn, List.map w L) f t)) := by
  suffices h9 : ∀ L0, L0 = L → xc_Met l yX3_keptFor wsX3_keptFor 7 2 12 140 D u cI cII sa z0 L0 (cW u cI cII V pq sp cn e sz b L w nx) [.ref (u 30), .int f, .int t] kI (pPost u L z0 (cKeptFor (b, cn, List.map w L) f t)) (pPX u L z0 (cKeptFor (b, cn, List.map w L) f t)) by exact h9 _ rfl
  intro L0 hL0
  have hLz : ∀ a, a ∈ L → a ∈ L0 ∨ z0 ≤ a := fun a z => Or.inl (by rw [hL0]; exact z)
  refine xc_start rfl (by decide +kernel) (Nat.le_of_ble_eq_true rfl) (fun p e9 s m below meth c F hr hlocks hK hz H locs hP hS hz9 hX hout ls hl => ?_)
  have hl : lv_has ls 3 [(0, .ref (u 30)), (1, .int f), (2, .int t)] := hl
  have hx := F.1
  have hb := F.2.1
  have hinV : ∀ w ∈ wsX00, w ∈ wsX3_keptFor := by decide +kernel
  have hinO : ∀ w ∈ wsX30, w ∈ wsX3_keptFor := by decide +kernel
  have hinK : ∀ w ∈ wsX20, w ∈ wsX3_keptFor := by decide +kernel
  have hinW : ∀ w ∈ wsX10, w ∈ wsX3_keptFor := by decide +kernel
  refine lv_iload_n hx hb dX3_keptFor_0 rfl (lv_at hl 1 rfl) ?_
  refine lv_iconst (v := 5) hx hb dX3_keptFor_1 (by decide) ?_
  refine xc_callS F hK hX (Nat.le_trans (Nat.le_of_eq hz.symm) hS.1) [.int f, .int 5] (cc_X3_checkNumber hfl hN f 5 ) (va_cwS 2 F.2.2.2.2 gX3_keptFor_X3_checkNumber rfl rfl rfl (by decide +kernel) ⟨Nat.le_of_ble_eq_true rfl, Nat.le_of_ble_eq_true rfl⟩) hP hS (cG_sub hLz (Nat.le_trans (Nat.le_of_eq hz.symm) hS.1)) hout hlocks (fun E9 V9 pq9 sp9 cn9 e9' sz9 b9 L9 w9 nx9 h9 => pPX_of (b, cn, List.map w L) 1 (by simp [cKeptFor, cWr, ← hsz, h9.2.1]) (by decide) h9.1 (aS_of h9.2.2 ⟨rfl, rfl, rfl, he, hsz, hch, hN, fun x hx => hL0 ▸ hLz x hx⟩)) rfl hl.1 rfl (lv_room (Nat.le_of_ble_eq_true rfl)) ⟨(Nat.le_of_ble_eq_true rfl), (Nat.le_of_ble_eq_true rfl)⟩ (Nat.le_of_ble_eq_true rfl) (Nat.le_of_ble_eq_true rfl) dX3_keptFor_2 (fun r_w_1 ra_w_1 V_w_1 pc_w_1 sp_w_1 cc_w_1 e_w_1 sz_w_1 b_w_1 L_w_1 w_w_1 nx_w_1 H locs hp_w_1 hP hsz_w_1 hfr_w_1 hS => ?_)
  obtain ⟨hb_w_1, -, e2_w_1, e3_w_1, e4_w_1, e5_w_1, e6_w_1, e7_w_1, e8_w_1, e9_w_1, e10_w_1, e11_w_1⟩ := hp_w_1
  rw [e2_w_1, e3_w_1, e4_w_1, e5_w_1, e6_w_1, e7_w_1, e8_w_1, e9_w_1, e10_w_1, e11_w_1] at hP
  obtain ⟨jf, hjf, rfl⟩ := nOk_nat (k := 5) (by omega) rfl hb_w_1
  have njf : jn (nI jf) = jf := jn_nI (by omega)
  refine lv_iload_n hx hb dX3_keptFor_5 rfl (lv_at hl 2 rfl) ?_
  refine lv_bipush (v := 40) hx hb dX3_keptFor_6 (by decide) ?_
  refine xc_callS F hK hX (Nat.le_trans (Nat.le_of_eq hz.symm) hS.1) [.int t, .int 40] (cc_X3_checkNumber hfl hN t 40 ) (va_cwS 2 F.2.2.2.2 gX3_keptFor_X3_checkNumber rfl rfl rfl (by decide +kernel) ⟨Nat.le_of_ble_eq_true rfl, Nat.le_of_ble_eq_true rfl⟩) hP hS (cG_sub hLz (Nat.le_trans (Nat.le_of_eq hz.symm) hS.1)) hout hlocks (fun E9 V9 pq9 sp9 cn9 e9' sz9 b9 L9 w9 nx9 h9 => pPX_of (b, cn, List.map w L) 1 (by simp [cKeptFor, cWr, hb_w_1, njf, ← hsz, h9.2.1]) (by decide) h9.1 (aS_of h9.2.2 ⟨rfl, rfl, rfl, he, hsz, hch, hN, fun x hx => hL0 ▸ hLz x hx⟩)) rfl hl.1 rfl (lv_room (Nat.le_of_ble_eq_true rfl)) ⟨(Nat.le_of_ble_eq_true rfl), (Nat.le_of_ble_eq_true rfl)⟩ (Nat.le_of_ble_eq_true rfl) (Nat.le_of_ble_eq_true rfl) dX3_keptFor_8 (fun r_w_2 ra_w_2 V_w_2 pc_w_2 sp_w_2 cc_w_2 e_w_2 sz_w_2 b_w_2 L_w_2 w_w_2 nx_w_2 H locs hp_w_2 hP hsz_w_2 hfr_w_2 hS => ?_)
  obtain ⟨hb_w_2, -, e2_w_2, e3_w_2, e4_w_2, e5_w_2, e6_w_2, e7_w_2, e8_w_2, e9_w_2, e10_w_2, e11_w_2⟩ := hp_w_2
  rw [e2_w_2, e3_w_2, e4_w_2, e5_w_2, e6_w_2, e7_w_2, e8_w_2, e9_w_2, e10_w_2, e11_w_2] at hP
  obtain ⟨jt, hjt, rfl⟩ := nOk_nat (k := 40) (by omega) rfl hb_w_2
  have njt : jn (nI jt) = jt := jn_nI (by omega)
  refine lv_aload_n hx hb dX3_keptFor_11 rfl (lv_at hl 0 rfl) ?_
  refine lv_iload_n hx hb dX3_keptFor_12 rfl (lv_at hl 1 rfl) ?_
  refine cw_callV F hK [.int (nI jf)] (cc_X3_lookAs hN jf (by first | assumption | omega) (by first | assumption | omega) (by first | assumption | omega)) (cwV 1 F.2.2.2.2 gX3_keptFor_X3_lookAs rfl rfl rfl (by decide +kernel) ⟨Nat.le_of_ble_eq_true rfl, Nat.le_of_ble_eq_true rfl⟩) (og_rc hK (cPc hP)) hP hS (cG_sub hLz (Nat.le_trans (Nat.le_of_eq hz.symm) hS.1)) rfl hl.1 rfl (lv_room (Nat.le_of_ble_eq_true rfl)) ⟨Nat.le_of_ble_eq_true rfl, Nat.le_of_ble_eq_true rfl⟩ dX3_keptFor_13 (fun r_w_3 ra_w_3 V_w_3 pc_w_3 sp_w_3 cc_w_3 e_w_3 sz_w_3 b_w_3 L_w_3 w_w_3 nx_w_3 H locs hp_w_3 hP hsz_w_3 hfr_w_3 hS => ?_)
  obtain ⟨-, e2_w_3, e3_w_3, e4_w_3, e5_w_3, e6_w_3, e7_w_3, e8_w_3, e9_w_3, e10_w_3, e11_w_3⟩ := hp_w_3
  rw [e2_w_3, e3_w_3, e4_w_3, e5_w_3, e6_w_3, e7_w_3, e8_w_3, e9_w_3, e10_w_3, e11_w_3] at hP
  obtain ⟨V1, pq1, sp1, hlk⟩ : ∃ V1 pq1 sp1, cLk b (List.map w L) (nI jf) = (V1, pq1, sp1) := ⟨_, _, _, rfl⟩
  have hlk9 : rdV w ((1 : Int32) <<< (nI jf &&& 31)) (b 12) L = (V1, pq1, sp1) := (rdV_A _ _ _ _).trans hlk
  have hP : va_P D vwCl (cW u cI cII V1 pq1 sp1 cn e sz b L w nx) H := by rw [hlk9] at hP; exact hP
  refine lv_aload_n hx hb dX3_keptFor_16 rfl (lv_at hl 0 rfl) ?_
  refine og_get F hK hinO (cPc hP) 1 (by decide) (by decide +kernel) rfl dX3_keptFor_17 ?_
  refine vg_get F hK hinV (cPv hP) 2 (by decide) (by decide +kernel) rfl dX3_keptFor_20 ?_
  refine lv_iload_n hx hb dX3_keptFor_23 rfl (lv_at hl 2 rfl) ?_
  refine cg_ald F hK (cPv hP) 3 40 rfl jt rfl (by omega) (by decide) dX3_keptFor_24 ?_
  refine vx_ret ?_
  exact cw_reti F hr hlocks hP hS (pPost_of (b, cn, List.map w L) (by simp [cKeptFor, cWr, hb_w_1, njf, hb_w_2, njt, hlk, ← hsz, bI]) ⟨rfl, rfl, rfl, he, hsz, hch, hN, fun x hx => hL0 ▸ hLz x hx⟩) (by omega) (by omega) dX3_keptFor_25
def cKeptByAll (cs : CS) (t : Int32) : OP :=
  if nOk t 40 = false then (1, 0, cs) else (0, (cLa cs.1 cs.2.2).1 2 (jn t), cs)
set_option maxHeartbeats 4000000 in
set_option maxRecDepth 100000 in
theorem cc_X3_keptByAll {l : Launch} (hfl : l.stackTraces = false) {D : va_G} {cI cII : ClassId} {sa : Nat → Nat} {u : Nat → Nat} {V : Nat → Nat → Int32} {pq sp : Int32} {cn : Nat} {e : Option Nat} {sz : Nat} {b : Nat → Nat → Int32} {L : List Nat} {w : Nat → Nat → Int32} {nx : Nat → Option Nat} {z0 : Nat} (hN : (cAd u ++ L).Nodup) (t : Int32) (hch : chn nx L) (he : e = L.head?) (hsz : sz = L.length) (hok : ∀ x, x ∈ L → okW (w x)) (hcn : cn ≤ 20) (hrc : ∀ k, k < cn → ∃ r, r < 6 ∧ b 11 k = nI r) : xc_Met l yX3_keptByAll wsX3_keptByAll 7 1 6 139 D u cI cII sa z0 L (cW u cI cII V pq sp cn e sz b L w nx) [.ref (u 30), .int t] kI (pPost u L z0 (cKeptByAll (b, cn, List.map w L) t)) (pPX u L z0 (cKeptByAll (b, cn, List.map w L) t)) := by
  suffices h9 : ∀ L0, L0 = L → xc_Met l yX3_keptByAll wsX3_keptByAll 7 1 6 139 D u cI cII sa z0 L0 (cW u cI cII V pq sp cn e sz b L w nx) [.ref (u 30), .int t] kI (pPost u L z0 (cKeptByAll (b, cn, List.map w L) t)) (pPX u L z0 (cKeptByAll (b, cn, List.map w L) t)) by exact h9 _ rfl
  intro L0 hL0
  have hLz : ∀ a, a ∈ L → a ∈ L0 ∨ z0 ≤ a := fun a z => Or.inl (by rw [hL0]; exact z)
  refine xc_start rfl (by decide +kernel) (Nat.le_of_ble_eq_true rfl) (fun p e9 s m below meth c F hr hlocks hK hz H locs hP hS hz9 hX hout ls hl => ?_)
  have hl : lv_has ls 2 [(0, .ref (u 30)), (1, .int t)] := hl
  have hx := F.1
  have hb := F.2.1
  have hinV : ∀ w ∈ wsX00, w ∈ wsX3_keptByAll := by decide +kernel
  have hinO : ∀ w ∈ wsX30, w ∈ wsX3_keptByAll := by decide +kernel
  have hinK : ∀ w ∈ wsX20, w ∈ wsX3_keptByAll := by decide +kernel
  have hinW : ∀ w ∈ wsX10, w ∈ wsX3_keptByAll := by decide +kernel
  refine lv_iload_n hx hb dX3_keptByAll_0 rfl (lv_at hl 1 rfl) ?_
  refine lv_bipush (v := 40) hx hb dX3_keptByAll_1 (by decide) ?_
  refine xc_callS F hK hX (Nat.le_trans (Nat.le_of_eq hz.symm) hS.1) [.int t, .int 40] (cc_X3_checkNumber hfl hN t 40 ) (va_cwS 2 F.2.2.2.2 gX3_keptByAll_X3_checkNumber rfl rfl rfl (by decide +kernel) ⟨Nat.le_of_ble_eq_true rfl, Nat.le_of_ble_eq_true rfl⟩) hP hS (cG_sub hLz (Nat.le_trans (Nat.le_of_eq hz.symm) hS.1)) hout hlocks (fun E9 V9 pq9 sp9 cn9 e9' sz9 b9 L9 w9 nx9 h9 => pPX_of (b, cn, List.map w L) 1 (by simp [cKeptByAll, cWr, ← hsz, h9.2.1]) (by decide) h9.1 (aS_of h9.2.2 ⟨rfl, rfl, rfl, he, hsz, hch, hN, fun x hx => hL0 ▸ hLz x hx⟩)) rfl hl.1 rfl (lv_room (Nat.le_of_ble_eq_true rfl)) ⟨(Nat.le_of_ble_eq_true rfl), (Nat.le_of_ble_eq_true rfl)⟩ (Nat.le_of_ble_eq_true rfl) (Nat.le_of_ble_eq_true rfl) dX3_keptByAll_3 (fun r_w_1 ra_w_1 V_w_1 pc_w_1 sp_w_1 cc_w_1 e_w_1 sz_w_1 b_w_1 L_w_1 w_w_1 nx_w_1 H locs hp_w_1 hP hsz_w_1 hfr_w_1 hS => ?_)
  obtain ⟨hb_w_1, -, e2_w_1, e3_w_1, e4_w_1, e5_w_1, e6_w_1, e7_w_1, e8_w_1, e9_w_1, e10_w_1, e11_w_1⟩ := hp_w_1
  rw [e2_w_1, e3_w_1, e4_w_1, e5_w_1, e6_w_1, e7_w_1, e8_w_1, e9_w_1, e10_w_1, e11_w_1] at hP
  obtain ⟨jt, hjt, rfl⟩ := nOk_nat (k := 40) (by omega) rfl hb_w_1
  have njt : jn (nI jt) = jt := jn_nI (by omega)
  refine lv_aload_n hx hb dX3_keptByAll_6 rfl (lv_at hl 0 rfl) ?_
  refine cw_callV F hK [] (cc_X3_lookByAll hN  (by first | assumption | omega) (by first | assumption | omega) (by first | assumption | omega)) (cwV 0 F.2.2.2.2 gX3_keptByAll_X3_lookByAll rfl rfl rfl (by decide +kernel) ⟨Nat.le_of_ble_eq_true rfl, Nat.le_of_ble_eq_true rfl⟩) (og_rc hK (cPc hP)) hP hS (cG_sub hLz (Nat.le_trans (Nat.le_of_eq hz.symm) hS.1)) rfl hl.1 rfl (lv_room (Nat.le_of_ble_eq_true rfl)) ⟨Nat.le_of_ble_eq_true rfl, Nat.le_of_ble_eq_true rfl⟩ dX3_keptByAll_7 (fun r_w_2 ra_w_2 V_w_2 pc_w_2 sp_w_2 cc_w_2 e_w_2 sz_w_2 b_w_2 L_w_2 w_w_2 nx_w_2 H locs hp_w_2 hP hsz_w_2 hfr_w_2 hS => ?_)
  obtain ⟨-, e2_w_2, e3_w_2, e4_w_2, e5_w_2, e6_w_2, e7_w_2, e8_w_2, e9_w_2, e10_w_2, e11_w_2⟩ := hp_w_2
  rw [e2_w_2, e3_w_2, e4_w_2, e5_w_2, e6_w_2, e7_w_2, e8_w_2, e9_w_2, e10_w_2, e11_w_2] at hP
  obtain ⟨V1, pq1, sp1, hlk⟩ : ∃ V1 pq1 sp1, cLa b (List.map w L) = (V1, pq1, sp1) := ⟨_, _, _, rfl⟩
  have hlk9 : rdV w 31 (b 12) L = (V1, pq1, sp1) := (rdV_A _ _ _ _).trans hlk
  have hP : va_P D vwCl (cW u cI cII V1 pq1 sp1 cn e sz b L w nx) H := by rw [hlk9] at hP; exact hP
  refine lv_aload_n hx hb dX3_keptByAll_10 rfl (lv_at hl 0 rfl) ?_
  refine og_get F hK hinO (cPc hP) 1 (by decide) (by decide +kernel) rfl dX3_keptByAll_11 ?_
  refine vg_get F hK hinV (cPv hP) 2 (by decide) (by decide +kernel) rfl dX3_keptByAll_14 ?_
  refine lv_iload_n hx hb dX3_keptByAll_17 rfl (lv_at hl 1 rfl) ?_
  refine cg_ald F hK (cPv hP) 3 40 rfl jt rfl (by omega) (by decide) dX3_keptByAll_18 ?_
  refine vx_ret ?_
  exact cw_reti F hr hlocks hP hS (pPost_of (b, cn, List.map w L) (by simp [cKeptByAll, cWr, hb_w_1, njt, hlk, ← hsz, bI]) ⟨rfl, rfl, rfl, he, hsz, hch, hN, fun x hx => hL0 ▸ hLz x hx⟩) (by omega) (by omega) dX3_keptByAll_19
def cLacks (cs : CS) (f : Int32) (k : Int32) (o : Int32) : OP :=
  if nOk f 5 = false then (1, 0, cs) else if nOk k (nI cs.2.1) = false then (1, 0, cs) else if nOk o 8 = false then (1, 0, cs) else (0, (if (cLk cs.1 cs.2.2 f).1 6 (jn k) = 1 then cLack (cLk cs.1 cs.2.2 f).1 cs.1 (jn k) (jn o) else 0), cs)
set_option maxHeartbeats 4000000 in
set_option maxRecDepth 100000 in
theorem cc_X3_lacks {l : Launch} (hfl : l.stackTraces = false) {D : va_G} {cI cII : ClassId} {sa : Nat → Nat} {u : Nat → Nat} {V : Nat → Nat → Int32} {pq sp : Int32} {cn : Nat} {e : Option Nat} {sz : Nat} {b : Nat → Nat → Int32} {L : List Nat} {w : Nat → Nat → Int32} {nx : Nat → Option Nat} {z0 : Nat} (hN : (cAd u ++ L).Nodup) (f : Int32) (k : Int32) (o : Int32) (hch : chn nx L) (he : e = L.head?) (hsz : sz = L.length) (hok : ∀ x, x ∈ L → okW (w x)) (hcn : cn ≤ 20) (hrc : ∀ k, k < cn → ∃ r, r < 6 ∧ b 11 k = nI r) : xc_Met l yX3_lacks wsX3_lacks 7 3 18 140 D u cI cII sa z0 L (cW u cI cII V pq sp cn e sz b L w nx) [.ref (u 30), .int f, .int k, .int o] kI (pPost u L z0 (cLacks (b, cn, List.map w L) f k o)) (pPX u L z0 (cLacks (b, cn, List.map w L) f k o)) := by
  suffices h9 : ∀ L0, L0 = L → xc_Met l yX3_lacks wsX3_lacks 7 3 18 140 D u cI cII sa z0 L0 (cW u cI cII V pq sp cn e sz b L w nx) [.ref (u 30), .int f, .int k, .int o] kI (pPost u L z0 (cLacks (b, cn, List.map w L) f k o)) (pPX u L z0 (cLacks (b, cn, List.map w L) f k o)) by exact h9 _ rfl
  intro L0 hL0
  have hLz : ∀ a, a ∈ L → a ∈ L0 ∨ z0 ≤ a := fun a z => Or.inl (by rw [hL0]; exact z)
  refine xc_start rfl (by decide +kernel) (Nat.le_of_ble_eq_true rfl) (fun p e9 s m below meth c F hr hlocks hK hz H locs hP hS hz9 hX hout ls hl => ?_)
  have hl : lv_has ls 4 [(0, .ref (u 30)), (1, .int f), (2, .int k), (3, .int o)] := hl
  have hx := F.1
  have hb := F.2.1
  have hinV : ∀ w ∈ wsX00, w ∈ wsX3_lacks := by decide +kernel
  have hinO : ∀ w ∈ wsX30, w ∈ wsX3_lacks := by decide +kernel
  have hinK : ∀ w ∈ wsX20, w ∈ wsX3_lacks := by decide +kernel
  have hinW : ∀ w ∈ wsX10, w ∈ wsX3_lacks := by decide +kernel
  refine lv_iload_n hx hb dX3_lacks_0 rfl (lv_at hl 1 rfl) ?_
  refine lv_iconst (v := 5) hx hb dX3_lacks_1 (by decide) ?_
  refine xc_callS F hK hX (Nat.le_trans (Nat.le_of_eq hz.symm) hS.1) [.int f, .int 5] (cc_X3_checkNumber hfl hN f 5 ) (va_cwS 2 F.2.2.2.2 gX3_lacks_X3_checkNumber rfl rfl rfl (by decide +kernel) ⟨Nat.le_of_ble_eq_true rfl, Nat.le_of_ble_eq_true rfl⟩) hP hS (cG_sub hLz (Nat.le_trans (Nat.le_of_eq hz.symm) hS.1)) hout hlocks (fun E9 V9 pq9 sp9 cn9 e9' sz9 b9 L9 w9 nx9 h9 => pPX_of (b, cn, List.map w L) 1 (by simp [cLacks, cWr, ← hsz, h9.2.1]) (by decide) h9.1 (aS_of h9.2.2 ⟨rfl, rfl, rfl, he, hsz, hch, hN, fun x hx => hL0 ▸ hLz x hx⟩)) rfl hl.1 rfl (lv_room (Nat.le_of_ble_eq_true rfl)) ⟨(Nat.le_of_ble_eq_true rfl), (Nat.le_of_ble_eq_true rfl)⟩ (Nat.le_of_ble_eq_true rfl) (Nat.le_of_ble_eq_true rfl) dX3_lacks_2 (fun r_w_1 ra_w_1 V_w_1 pc_w_1 sp_w_1 cc_w_1 e_w_1 sz_w_1 b_w_1 L_w_1 w_w_1 nx_w_1 H locs hp_w_1 hP hsz_w_1 hfr_w_1 hS => ?_)
  obtain ⟨hb_w_1, -, e2_w_1, e3_w_1, e4_w_1, e5_w_1, e6_w_1, e7_w_1, e8_w_1, e9_w_1, e10_w_1, e11_w_1⟩ := hp_w_1
  rw [e2_w_1, e3_w_1, e4_w_1, e5_w_1, e6_w_1, e7_w_1, e8_w_1, e9_w_1, e10_w_1, e11_w_1] at hP
  obtain ⟨jf, hjf, rfl⟩ := nOk_nat (k := 5) (by omega) rfl hb_w_1
  have njf : jn (nI jf) = jf := jn_nI (by omega)
  refine lv_iload_n hx hb dX3_lacks_5 rfl (lv_at hl 2 rfl) ?_
  refine lv_aload_n hx hb dX3_lacks_6 rfl (lv_at hl 0 rfl) ?_
  refine og_get F hK hinO (cPc hP) 6 (by decide) (by decide +kernel) rfl dX3_lacks_7 ?_
  refine xc_callS F hK hX (Nat.le_trans (Nat.le_of_eq hz.symm) hS.1) [.int k, .int (nI cn)] (cc_X3_checkNumber hfl hN k (nI cn) ) (va_cwS 2 F.2.2.2.2 gX3_lacks_X3_checkNumber rfl rfl rfl (by decide +kernel) ⟨Nat.le_of_ble_eq_true rfl, Nat.le_of_ble_eq_true rfl⟩) hP hS (cG_sub hLz (Nat.le_trans (Nat.le_of_eq hz.symm) hS.1)) hout hlocks (fun E9 V9 pq9 sp9 cn9 e9' sz9 b9 L9 w9 nx9 h9 => pPX_of (b, cn, List.map w L) 1 (by simp [cLacks, cWr, hb_w_1, njf, ← hsz, h9.2.1]) (by decide) h9.1 (aS_of h9.2.2 ⟨rfl, rfl, rfl, he, hsz, hch, hN, fun x hx => hL0 ▸ hLz x hx⟩)) rfl hl.1 rfl (lv_room (Nat.le_of_ble_eq_true rfl)) ⟨(Nat.le_of_ble_eq_true rfl), (Nat.le_of_ble_eq_true rfl)⟩ (Nat.le_of_ble_eq_true rfl) (Nat.le_of_ble_eq_true rfl) dX3_lacks_10 (fun r_w_2 ra_w_2 V_w_2 pc_w_2 sp_w_2 cc_w_2 e_w_2 sz_w_2 b_w_2 L_w_2 w_w_2 nx_w_2 H locs hp_w_2 hP hsz_w_2 hfr_w_2 hS => ?_)
  obtain ⟨hb_w_2, -, e2_w_2, e3_w_2, e4_w_2, e5_w_2, e6_w_2, e7_w_2, e8_w_2, e9_w_2, e10_w_2, e11_w_2⟩ := hp_w_2
  rw [e2_w_2, e3_w_2, e4_w_2, e5_w_2, e6_w_2, e7_w_2, e8_w_2, e9_w_2, e10_w_2, e11_w_2] at hP
  obtain ⟨jk, hjk, rfl⟩ := nOk_nat (k := cn) (by omega) rfl hb_w_2
  have njk : jn (nI jk) = jk := jn_nI (by omega)
  refine lv_iload_n hx hb dX3_lacks_13 rfl (lv_at hl 3 rfl) ?_
  refine lv_bipush (v := 8) hx hb dX3_lacks_14 (by decide) ?_
  refine xc_callS F hK hX (Nat.le_trans (Nat.le_of_eq hz.symm) hS.1) [.int o, .int 8] (cc_X3_checkNumber hfl hN o 8 ) (va_cwS 2 F.2.2.2.2 gX3_lacks_X3_checkNumber rfl rfl rfl (by decide +kernel) ⟨Nat.le_of_ble_eq_true rfl, Nat.le_of_ble_eq_true rfl⟩) hP hS (cG_sub hLz (Nat.le_trans (Nat.le_of_eq hz.symm) hS.1)) hout hlocks (fun E9 V9 pq9 sp9 cn9 e9' sz9 b9 L9 w9 nx9 h9 => pPX_of (b, cn, List.map w L) 1 (by simp [cLacks, cWr, hb_w_1, njf, hb_w_2, njk, ← hsz, h9.2.1]) (by decide) h9.1 (aS_of h9.2.2 ⟨rfl, rfl, rfl, he, hsz, hch, hN, fun x hx => hL0 ▸ hLz x hx⟩)) rfl hl.1 rfl (lv_room (Nat.le_of_ble_eq_true rfl)) ⟨(Nat.le_of_ble_eq_true rfl), (Nat.le_of_ble_eq_true rfl)⟩ (Nat.le_of_ble_eq_true rfl) (Nat.le_of_ble_eq_true rfl) dX3_lacks_16 (fun r_w_3 ra_w_3 V_w_3 pc_w_3 sp_w_3 cc_w_3 e_w_3 sz_w_3 b_w_3 L_w_3 w_w_3 nx_w_3 H locs hp_w_3 hP hsz_w_3 hfr_w_3 hS => ?_)
  obtain ⟨hb_w_3, -, e2_w_3, e3_w_3, e4_w_3, e5_w_3, e6_w_3, e7_w_3, e8_w_3, e9_w_3, e10_w_3, e11_w_3⟩ := hp_w_3
  rw [e2_w_3, e3_w_3, e4_w_3, e5_w_3, e6_w_3, e7_w_3, e8_w_3, e9_w_3, e10_w_3, e11_w_3] at hP
  obtain ⟨jo, hjo, rfl⟩ := nOk_nat (k := 8) (by omega) rfl hb_w_3
  have njo : jn (nI jo) = jo := jn_nI (by omega)
  refine lv_aload_n hx hb dX3_lacks_19 rfl (lv_at hl 0 rfl) ?_
  refine lv_iload_n hx hb dX3_lacks_20 rfl (lv_at hl 1 rfl) ?_
  refine cw_callV F hK [.int (nI jf)] (cc_X3_lookAs hN jf (by first | assumption | omega) (by first | assumption | omega) (by first | assumption | omega)) (cwV 1 F.2.2.2.2 gX3_lacks_X3_lookAs rfl rfl rfl (by decide +kernel) ⟨Nat.le_of_ble_eq_true rfl, Nat.le_of_ble_eq_true rfl⟩) (og_rc hK (cPc hP)) hP hS (cG_sub hLz (Nat.le_trans (Nat.le_of_eq hz.symm) hS.1)) rfl hl.1 rfl (lv_room (Nat.le_of_ble_eq_true rfl)) ⟨Nat.le_of_ble_eq_true rfl, Nat.le_of_ble_eq_true rfl⟩ dX3_lacks_21 (fun r_w_4 ra_w_4 V_w_4 pc_w_4 sp_w_4 cc_w_4 e_w_4 sz_w_4 b_w_4 L_w_4 w_w_4 nx_w_4 H locs hp_w_4 hP hsz_w_4 hfr_w_4 hS => ?_)
  obtain ⟨-, e2_w_4, e3_w_4, e4_w_4, e5_w_4, e6_w_4, e7_w_4, e8_w_4, e9_w_4, e10_w_4, e11_w_4⟩ := hp_w_4
  rw [e2_w_4, e3_w_4, e4_w_4, e5_w_4, e6_w_4, e7_w_4, e8_w_4, e9_w_4, e10_w_4, e11_w_4] at hP
  obtain ⟨V1, pq1, sp1, hlk⟩ : ∃ V1 pq1 sp1, cLk b (List.map w L) (nI jf) = (V1, pq1, sp1) := ⟨_, _, _, rfl⟩
  have hlk9 : rdV w ((1 : Int32) <<< (nI jf &&& 31)) (b 12) L = (V1, pq1, sp1) := (rdV_A _ _ _ _).trans hlk
  have hP : va_P D vwCl (cW u cI cII V1 pq1 sp1 cn e sz b L w nx) H := by rw [hlk9] at hP; exact hP
  refine lv_aload_n hx hb dX3_lacks_24 rfl (lv_at hl 0 rfl) ?_
  refine og_get F hK hinO (cPc hP) 1 (by decide) (by decide +kernel) rfl dX3_lacks_25 ?_
  refine vg_get F hK hinV (cPv hP) 6 (by decide) (by decide +kernel) rfl dX3_lacks_28 ?_
  refine lv_iload_n hx hb dX3_lacks_31 rfl (lv_at hl 2 rfl) ?_
  refine cg_ald F hK (cPv hP) 7 20 rfl jk rfl (by omega) (by decide) dX3_lacks_32 ?_
  refine lv_iconst (v := 1) hx hb dX3_lacks_33 (by decide) ?_
  refine lv_icmp_ne (tgt := 46) hx hb dX3_lacks_34 (by decide) (fun c_5 => ?_) (fun c_5 => ?_)
  · skip
    refine lv_iconst (v := 0) hx hb dX3_lacks_46 (by decide) ?_
    refine vx_ret ?_
    exact cw_reti F hr hlocks hP hS (pPost_of (b, cn, List.map w L) (by simp [cLacks, cWr, hb_w_1, njf, hb_w_2, njk, hb_w_3, njo, hlk, c_5, ← hsz, bI]) ⟨rfl, rfl, rfl, he, hsz, hch, hN, fun x hx => hL0 ▸ hLz x hx⟩) (by omega) (by omega) dX3_lacks_47
  · skip
    refine lv_aload_n hx hb dX3_lacks_37 rfl (lv_at hl 0 rfl) ?_
    refine lv_iload_n hx hb dX3_lacks_38 rfl (lv_at hl 2 rfl) ?_
    refine lv_iload_n hx hb dX3_lacks_39 rfl (lv_at hl 3 rfl) ?_
    refine ro_callV F hK [.int (nI jk), .int (nI jo)] (cc_X3_lacking (cPv hP) (cPc hP) jk jo (by first | assumption | omega) (by first | assumption | omega) (hrc jk hjk)) (cwV 2 F.2.2.2.2 gX3_lacks_X3_lacking rfl rfl rfl (by decide +kernel) ⟨Nat.le_of_ble_eq_true rfl, Nat.le_of_ble_eq_true rfl⟩) (og_rc hK (cPc hP)) rfl hl.1 rfl (lv_room (Nat.le_of_ble_eq_true rfl)) ⟨Nat.le_of_ble_eq_true rfl, Nat.le_of_ble_eq_true rfl⟩ dX3_lacks_40 ?_
    refine lv_goto (tgt := 47) hx hb dX3_lacks_43 (by decide) ?_
    refine vx_ret ?_
    exact cw_reti F hr hlocks hP hS (pPost_of (b, cn, List.map w L) (by simp [cLacks, cWr, hb_w_1, njf, hb_w_2, njk, hb_w_3, njo, hlk, c_5, ← hsz, bI]) ⟨rfl, rfl, rfl, he, hsz, hch, hN, fun x hx => hL0 ▸ hLz x hx⟩) (by omega) (by omega) dX3_lacks_47
def cIsSpoilt (cs : CS) (f : Int32) (k : Int32) : OP :=
  if nOk f 5 = false then (1, 0, cs) else if nOk k (nI cs.2.1) = false then (1, 0, cs) else (0, bI (decide ((cLk cs.1 cs.2.2 f).1 6 (jn k) = 3) && !decide ((cLk cs.1 cs.2.2 f).2.2 &&& ((1 : Int32) <<< (k &&& 31)) = 0)), cs)
set_option maxHeartbeats 4000000 in
set_option maxRecDepth 100000 in
theorem cc_X3_isSpoilt {l : Launch} (hfl : l.stackTraces = false) {D : va_G} {cI cII : ClassId} {sa : Nat → Nat} {u : Nat → Nat} {V : Nat → Nat → Int32} {pq sp : Int32} {cn : Nat} {e : Option Nat} {sz : Nat} {b : Nat → Nat → Int32} {L : List Nat} {w : Nat → Nat → Int32} {nx : Nat → Option Nat} {z0 : Nat} (hN : (cAd u ++ L).Nodup) (f : Int32) (k : Int32) (hch : chn nx L) (he : e = L.head?) (hsz : sz = L.length) (hok : ∀ x, x ∈ L → okW (w x)) (hcn : cn ≤ 20) (hrc : ∀ k, k < cn → ∃ r, r < 6 ∧ b 11 k = nI r) : xc_Met l yX3_isSpoilt wsX3_isSpoilt 7 2 12 140 D u cI cII sa z0 L (cW u cI cII V pq sp cn e sz b L w nx) [.ref (u 30), .int f, .int k] kI (pPost u L z0 (cIsSpoilt (b, cn, List.map w L) f k)) (pPX u L z0 (cIsSpoilt (b, cn, List.map w L) f k)) := by
  suffices h9 : ∀ L0, L0 = L → xc_Met l yX3_isSpoilt wsX3_isSpoilt 7 2 12 140 D u cI cII sa z0 L0 (cW u cI cII V pq sp cn e sz b L w nx) [.ref (u 30), .int f, .int k] kI (pPost u L z0 (cIsSpoilt (b, cn, List.map w L) f k)) (pPX u L z0 (cIsSpoilt (b, cn, List.map w L) f k)) by exact h9 _ rfl
  intro L0 hL0
  have hLz : ∀ a, a ∈ L → a ∈ L0 ∨ z0 ≤ a := fun a z => Or.inl (by rw [hL0]; exact z)
  refine xc_start rfl (by decide +kernel) (Nat.le_of_ble_eq_true rfl) (fun p e9 s m below meth c F hr hlocks hK hz H locs hP hS hz9 hX hout ls hl => ?_)
  have hl : lv_has ls 3 [(0, .ref (u 30)), (1, .int f), (2, .int k)] := hl
  have hx := F.1
  have hb := F.2.1
  have hinV : ∀ w ∈ wsX00, w ∈ wsX3_isSpoilt := by decide +kernel
  have hinO : ∀ w ∈ wsX30, w ∈ wsX3_isSpoilt := by decide +kernel
  have hinK : ∀ w ∈ wsX20, w ∈ wsX3_isSpoilt := by decide +kernel
  have hinW : ∀ w ∈ wsX10, w ∈ wsX3_isSpoilt := by decide +kernel
  refine lv_iload_n hx hb dX3_isSpoilt_0 rfl (lv_at hl 1 rfl) ?_
  refine lv_iconst (v := 5) hx hb dX3_isSpoilt_1 (by decide) ?_
  refine xc_callS F hK hX (Nat.le_trans (Nat.le_of_eq hz.symm) hS.1) [.int f, .int 5] (cc_X3_checkNumber hfl hN f 5 ) (va_cwS 2 F.2.2.2.2 gX3_isSpoilt_X3_checkNumber rfl rfl rfl (by decide +kernel) ⟨Nat.le_of_ble_eq_true rfl, Nat.le_of_ble_eq_true rfl⟩) hP hS (cG_sub hLz (Nat.le_trans (Nat.le_of_eq hz.symm) hS.1)) hout hlocks (fun E9 V9 pq9 sp9 cn9 e9' sz9 b9 L9 w9 nx9 h9 => pPX_of (b, cn, List.map w L) 1 (by simp [cIsSpoilt, cWr, ← hsz, h9.2.1]) (by decide) h9.1 (aS_of h9.2.2 ⟨rfl, rfl, rfl, he, hsz, hch, hN, fun x hx => hL0 ▸ hLz x hx⟩)) rfl hl.1 rfl (lv_room (Nat.le_of_ble_eq_true rfl)) ⟨(Nat.le_of_ble_eq_true rfl), (Nat.le_of_ble_eq_true rfl)⟩ (Nat.le_of_ble_eq_true rfl) (Nat.le_of_ble_eq_true rfl) dX3_isSpoilt_2 (fun r_w_1 ra_w_1 V_w_1 pc_w_1 sp_w_1 cc_w_1 e_w_1 sz_w_1 b_w_1 L_w_1 w_w_1 nx_w_1 H locs hp_w_1 hP hsz_w_1 hfr_w_1 hS => ?_)
  obtain ⟨hb_w_1, -, e2_w_1, e3_w_1, e4_w_1, e5_w_1, e6_w_1, e7_w_1, e8_w_1, e9_w_1, e10_w_1, e11_w_1⟩ := hp_w_1
  rw [e2_w_1, e3_w_1, e4_w_1, e5_w_1, e6_w_1, e7_w_1, e8_w_1, e9_w_1, e10_w_1, e11_w_1] at hP
  obtain ⟨jf, hjf, rfl⟩ := nOk_nat (k := 5) (by omega) rfl hb_w_1
  have njf : jn (nI jf) = jf := jn_nI (by omega)
  refine lv_iload_n hx hb dX3_isSpoilt_5 rfl (lv_at hl 2 rfl) ?_
  refine lv_aload_n hx hb dX3_isSpoilt_6 rfl (lv_at hl 0 rfl) ?_
  refine og_get F hK hinO (cPc hP) 6 (by decide) (by decide +kernel) rfl dX3_isSpoilt_7 ?_
  refine xc_callS F hK hX (Nat.le_trans (Nat.le_of_eq hz.symm) hS.1) [.int k, .int (nI cn)] (cc_X3_checkNumber hfl hN k (nI cn) ) (va_cwS 2 F.2.2.2.2 gX3_isSpoilt_X3_checkNumber rfl rfl rfl (by decide +kernel) ⟨Nat.le_of_ble_eq_true rfl, Nat.le_of_ble_eq_true rfl⟩) hP hS (cG_sub hLz (Nat.le_trans (Nat.le_of_eq hz.symm) hS.1)) hout hlocks (fun E9 V9 pq9 sp9 cn9 e9' sz9 b9 L9 w9 nx9 h9 => pPX_of (b, cn, List.map w L) 1 (by simp [cIsSpoilt, cWr, hb_w_1, njf, ← hsz, h9.2.1]) (by decide) h9.1 (aS_of h9.2.2 ⟨rfl, rfl, rfl, he, hsz, hch, hN, fun x hx => hL0 ▸ hLz x hx⟩)) rfl hl.1 rfl (lv_room (Nat.le_of_ble_eq_true rfl)) ⟨(Nat.le_of_ble_eq_true rfl), (Nat.le_of_ble_eq_true rfl)⟩ (Nat.le_of_ble_eq_true rfl) (Nat.le_of_ble_eq_true rfl) dX3_isSpoilt_10 (fun r_w_2 ra_w_2 V_w_2 pc_w_2 sp_w_2 cc_w_2 e_w_2 sz_w_2 b_w_2 L_w_2 w_w_2 nx_w_2 H locs hp_w_2 hP hsz_w_2 hfr_w_2 hS => ?_)
  obtain ⟨hb_w_2, -, e2_w_2, e3_w_2, e4_w_2, e5_w_2, e6_w_2, e7_w_2, e8_w_2, e9_w_2, e10_w_2, e11_w_2⟩ := hp_w_2
  rw [e2_w_2, e3_w_2, e4_w_2, e5_w_2, e6_w_2, e7_w_2, e8_w_2, e9_w_2, e10_w_2, e11_w_2] at hP
  obtain ⟨jk, hjk, rfl⟩ := nOk_nat (k := cn) (by omega) rfl hb_w_2
  have njk : jn (nI jk) = jk := jn_nI (by omega)
  refine lv_aload_n hx hb dX3_isSpoilt_13 rfl (lv_at hl 0 rfl) ?_
  refine lv_iload_n hx hb dX3_isSpoilt_14 rfl (lv_at hl 1 rfl) ?_
  refine cw_callV F hK [.int (nI jf)] (cc_X3_lookAs hN jf (by first | assumption | omega) (by first | assumption | omega) (by first | assumption | omega)) (cwV 1 F.2.2.2.2 gX3_isSpoilt_X3_lookAs rfl rfl rfl (by decide +kernel) ⟨Nat.le_of_ble_eq_true rfl, Nat.le_of_ble_eq_true rfl⟩) (og_rc hK (cPc hP)) hP hS (cG_sub hLz (Nat.le_trans (Nat.le_of_eq hz.symm) hS.1)) rfl hl.1 rfl (lv_room (Nat.le_of_ble_eq_true rfl)) ⟨Nat.le_of_ble_eq_true rfl, Nat.le_of_ble_eq_true rfl⟩ dX3_isSpoilt_15 (fun r_w_3 ra_w_3 V_w_3 pc_w_3 sp_w_3 cc_w_3 e_w_3 sz_w_3 b_w_3 L_w_3 w_w_3 nx_w_3 H locs hp_w_3 hP hsz_w_3 hfr_w_3 hS => ?_)
  obtain ⟨-, e2_w_3, e3_w_3, e4_w_3, e5_w_3, e6_w_3, e7_w_3, e8_w_3, e9_w_3, e10_w_3, e11_w_3⟩ := hp_w_3
  rw [e2_w_3, e3_w_3, e4_w_3, e5_w_3, e6_w_3, e7_w_3, e8_w_3, e9_w_3, e10_w_3, e11_w_3] at hP
  obtain ⟨V1, pq1, sp1, hlk⟩ : ∃ V1 pq1 sp1, cLk b (List.map w L) (nI jf) = (V1, pq1, sp1) := ⟨_, _, _, rfl⟩
  have hlk9 : rdV w ((1 : Int32) <<< (nI jf &&& 31)) (b 12) L = (V1, pq1, sp1) := (rdV_A _ _ _ _).trans hlk
  have hP : va_P D vwCl (cW u cI cII V1 pq1 sp1 cn e sz b L w nx) H := by rw [hlk9] at hP; exact hP
  refine lv_aload_n hx hb dX3_isSpoilt_18 rfl (lv_at hl 0 rfl) ?_
  refine og_get F hK hinO (cPc hP) 1 (by decide) (by decide +kernel) rfl dX3_isSpoilt_19 ?_
  refine vg_get F hK hinV (cPv hP) 6 (by decide) (by decide +kernel) rfl dX3_isSpoilt_22 ?_
  refine lv_iload_n hx hb dX3_isSpoilt_25 rfl (lv_at hl 2 rfl) ?_
  refine cg_ald F hK (cPv hP) 7 20 rfl jk rfl (by omega) (by decide) dX3_isSpoilt_26 ?_
  refine lv_iconst (v := 3) hx hb dX3_isSpoilt_27 (by decide) ?_
  refine lv_icmp_ne (tgt := 49) hx hb dX3_isSpoilt_28 (by decide) (fun c_4 => ?_) (fun c_4 => ?_)
  · skip
    refine lv_iconst (v := 0) hx hb dX3_isSpoilt_49 (by decide) ?_
    refine vx_ret ?_
    exact cw_retz false rfl F hr hlocks hP hS (pPost_of (b, cn, List.map w L) (by simp [cIsSpoilt, cWr, hb_w_1, njf, hb_w_2, njk, hlk, c_4, ← hsz, bI]) ⟨rfl, rfl, rfl, he, hsz, hch, hN, fun x hx => hL0 ▸ hLz x hx⟩) (by omega) (by omega) dX3_isSpoilt_50
  · skip
    refine lv_aload_n hx hb dX3_isSpoilt_31 rfl (lv_at hl 0 rfl) ?_
    refine og_get F hK hinO (cPc hP) 1 (by decide) (by decide +kernel) rfl dX3_isSpoilt_32 ?_
    refine vg_get F hK hinV (cPv hP) 9 (by decide) (by decide +kernel) rfl dX3_isSpoilt_35 ?_
    refine lv_iconst (v := 1) hx hb dX3_isSpoilt_38 (by decide) ?_
    refine lv_iload_n hx hb dX3_isSpoilt_39 rfl (lv_at hl 2 rfl) ?_
    refine lv_ishl hx hb dX3_isSpoilt_40 ?_
    refine lv_iand hx hb dX3_isSpoilt_41 ?_
    refine lv_if_eq (tgt := 49) hx hb dX3_isSpoilt_42 (by decide) (fun c_5 => ?_) (fun c_5 => ?_)
    · skip
      refine lv_iconst (v := 0) hx hb dX3_isSpoilt_49 (by decide) ?_
      refine vx_ret ?_
      exact cw_retz false rfl F hr hlocks hP hS (pPost_of (b, cn, List.map w L) (by simp [cIsSpoilt, cWr, hb_w_1, njf, hb_w_2, njk, hlk, c_4, c_5, ← hsz, bI]) ⟨rfl, rfl, rfl, he, hsz, hch, hN, fun x hx => hL0 ▸ hLz x hx⟩) (by omega) (by omega) dX3_isSpoilt_50
    · skip
      refine lv_iconst (v := 1) hx hb dX3_isSpoilt_45 (by decide) ?_
      refine lv_goto (tgt := 50) hx hb dX3_isSpoilt_46 (by decide) ?_
      refine vx_ret ?_
      exact cw_retz true rfl F hr hlocks hP hS (pPost_of (b, cn, List.map w L) (by simp [cIsSpoilt, cWr, hb_w_1, njf, hb_w_2, njk, hlk, c_4, c_5, ← hsz, bI]) ⟨rfl, rfl, rfl, he, hsz, hch, hN, fun x hx => hL0 ▸ hLz x hx⟩) (by omega) (by omega) dX3_isSpoilt_50
def cIsUnfit (cs : CS) (f : Int32) (k : Int32) : OP :=
  if nOk f 5 = false then (1, 0, cs) else if nOk k (nI cs.2.1) = false then (1, 0, cs) else (0, bI (decide ((cLk cs.1 cs.2.2 f).1 6 (jn k) = 1) && cDis (cLk cs.1 cs.2.2 f).1 cs.1 (jn (cs.1 11 (jn k))) (cs.1 12 (jn k))), cs)
set_option maxHeartbeats 4000000 in
set_option maxRecDepth 100000 in
theorem cc_X3_isUnfit {l : Launch} (hfl : l.stackTraces = false) {D : va_G} {cI cII : ClassId} {sa : Nat → Nat} {u : Nat → Nat} {V : Nat → Nat → Int32} {pq sp : Int32} {cn : Nat} {e : Option Nat} {sz : Nat} {b : Nat → Nat → Int32} {L : List Nat} {w : Nat → Nat → Int32} {nx : Nat → Option Nat} {z0 : Nat} (hN : (cAd u ++ L).Nodup) (f : Int32) (k : Int32) (hch : chn nx L) (he : e = L.head?) (hsz : sz = L.length) (hok : ∀ x, x ∈ L → okW (w x)) (hcn : cn ≤ 20) (hrc : ∀ k, k < cn → ∃ r, r < 6 ∧ b 11 k = nI r) : xc_Met l yX3_isUnfit wsX3_isUnfit 7 2 12 140 D u cI cII sa z0 L (cW u cI cII V pq sp cn e sz b L w nx) [.ref (u 30), .int f, .int k] kI (pPost u L z0 (cIsUnfit (b, cn, List.map w L) f k)) (pPX u L z0 (cIsUnfit (b, cn, List.map w L) f k)) := by
  suffices h9 : ∀ L0, L0 = L → xc_Met l yX3_isUnfit wsX3_isUnfit 7 2 12 140 D u cI cII sa z0 L0 (cW u cI cII V pq sp cn e sz b L w nx) [.ref (u 30), .int f, .int k] kI (pPost u L z0 (cIsUnfit (b, cn, List.map w L) f k)) (pPX u L z0 (cIsUnfit (b, cn, List.map w L) f k)) by exact h9 _ rfl
  intro L0 hL0
  have hLz : ∀ a, a ∈ L → a ∈ L0 ∨ z0 ≤ a := fun a z => Or.inl (by rw [hL0]; exact z)
  refine xc_start rfl (by decide +kernel) (Nat.le_of_ble_eq_true rfl) (fun p e9 s m below meth c F hr hlocks hK hz H locs hP hS hz9 hX hout ls hl => ?_)
  have hl : lv_has ls 3 [(0, .ref (u 30)), (1, .int f), (2, .int k)] := hl
  have hx := F.1
  have hb := F.2.1
  have hinV : ∀ w ∈ wsX00, w ∈ wsX3_isUnfit := by decide +kernel
  have hinO : ∀ w ∈ wsX30, w ∈ wsX3_isUnfit := by decide +kernel
  have hinK : ∀ w ∈ wsX20, w ∈ wsX3_isUnfit := by decide +kernel
  have hinW : ∀ w ∈ wsX10, w ∈ wsX3_isUnfit := by decide +kernel
  refine lv_iload_n hx hb dX3_isUnfit_0 rfl (lv_at hl 1 rfl) ?_
  refine lv_iconst (v := 5) hx hb dX3_isUnfit_1 (by decide) ?_
  refine xc_callS F hK hX (Nat.le_trans (Nat.le_of_eq hz.symm) hS.1) [.int f, .int 5] (cc_X3_checkNumber hfl hN f 5 ) (va_cwS 2 F.2.2.2.2 gX3_isUnfit_X3_checkNumber rfl rfl rfl (by decide +kernel) ⟨Nat.le_of_ble_eq_true rfl, Nat.le_of_ble_eq_true rfl⟩) hP hS (cG_sub hLz (Nat.le_trans (Nat.le_of_eq hz.symm) hS.1)) hout hlocks (fun E9 V9 pq9 sp9 cn9 e9' sz9 b9 L9 w9 nx9 h9 => pPX_of (b, cn, List.map w L) 1 (by simp [cIsUnfit, cWr, ← hsz, h9.2.1]) (by decide) h9.1 (aS_of h9.2.2 ⟨rfl, rfl, rfl, he, hsz, hch, hN, fun x hx => hL0 ▸ hLz x hx⟩)) rfl hl.1 rfl (lv_room (Nat.le_of_ble_eq_true rfl)) ⟨(Nat.le_of_ble_eq_true rfl), (Nat.le_of_ble_eq_true rfl)⟩ (Nat.le_of_ble_eq_true rfl) (Nat.le_of_ble_eq_true rfl) dX3_isUnfit_2 (fun r_w_1 ra_w_1 V_w_1 pc_w_1 sp_w_1 cc_w_1 e_w_1 sz_w_1 b_w_1 L_w_1 w_w_1 nx_w_1 H locs hp_w_1 hP hsz_w_1 hfr_w_1 hS => ?_)
  obtain ⟨hb_w_1, -, e2_w_1, e3_w_1, e4_w_1, e5_w_1, e6_w_1, e7_w_1, e8_w_1, e9_w_1, e10_w_1, e11_w_1⟩ := hp_w_1
  rw [e2_w_1, e3_w_1, e4_w_1, e5_w_1, e6_w_1, e7_w_1, e8_w_1, e9_w_1, e10_w_1, e11_w_1] at hP
  obtain ⟨jf, hjf, rfl⟩ := nOk_nat (k := 5) (by omega) rfl hb_w_1
  have njf : jn (nI jf) = jf := jn_nI (by omega)
  refine lv_iload_n hx hb dX3_isUnfit_5 rfl (lv_at hl 2 rfl) ?_
  refine lv_aload_n hx hb dX3_isUnfit_6 rfl (lv_at hl 0 rfl) ?_
  refine og_get F hK hinO (cPc hP) 6 (by decide) (by decide +kernel) rfl dX3_isUnfit_7 ?_
  refine xc_callS F hK hX (Nat.le_trans (Nat.le_of_eq hz.symm) hS.1) [.int k, .int (nI cn)] (cc_X3_checkNumber hfl hN k (nI cn) ) (va_cwS 2 F.2.2.2.2 gX3_isUnfit_X3_checkNumber rfl rfl rfl (by decide +kernel) ⟨Nat.le_of_ble_eq_true rfl, Nat.le_of_ble_eq_true rfl⟩) hP hS (cG_sub hLz (Nat.le_trans (Nat.le_of_eq hz.symm) hS.1)) hout hlocks (fun E9 V9 pq9 sp9 cn9 e9' sz9 b9 L9 w9 nx9 h9 => pPX_of (b, cn, List.map w L) 1 (by simp [cIsUnfit, cWr, hb_w_1, njf, ← hsz, h9.2.1]) (by decide) h9.1 (aS_of h9.2.2 ⟨rfl, rfl, rfl, he, hsz, hch, hN, fun x hx => hL0 ▸ hLz x hx⟩)) rfl hl.1 rfl (lv_room (Nat.le_of_ble_eq_true rfl)) ⟨(Nat.le_of_ble_eq_true rfl), (Nat.le_of_ble_eq_true rfl)⟩ (Nat.le_of_ble_eq_true rfl) (Nat.le_of_ble_eq_true rfl) dX3_isUnfit_10 (fun r_w_2 ra_w_2 V_w_2 pc_w_2 sp_w_2 cc_w_2 e_w_2 sz_w_2 b_w_2 L_w_2 w_w_2 nx_w_2 H locs hp_w_2 hP hsz_w_2 hfr_w_2 hS => ?_)
  obtain ⟨hb_w_2, -, e2_w_2, e3_w_2, e4_w_2, e5_w_2, e6_w_2, e7_w_2, e8_w_2, e9_w_2, e10_w_2, e11_w_2⟩ := hp_w_2
  rw [e2_w_2, e3_w_2, e4_w_2, e5_w_2, e6_w_2, e7_w_2, e8_w_2, e9_w_2, e10_w_2, e11_w_2] at hP
  obtain ⟨jk, hjk, rfl⟩ := nOk_nat (k := cn) (by omega) rfl hb_w_2
  have njk : jn (nI jk) = jk := jn_nI (by omega)
  refine lv_aload_n hx hb dX3_isUnfit_13 rfl (lv_at hl 0 rfl) ?_
  refine lv_iload_n hx hb dX3_isUnfit_14 rfl (lv_at hl 1 rfl) ?_
  refine cw_callV F hK [.int (nI jf)] (cc_X3_lookAs hN jf (by first | assumption | omega) (by first | assumption | omega) (by first | assumption | omega)) (cwV 1 F.2.2.2.2 gX3_isUnfit_X3_lookAs rfl rfl rfl (by decide +kernel) ⟨Nat.le_of_ble_eq_true rfl, Nat.le_of_ble_eq_true rfl⟩) (og_rc hK (cPc hP)) hP hS (cG_sub hLz (Nat.le_trans (Nat.le_of_eq hz.symm) hS.1)) rfl hl.1 rfl (lv_room (Nat.le_of_ble_eq_true rfl)) ⟨Nat.le_of_ble_eq_true rfl, Nat.le_of_ble_eq_true rfl⟩ dX3_isUnfit_15 (fun r_w_3 ra_w_3 V_w_3 pc_w_3 sp_w_3 cc_w_3 e_w_3 sz_w_3 b_w_3 L_w_3 w_w_3 nx_w_3 H locs hp_w_3 hP hsz_w_3 hfr_w_3 hS => ?_)
  obtain ⟨-, e2_w_3, e3_w_3, e4_w_3, e5_w_3, e6_w_3, e7_w_3, e8_w_3, e9_w_3, e10_w_3, e11_w_3⟩ := hp_w_3
  rw [e2_w_3, e3_w_3, e4_w_3, e5_w_3, e6_w_3, e7_w_3, e8_w_3, e9_w_3, e10_w_3, e11_w_3] at hP
  obtain ⟨V1, pq1, sp1, hlk⟩ : ∃ V1 pq1 sp1, cLk b (List.map w L) (nI jf) = (V1, pq1, sp1) := ⟨_, _, _, rfl⟩
  have hlk9 : rdV w ((1 : Int32) <<< (nI jf &&& 31)) (b 12) L = (V1, pq1, sp1) := (rdV_A _ _ _ _).trans hlk
  have hP : va_P D vwCl (cW u cI cII V1 pq1 sp1 cn e sz b L w nx) H := by rw [hlk9] at hP; exact hP
  refine lv_aload_n hx hb dX3_isUnfit_18 rfl (lv_at hl 0 rfl) ?_
  refine og_get F hK hinO (cPc hP) 1 (by decide) (by decide +kernel) rfl dX3_isUnfit_19 ?_
  refine vg_get F hK hinV (cPv hP) 6 (by decide) (by decide +kernel) rfl dX3_isUnfit_22 ?_
  refine lv_iload_n hx hb dX3_isUnfit_25 rfl (lv_at hl 2 rfl) ?_
  refine cg_ald F hK (cPv hP) 7 20 rfl jk rfl (by omega) (by decide) dX3_isUnfit_26 ?_
  refine lv_iconst (v := 1) hx hb dX3_isUnfit_27 (by decide) ?_
  refine lv_icmp_ne (tgt := 54) hx hb dX3_isUnfit_28 (by decide) (fun c_4 => ?_) (fun c_4 => ?_)
  · skip
    refine lv_iconst (v := 0) hx hb dX3_isUnfit_54 (by decide) ?_
    refine vx_ret ?_
    exact cw_retz false rfl F hr hlocks hP hS (pPost_of (b, cn, List.map w L) (by simp [cIsUnfit, cWr, hb_w_1, njf, hb_w_2, njk, hlk, c_4, ← hsz, bI]) ⟨rfl, rfl, rfl, he, hsz, hch, hN, fun x hx => hL0 ▸ hLz x hx⟩) (by omega) (by omega) dX3_isUnfit_55
  · skip
    refine lv_aload_n hx hb dX3_isUnfit_31 rfl (lv_at hl 0 rfl) ?_
    refine lv_aload_n hx hb dX3_isUnfit_32 rfl (lv_at hl 0 rfl) ?_
    refine og_get F hK hinO (cPc hP) 4 (by decide) (by decide +kernel) rfl dX3_isUnfit_33 ?_
    refine lv_iload_n hx hb dX3_isUnfit_36 rfl (lv_at hl 2 rfl) ?_
    refine cg_ald F hK (cPc hP) 3 20 rfl jk rfl (by omega) (by decide) dX3_isUnfit_37 ?_
    obtain ⟨jr, hjr, ejr⟩ := hrc jk hjk
    refine lw_N jr ejr ?_
    have njr : jn (b 11 jk) = jr := by rw [ejr]; exact jn_nI (by omega)
    refine lv_aload_n hx hb dX3_isUnfit_38 rfl (lv_at hl 0 rfl) ?_
    refine og_get F hK hinO (cPc hP) 5 (by decide) (by decide +kernel) rfl dX3_isUnfit_39 ?_
    refine lv_iload_n hx hb dX3_isUnfit_42 rfl (lv_at hl 2 rfl) ?_
    refine cg_ald F hK (cPc hP) 4 20 rfl jk rfl (by omega) (by decide) dX3_isUnfit_43 ?_
    refine ro_callV F hK [.int (nI jr), .int (b 12 jk)] (cc_X3_isDisliked (cPv hP) (cPc hP) jr (b 12 jk) (by first | assumption | omega)) (cwV 2 F.2.2.2.2 gX3_isUnfit_X3_isDisliked rfl rfl rfl (by decide +kernel) ⟨Nat.le_of_ble_eq_true rfl, Nat.le_of_ble_eq_true rfl⟩) (og_rc hK (cPc hP)) rfl hl.1 rfl (lv_room (Nat.le_of_ble_eq_true rfl)) ⟨Nat.le_of_ble_eq_true rfl, Nat.le_of_ble_eq_true rfl⟩ dX3_isUnfit_44 ?_
    refine lw_beq (tgt := 54) hx hb dX3_isUnfit_47 (by decide) (fun c_5 => ?_) (fun c_5 => ?_)
    · skip
      refine lv_iconst (v := 0) hx hb dX3_isUnfit_54 (by decide) ?_
      refine vx_ret ?_
      exact cw_retz false rfl F hr hlocks hP hS (pPost_of (b, cn, List.map w L) (by simp [cIsUnfit, cWr, hb_w_1, njf, hb_w_2, njk, hlk, c_4, njr, c_5, ← hsz, bI]) ⟨rfl, rfl, rfl, he, hsz, hch, hN, fun x hx => hL0 ▸ hLz x hx⟩) (by omega) (by omega) dX3_isUnfit_55
    · skip
      refine lv_iconst (v := 1) hx hb dX3_isUnfit_50 (by decide) ?_
      refine lv_goto (tgt := 55) hx hb dX3_isUnfit_51 (by decide) ?_
      refine vx_ret ?_
      exact cw_retz true rfl F hr hlocks hP hS (pPost_of (b, cn, List.map w L) (by simp [cIsUnfit, cWr, hb_w_1, njf, hb_w_2, njk, hlk, c_4, njr, c_5, ← hsz, bI]) ⟨rfl, rfl, rfl, he, hsz, hch, hN, fun x hx => hL0 ▸ hLz x hx⟩) (by omega) (by omega) dX3_isUnfit_55
def cDrop (cs : CS) (f : Int32) (k : Int32) : OP :=
  if nOk f 5 = false then (1, 0, cs) else if nOk k (nI cs.2.1) = false then (1, 0, cs) else if opnOk (cLk cs.1 cs.2.2 f).1 (jn k) = false then (3, 0, cs) else if roomOk cs.2.2.length 1 = false then (3, 0, cs) else (0, nI (cKeptAll (cLk cs.1 cs.2.2 f).1 k), cWr cs f 5 (-1) k)
set_option maxHeartbeats 4000000 in
set_option maxRecDepth 100000 in
theorem cc_X3_drop {l : Launch} (hfl : l.stackTraces = false) {D : va_G} {cI cII : ClassId} {sa : Nat → Nat} {u : Nat → Nat} {V : Nat → Nat → Int32} {pq sp : Int32} {cn : Nat} {e : Option Nat} {sz : Nat} {b : Nat → Nat → Int32} {L : List Nat} {w : Nat → Nat → Int32} {nx : Nat → Option Nat} {z0 : Nat} (hN : (cAd u ++ L).Nodup) (f : Int32) (k : Int32) (hch : chn nx L) (he : e = L.head?) (hsz : sz = L.length) (hok : ∀ x, x ∈ L → okW (w x)) (hcn : cn ≤ 20) (hrc : ∀ k, k < cn → ∃ r, r < 6 ∧ b 11 k = nI r) : xc_Met l yX3_drop wsX3_drop 7 5 34 140 D u cI cII sa z0 L (cW u cI cII V pq sp cn e sz b L w nx) [.ref (u 30), .int f, .int k] kI (pPost u L z0 (cDrop (b, cn, List.map w L) f k)) (pPX u L z0 (cDrop (b, cn, List.map w L) f k)) := by
  suffices h9 : ∀ L0, L0 = L → xc_Met l yX3_drop wsX3_drop 7 5 34 140 D u cI cII sa z0 L0 (cW u cI cII V pq sp cn e sz b L w nx) [.ref (u 30), .int f, .int k] kI (pPost u L z0 (cDrop (b, cn, List.map w L) f k)) (pPX u L z0 (cDrop (b, cn, List.map w L) f k)) by exact h9 _ rfl
  intro L0 hL0
  have hLz : ∀ a, a ∈ L → a ∈ L0 ∨ z0 ≤ a := fun a z => Or.inl (by rw [hL0]; exact z)
  refine xc_start rfl (by decide +kernel) (Nat.le_of_ble_eq_true rfl) (fun p e9 s m below meth c F hr hlocks hK hz H locs hP hS hz9 hX hout ls hl => ?_)
  have hl : lv_has ls 3 [(0, .ref (u 30)), (1, .int f), (2, .int k)] := hl
  have hx := F.1
  have hb := F.2.1
  have hinV : ∀ w ∈ wsX00, w ∈ wsX3_drop := by decide +kernel
  have hinO : ∀ w ∈ wsX30, w ∈ wsX3_drop := by decide +kernel
  have hinK : ∀ w ∈ wsX20, w ∈ wsX3_drop := by decide +kernel
  have hinW : ∀ w ∈ wsX10, w ∈ wsX3_drop := by decide +kernel
  refine lv_iload_n hx hb dX3_drop_0 rfl (lv_at hl 1 rfl) ?_
  refine lv_iconst (v := 5) hx hb dX3_drop_1 (by decide) ?_
  refine xc_callS F hK hX (Nat.le_trans (Nat.le_of_eq hz.symm) hS.1) [.int f, .int 5] (cc_X3_checkNumber hfl hN f 5 ) (va_cwS 2 F.2.2.2.2 gX3_drop_X3_checkNumber rfl rfl rfl (by decide +kernel) ⟨Nat.le_of_ble_eq_true rfl, Nat.le_of_ble_eq_true rfl⟩) hP hS (cG_sub hLz (Nat.le_trans (Nat.le_of_eq hz.symm) hS.1)) hout hlocks (fun E9 V9 pq9 sp9 cn9 e9' sz9 b9 L9 w9 nx9 h9 => pPX_of (b, cn, List.map w L) 1 (by simp [cDrop, cWr, ← hsz, h9.2.1]) (by decide) h9.1 (aS_of h9.2.2 ⟨rfl, rfl, rfl, he, hsz, hch, hN, fun x hx => hL0 ▸ hLz x hx⟩)) rfl hl.1 rfl (lv_room (Nat.le_of_ble_eq_true rfl)) ⟨(Nat.le_of_ble_eq_true rfl), (Nat.le_of_ble_eq_true rfl)⟩ (Nat.le_of_ble_eq_true rfl) (Nat.le_of_ble_eq_true rfl) dX3_drop_2 (fun r_w_1 ra_w_1 V_w_1 pc_w_1 sp_w_1 cc_w_1 e_w_1 sz_w_1 b_w_1 L_w_1 w_w_1 nx_w_1 H locs hp_w_1 hP hsz_w_1 hfr_w_1 hS => ?_)
  obtain ⟨hb_w_1, -, e2_w_1, e3_w_1, e4_w_1, e5_w_1, e6_w_1, e7_w_1, e8_w_1, e9_w_1, e10_w_1, e11_w_1⟩ := hp_w_1
  rw [e2_w_1, e3_w_1, e4_w_1, e5_w_1, e6_w_1, e7_w_1, e8_w_1, e9_w_1, e10_w_1, e11_w_1] at hP
  obtain ⟨jf, hjf, rfl⟩ := nOk_nat (k := 5) (by omega) rfl hb_w_1
  have njf : jn (nI jf) = jf := jn_nI (by omega)
  refine lv_iload_n hx hb dX3_drop_5 rfl (lv_at hl 2 rfl) ?_
  refine lv_aload_n hx hb dX3_drop_6 rfl (lv_at hl 0 rfl) ?_
  refine og_get F hK hinO (cPc hP) 6 (by decide) (by decide +kernel) rfl dX3_drop_7 ?_
  refine xc_callS F hK hX (Nat.le_trans (Nat.le_of_eq hz.symm) hS.1) [.int k, .int (nI cn)] (cc_X3_checkNumber hfl hN k (nI cn) ) (va_cwS 2 F.2.2.2.2 gX3_drop_X3_checkNumber rfl rfl rfl (by decide +kernel) ⟨Nat.le_of_ble_eq_true rfl, Nat.le_of_ble_eq_true rfl⟩) hP hS (cG_sub hLz (Nat.le_trans (Nat.le_of_eq hz.symm) hS.1)) hout hlocks (fun E9 V9 pq9 sp9 cn9 e9' sz9 b9 L9 w9 nx9 h9 => pPX_of (b, cn, List.map w L) 1 (by simp [cDrop, cWr, hb_w_1, njf, ← hsz, h9.2.1]) (by decide) h9.1 (aS_of h9.2.2 ⟨rfl, rfl, rfl, he, hsz, hch, hN, fun x hx => hL0 ▸ hLz x hx⟩)) rfl hl.1 rfl (lv_room (Nat.le_of_ble_eq_true rfl)) ⟨(Nat.le_of_ble_eq_true rfl), (Nat.le_of_ble_eq_true rfl)⟩ (Nat.le_of_ble_eq_true rfl) (Nat.le_of_ble_eq_true rfl) dX3_drop_10 (fun r_w_2 ra_w_2 V_w_2 pc_w_2 sp_w_2 cc_w_2 e_w_2 sz_w_2 b_w_2 L_w_2 w_w_2 nx_w_2 H locs hp_w_2 hP hsz_w_2 hfr_w_2 hS => ?_)
  obtain ⟨hb_w_2, -, e2_w_2, e3_w_2, e4_w_2, e5_w_2, e6_w_2, e7_w_2, e8_w_2, e9_w_2, e10_w_2, e11_w_2⟩ := hp_w_2
  rw [e2_w_2, e3_w_2, e4_w_2, e5_w_2, e6_w_2, e7_w_2, e8_w_2, e9_w_2, e10_w_2, e11_w_2] at hP
  obtain ⟨jk, hjk, rfl⟩ := nOk_nat (k := cn) (by omega) rfl hb_w_2
  have njk : jn (nI jk) = jk := jn_nI (by omega)
  refine lv_aload_n hx hb dX3_drop_13 rfl (lv_at hl 0 rfl) ?_
  refine lv_iload_n hx hb dX3_drop_14 rfl (lv_at hl 1 rfl) ?_
  refine cw_callV F hK [.int (nI jf)] (cc_X3_lookAs hN jf (by first | assumption | omega) (by first | assumption | omega) (by first | assumption | omega)) (cwV 1 F.2.2.2.2 gX3_drop_X3_lookAs rfl rfl rfl (by decide +kernel) ⟨Nat.le_of_ble_eq_true rfl, Nat.le_of_ble_eq_true rfl⟩) (og_rc hK (cPc hP)) hP hS (cG_sub hLz (Nat.le_trans (Nat.le_of_eq hz.symm) hS.1)) rfl hl.1 rfl (lv_room (Nat.le_of_ble_eq_true rfl)) ⟨Nat.le_of_ble_eq_true rfl, Nat.le_of_ble_eq_true rfl⟩ dX3_drop_15 (fun r_w_3 ra_w_3 V_w_3 pc_w_3 sp_w_3 cc_w_3 e_w_3 sz_w_3 b_w_3 L_w_3 w_w_3 nx_w_3 H locs hp_w_3 hP hsz_w_3 hfr_w_3 hS => ?_)
  obtain ⟨-, e2_w_3, e3_w_3, e4_w_3, e5_w_3, e6_w_3, e7_w_3, e8_w_3, e9_w_3, e10_w_3, e11_w_3⟩ := hp_w_3
  rw [e2_w_3, e3_w_3, e4_w_3, e5_w_3, e6_w_3, e7_w_3, e8_w_3, e9_w_3, e10_w_3, e11_w_3] at hP
  obtain ⟨V1, pq1, sp1, hlk⟩ : ∃ V1 pq1 sp1, cLk b (List.map w L) (nI jf) = (V1, pq1, sp1) := ⟨_, _, _, rfl⟩
  have hlk9 : rdV w ((1 : Int32) <<< (nI jf &&& 31)) (b 12) L = (V1, pq1, sp1) := (rdV_A _ _ _ _).trans hlk
  have hP : va_P D vwCl (cW u cI cII V1 pq1 sp1 cn e sz b L w nx) H := by rw [hlk9] at hP; exact hP
  refine lv_aload_n hx hb dX3_drop_18 rfl (lv_at hl 0 rfl) ?_
  refine lv_iload_n hx hb dX3_drop_19 rfl (lv_at hl 2 rfl) ?_
  refine xc_callV F hK hX (Nat.le_trans (Nat.le_of_eq hz.symm) hS.1) [.int (nI jk)] (cc_X3_checkOpen hfl hN jk (by first | assumption | omega)) (cwV 1 F.2.2.2.2 gX3_drop_X3_checkOpen rfl rfl rfl (by decide +kernel) ⟨Nat.le_of_ble_eq_true rfl, Nat.le_of_ble_eq_true rfl⟩) (og_rc hK (cPc hP)) hP hS (cG_sub hLz (Nat.le_trans (Nat.le_of_eq hz.symm) hS.1)) hout hlocks (fun E9 V9 pq9 sp9 cn9 e9' sz9 b9 L9 w9 nx9 h9 => pPX_of (b, cn, List.map w L) 3 (by simp [cDrop, cWr, hb_w_1, njf, hb_w_2, njk, hlk, ← hsz, h9.2.1]) (by decide) h9.1 (aS_of h9.2.2 ⟨rfl, rfl, rfl, he, hsz, hch, hN, fun x hx => hL0 ▸ hLz x hx⟩)) rfl hl.1 rfl (lv_room (Nat.le_of_ble_eq_true rfl)) ⟨(Nat.le_of_ble_eq_true rfl), (Nat.le_of_ble_eq_true rfl)⟩ (Nat.le_of_ble_eq_true rfl) (Nat.le_of_ble_eq_true rfl) dX3_drop_20 (fun r_w_4 ra_w_4 V_w_4 pc_w_4 sp_w_4 cc_w_4 e_w_4 sz_w_4 b_w_4 L_w_4 w_w_4 nx_w_4 H locs hp_w_4 hP hsz_w_4 hfr_w_4 hS => ?_)
  obtain ⟨hb_w_4, -, e2_w_4, e3_w_4, e4_w_4, e5_w_4, e6_w_4, e7_w_4, e8_w_4, e9_w_4, e10_w_4, e11_w_4⟩ := hp_w_4
  rw [e2_w_4, e3_w_4, e4_w_4, e5_w_4, e6_w_4, e7_w_4, e8_w_4, e9_w_4, e10_w_4, e11_w_4] at hP
  refine lv_aload_n hx hb dX3_drop_23 rfl (lv_at hl 0 rfl) ?_
  refine lv_iconst (v := 1) hx hb dX3_drop_24 (by decide) ?_
  refine xc_callV F hK hX (Nat.le_trans (Nat.le_of_eq hz.symm) hS.1) [.int 1] (cc_X3_checkRoomFor hfl hN 1 ) (cwV 1 F.2.2.2.2 gX3_drop_X3_checkRoomFor rfl rfl rfl (by decide +kernel) ⟨Nat.le_of_ble_eq_true rfl, Nat.le_of_ble_eq_true rfl⟩) (og_rc hK (cPc hP)) hP hS (cG_sub hLz (Nat.le_trans (Nat.le_of_eq hz.symm) hS.1)) hout hlocks (fun E9 V9 pq9 sp9 cn9 e9' sz9 b9 L9 w9 nx9 h9 => pPX_of (b, cn, List.map w L) 3 (by simp [cDrop, cWr, hb_w_1, njf, hb_w_2, njk, hlk, hb_w_4, ← hsz, h9.2.1]) (by decide) h9.1 (aS_of h9.2.2 ⟨rfl, rfl, rfl, he, hsz, hch, hN, fun x hx => hL0 ▸ hLz x hx⟩)) rfl hl.1 rfl (lv_room (Nat.le_of_ble_eq_true rfl)) ⟨(Nat.le_of_ble_eq_true rfl), (Nat.le_of_ble_eq_true rfl)⟩ (Nat.le_of_ble_eq_true rfl) (Nat.le_of_ble_eq_true rfl) dX3_drop_25 (fun r_w_5 ra_w_5 V_w_5 pc_w_5 sp_w_5 cc_w_5 e_w_5 sz_w_5 b_w_5 L_w_5 w_w_5 nx_w_5 H locs hp_w_5 hP hsz_w_5 hfr_w_5 hS => ?_)
  obtain ⟨hb_w_5, -, e2_w_5, e3_w_5, e4_w_5, e5_w_5, e6_w_5, e7_w_5, e8_w_5, e9_w_5, e10_w_5, e11_w_5⟩ := hp_w_5
  rw [e2_w_5, e3_w_5, e4_w_5, e5_w_5, e6_w_5, e7_w_5, e8_w_5, e9_w_5, e10_w_5, e11_w_5] at hP
  refine lv_aload_n hx hb dX3_drop_28 rfl (lv_at hl 0 rfl) ?_
  refine lv_iload_n hx hb dX3_drop_29 rfl (lv_at hl 1 rfl) ?_
  refine lv_iconst (v := 5) hx hb dX3_drop_30 (by decide) ?_
  refine lv_iconst (v := (-1)) hx hb dX3_drop_31 (by decide) ?_
  refine lv_iload_n hx hb dX3_drop_32 rfl (lv_at hl 2 rfl) ?_
  have hzo_w_6 : z0 ≤ Array.size H := Nat.le_trans (Nat.le_of_eq hz.symm) hS.1
  refine cw_callV F hK [.int (nI jf), .int 5, .int (-1), .int (nI jk)] (cc_X3_write hN jf 5 (-1) (nI jk) (by first | assumption | omega) (by first | assumption | omega) (by first | assumption | omega)) (cwV 4 F.2.2.2.2 gX3_drop_X3_write rfl rfl rfl (by decide +kernel) ⟨Nat.le_of_ble_eq_true rfl, Nat.le_of_ble_eq_true rfl⟩) (og_rc hK (cPc hP)) hP hS (cG_sub hLz (Nat.le_trans (Nat.le_of_eq hz.symm) hS.1)) rfl hl.1 rfl (lv_room (Nat.le_of_ble_eq_true rfl)) ⟨Nat.le_of_ble_eq_true rfl, Nat.le_of_ble_eq_true rfl⟩ dX3_drop_33 (fun r_w_6 ra_w_6 V_w_6 pc_w_6 sp_w_6 cc_w_6 e_w_6 sz_w_6 b_w_6 L_w_6 w_w_6 nx_w_6 H locs hp_w_6 hP hsz_w_6 hfr_w_6 hS => ?_)
  obtain ⟨e2_w_6, e3_w_6, e4_w_6, e5_w_6, e6_w_6, e7_w_6, e8_w_6, hw_w_6, hL_w_6, hch_w_6, hN_w_6, hra_w_6, hrz_w_6⟩ := hp_w_6
  rw [e2_w_6, e3_w_6, e4_w_6, e5_w_6, e6_w_6, e7_w_6, e8_w_6] at hP
  have hmem_w_6 : ra_w_6 ∈ L_w_6 := by rw [hL_w_6]; exact (insL_mem _ _ _ _).mpr (Or.inl rfl)
  have hws_w_6 : L_w_6.map w_w_6 = insA (mkW 5 (b 10 jf + 1) (nI jf) (-1) (nI jk)) (List.map w L) := by rw [hL_w_6, hw_w_6]; exact (insA_map hra_w_6).trans (congrArg (insA _) (rfl))
  have hlen_w_6 : sz + 1 = L_w_6.length := by rw [hL_w_6, insL_len, hsz]
  rw [hlen_w_6] at hP
  have hLz_w_6 : ∀ a, a ∈ L_w_6 → a ∈ L0 ∨ z0 ≤ a := fun a ha => by rw [hL_w_6] at ha; exact ((insL_mem _ _ _ _).mp ha).elim (fun q => Or.inr (by rw [q]; exact Nat.le_trans hzo_w_6 hrz_w_6)) (hLz a)
  refine lv_pop hx hb dX3_drop_36 rfl ?_
  refine lv_aload_n hx hb dX3_drop_37 rfl (lv_at hl 0 rfl) ?_
  refine lv_iload_n hx hb dX3_drop_38 rfl (lv_at hl 2 rfl) ?_
  refine ro_callV F hK [.int (nI jk)] (cc_X3_keptInAll (cPv hP) (cPc hP) (nI jk) ) (cwV 1 F.2.2.2.2 gX3_drop_X3_keptInAll rfl rfl rfl (by decide +kernel) ⟨Nat.le_of_ble_eq_true rfl, Nat.le_of_ble_eq_true rfl⟩) (og_rc hK (cPc hP)) rfl hl.1 rfl (lv_room (Nat.le_of_ble_eq_true rfl)) ⟨Nat.le_of_ble_eq_true rfl, Nat.le_of_ble_eq_true rfl⟩ dX3_drop_39 ?_
  refine vx_ret ?_
  exact cw_reti F hr hlocks hP hS (pPost_of (upA b 10 jf (b 10 jf + 1), cn, insA (mkW 5 (b 10 jf + 1) (nI jf) (-1) (nI jk)) (List.map w L)) (by simp [cDrop, cWr, hb_w_1, njf, hb_w_2, njk, hlk, hb_w_4, hb_w_5, hw_w_6, stW, mkW, ← hsz, bI]) ⟨rfl, rfl, hws_w_6, rfl, rfl, hch_w_6, hN_w_6, fun x hx => hL0 ▸ hLz_w_6 x hx⟩) (by omega) (by omega) dX3_drop_42
def cPlan (cs : CS) (f : Int32) (r : Int32) (d : Int32) : OP :=
  if nOk f 5 = false then (1, 0, cs) else if nOk r 6 = false then (1, 0, cs) else if rOk d 0 99 = false then (2, 0, cs) else if cDis (cLk cs.1 cs.2.2 f).1 cs.1 (jn r) d = true then (3, 0, cs) else if 20 ≤ cs.2.1 then (3, 0, cs) else if roomOk cs.2.2.length 1 = false then (3, 0, cs) else (0, nI cs.2.1, cWr (upA (upA cs.1 11 cs.2.1 r) 12 cs.2.1 d, cs.2.1 + 1, cs.2.2) f 3 (-1) (nI cs.2.1))
set_option maxHeartbeats 4000000 in
set_option maxRecDepth 100000 in
theorem cc_X3_plan {l : Launch} (hfl : l.stackTraces = false) {D : va_G} {cI cII : ClassId} {sa : Nat → Nat} {u : Nat → Nat} {V : Nat → Nat → Int32} {pq sp : Int32} {cn : Nat} {e : Option Nat} {sz : Nat} {b : Nat → Nat → Int32} {L : List Nat} {w : Nat → Nat → Int32} {nx : Nat → Option Nat} {z0 : Nat} (hN : (cAd u ++ L).Nodup) (f : Int32) (r : Int32) (d : Int32) (hch : chn nx L) (he : e = L.head?) (hsz : sz = L.length) (hok : ∀ x, x ∈ L → okW (w x)) (hcn : cn ≤ 20) (hrc : ∀ k, k < cn → ∃ r, r < 6 ∧ b 11 k = nI r) : xc_Met l yX3_plan wsX3_plan 7 5 34 140 D u cI cII sa z0 L (cW u cI cII V pq sp cn e sz b L w nx) [.ref (u 30), .int f, .int r, .int d] kI (pPost u L z0 (cPlan (b, cn, List.map w L) f r d)) (pPX u L z0 (cPlan (b, cn, List.map w L) f r d)) := by
  suffices h9 : ∀ L0, L0 = L → xc_Met l yX3_plan wsX3_plan 7 5 34 140 D u cI cII sa z0 L0 (cW u cI cII V pq sp cn e sz b L w nx) [.ref (u 30), .int f, .int r, .int d] kI (pPost u L z0 (cPlan (b, cn, List.map w L) f r d)) (pPX u L z0 (cPlan (b, cn, List.map w L) f r d)) by exact h9 _ rfl
  intro L0 hL0
  have hLz : ∀ a, a ∈ L → a ∈ L0 ∨ z0 ≤ a := fun a z => Or.inl (by rw [hL0]; exact z)
  refine xc_start rfl (by decide +kernel) (Nat.le_of_ble_eq_true rfl) (fun p e9 s m below meth c F hr hlocks hK hz H locs hP hS hz9 hX hout ls hl => ?_)
  have hl : lv_has ls 5 [(0, .ref (u 30)), (1, .int f), (2, .int r), (3, .int d)] := hl
  have hx := F.1
  have hb := F.2.1
  have hinV : ∀ w ∈ wsX00, w ∈ wsX3_plan := by decide +kernel
  have hinO : ∀ w ∈ wsX30, w ∈ wsX3_plan := by decide +kernel
  have hinK : ∀ w ∈ wsX20, w ∈ wsX3_plan := by decide +kernel
  have hinW : ∀ w ∈ wsX10, w ∈ wsX3_plan := by decide +kernel
  refine lv_iload_n hx hb dX3_plan_0 rfl (lv_at hl 1 rfl) ?_
  refine lv_iconst (v := 5) hx hb dX3_plan_1 (by decide) ?_
  refine xc_callS F hK hX (Nat.le_trans (Nat.le_of_eq hz.symm) hS.1) [.int f, .int 5] (cc_X3_checkNumber hfl hN f 5 ) (va_cwS 2 F.2.2.2.2 gX3_plan_X3_checkNumber rfl rfl rfl (by decide +kernel) ⟨Nat.le_of_ble_eq_true rfl, Nat.le_of_ble_eq_true rfl⟩) hP hS (cG_sub hLz (Nat.le_trans (Nat.le_of_eq hz.symm) hS.1)) hout hlocks (fun E9 V9 pq9 sp9 cn9 e9' sz9 b9 L9 w9 nx9 h9 => pPX_of (b, cn, List.map w L) 1 (by simp [cPlan, cWr, ← hsz, h9.2.1]) (by decide) h9.1 (aS_of h9.2.2 ⟨rfl, rfl, rfl, he, hsz, hch, hN, fun x hx => hL0 ▸ hLz x hx⟩)) rfl hl.1 rfl (lv_room (Nat.le_of_ble_eq_true rfl)) ⟨(Nat.le_of_ble_eq_true rfl), (Nat.le_of_ble_eq_true rfl)⟩ (Nat.le_of_ble_eq_true rfl) (Nat.le_of_ble_eq_true rfl) dX3_plan_2 (fun r_w_1 ra_w_1 V_w_1 pc_w_1 sp_w_1 cc_w_1 e_w_1 sz_w_1 b_w_1 L_w_1 w_w_1 nx_w_1 H locs hp_w_1 hP hsz_w_1 hfr_w_1 hS => ?_)
  obtain ⟨hb_w_1, -, e2_w_1, e3_w_1, e4_w_1, e5_w_1, e6_w_1, e7_w_1, e8_w_1, e9_w_1, e10_w_1, e11_w_1⟩ := hp_w_1
  rw [e2_w_1, e3_w_1, e4_w_1, e5_w_1, e6_w_1, e7_w_1, e8_w_1, e9_w_1, e10_w_1, e11_w_1] at hP
  obtain ⟨jf, hjf, rfl⟩ := nOk_nat (k := 5) (by omega) rfl hb_w_1
  have njf : jn (nI jf) = jf := jn_nI (by omega)
  refine lv_iload_n hx hb dX3_plan_5 rfl (lv_at hl 2 rfl) ?_
  refine lv_bipush (v := 6) hx hb dX3_plan_6 (by decide) ?_
  refine xc_callS F hK hX (Nat.le_trans (Nat.le_of_eq hz.symm) hS.1) [.int r, .int 6] (cc_X3_checkNumber hfl hN r 6 ) (va_cwS 2 F.2.2.2.2 gX3_plan_X3_checkNumber rfl rfl rfl (by decide +kernel) ⟨Nat.le_of_ble_eq_true rfl, Nat.le_of_ble_eq_true rfl⟩) hP hS (cG_sub hLz (Nat.le_trans (Nat.le_of_eq hz.symm) hS.1)) hout hlocks (fun E9 V9 pq9 sp9 cn9 e9' sz9 b9 L9 w9 nx9 h9 => pPX_of (b, cn, List.map w L) 1 (by simp [cPlan, cWr, hb_w_1, njf, ← hsz, h9.2.1]) (by decide) h9.1 (aS_of h9.2.2 ⟨rfl, rfl, rfl, he, hsz, hch, hN, fun x hx => hL0 ▸ hLz x hx⟩)) rfl hl.1 rfl (lv_room (Nat.le_of_ble_eq_true rfl)) ⟨(Nat.le_of_ble_eq_true rfl), (Nat.le_of_ble_eq_true rfl)⟩ (Nat.le_of_ble_eq_true rfl) (Nat.le_of_ble_eq_true rfl) dX3_plan_8 (fun r_w_2 ra_w_2 V_w_2 pc_w_2 sp_w_2 cc_w_2 e_w_2 sz_w_2 b_w_2 L_w_2 w_w_2 nx_w_2 H locs hp_w_2 hP hsz_w_2 hfr_w_2 hS => ?_)
  obtain ⟨hb_w_2, -, e2_w_2, e3_w_2, e4_w_2, e5_w_2, e6_w_2, e7_w_2, e8_w_2, e9_w_2, e10_w_2, e11_w_2⟩ := hp_w_2
  rw [e2_w_2, e3_w_2, e4_w_2, e5_w_2, e6_w_2, e7_w_2, e8_w_2, e9_w_2, e10_w_2, e11_w_2] at hP
  obtain ⟨jr, hjr, rfl⟩ := nOk_nat (k := 6) (by omega) rfl hb_w_2
  have njr : jn (nI jr) = jr := jn_nI (by omega)
  refine lv_iload_n hx hb dX3_plan_11 rfl (lv_at hl 3 rfl) ?_
  refine lv_iconst (v := 0) hx hb dX3_plan_12 (by decide) ?_
  refine lv_bipush (v := 99) hx hb dX3_plan_13 (by decide) ?_
  refine xc_callS F hK hX (Nat.le_trans (Nat.le_of_eq hz.symm) hS.1) [.int d, .int 0, .int 99] (cc_X3_checkRange hfl hN d 0 99 ) (va_cwS 3 F.2.2.2.2 gX3_plan_X3_checkRange rfl rfl rfl (by decide +kernel) ⟨Nat.le_of_ble_eq_true rfl, Nat.le_of_ble_eq_true rfl⟩) hP hS (cG_sub hLz (Nat.le_trans (Nat.le_of_eq hz.symm) hS.1)) hout hlocks (fun E9 V9 pq9 sp9 cn9 e9' sz9 b9 L9 w9 nx9 h9 => pPX_of (b, cn, List.map w L) 2 (by simp [cPlan, cWr, hb_w_1, njf, hb_w_2, njr, ← hsz, h9.2.1]) (by decide) h9.1 (aS_of h9.2.2 ⟨rfl, rfl, rfl, he, hsz, hch, hN, fun x hx => hL0 ▸ hLz x hx⟩)) rfl hl.1 rfl (lv_room (Nat.le_of_ble_eq_true rfl)) ⟨(Nat.le_of_ble_eq_true rfl), (Nat.le_of_ble_eq_true rfl)⟩ (Nat.le_of_ble_eq_true rfl) (Nat.le_of_ble_eq_true rfl) dX3_plan_15 (fun r_w_3 ra_w_3 V_w_3 pc_w_3 sp_w_3 cc_w_3 e_w_3 sz_w_3 b_w_3 L_w_3 w_w_3 nx_w_3 H locs hp_w_3 hP hsz_w_3 hfr_w_3 hS => ?_)
  obtain ⟨hb_w_3, -, e2_w_3, e3_w_3, e4_w_3, e5_w_3, e6_w_3, e7_w_3, e8_w_3, e9_w_3, e10_w_3, e11_w_3⟩ := hp_w_3
  rw [e2_w_3, e3_w_3, e4_w_3, e5_w_3, e6_w_3, e7_w_3, e8_w_3, e9_w_3, e10_w_3, e11_w_3] at hP
  refine lv_aload_n hx hb dX3_plan_18 rfl (lv_at hl 0 rfl) ?_
  refine lv_iload_n hx hb dX3_plan_19 rfl (lv_at hl 1 rfl) ?_
  refine cw_callV F hK [.int (nI jf)] (cc_X3_lookAs hN jf (by first | assumption | omega) (by first | assumption | omega) (by first | assumption | omega)) (cwV 1 F.2.2.2.2 gX3_plan_X3_lookAs rfl rfl rfl (by decide +kernel) ⟨Nat.le_of_ble_eq_true rfl, Nat.le_of_ble_eq_true rfl⟩) (og_rc hK (cPc hP)) hP hS (cG_sub hLz (Nat.le_trans (Nat.le_of_eq hz.symm) hS.1)) rfl hl.1 rfl (lv_room (Nat.le_of_ble_eq_true rfl)) ⟨Nat.le_of_ble_eq_true rfl, Nat.le_of_ble_eq_true rfl⟩ dX3_plan_20 (fun r_w_4 ra_w_4 V_w_4 pc_w_4 sp_w_4 cc_w_4 e_w_4 sz_w_4 b_w_4 L_w_4 w_w_4 nx_w_4 H locs hp_w_4 hP hsz_w_4 hfr_w_4 hS => ?_)
  obtain ⟨-, e2_w_4, e3_w_4, e4_w_4, e5_w_4, e6_w_4, e7_w_4, e8_w_4, e9_w_4, e10_w_4, e11_w_4⟩ := hp_w_4
  rw [e2_w_4, e3_w_4, e4_w_4, e5_w_4, e6_w_4, e7_w_4, e8_w_4, e9_w_4, e10_w_4, e11_w_4] at hP
  obtain ⟨V1, pq1, sp1, hlk⟩ : ∃ V1 pq1 sp1, cLk b (List.map w L) (nI jf) = (V1, pq1, sp1) := ⟨_, _, _, rfl⟩
  have hlk9 : rdV w ((1 : Int32) <<< (nI jf &&& 31)) (b 12) L = (V1, pq1, sp1) := (rdV_A _ _ _ _).trans hlk
  have hP : va_P D vwCl (cW u cI cII V1 pq1 sp1 cn e sz b L w nx) H := by rw [hlk9] at hP; exact hP
  refine lv_aload_n hx hb dX3_plan_23 rfl (lv_at hl 0 rfl) ?_
  refine lv_iload_n hx hb dX3_plan_24 rfl (lv_at hl 2 rfl) ?_
  refine lv_iload_n hx hb dX3_plan_25 rfl (lv_at hl 3 rfl) ?_
  refine ro_callV F hK [.int (nI jr), .int d] (cc_X3_isDisliked (cPv hP) (cPc hP) jr d (by first | assumption | omega)) (cwV 2 F.2.2.2.2 gX3_plan_X3_isDisliked rfl rfl rfl (by decide +kernel) ⟨Nat.le_of_ble_eq_true rfl, Nat.le_of_ble_eq_true rfl⟩) (og_rc hK (cPc hP)) rfl hl.1 rfl (lv_room (Nat.le_of_ble_eq_true rfl)) ⟨Nat.le_of_ble_eq_true rfl, Nat.le_of_ble_eq_true rfl⟩ dX3_plan_26 ?_
  refine lw_beq (tgt := 42) hx hb dX3_plan_29 (by decide) (fun c_5 => ?_) (fun c_5 => ?_)
  · skip
    refine lv_aload_n hx hb dX3_plan_42 rfl (lv_at hl 0 rfl) ?_
    refine og_get F hK hinO (cPc hP) 6 (by decide) (by decide +kernel) rfl dX3_plan_43 ?_
    refine lv_bipush (v := 20) hx hb dX3_plan_46 (by decide) ?_
    refine lw_lt (tgt := 61) hx hb cn 20 (by omega) (by omega) dX3_plan_48 (by decide) (fun c_6 => ?_) (fun c_6 => ?_)
    · skip
      refine lv_aload_n hx hb dX3_plan_61 rfl (lv_at hl 0 rfl) ?_
      refine lv_iconst (v := 1) hx hb dX3_plan_62 (by decide) ?_
      refine xc_callV F hK hX (Nat.le_trans (Nat.le_of_eq hz.symm) hS.1) [.int 1] (cc_X3_checkRoomFor hfl hN 1 ) (cwV 1 F.2.2.2.2 gX3_plan_X3_checkRoomFor rfl rfl rfl (by decide +kernel) ⟨Nat.le_of_ble_eq_true rfl, Nat.le_of_ble_eq_true rfl⟩) (og_rc hK (cPc hP)) hP hS (cG_sub hLz (Nat.le_trans (Nat.le_of_eq hz.symm) hS.1)) hout hlocks (fun E9 V9 pq9 sp9 cn9 e9' sz9 b9 L9 w9 nx9 h9 => pPX_of (b, cn, List.map w L) 3 (by simp [cPlan, cWr, hb_w_1, njf, hb_w_2, njr, hb_w_3, hlk, c_5, c_6, ← hsz, h9.2.1]) (by decide) h9.1 (aS_of h9.2.2 ⟨rfl, rfl, rfl, he, hsz, hch, hN, fun x hx => hL0 ▸ hLz x hx⟩)) rfl hl.1 rfl (lv_room (Nat.le_of_ble_eq_true rfl)) ⟨(Nat.le_of_ble_eq_true rfl), (Nat.le_of_ble_eq_true rfl)⟩ (Nat.le_of_ble_eq_true rfl) (Nat.le_of_ble_eq_true rfl) dX3_plan_63 (fun r_w_7 ra_w_7 V_w_7 pc_w_7 sp_w_7 cc_w_7 e_w_7 sz_w_7 b_w_7 L_w_7 w_w_7 nx_w_7 H locs hp_w_7 hP hsz_w_7 hfr_w_7 hS => ?_)
      obtain ⟨hb_w_7, -, e2_w_7, e3_w_7, e4_w_7, e5_w_7, e6_w_7, e7_w_7, e8_w_7, e9_w_7, e10_w_7, e11_w_7⟩ := hp_w_7
      rw [e2_w_7, e3_w_7, e4_w_7, e5_w_7, e6_w_7, e7_w_7, e8_w_7, e9_w_7, e10_w_7, e11_w_7] at hP
      refine lv_aload_n hx hb dX3_plan_66 rfl (lv_at hl 0 rfl) ?_
      refine og_get F hK hinO (cPc hP) 6 (by decide) (by decide +kernel) rfl dX3_plan_67 ?_
      refine lv_istore (lv' := [(4, .int (nI cn)), (0, .ref (u 30)), (1, .int (nI jf)), (2, .int (nI jr)), (3, .int d)]) hx hb dX3_plan_70 hl (by decide) rfl (fun ls hl => ?_)
      refine lv_aload_n hx hb dX3_plan_72 rfl (lv_at hl 1 rfl) ?_
      refine lv_dup hx hb dX3_plan_73 rfl ?_
      refine og_get F hK hinO (cPc hP) 6 (by decide) (by decide +kernel) rfl dX3_plan_74 ?_
      refine lv_iconst (v := 1) hx hb dX3_plan_77 (by decide) ?_
      refine lw_add hx hb (i := cn) (j := 1) dX3_plan_78 ?_
      refine op_put F hK hinO hN (cG_in hLz) hP hS (cn + 1) (by decide +kernel) dX3_plan_79 (fun H locs hP hS => ?_)
      refine lv_aload_n hx hb dX3_plan_82 rfl (lv_at hl 1 rfl) ?_
      refine og_get F hK hinO (cPc hP) 4 (by decide) (by decide +kernel) rfl dX3_plan_83 ?_
      refine lv_iload hx hb dX3_plan_86 (lv_at hl 0 rfl) ?_
      refine lv_iload_n hx hb dX3_plan_88 rfl (lv_at hl 3 rfl) ?_
      refine cp_ast F hK hN (cG_in hLz) hP hS 11 12 20 rfl cn rfl (by omega) (by decide) rfl dX3_plan_89 (fun H locs hP hS => ?_)
      refine lv_aload_n hx hb dX3_plan_90 rfl (lv_at hl 1 rfl) ?_
      refine og_get F hK hinO (cPc hP) 5 (by decide) (by decide +kernel) rfl dX3_plan_91 ?_
      refine lv_iload hx hb dX3_plan_94 (lv_at hl 0 rfl) ?_
      refine lv_iload_n hx hb dX3_plan_96 rfl (lv_at hl 4 rfl) ?_
      refine cp_ast F hK hN (cG_in hLz) hP hS 12 13 20 rfl cn rfl (by omega) (by decide) rfl dX3_plan_97 (fun H locs hP hS => ?_)
      refine lv_aload_n hx hb dX3_plan_98 rfl (lv_at hl 1 rfl) ?_
      refine lv_iload_n hx hb dX3_plan_99 rfl (lv_at hl 2 rfl) ?_
      refine lv_iconst (v := 3) hx hb dX3_plan_100 (by decide) ?_
      refine lv_iconst (v := (-1)) hx hb dX3_plan_101 (by decide) ?_
      refine lv_iload hx hb dX3_plan_102 (lv_at hl 0 rfl) ?_
      have hzo_w_8 : z0 ≤ Array.size H := Nat.le_trans (Nat.le_of_eq hz.symm) hS.1
      refine cw_callV F hK [.int (nI jf), .int 3, .int (-1), .int (nI cn)] (cc_X3_write hN jf 3 (-1) (nI cn) (by first | assumption | omega) (by first | assumption | omega) (by first | assumption | omega)) (cwV 4 F.2.2.2.2 gX3_plan_X3_write rfl rfl rfl (by decide +kernel) ⟨Nat.le_of_ble_eq_true rfl, Nat.le_of_ble_eq_true rfl⟩) (og_rc hK (cPc hP)) hP hS (cG_sub hLz (Nat.le_trans (Nat.le_of_eq hz.symm) hS.1)) rfl hl.1 rfl (lv_room (Nat.le_of_ble_eq_true rfl)) ⟨Nat.le_of_ble_eq_true rfl, Nat.le_of_ble_eq_true rfl⟩ dX3_plan_104 (fun r_w_8 ra_w_8 V_w_8 pc_w_8 sp_w_8 cc_w_8 e_w_8 sz_w_8 b_w_8 L_w_8 w_w_8 nx_w_8 H locs hp_w_8 hP hsz_w_8 hfr_w_8 hS => ?_)
      obtain ⟨e2_w_8, e3_w_8, e4_w_8, e5_w_8, e6_w_8, e7_w_8, e8_w_8, hw_w_8, hL_w_8, hch_w_8, hN_w_8, hra_w_8, hrz_w_8⟩ := hp_w_8
      rw [e2_w_8, e3_w_8, e4_w_8, e5_w_8, e6_w_8, e7_w_8, e8_w_8] at hP
      have hmem_w_8 : ra_w_8 ∈ L_w_8 := by rw [hL_w_8]; exact (insL_mem _ _ _ _).mpr (Or.inl rfl)
      have hws_w_8 : L_w_8.map w_w_8 = insA (mkW 3 ((upA (upA b 11 cn (nI jr)) 12 cn d) 10 jf + 1) (nI jf) (-1) (nI cn)) (List.map w L) := by rw [hL_w_8, hw_w_8]; exact (insA_map hra_w_8).trans (congrArg (insA _) (rfl))
      have hlen_w_8 : sz + 1 = L_w_8.length := by rw [hL_w_8, insL_len, hsz]
      rw [hlen_w_8] at hP
      have hLz_w_8 : ∀ a, a ∈ L_w_8 → a ∈ L0 ∨ z0 ≤ a := fun a ha => by rw [hL_w_8] at ha; exact ((insL_mem _ _ _ _).mp ha).elim (fun q => Or.inr (by rw [q]; exact Nat.le_trans hzo_w_8 hrz_w_8)) (hLz a)
      refine lv_pop hx hb dX3_plan_107 rfl ?_
      refine lv_iload hx hb dX3_plan_108 (lv_at hl 0 rfl) ?_
      refine vx_ret ?_
      exact cw_reti F hr hlocks hP hS (pPost_of (upA (upA (upA b 11 cn (nI jr)) 12 cn d) 10 jf ((upA (upA b 11 cn (nI jr)) 12 cn d) 10 jf + 1), (cn + 1), insA (mkW 3 ((upA (upA b 11 cn (nI jr)) 12 cn d) 10 jf + 1) (nI jf) (-1) (nI cn)) (List.map w L)) (by simp [cPlan, cWr, hb_w_1, njf, hb_w_2, njr, hb_w_3, hlk, c_5, c_6, hb_w_7, hw_w_8, stW, mkW, ← hsz, bI]) ⟨rfl, rfl, hws_w_8, rfl, rfl, hch_w_8, hN_w_8, fun x hx => hL0 ▸ hLz_w_8 x hx⟩) (by omega) (by omega) dX3_plan_110
    · skip
      exact xt_throw F hfl hP hS hX hout hlocks hl.1 "java/lang/IllegalStateException" 53 126 57 8 "there are as many cakes as there can be" rfl (by decide +kernel) rfl (by decide +kernel) (by decide +kernel) (by decide +kernel) xn_IS xg_IS dX3_plan_51 dX3_plan_54 dX3_plan_55 dX3_plan_57 dX3_plan_60 ⟨(Nat.le_of_ble_eq_true rfl), (Nat.le_of_ble_eq_true rfl), (Nat.le_of_ble_eq_true rfl), (Nat.le_of_ble_eq_true rfl)⟩ (pPX_of (b, cn, List.map w L) 3 (by simp [cPlan, cWr, hb_w_1, njf, hb_w_2, njr, hb_w_3, hlk, c_5, c_6, ← hsz]) (by decide) rfl ⟨rfl, rfl, rfl, he, hsz, hch, hN, fun x hx => hL0 ▸ hLz x hx⟩) (Nat.le_of_ble_eq_true rfl) (Nat.le_of_ble_eq_true rfl)
  · skip
    exact xt_throw F hfl hP hS hX hout hlocks hl.1 "java/lang/IllegalStateException" 53 124 57 7 "a guest of this day dislikes a food of the recipe" rfl (by decide +kernel) rfl (by decide +kernel) (by decide +kernel) (by decide +kernel) xn_IS xg_IS dX3_plan_32 dX3_plan_35 dX3_plan_36 dX3_plan_38 dX3_plan_41 ⟨(Nat.le_of_ble_eq_true rfl), (Nat.le_of_ble_eq_true rfl), (Nat.le_of_ble_eq_true rfl), (Nat.le_of_ble_eq_true rfl)⟩ (pPX_of (b, cn, List.map w L) 3 (by simp [cPlan, cWr, hb_w_1, njf, hb_w_2, njr, hb_w_3, hlk, c_5, ← hsz]) (by decide) rfl ⟨rfl, rfl, rfl, he, hsz, hch, hN, fun x hx => hL0 ▸ hLz x hx⟩) (Nat.le_of_ble_eq_true rfl) (Nat.le_of_ble_eq_true rfl)
