/-! the public methods: what they do to the words, without addresses -/
abbrev CS : Type := (Nat → Nat → Int32) × Nat × List (Nat → Int32)
abbrev OP : Type := Nat × Int32 × CS
def rdA1 (fr : Int32) : List (Nat → Int32) → VS → VS
  | [], z => z
  | x :: M, z => rdA1 fr M (if x 8 &&& fr = 0 then z else hrS z x)
def rdA2 (fr : Int32) (dy : Nat → Int32) : List (Nat → Int32) → (Nat → Nat → Int32) → (Nat → Nat → Int32)
  | [], V => V
  | x :: M, V => rdA2 fr dy M (if x 0 = 4 then (if x 8 &&& fr = 0 then V else hkV V dy (jn (x 3)) (jn (x 4))) else V)
def rdA (fr : Int32) (dy : Nat → Int32) (ws : List (Nat → Int32)) : VS := (rdA2 fr dy ws (rdA1 fr ws (fgV, 0, 0)).1, (rdA1 fr ws (fgV, 0, 0)).2)
theorem rd1_A (w : Nat → Nat → Int32) (fr : Int32) : ∀ (L : List Nat) (z : VS), rd1 w fr L z = rdA1 fr (L.map w) z
  | [], _ => rfl
  | x :: M, z => by unfold rd1; rw [rd1_A w fr M]; rfl
theorem rd2_A (w : Nat → Nat → Int32) (fr : Int32) (dy : Nat → Int32) : ∀ (L : List Nat) (V : Nat → Nat → Int32), rd2 w fr dy L V = rdA2 fr dy (L.map w) V
  | [], _ => rfl
  | x :: M, V => by unfold rd2; rw [rd2_A w fr dy M]; rfl
theorem rdV_A (w : Nat → Nat → Int32) (fr : Int32) (dy : Nat → Int32) (L : List Nat) : rdV w fr dy L = rdA fr dy (L.map w) := by unfold rdV rdA; rw [rd1_A, rd2_A]
def cLk (b : Nat → Nat → Int32) (ws : List (Nat → Int32)) (f : Int32) : VS := rdA ((1 : Int32) <<< (f &&& 31)) (b 12) ws
def cLa (b : Nat → Nat → Int32) (ws : List (Nat → Int32)) : VS := rdA 31 (b 12) ws
def skA (fr : Int32) : List (Nat → Int32) → Nat
  | [] => 0
  | x :: M => (if x 8 &&& fr = 0 then 0 else 1) + skA fr M
theorem skF_A (w : Nat → Nat → Int32) (fr : Int32) : ∀ L : List Nat, skF w fr L = skA fr (L.map w)
  | [] => rfl
  | x :: M => by unfold skF; rw [skF_A w fr M]; rfl
def aS (u : Nat → Nat) (L0 : List Nat) (z0 : Nat) (cs : CS) : PostC := fun _ _ _ _ _ cn9 e9 sz9 b9 L9 w9 nx9 =>
  cn9 = cs.2.1 ∧ b9 = cs.1 ∧ L9.map w9 = cs.2.2 ∧ e9 = L9.head? ∧ sz9 = L9.length ∧ chn nx9 L9 ∧ (cAd u ++ L9).Nodup ∧ ∀ x, x ∈ L9 → x ∈ L0 ∨ z0 ≤ x
def pPost (u : Nat → Nat) (L0 : List Nat) (z0 : Nat) (op : OP) : PostC := fun r ra V9 pq9 sp9 cn9 e9 sz9 b9 L9 w9 nx9 => op.1 = 0 ∧ op.2.1 = r ∧ aS u L0 z0 op.2.2 r ra V9 pq9 sp9 cn9 e9 sz9 b9 L9 w9 nx9
def pPX (u : Nat → Nat) (L0 : List Nat) (z0 : Nat) (op : OP) : PostX := fun E r ra V9 pq9 sp9 cn9 e9 sz9 b9 L9 w9 nx9 => op.1 ≠ 0 ∧ E = eName op.1 ∧ aS u L0 z0 op.2.2 r ra V9 pq9 sp9 cn9 e9 sz9 b9 L9 w9 nx9
section PP
variable {u : Nat → Nat} {L0 : List Nat} {z0 : Nat} {op : OP} {cs : CS} {r : Int32} {ra : Nat} {V V9 : Nat → Nat → Int32} {pq sp pq9 sp9 : Int32} {cn cn9 : Nat} {e e9 : Option Nat} {sz sz9 : Nat} {b b9 : Nat → Nat → Int32} {L L9 : List Nat} {w w9 : Nat → Nat → Int32} {nx nx9 : Nat → Option Nat} {E : String} {k : Nat}
theorem aS_of (h9 : cEq 0 V pq sp cn e sz b L w nx 0 0 V9 pq9 sp9 cn9 e9 sz9 b9 L9 w9 nx9) (h : aS u L0 z0 cs 0 0 V pq sp cn e sz b L w nx) : aS u L0 z0 cs 0 0 V9 pq9 sp9 cn9 e9 sz9 b9 L9 w9 nx9 := by
  obtain ⟨-, rfl, rfl, rfl, rfl, rfl, rfl, rfl, rfl, rfl, rfl⟩ := h9
  exact h
theorem pPX_of (cs : CS) (k : Nat) (ho : op = (k, 0, cs)) (hk : k ≠ 0) (hE : E = eName k) (h : aS u L0 z0 cs 0 0 V9 pq9 sp9 cn9 e9 sz9 b9 L9 w9 nx9) : pPX u L0 z0 op E 0 0 V9 pq9 sp9 cn9 e9 sz9 b9 L9 w9 nx9 := by
  subst ho; exact ⟨hk, hE, h⟩
theorem pPost_of (cs : CS) (ho : op = (0, r, cs)) (h : aS u L0 z0 cs 0 0 V9 pq9 sp9 cn9 e9 sz9 b9 L9 w9 nx9) : pPost u L0 z0 op r ra V9 pq9 sp9 cn9 e9 sz9 b9 L9 w9 nx9 := by
  subst ho; exact ⟨rfl, rfl, h⟩
end PP
theorem nOk_nat {n bd : Int32} {k : Nat} (hk : k < 2 ^ 31) (hb : bd = nI k) (h : nOk n bd = true) : ∃ j, j < k ∧ n = nI j := by
  subst hb
  simp only [nOk, Bool.and_eq_true, Bool.not_eq_true', decide_eq_false_iff_not, decide_eq_true_eq] at h
  have h1 : (0 : Int) ≤ n.toInt := by
    have z := Int32.not_lt.mp h.1
    rw [Int32.le_iff_toInt_le] at z
    exact z
  have h2 : n.toInt < (nI k).toInt := Int32.lt_iff_toInt_lt.mp h.2
  have h3 : (nI k).toInt = k := nI_toInt hk
  refine ⟨n.toInt.toNat, by omega, ?_⟩
  rw [← Int32.toInt_inj, nI_toInt (by omega)]
  omega
def cWr (cs : CS) (f kd sb ck : Int32) : CS := (upA cs.1 10 (jn f) (cs.1 10 (jn f) + 1), cs.2.1, insA (mkW kd (cs.1 10 (jn f) + 1) f sb ck) cs.2.2)
def cWhere (cs : CS) (f : Int32) (t : Int32) : OP :=
  if nOk f 5 = false then (1, 0, cs) else if nOk t 40 = false then (1, 0, cs) else (0, (cLk cs.1 cs.2.2 f).1 0 (jn t), cs)
set_option maxHeartbeats 4000000 in
set_option maxRecDepth 100000 in
theorem cc_X3_where {l : Launch} (hfl : l.stackTraces = false) {D : va_G} {cI cII : ClassId} {sa : Nat → Nat} {u : Nat → Nat} {V : Nat → Nat → Int32} {pq sp : Int32} {cn : Nat} {e : Option Nat} {sz : Nat} {b : Nat → Nat → Int32} {L : List Nat} {w : Nat → Nat → Int32} {nx : Nat → Option Nat} {z0 : Nat} (hN : (cAd u ++ L).Nodup) (f : Int32) (t : Int32) (hch : chn nx L) (he : e = L.head?) (hsz : sz = L.length) (hok : ∀ x, x ∈ L → okW (w x)) (hcn : cn ≤ 20) (hrc : ∀ k, k < cn → ∃ r, r < 6 ∧ b 11 k = nI r) : xc_Met l yX3_where wsX3_where 7 2 12 140 D u cI cII sa z0 L (cW u cI cII V pq sp cn e sz b L w nx) [.ref (u 30), .int f, .int t] kI (pPost u L z0 (cWhere (b, cn, List.map w L) f t)) (pPX u L z0 (cWhere (b, cn, List.map w L) f t)) := by
  suffices h9 : ∀ L0, L0 = L → xc_Met l yX3_where wsX3_where 7 2 12 140 D u cI cII sa z0 L0 (cW u cI cII V pq sp cn e sz b L w nx) [.ref (u 30), .int f, .int t] kI (pPost u L z0 (cWhere (b, cn, List.map w L) f t)) (pPX u L z0 (cWhere (b, cn, List.map w L) f t)) by exact h9 _ rfl
  intro L0 hL0
  have hLz : ∀ a, a ∈ L → a ∈ L0 ∨ z0 ≤ a := fun a z => Or.inl (by rw [hL0]; exact z)
  refine xc_start rfl (by decide +kernel) (Nat.le_of_ble_eq_true rfl) (fun p e9 s m below meth c F hr hlocks hK hz H locs hP hS hz9 hX hout ls hl => ?_)
  have hl : lv_has ls 3 [(0, .ref (u 30)), (1, .int f), (2, .int t)] := hl
  have hx := F.1
  have hb := F.2.1
  have hinV : ∀ w ∈ wsX00, w ∈ wsX3_where := by decide +kernel
  have hinO : ∀ w ∈ wsX30, w ∈ wsX3_where := by decide +kernel
  have hinK : ∀ w ∈ wsX20, w ∈ wsX3_where := by decide +kernel
  have hinW : ∀ w ∈ wsX10, w ∈ wsX3_where := by decide +kernel
  refine lv_iload_n hx hb dX3_where_0 rfl (lv_at hl 1 rfl) ?_
  refine lv_iconst (v := 5) hx hb dX3_where_1 (by decide) ?_
  refine xc_callS F hK hX (Nat.le_trans (Nat.le_of_eq hz.symm) hS.1) [.int f, .int 5] (cc_X3_checkNumber hfl hN f 5 ) (va_cwS 2 F.2.2.2.2 gX3_where_X3_checkNumber rfl rfl rfl (by decide +kernel) ⟨Nat.le_of_ble_eq_true rfl, Nat.le_of_ble_eq_true rfl⟩) hP hS (cG_sub hLz (Nat.le_trans (Nat.le_of_eq hz.symm) hS.1)) hout hlocks (fun E9 V9 pq9 sp9 cn9 e9' sz9 b9 L9 w9 nx9 h9 => pPX_of (b, cn, List.map w L) 1 (by simp [cWhere, cWr, ← hsz, h9.2.1]) (by decide) h9.1 (aS_of h9.2.2 ⟨rfl, rfl, rfl, he, hsz, hch, hN, fun x hx => hL0 ▸ hLz x hx⟩)) rfl hl.1 rfl (lv_room (Nat.le_of_ble_eq_true rfl)) ⟨(Nat.le_of_ble_eq_true rfl), (Nat.le_of_ble_eq_true rfl)⟩ (Nat.le_of_ble_eq_true rfl) (Nat.le_of_ble_eq_true rfl) dX3_where_2 (fun r_w_1 ra_w_1 V_w_1 pc_w_1 sp_w_1 cc_w_1 e_w_1 sz_w_1 b_w_1 L_w_1 w_w_1 nx_w_1 H locs hp_w_1 hP hsz_w_1 hfr_w_1 hS => ?_)
  obtain ⟨hb_w_1, -, e2_w_1, e3_w_1, e4_w_1, e5_w_1, e6_w_1, e7_w_1, e8_w_1, e9_w_1, e10_w_1, e11_w_1⟩ := hp_w_1
  rw [e2_w_1, e3_w_1, e4_w_1, e5_w_1, e6_w_1, e7_w_1, e8_w_1, e9_w_1, e10_w_1, e11_w_1] at hP
  obtain ⟨jf, hjf, rfl⟩ := nOk_nat (k := 5) (by omega) rfl hb_w_1
  have njf : jn (nI jf) = jf := jn_nI (by omega)
  refine lv_iload_n hx hb dX3_where_5 rfl (lv_at hl 2 rfl) ?_
  refine lv_bipush (v := 40) hx hb dX3_where_6 (by decide) ?_
  refine xc_callS F hK hX (Nat.le_trans (Nat.le_of_eq hz.symm) hS.1) [.int t, .int 40] (cc_X3_checkNumber hfl hN t 40 ) (va_cwS 2 F.2.2.2.2 gX3_where_X3_checkNumber rfl rfl rfl (by decide +kernel) ⟨Nat.le_of_ble_eq_true rfl, Nat.le_of_ble_eq_true rfl⟩) hP hS (cG_sub hLz (Nat.le_trans (Nat.le_of_eq hz.symm) hS.1)) hout hlocks (fun E9 V9 pq9 sp9 cn9 e9' sz9 b9 L9 w9 nx9 h9 => pPX_of (b, cn, List.map w L) 1 (by simp [cWhere, cWr, hb_w_1, njf, ← hsz, h9.2.1]) (by decide) h9.1 (aS_of h9.2.2 ⟨rfl, rfl, rfl, he, hsz, hch, hN, fun x hx => hL0 ▸ hLz x hx⟩)) rfl hl.1 rfl (lv_room (Nat.le_of_ble_eq_true rfl)) ⟨(Nat.le_of_ble_eq_true rfl), (Nat.le_of_ble_eq_true rfl)⟩ (Nat.le_of_ble_eq_true rfl) (Nat.le_of_ble_eq_true rfl) dX3_where_8 (fun r_w_2 ra_w_2 V_w_2 pc_w_2 sp_w_2 cc_w_2 e_w_2 sz_w_2 b_w_2 L_w_2 w_w_2 nx_w_2 H locs hp_w_2 hP hsz_w_2 hfr_w_2 hS => ?_)
  obtain ⟨hb_w_2, -, e2_w_2, e3_w_2, e4_w_2, e5_w_2, e6_w_2, e7_w_2, e8_w_2, e9_w_2, e10_w_2, e11_w_2⟩ := hp_w_2
  rw [e2_w_2, e3_w_2, e4_w_2, e5_w_2, e6_w_2, e7_w_2, e8_w_2, e9_w_2, e10_w_2, e11_w_2] at hP
  obtain ⟨jt, hjt, rfl⟩ := nOk_nat (k := 40) (by omega) rfl hb_w_2
  have njt : jn (nI jt) = jt := jn_nI (by omega)
  refine lv_aload_n hx hb dX3_where_11 rfl (lv_at hl 0 rfl) ?_
  refine lv_iload_n hx hb dX3_where_12 rfl (lv_at hl 1 rfl) ?_
  refine cw_callV F hK [.int (nI jf)] (cc_X3_lookAs hN jf (by first | assumption | omega) (by first | assumption | omega) (by first | assumption | omega)) (cwV 1 F.2.2.2.2 gX3_where_X3_lookAs rfl rfl rfl (by decide +kernel) ⟨Nat.le_of_ble_eq_true rfl, Nat.le_of_ble_eq_true rfl⟩) (og_rc hK (cPc hP)) hP hS (cG_sub hLz (Nat.le_trans (Nat.le_of_eq hz.symm) hS.1)) rfl hl.1 rfl (lv_room (Nat.le_of_ble_eq_true rfl)) ⟨Nat.le_of_ble_eq_true rfl, Nat.le_of_ble_eq_true rfl⟩ dX3_where_13 (fun r_w_3 ra_w_3 V_w_3 pc_w_3 sp_w_3 cc_w_3 e_w_3 sz_w_3 b_w_3 L_w_3 w_w_3 nx_w_3 H locs hp_w_3 hP hsz_w_3 hfr_w_3 hS => ?_)
  obtain ⟨-, e2_w_3, e3_w_3, e4_w_3, e5_w_3, e6_w_3, e7_w_3, e8_w_3, e9_w_3, e10_w_3, e11_w_3⟩ := hp_w_3
  rw [e2_w_3, e3_w_3, e4_w_3, e5_w_3, e6_w_3, e7_w_3, e8_w_3, e9_w_3, e10_w_3, e11_w_3] at hP
  obtain ⟨V1, pq1, sp1, hlk⟩ : ∃ V1 pq1 sp1, cLk b (List.map w L) (nI jf) = (V1, pq1, sp1) := ⟨_, _, _, rfl⟩
  have hlk9 : rdV w ((1 : Int32) <<< (nI jf &&& 31)) (b 12) L = (V1, pq1, sp1) := (rdV_A _ _ _ _).trans hlk
  have hP : va_P D vwCl (cW u cI cII V1 pq1 sp1 cn e sz b L w nx) H := by rw [hlk9] at hP; exact hP
  refine lv_aload_n hx hb dX3_where_16 rfl (lv_at hl 0 rfl) ?_
  refine og_get F hK hinO (cPc hP) 1 (by decide) (by decide +kernel) rfl dX3_where_17 ?_
  refine vg_get F hK hinV (cPv hP) 0 (by decide) (by decide +kernel) rfl dX3_where_20 ?_
  refine lv_iload_n hx hb dX3_where_23 rfl (lv_at hl 2 rfl) ?_
  refine cg_ald F hK (cPv hP) 1 40 rfl jt rfl (by omega) (by decide) dX3_where_24 ?_
  refine vx_ret ?_
  exact cw_reti F hr hlocks hP hS (pPost_of (b, cn, List.map w L) (by simp [cWhere, cWr, hb_w_1, njf, hb_w_2, njt, hlk, ← hsz, bI]) ⟨rfl, rfl, rfl, he, hsz, hch, hN, fun x hx => hL0 ▸ hLz x hx⟩) (by omega) (by omega) dX3_where_25
def cWhereByAll (cs : CS) (t : Int32) : OP :=
  if nOk t 40 = false then (1, 0, cs) else (0, (cLa cs.1 cs.2.2).1 0 (jn t), cs)
set_option maxHeartbeats 4000000 in
set_option maxRecDepth 100000 in
theorem cc_X3_whereByAll {l : Launch} (hfl : l.stackTraces = false) {D : va_G} {cI cII : ClassId} {sa : Nat → Nat} {u : Nat → Nat} {V : Nat → Nat → Int32} {pq sp : Int32} {cn : Nat} {e : Option Nat} {sz : Nat} {b : Nat → Nat → Int32} {L : List Nat} {w : Nat → Nat → Int32} {nx : Nat → Option Nat} {z0 : Nat} (hN : (cAd u ++ L).Nodup) (t : Int32) (hch : chn nx L) (he : e = L.head?) (hsz : sz = L.length) (hok : ∀ x, x ∈ L → okW (w x)) (hcn : cn ≤ 20) (hrc : ∀ k, k < cn → ∃ r, r < 6 ∧ b 11 k = nI r) : xc_Met l yX3_whereByAll wsX3_whereByAll 7 1 6 139 D u cI cII sa z0 L (cW u cI cII V pq sp cn e sz b L w nx) [.ref (u 30), .int t] kI (pPost u L z0 (cWhereByAll (b, cn, List.map w L) t)) (pPX u L z0 (cWhereByAll (b, cn, List.map w L) t)) := by
  suffices h9 : ∀ L0, L0 = L → xc_Met l yX3_whereByAll wsX3_whereByAll 7 1 6 139 D u cI cII sa z0 L0 (cW u cI cII V pq sp cn e sz b L w nx) [.ref (u 30), .int t] kI (pPost u L z0 (cWhereByAll (b, cn, List.map w L) t)) (pPX u L z0 (cWhereByAll (b, cn, List.map w L) t)) by exact h9 _ rfl
  intro L0 hL0
  have hLz : ∀ a, a ∈ L → a ∈ L0 ∨ z0 ≤ a := fun a z => Or.inl (by rw [hL0]; exact z)
  refine xc_start rfl (by decide +kernel) (Nat.le_of_ble_eq_true rfl) (fun p e9 s m below meth c F hr hlocks hK hz H locs hP hS hz9 hX hout ls hl => ?_)
  have hl : lv_has ls 2 [(0, .ref (u 30)), (1, .int t)] := hl
  have hx := F.1
  have hb := F.2.1
  have hinV : ∀ w ∈ wsX00, w ∈ wsX3_whereByAll := by decide +kernel
  have hinO : ∀ w ∈ wsX30, w ∈ wsX3_whereByAll := by decide +kernel
  have hinK : ∀ w ∈ wsX20, w ∈ wsX3_whereByAll := by decide +kernel
  have hinW : ∀ w ∈ wsX10, w ∈ wsX3_whereByAll := by decide +kernel
  refine lv_iload_n hx hb dX3_whereByAll_0 rfl (lv_at hl 1 rfl) ?_
  refine lv_bipush (v := 40) hx hb dX3_whereByAll_1 (by decide) ?_
  refine xc_callS F hK hX (Nat.le_trans (Nat.le_of_eq hz.symm) hS.1) [.int t, .int 40] (cc_X3_checkNumber hfl hN t 40 ) (va_cwS 2 F.2.2.2.2 gX3_whereByAll_X3_checkNumber rfl rfl rfl (by decide +kernel) ⟨Nat.le_of_ble_eq_true rfl, Nat.le_of_ble_eq_true rfl⟩) hP hS (cG_sub hLz (Nat.le_trans (Nat.le_of_eq hz.symm) hS.1)) hout hlocks (fun E9 V9 pq9 sp9 cn9 e9' sz9 b9 L9 w9 nx9 h9 => pPX_of (b, cn, List.map w L) 1 (by simp [cWhereByAll, cWr, ← hsz, h9.2.1]) (by decide) h9.1 (aS_of h9.2.2 ⟨rfl, rfl, rfl, he, hsz, hch, hN, fun x hx => hL0 ▸ hLz x hx⟩)) rfl hl.1 rfl (lv_room (Nat.le_of_ble_eq_true rfl)) ⟨(Nat.le_of_ble_eq_true rfl), (Nat.le_of_ble_eq_true rfl)⟩ (Nat.le_of_ble_eq_true rfl) (Nat.le_of_ble_eq_true rfl) dX3_whereByAll_3 (fun r_w_1 ra_w_1 V_w_1 pc_w_1 sp_w_1 cc_w_1 e_w_1 sz_w_1 b_w_1 L_w_1 w_w_1 nx_w_1 H locs hp_w_1 hP hsz_w_1 hfr_w_1 hS => ?_)
  obtain ⟨hb_w_1, -, e2_w_1, e3_w_1, e4_w_1, e5_w_1, e6_w_1, e7_w_1, e8_w_1, e9_w_1, e10_w_1, e11_w_1⟩ := hp_w_1
  rw [e2_w_1, e3_w_1, e4_w_1, e5_w_1, e6_w_1, e7_w_1, e8_w_1, e9_w_1, e10_w_1, e11_w_1] at hP
  obtain ⟨jt, hjt, rfl⟩ := nOk_nat (k := 40) (by omega) rfl hb_w_1
  have njt : jn (nI jt) = jt := jn_nI (by omega)
  refine lv_aload_n hx hb dX3_whereByAll_6 rfl (lv_at hl 0 rfl) ?_
  refine cw_callV F hK [] (cc_X3_lookByAll hN  (by first | assumption | omega) (by first | assumption | omega) (by first | assumption | omega)) (cwV 0 F.2.2.2.2 gX3_whereByAll_X3_lookByAll rfl rfl rfl (by decide +kernel) ⟨Nat.le_of_ble_eq_true rfl, Nat.le_of_ble_eq_true rfl⟩) (og_rc hK (cPc hP)) hP hS (cG_sub hLz (Nat.le_trans (Nat.le_of_eq hz.symm) hS.1)) rfl hl.1 rfl (lv_room (Nat.le_of_ble_eq_true rfl)) ⟨Nat.le_of_ble_eq_true rfl, Nat.le_of_ble_eq_true rfl⟩ dX3_whereByAll_7 (fun r_w_2 ra_w_2 V_w_2 pc_w_2 sp_w_2 cc_w_2 e_w_2 sz_w_2 b_w_2 L_w_2 w_w_2 nx_w_2 H locs hp_w_2 hP hsz_w_2 hfr_w_2 hS => ?_)
  obtain ⟨-, e2_w_2, e3_w_2, e4_w_2, e5_w_2, e6_w_2, e7_w_2, e8_w_2, e9_w_2, e10_w_2, e11_w_2⟩ := hp_w_2
  rw [e2_w_2, e3_w_2, e4_w_2, e5_w_2, e6_w_2, e7_w_2, e8_w_2, e9_w_2, e10_w_2, e11_w_2] at hP
  obtain ⟨V1, pq1, sp1, hlk⟩ : ∃ V1 pq1 sp1, cLa b (List.map w L) = (V1, pq1, sp1) := ⟨_, _, _, rfl⟩
  have hlk9 : rdV w 31 (b 12) L = (V1, pq1, sp1) := (rdV_A _ _ _ _).trans hlk
  have hP : va_P D vwCl (cW u cI cII V1 pq1 sp1 cn e sz b L w nx) H := by rw [hlk9] at hP; exact hP
  refine lv_aload_n hx hb dX3_whereByAll_10 rfl (lv_at hl 0 rfl) ?_
  refine og_get F hK hinO (cPc hP) 1 (by decide) (by decide +kernel) rfl dX3_whereByAll_11 ?_
  refine vg_get F hK hinV (cPv hP) 0 (by decide) (by decide +kernel) rfl dX3_whereByAll_14 ?_
  refine lv_iload_n hx hb dX3_whereByAll_17 rfl (lv_at hl 1 rfl) ?_
  refine cg_ald F hK (cPv hP) 1 40 rfl jt rfl (by omega) (by decide) dX3_whereByAll_18 ?_
  refine vx_ret ?_
  exact cw_reti F hr hlocks hP hS (pPost_of (b, cn, List.map w L) (by simp [cWhereByAll, cWr, hb_w_1, njt, hlk, ← hsz, bI]) ⟨rfl, rfl, rfl, he, hsz, hch, hN, fun x hx => hL0 ▸ hLz x hx⟩) (by omega) (by omega) dX3_whereByAll_19
def cPut (cs : CS) (f : Int32) (t : Int32) : OP :=
  if nOk f 5 = false then (1, 0, cs) else if nOk t 40 = false then (1, 0, cs) else if (cLk cs.1 cs.2.2 f).1 0 (jn t) = f then (3, 0, cs) else if roomOk cs.2.2.length 1 = false then (3, 0, cs) else (0, cs.1 10 (jn f) + 1, cWr cs f 0 t (-1))
set_option maxHeartbeats 4000000 in
set_option maxRecDepth 100000 in
theorem cc_X3_put {l : Launch} (hfl : l.stackTraces = false) {D : va_G} {cI cII : ClassId} {sa : Nat → Nat} {u : Nat → Nat} {V : Nat → Nat → Int32} {pq sp : Int32} {cn : Nat} {e : Option Nat} {sz : Nat} {b : Nat → Nat → Int32} {L : List Nat} {w : Nat → Nat → Int32} {nx : Nat → Option Nat} {z0 : Nat} (hN : (cAd u ++ L).Nodup) (f : Int32) (t : Int32) (hch : chn nx L) (he : e = L.head?) (hsz : sz = L.length) (hok : ∀ x, x ∈ L → okW (w x)) (hcn : cn ≤ 20) (hrc : ∀ k, k < cn → ∃ r, r < 6 ∧ b 11 k = nI r) : xc_Met l yX3_put wsX3_put 7 4 28 140 D u cI cII sa z0 L (cW u cI cII V pq sp cn e sz b L w nx) [.ref (u 30), .int f, .int t] kI (pPost u L z0 (cPut (b, cn, List.map w L) f t)) (pPX u L z0 (cPut (b, cn, List.map w L) f t)) := by
  suffices h9 : ∀ L0, L0 = L → xc_Met l yX3_put wsX3_put 7 4 28 140 D u cI cII sa z0 L0 (cW u cI cII V pq sp cn e sz b L w nx) [.ref (u 30), .int f, .int t] kI (pPost u L z0 (cPut (b, cn, List.map w L) f t)) (pPX u L z0 (cPut (b, cn, List.map w L) f t)) by exact h9 _ rfl
  intro L0 hL0
  have hLz : ∀ a, a ∈ L → a ∈ L0 ∨ z0 ≤ a := fun a z => Or.inl (by rw [hL0]; exact z)
  refine xc_start rfl (by decide +kernel) (Nat.le_of_ble_eq_true rfl) (fun p e9 s m below meth c F hr hlocks hK hz H locs hP hS hz9 hX hout ls hl => ?_)
  have hl : lv_has ls 3 [(0, .ref (u 30)), (1, .int f), (2, .int t)] := hl
  have hx := F.1
  have hb := F.2.1
  have hinV : ∀ w ∈ wsX00, w ∈ wsX3_put := by decide +kernel
  have hinO : ∀ w ∈ wsX30, w ∈ wsX3_put := by decide +kernel
  have hinK : ∀ w ∈ wsX20, w ∈ wsX3_put := by decide +kernel
  have hinW : ∀ w ∈ wsX10, w ∈ wsX3_put := by decide +kernel
  refine lv_iload_n hx hb dX3_put_0 rfl (lv_at hl 1 rfl) ?_
  refine lv_iconst (v := 5) hx hb dX3_put_1 (by decide) ?_
  refine xc_callS F hK hX (Nat.le_trans (Nat.le_of_eq hz.symm) hS.1) [.int f, .int 5] (cc_X3_checkNumber hfl hN f 5 ) (va_cwS 2 F.2.2.2.2 gX3_put_X3_checkNumber rfl rfl rfl (by decide +kernel) ⟨Nat.le_of_ble_eq_true rfl, Nat.le_of_ble_eq_true rfl⟩) hP hS (cG_sub hLz (Nat.le_trans (Nat.le_of_eq hz.symm) hS.1)) hout hlocks (fun E9 V9 pq9 sp9 cn9 e9' sz9 b9 L9 w9 nx9 h9 => pPX_of (b, cn, List.map w L) 1 (by simp [cPut, cWr, ← hsz, h9.2.1]) (by decide) h9.1 (aS_of h9.2.2 ⟨rfl, rfl, rfl, he, hsz, hch, hN, fun x hx => hL0 ▸ hLz x hx⟩)) rfl hl.1 rfl (lv_room (Nat.le_of_ble_eq_true rfl)) ⟨(Nat.le_of_ble_eq_true rfl), (Nat.le_of_ble_eq_true rfl)⟩ (Nat.le_of_ble_eq_true rfl) (Nat.le_of_ble_eq_true rfl) dX3_put_2 (fun r_w_1 ra_w_1 V_w_1 pc_w_1 sp_w_1 cc_w_1 e_w_1 sz_w_1 b_w_1 L_w_1 w_w_1 nx_w_1 H locs hp_w_1 hP hsz_w_1 hfr_w_1 hS => ?_)
  obtain ⟨hb_w_1, -, e2_w_1, e3_w_1, e4_w_1, e5_w_1, e6_w_1, e7_w_1, e8_w_1, e9_w_1, e10_w_1, e11_w_1⟩ := hp_w_1
  rw [e2_w_1, e3_w_1, e4_w_1, e5_w_1, e6_w_1, e7_w_1, e8_w_1, e9_w_1, e10_w_1, e11_w_1] at hP
  obtain ⟨jf, hjf, rfl⟩ := nOk_nat (k := 5) (by omega) rfl hb_w_1
  have njf : jn (nI jf) = jf := jn_nI (by omega)
  refine lv_iload_n hx hb dX3_put_5 rfl (lv_at hl 2 rfl) ?_
  refine lv_bipush (v := 40) hx hb dX3_put_6 (by decide) ?_
  refine xc_callS F hK hX (Nat.le_trans (Nat.le_of_eq hz.symm) hS.1) [.int t, .int 40] (cc_X3_checkNumber hfl hN t 40 ) (va_cwS 2 F.2.2.2.2 gX3_put_X3_checkNumber rfl rfl rfl (by decide +kernel) ⟨Nat.le_of_ble_eq_true rfl, Nat.le_of_ble_eq_true rfl⟩) hP hS (cG_sub hLz (Nat.le_trans (Nat.le_of_eq hz.symm) hS.1)) hout hlocks (fun E9 V9 pq9 sp9 cn9 e9' sz9 b9 L9 w9 nx9 h9 => pPX_of (b, cn, List.map w L) 1 (by simp [cPut, cWr, hb_w_1, njf, ← hsz, h9.2.1]) (by decide) h9.1 (aS_of h9.2.2 ⟨rfl, rfl, rfl, he, hsz, hch, hN, fun x hx => hL0 ▸ hLz x hx⟩)) rfl hl.1 rfl (lv_room (Nat.le_of_ble_eq_true rfl)) ⟨(Nat.le_of_ble_eq_true rfl), (Nat.le_of_ble_eq_true rfl)⟩ (Nat.le_of_ble_eq_true rfl) (Nat.le_of_ble_eq_true rfl) dX3_put_8 (fun r_w_2 ra_w_2 V_w_2 pc_w_2 sp_w_2 cc_w_2 e_w_2 sz_w_2 b_w_2 L_w_2 w_w_2 nx_w_2 H locs hp_w_2 hP hsz_w_2 hfr_w_2 hS => ?_)
  obtain ⟨hb_w_2, -, e2_w_2, e3_w_2, e4_w_2, e5_w_2, e6_w_2, e7_w_2, e8_w_2, e9_w_2, e10_w_2, e11_w_2⟩ := hp_w_2
  rw [e2_w_2, e3_w_2, e4_w_2, e5_w_2, e6_w_2, e7_w_2, e8_w_2, e9_w_2, e10_w_2, e11_w_2] at hP
  obtain ⟨jt, hjt, rfl⟩ := nOk_nat (k := 40) (by omega) rfl hb_w_2
  have njt : jn (nI jt) = jt := jn_nI (by omega)
  refine lv_aload_n hx hb dX3_put_11 rfl (lv_at hl 0 rfl) ?_
  refine lv_iload_n hx hb dX3_put_12 rfl (lv_at hl 1 rfl) ?_
  refine cw_callV F hK [.int (nI jf)] (cc_X3_lookAs hN jf (by first | assumption | omega) (by first | assumption | omega) (by first | assumption | omega)) (cwV 1 F.2.2.2.2 gX3_put_X3_lookAs rfl rfl rfl (by decide +kernel) ⟨Nat.le_of_ble_eq_true rfl, Nat.le_of_ble_eq_true rfl⟩) (og_rc hK (cPc hP)) hP hS (cG_sub hLz (Nat.le_trans (Nat.le_of_eq hz.symm) hS.1)) rfl hl.1 rfl (lv_room (Nat.le_of_ble_eq_true rfl)) ⟨Nat.le_of_ble_eq_true rfl, Nat.le_of_ble_eq_true rfl⟩ dX3_put_13 (fun r_w_3 ra_w_3 V_w_3 pc_w_3 sp_w_3 cc_w_3 e_w_3 sz_w_3 b_w_3 L_w_3 w_w_3 nx_w_3 H locs hp_w_3 hP hsz_w_3 hfr_w_3 hS => ?_)
  obtain ⟨-, e2_w_3, e3_w_3, e4_w_3, e5_w_3, e6_w_3, e7_w_3, e8_w_3, e9_w_3, e10_w_3, e11_w_3⟩ := hp_w_3
  rw [e2_w_3, e3_w_3, e4_w_3, e5_w_3, e6_w_3, e7_w_3, e8_w_3, e9_w_3, e10_w_3, e11_w_3] at hP
  obtain ⟨V1, pq1, sp1, hlk⟩ : ∃ V1 pq1 sp1, cLk b (List.map w L) (nI jf) = (V1, pq1, sp1) := ⟨_, _, _, rfl⟩
  have hlk9 : rdV w ((1 : Int32) <<< (nI jf &&& 31)) (b 12) L = (V1, pq1, sp1) := (rdV_A _ _ _ _).trans hlk
  have hP : va_P D vwCl (cW u cI cII V1 pq1 sp1 cn e sz b L w nx) H := by rw [hlk9] at hP; exact hP
  refine lv_aload_n hx hb dX3_put_16 rfl (lv_at hl 0 rfl) ?_
  refine og_get F hK hinO (cPc hP) 1 (by decide) (by decide +kernel) rfl dX3_put_17 ?_
  refine vg_get F hK hinV (cPv hP) 0 (by decide) (by decide +kernel) rfl dX3_put_20 ?_
  refine lv_iload_n hx hb dX3_put_23 rfl (lv_at hl 2 rfl) ?_
  refine cg_ald F hK (cPv hP) 1 40 rfl jt rfl (by omega) (by decide) dX3_put_24 ?_
  refine lv_iload_n hx hb dX3_put_25 rfl (lv_at hl 1 rfl) ?_
  refine lv_icmp_ne (tgt := 39) hx hb dX3_put_26 (by decide) (fun c_4 => ?_) (fun c_4 => ?_)
  · skip
    refine lv_aload_n hx hb dX3_put_39 rfl (lv_at hl 0 rfl) ?_
    refine lv_iconst (v := 1) hx hb dX3_put_40 (by decide) ?_
    refine xc_callV F hK hX (Nat.le_trans (Nat.le_of_eq hz.symm) hS.1) [.int 1] (cc_X3_checkRoomFor hfl hN 1 ) (cwV 1 F.2.2.2.2 gX3_put_X3_checkRoomFor rfl rfl rfl (by decide +kernel) ⟨Nat.le_of_ble_eq_true rfl, Nat.le_of_ble_eq_true rfl⟩) (og_rc hK (cPc hP)) hP hS (cG_sub hLz (Nat.le_trans (Nat.le_of_eq hz.symm) hS.1)) hout hlocks (fun E9 V9 pq9 sp9 cn9 e9' sz9 b9 L9 w9 nx9 h9 => pPX_of (b, cn, List.map w L) 3 (by simp [cPut, cWr, hb_w_1, njf, hb_w_2, njt, hlk, c_4, ← hsz, h9.2.1]) (by decide) h9.1 (aS_of h9.2.2 ⟨rfl, rfl, rfl, he, hsz, hch, hN, fun x hx => hL0 ▸ hLz x hx⟩)) rfl hl.1 rfl (lv_room (Nat.le_of_ble_eq_true rfl)) ⟨(Nat.le_of_ble_eq_true rfl), (Nat.le_of_ble_eq_true rfl)⟩ (Nat.le_of_ble_eq_true rfl) (Nat.le_of_ble_eq_true rfl) dX3_put_41 (fun r_w_5 ra_w_5 V_w_5 pc_w_5 sp_w_5 cc_w_5 e_w_5 sz_w_5 b_w_5 L_w_5 w_w_5 nx_w_5 H locs hp_w_5 hP hsz_w_5 hfr_w_5 hS => ?_)
    obtain ⟨hb_w_5, -, e2_w_5, e3_w_5, e4_w_5, e5_w_5, e6_w_5, e7_w_5, e8_w_5, e9_w_5, e10_w_5, e11_w_5⟩ := hp_w_5
    rw [e2_w_5, e3_w_5, e4_w_5, e5_w_5, e6_w_5, e7_w_5, e8_w_5, e9_w_5, e10_w_5, e11_w_5] at hP
    refine lv_aload_n hx hb dX3_put_44 rfl (lv_at hl 0 rfl) ?_
    refine lv_iload_n hx hb dX3_put_45 rfl (lv_at hl 1 rfl) ?_
    refine lv_iconst (v := 0) hx hb dX3_put_46 (by decide) ?_
    refine lv_iload_n hx hb dX3_put_47 rfl (lv_at hl 2 rfl) ?_
    refine lv_iconst (v := (-1)) hx hb dX3_put_48 (by decide) ?_
    have hzo_w_6 : z0 ≤ Array.size H := Nat.le_trans (Nat.le_of_eq hz.symm) hS.1
    refine cw_callV F hK [.int (nI jf), .int 0, .int (nI jt), .int (-1)] (cc_X3_write hN jf 0 (nI jt) (-1) (by first | assumption | omega) (by first | assumption | omega) (by first | assumption | omega)) (cwV 4 F.2.2.2.2 gX3_put_X3_write rfl rfl rfl (by decide +kernel) ⟨Nat.le_of_ble_eq_true rfl, Nat.le_of_ble_eq_true rfl⟩) (og_rc hK (cPc hP)) hP hS (cG_sub hLz (Nat.le_trans (Nat.le_of_eq hz.symm) hS.1)) rfl hl.1 rfl (lv_room (Nat.le_of_ble_eq_true rfl)) ⟨Nat.le_of_ble_eq_true rfl, Nat.le_of_ble_eq_true rfl⟩ dX3_put_49 (fun r_w_6 ra_w_6 V_w_6 pc_w_6 sp_w_6 cc_w_6 e_w_6 sz_w_6 b_w_6 L_w_6 w_w_6 nx_w_6 H locs hp_w_6 hP hsz_w_6 hfr_w_6 hS => ?_)
    obtain ⟨e2_w_6, e3_w_6, e4_w_6, e5_w_6, e6_w_6, e7_w_6, e8_w_6, hw_w_6, hL_w_6, hch_w_6, hN_w_6, hra_w_6, hrz_w_6⟩ := hp_w_6
    rw [e2_w_6, e3_w_6, e4_w_6, e5_w_6, e6_w_6, e7_w_6, e8_w_6] at hP
    have hmem_w_6 : ra_w_6 ∈ L_w_6 := by rw [hL_w_6]; exact (insL_mem _ _ _ _).mpr (Or.inl rfl)
    have hws_w_6 : L_w_6.map w_w_6 = insA (mkW 0 (b 10 jf + 1) (nI jf) (nI jt) (-1)) (List.map w L) := by rw [hL_w_6, hw_w_6]; exact (insA_map hra_w_6).trans (congrArg (insA _) (rfl))
    have hlen_w_6 : sz + 1 = L_w_6.length := by rw [hL_w_6, insL_len, hsz]
    rw [hlen_w_6] at hP
    have hLz_w_6 : ∀ a, a ∈ L_w_6 → a ∈ L0 ∨ z0 ≤ a := fun a ha => by rw [hL_w_6] at ha; exact ((insL_mem _ _ _ _).mp ha).elim (fun q => Or.inr (by rw [q]; exact Nat.le_trans hzo_w_6 hrz_w_6)) (hLz a)
    refine wg_get F hK hinW (cPw hP) hmem_w_6 1 (by decide) (by decide +kernel) rfl dX3_put_52 ?_
    refine vx_ret ?_
    exact cw_reti F hr hlocks hP hS (pPost_of (upA b 10 jf (b 10 jf + 1), cn, insA (mkW 0 (b 10 jf + 1) (nI jf) (nI jt) (-1)) (List.map w L)) (by simp [cPut, cWr, hb_w_1, njf, hb_w_2, njt, hlk, c_4, hb_w_5, hw_w_6, stW, mkW, ← hsz, bI]) ⟨rfl, rfl, hws_w_6, rfl, rfl, hch_w_6, hN_w_6, fun x hx => hL0 ▸ hLz_w_6 x hx⟩) (by omega) (by omega) dX3_put_55
  · skip
    exact xt_throw F hfl hP hS hX hout hlocks hl.1 "java/lang/IllegalStateException" 53 55 57 4 "the fridge sees the thing in itself" rfl (by decide +kernel) rfl (by decide +kernel) (by decide +kernel) (by decide +kernel) xn_IS xg_IS dX3_put_29 dX3_put_32 dX3_put_33 dX3_put_35 dX3_put_38 ⟨(Nat.le_of_ble_eq_true rfl), (Nat.le_of_ble_eq_true rfl), (Nat.le_of_ble_eq_true rfl), (Nat.le_of_ble_eq_true rfl)⟩ (pPX_of (b, cn, List.map w L) 3 (by simp [cPut, cWr, hb_w_1, njf, hb_w_2, njt, hlk, c_4, ← hsz]) (by decide) rfl ⟨rfl, rfl, rfl, he, hsz, hch, hN, fun x hx => hL0 ▸ hLz x hx⟩) (Nat.le_of_ble_eq_true rfl) (Nat.le_of_ble_eq_true rfl)
def cTake (cs : CS) (f : Int32) (t : Int32) : OP :=
  if nOk f 5 = false then (1, 0, cs) else if nOk t 40 = false then (1, 0, cs) else if (cLk cs.1 cs.2.2 f).1 0 (jn t) = -1 then (3, 0, cs) else if roomOk cs.2.2.length 1 = false then (3, 0, cs) else (0, (cLk cs.1 cs.2.2 f).1 0 (jn t), cWr cs f 1 t (-1))
set_option maxHeartbeats 4000000 in
set_option maxRecDepth 100000 in
theorem cc_X3_take {l : Launch} (hfl : l.stackTraces = false) {D : va_G} {cI cII : ClassId} {sa : Nat → Nat} {u : Nat → Nat} {V : Nat → Nat → Int32} {pq sp : Int32} {cn : Nat} {e : Option Nat} {sz : Nat} {b : Nat → Nat → Int32} {L : List Nat} {w : Nat → Nat → Int32} {nx : Nat → Option Nat} {z0 : Nat} (hN : (cAd u ++ L).Nodup) (f : Int32) (t : Int32) (hch : chn nx L) (he : e = L.head?) (hsz : sz = L.length) (hok : ∀ x, x ∈ L → okW (w x)) (hcn : cn ≤ 20) (hrc : ∀ k, k < cn → ∃ r, r < 6 ∧ b 11 k = nI r) : xc_Met l yX3_take wsX3_take 7 4 28 140 D u cI cII sa z0 L (cW u cI cII V pq sp cn e sz b L w nx) [.ref (u 30), .int f, .int t] kI (pPost u L z0 (cTake (b, cn, List.map w L) f t)) (pPX u L z0 (cTake (b, cn, List.map w L) f t)) := by
  suffices h9 : ∀ L0, L0 = L → xc_Met l yX3_take wsX3_take 7 4 28 140 D u cI cII sa z0 L0 (cW u cI cII V pq sp cn e sz b L w nx) [.ref (u 30), .int f, .int t] kI (pPost u L z0 (cTake (b, cn, List.map w L) f t)) (pPX u L z0 (cTake (b, cn, List.map w L) f t)) by exact h9 _ rfl
  intro L0 hL0
  have hLz : ∀ a, a ∈ L → a ∈ L0 ∨ z0 ≤ a := fun a z => Or.inl (by rw [hL0]; exact z)
  refine xc_start rfl (by decide +kernel) (Nat.le_of_ble_eq_true rfl) (fun p e9 s m below meth c F hr hlocks hK hz H locs hP hS hz9 hX hout ls hl => ?_)
  have hl : lv_has ls 4 [(0, .ref (u 30)), (1, .int f), (2, .int t)] := hl
  have hx := F.1
  have hb := F.2.1
  have hinV : ∀ w ∈ wsX00, w ∈ wsX3_take := by decide +kernel
  have hinO : ∀ w ∈ wsX30, w ∈ wsX3_take := by decide +kernel
  have hinK : ∀ w ∈ wsX20, w ∈ wsX3_take := by decide +kernel
  have hinW : ∀ w ∈ wsX10, w ∈ wsX3_take := by decide +kernel
  refine lv_iload_n hx hb dX3_take_0 rfl (lv_at hl 1 rfl) ?_
  refine lv_iconst (v := 5) hx hb dX3_take_1 (by decide) ?_
  refine xc_callS F hK hX (Nat.le_trans (Nat.le_of_eq hz.symm) hS.1) [.int f, .int 5] (cc_X3_checkNumber hfl hN f 5 ) (va_cwS 2 F.2.2.2.2 gX3_take_X3_checkNumber rfl rfl rfl (by decide +kernel) ⟨Nat.le_of_ble_eq_true rfl, Nat.le_of_ble_eq_true rfl⟩) hP hS (cG_sub hLz (Nat.le_trans (Nat.le_of_eq hz.symm) hS.1)) hout hlocks (fun E9 V9 pq9 sp9 cn9 e9' sz9 b9 L9 w9 nx9 h9 => pPX_of (b, cn, List.map w L) 1 (by simp [cTake, cWr, ← hsz, h9.2.1]) (by decide) h9.1 (aS_of h9.2.2 ⟨rfl, rfl, rfl, he, hsz, hch, hN, fun x hx => hL0 ▸ hLz x hx⟩)) rfl hl.1 rfl (lv_room (Nat.le_of_ble_eq_true rfl)) ⟨(Nat.le_of_ble_eq_true rfl), (Nat.le_of_ble_eq_true rfl)⟩ (Nat.le_of_ble_eq_true rfl) (Nat.le_of_ble_eq_true rfl) dX3_take_2 (fun r_w_1 ra_w_1 V_w_1 pc_w_1 sp_w_1 cc_w_1 e_w_1 sz_w_1 b_w_1 L_w_1 w_w_1 nx_w_1 H locs hp_w_1 hP hsz_w_1 hfr_w_1 hS => ?_)
  obtain ⟨hb_w_1, -, e2_w_1, e3_w_1, e4_w_1, e5_w_1, e6_w_1, e7_w_1, e8_w_1, e9_w_1, e10_w_1, e11_w_1⟩ := hp_w_1
  rw [e2_w_1, e3_w_1, e4_w_1, e5_w_1, e6_w_1, e7_w_1, e8_w_1, e9_w_1, e10_w_1, e11_w_1] at hP
  obtain ⟨jf, hjf, rfl⟩ := nOk_nat (k := 5) (by omega) rfl hb_w_1
  have njf : jn (nI jf) = jf := jn_nI (by omega)
  refine lv_iload_n hx hb dX3_take_5 rfl (lv_at hl 2 rfl) ?_
  refine lv_bipush (v := 40) hx hb dX3_take_6 (by decide) ?_
  refine xc_callS F hK hX (Nat.le_trans (Nat.le_of_eq hz.symm) hS.1) [.int t, .int 40] (cc_X3_checkNumber hfl hN t 40 ) (va_cwS 2 F.2.2.2.2 gX3_take_X3_checkNumber rfl rfl rfl (by decide +kernel) ⟨Nat.le_of_ble_eq_true rfl, Nat.le_of_ble_eq_true rfl⟩) hP hS (cG_sub hLz (Nat.le_trans (Nat.le_of_eq hz.symm) hS.1)) hout hlocks (fun E9 V9 pq9 sp9 cn9 e9' sz9 b9 L9 w9 nx9 h9 => pPX_of (b, cn, List.map w L) 1 (by simp [cTake, cWr, hb_w_1, njf, ← hsz, h9.2.1]) (by decide) h9.1 (aS_of h9.2.2 ⟨rfl, rfl, rfl, he, hsz, hch, hN, fun x hx => hL0 ▸ hLz x hx⟩)) rfl hl.1 rfl (lv_room (Nat.le_of_ble_eq_true rfl)) ⟨(Nat.le_of_ble_eq_true rfl), (Nat.le_of_ble_eq_true rfl)⟩ (Nat.le_of_ble_eq_true rfl) (Nat.le_of_ble_eq_true rfl) dX3_take_8 (fun r_w_2 ra_w_2 V_w_2 pc_w_2 sp_w_2 cc_w_2 e_w_2 sz_w_2 b_w_2 L_w_2 w_w_2 nx_w_2 H locs hp_w_2 hP hsz_w_2 hfr_w_2 hS => ?_)
  obtain ⟨hb_w_2, -, e2_w_2, e3_w_2, e4_w_2, e5_w_2, e6_w_2, e7_w_2, e8_w_2, e9_w_2, e10_w_2, e11_w_2⟩ := hp_w_2
  rw [e2_w_2, e3_w_2, e4_w_2, e5_w_2, e6_w_2, e7_w_2, e8_w_2, e9_w_2, e10_w_2, e11_w_2] at hP
  obtain ⟨jt, hjt, rfl⟩ := nOk_nat (k := 40) (by omega) rfl hb_w_2
  have njt : jn (nI jt) = jt := jn_nI (by omega)
  refine lv_aload_n hx hb dX3_take_11 rfl (lv_at hl 0 rfl) ?_
  refine lv_iload_n hx hb dX3_take_12 rfl (lv_at hl 1 rfl) ?_
  refine cw_callV F hK [.int (nI jf)] (cc_X3_lookAs hN jf (by first | assumption | omega) (by first | assumption | omega) (by first | assumption | omega)) (cwV 1 F.2.2.2.2 gX3_take_X3_lookAs rfl rfl rfl (by decide +kernel) ⟨Nat.le_of_ble_eq_true rfl, Nat.le_of_ble_eq_true rfl⟩) (og_rc hK (cPc hP)) hP hS (cG_sub hLz (Nat.le_trans (Nat.le_of_eq hz.symm) hS.1)) rfl hl.1 rfl (lv_room (Nat.le_of_ble_eq_true rfl)) ⟨Nat.le_of_ble_eq_true rfl, Nat.le_of_ble_eq_true rfl⟩ dX3_take_13 (fun r_w_3 ra_w_3 V_w_3 pc_w_3 sp_w_3 cc_w_3 e_w_3 sz_w_3 b_w_3 L_w_3 w_w_3 nx_w_3 H locs hp_w_3 hP hsz_w_3 hfr_w_3 hS => ?_)
  obtain ⟨-, e2_w_3, e3_w_3, e4_w_3, e5_w_3, e6_w_3, e7_w_3, e8_w_3, e9_w_3, e10_w_3, e11_w_3⟩ := hp_w_3
  rw [e2_w_3, e3_w_3, e4_w_3, e5_w_3, e6_w_3, e7_w_3, e8_w_3, e9_w_3, e10_w_3, e11_w_3] at hP
  obtain ⟨V1, pq1, sp1, hlk⟩ : ∃ V1 pq1 sp1, cLk b (List.map w L) (nI jf) = (V1, pq1, sp1) := ⟨_, _, _, rfl⟩
  have hlk9 : rdV w ((1 : Int32) <<< (nI jf &&& 31)) (b 12) L = (V1, pq1, sp1) := (rdV_A _ _ _ _).trans hlk
  have hP : va_P D vwCl (cW u cI cII V1 pq1 sp1 cn e sz b L w nx) H := by rw [hlk9] at hP; exact hP
  refine lv_aload_n hx hb dX3_take_16 rfl (lv_at hl 0 rfl) ?_
  refine og_get F hK hinO (cPc hP) 1 (by decide) (by decide +kernel) rfl dX3_take_17 ?_
  refine vg_get F hK hinV (cPv hP) 0 (by decide) (by decide +kernel) rfl dX3_take_20 ?_
  refine lv_iload_n hx hb dX3_take_23 rfl (lv_at hl 2 rfl) ?_
  refine cg_ald F hK (cPv hP) 1 40 rfl jt rfl (by omega) (by decide) dX3_take_24 ?_
  refine lv_istore_n (lv' := [(3, .int (V1 0 jt)), (0, .ref (u 30)), (1, .int (nI jf)), (2, .int (nI jt))]) hx hb dX3_take_25 rfl hl (by decide) rfl (fun ls hl => ?_)
  refine lv_iload_n hx hb dX3_take_26 rfl (lv_at hl 0 rfl) ?_
  refine lv_iconst (v := (-1)) hx hb dX3_take_27 (by decide) ?_
  refine lv_icmp_ne (tgt := 41) hx hb dX3_take_28 (by decide) (fun c_4 => ?_) (fun c_4 => ?_)
  · skip
    refine lv_aload_n hx hb dX3_take_41 rfl (lv_at hl 1 rfl) ?_
    refine lv_iconst (v := 1) hx hb dX3_take_42 (by decide) ?_
    refine xc_callV F hK hX (Nat.le_trans (Nat.le_of_eq hz.symm) hS.1) [.int 1] (cc_X3_checkRoomFor hfl hN 1 ) (cwV 1 F.2.2.2.2 gX3_take_X3_checkRoomFor rfl rfl rfl (by decide +kernel) ⟨Nat.le_of_ble_eq_true rfl, Nat.le_of_ble_eq_true rfl⟩) (og_rc hK (cPc hP)) hP hS (cG_sub hLz (Nat.le_trans (Nat.le_of_eq hz.symm) hS.1)) hout hlocks (fun E9 V9 pq9 sp9 cn9 e9' sz9 b9 L9 w9 nx9 h9 => pPX_of (b, cn, List.map w L) 3 (by simp [cTake, cWr, hb_w_1, njf, hb_w_2, njt, hlk, c_4, ← hsz, h9.2.1]) (by decide) h9.1 (aS_of h9.2.2 ⟨rfl, rfl, rfl, he, hsz, hch, hN, fun x hx => hL0 ▸ hLz x hx⟩)) rfl hl.1 rfl (lv_room (Nat.le_of_ble_eq_true rfl)) ⟨(Nat.le_of_ble_eq_true rfl), (Nat.le_of_ble_eq_true rfl)⟩ (Nat.le_of_ble_eq_true rfl) (Nat.le_of_ble_eq_true rfl) dX3_take_43 (fun r_w_5 ra_w_5 V_w_5 pc_w_5 sp_w_5 cc_w_5 e_w_5 sz_w_5 b_w_5 L_w_5 w_w_5 nx_w_5 H locs hp_w_5 hP hsz_w_5 hfr_w_5 hS => ?_)
    obtain ⟨hb_w_5, -, e2_w_5, e3_w_5, e4_w_5, e5_w_5, e6_w_5, e7_w_5, e8_w_5, e9_w_5, e10_w_5, e11_w_5⟩ := hp_w_5
    rw [e2_w_5, e3_w_5, e4_w_5, e5_w_5, e6_w_5, e7_w_5, e8_w_5, e9_w_5, e10_w_5, e11_w_5] at hP
    refine lv_aload_n hx hb dX3_take_46 rfl (lv_at hl 1 rfl) ?_
    refine lv_iload_n hx hb dX3_take_47 rfl (lv_at hl 2 rfl) ?_
    refine lv_iconst (v := 1) hx hb dX3_take_48 (by decide) ?_
    refine lv_iload_n hx hb dX3_take_49 rfl (lv_at hl 3 rfl) ?_
    refine lv_iconst (v := (-1)) hx hb dX3_take_50 (by decide) ?_
    have hzo_w_6 : z0 ≤ Array.size H := Nat.le_trans (Nat.le_of_eq hz.symm) hS.1
    refine cw_callV F hK [.int (nI jf), .int 1, .int (nI jt), .int (-1)] (cc_X3_write hN jf 1 (nI jt) (-1) (by first | assumption | omega) (by first | assumption | omega) (by first | assumption | omega)) (cwV 4 F.2.2.2.2 gX3_take_X3_write rfl rfl rfl (by decide +kernel) ⟨Nat.le_of_ble_eq_true rfl, Nat.le_of_ble_eq_true rfl⟩) (og_rc hK (cPc hP)) hP hS (cG_sub hLz (Nat.le_trans (Nat.le_of_eq hz.symm) hS.1)) rfl hl.1 rfl (lv_room (Nat.le_of_ble_eq_true rfl)) ⟨Nat.le_of_ble_eq_true rfl, Nat.le_of_ble_eq_true rfl⟩ dX3_take_51 (fun r_w_6 ra_w_6 V_w_6 pc_w_6 sp_w_6 cc_w_6 e_w_6 sz_w_6 b_w_6 L_w_6 w_w_6 nx_w_6 H locs hp_w_6 hP hsz_w_6 hfr_w_6 hS => ?_)
    obtain ⟨e2_w_6, e3_w_6, e4_w_6, e5_w_6, e6_w_6, e7_w_6, e8_w_6, hw_w_6, hL_w_6, hch_w_6, hN_w_6, hra_w_6, hrz_w_6⟩ := hp_w_6
    rw [e2_w_6, e3_w_6, e4_w_6, e5_w_6, e6_w_6, e7_w_6, e8_w_6] at hP
    have hmem_w_6 : ra_w_6 ∈ L_w_6 := by rw [hL_w_6]; exact (insL_mem _ _ _ _).mpr (Or.inl rfl)
    have hws_w_6 : L_w_6.map w_w_6 = insA (mkW 1 (b 10 jf + 1) (nI jf) (nI jt) (-1)) (List.map w L) := by rw [hL_w_6, hw_w_6]; exact (insA_map hra_w_6).trans (congrArg (insA _) (rfl))
    have hlen_w_6 : sz + 1 = L_w_6.length := by rw [hL_w_6, insL_len, hsz]
    rw [hlen_w_6] at hP
    have hLz_w_6 : ∀ a, a ∈ L_w_6 → a ∈ L0 ∨ z0 ≤ a := fun a ha => by rw [hL_w_6] at ha; exact ((insL_mem _ _ _ _).mp ha).elim (fun q => Or.inr (by rw [q]; exact Nat.le_trans hzo_w_6 hrz_w_6)) (hLz a)
    refine lv_pop hx hb dX3_take_54 rfl ?_
    refine lv_iload_n hx hb dX3_take_55 rfl (lv_at hl 0 rfl) ?_
    refine vx_ret ?_
    exact cw_reti F hr hlocks hP hS (pPost_of (upA b 10 jf (b 10 jf + 1), cn, insA (mkW 1 (b 10 jf + 1) (nI jf) (nI jt) (-1)) (List.map w L)) (by simp [cTake, cWr, hb_w_1, njf, hb_w_2, njt, hlk, c_4, hb_w_5, hw_w_6, stW, mkW, ← hsz, bI]) ⟨rfl, rfl, hws_w_6, rfl, rfl, hch_w_6, hN_w_6, fun x hx => hL0 ▸ hLz_w_6 x hx⟩) (by omega) (by omega) dX3_take_56
  · skip
    exact xt_throw F hfl hP hS hX hout hlocks hl.1 "java/lang/IllegalStateException" 53 72 57 5 "the fridge sees the thing nowhere" rfl (by decide +kernel) rfl (by decide +kernel) (by decide +kernel) (by decide +kernel) xn_IS xg_IS dX3_take_31 dX3_take_34 dX3_take_35 dX3_take_37 dX3_take_40 ⟨(Nat.le_of_ble_eq_true rfl), (Nat.le_of_ble_eq_true rfl), (Nat.le_of_ble_eq_true rfl), (Nat.le_of_ble_eq_true rfl)⟩ (pPX_of (b, cn, List.map w L) 3 (by simp [cTake, cWr, hb_w_1, njf, hb_w_2, njt, hlk, c_4, ← hsz]) (by decide) rfl ⟨rfl, rfl, rfl, he, hsz, hch, hN, fun x hx => hL0 ▸ hLz x hx⟩) (Nat.le_of_ble_eq_true rfl) (Nat.le_of_ble_eq_true rfl)
