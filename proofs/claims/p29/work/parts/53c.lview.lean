/-! no machine: what the law sees is what the class's view shows -/
section LVIEW
variable {n cm : Nat} {a : Nat → Nat → Int32} {kn : Nat → Bool} {os : List Nat} {v : Nat} {F G : FF} {cs : CS}
theorem sh32 : ∀ f : Fin 32, ((nI f.val &&& 31).toBitVec.smod 32).toNat = f.val := by decide +kernel
theorem bt_sh1 {x : Int32} {f : Nat} (hf : f < 32) : (x >>> (nI f &&& 31)) &&& 1 = if bitT x f then 1 else 0 := by
  have h3 : (x >>> (nI f &&& 31)).toBitVec.getLsbD 0 = x.toBitVec.getLsbD f := by
    rw [Int32.toBitVec_shiftRight, BitVec.getLsbD_sshiftRight', sh32 ⟨f, hf⟩]
    simp [show f < 32 by omega]
  have h1 : (1 : Int32).toBitVec = BitVec.twoPow 32 0 := by decide +kernel
  have hb : bitT x f = x.toBitVec.getLsbD f := rfl
  rw [← Int32.toBitVec_inj, Int32.toBitVec_and, h1, BitVec.and_twoPow, h3, hb]
  cases hx : x.toBitVec.getLsbD f with
  | true => rw [if_pos rfl, if_pos rfl]; exact h1.symm
  | false => rw [if_neg (by simp), if_neg (by simp)]; rfl
theorem bt_sh {x : Int32} {f : Nat} (hf : f < 32) : ((x >>> (nI f &&& 31)) &&& 1 = 1) ↔ bitT x f = true := by
  rw [bt_sh1 hf]
  cases bitT x f <;> simp
theorem bt_sh0 {x : Int32} {f : Nat} (hf : f < 32) : ((x >>> (nI f &&& 31)) &&& 1 = 0) ↔ bitT x f = false := by
  rw [bt_sh1 hf]
  cases bitT x f <;> simp
theorem lT_G (E : lT n cm a kn F) (h : ∀ k, k < 8 → G k = F k) : lT n cm a kn G := by
  unfold lT
  rw [h 0 (by omega), h 1 (by omega), h 2 (by omega), h 3 (by omega), h 4 (by omega), h 5 (by omega), h 6 (by omega), h 7 (by omega)]
  exact E
theorem gu_ok {zc : Nat → Nat → Int32} (hn : n ≤ 64) (h : ∀ g, g < 8 → gR n a G zc g) : gOk G := by
  intro g hg
  rcases h g hg with ⟨h1, -⟩ | ⟨m, hm, -, h1, -⟩
  · exact ⟨none, by rw [h1]; rfl, fun x hx => nomatch hx⟩
  · exact ⟨some m, by rw [h1]; exact nI_pred m, fun x hx => by cases hx; omega⟩
theorem gs_W (E : lT n cm a kn G) {zc : Nat → Nat → Int32} (h : ∀ g, g < 8 → gR n a G zc g) (d : Int32) {g : Nat} (hg : g < 8) : gsW G d (G 10 g - 1) = vComes zc g d := by
  have hn := E.n64
  unfold gsW vComes
  rcases h g hg with ⟨h1, h2, h3⟩ | ⟨m, hm, h4, h1, h2, h3, -⟩
  · rw [h1, h2, h3]
    have e1 : decide ((0 : Int32) - 1 < 0) = true := by decide
    rw [e1]
    have : (decide (d < 0) || decide (-1 < d)) = true := by
      rw [Bool.or_eq_true, decide_eq_true_eq, decide_eq_true_eq, Int32.lt_iff_toInt_lt, Int32.lt_iff_toInt_lt]
      have e1 : (0 : Int32).toInt = 0 := by decide
      have e2 : (-1 : Int32).toInt = -1 := by decide
      omega
    cases h6 : decide (d < 0) <;> cases h7 : decide (-1 < d) <;> simp_all
  · obtain ⟨d1, d2, ds, b1, b2, b3, e6, e7, e8, e4⟩ := E.f4g m hm h4
    have x1 : md (G 4 m) 100 = nI d1 := by
      rw [e4]
      exact (md_N (a := d1 + 100 * d2 + 10000 * ds) (d := 100) (by omega) (by omega) (by omega)).trans (congrArg nI (by omega))
    have x2 : G 4 m / 100 = nI (d2 + 100 * ds) := by
      rw [e4]
      exact (pk_div (a := d1 + 100 * d2 + 10000 * ds) (d := 100) (by omega) (by omega) (by omega)).trans (congrArg nI (by omega))
    have x3 : md (G 4 m / 100) 100 = nI d2 := by
      rw [x2]
      exact (md_N (a := d2 + 100 * ds) (d := 100) (by omega) (by omega) (by omega)).trans (congrArg nI (by omega))
    rw [h1, nI_pred, h2, h3, e6, e7, jn_nI (by omega), x1, x3, decide_eq_false (nI_nlt0 (show m < 2 ^ 31 by omega))]
    rfl
theorem gs_eq (E : lT n cm a kn G) {zc : Nat → Nat → Int32} (h : ∀ g, g < 8 → gR n a G zc g) (d : Int32) : lGs G d = vGuests zc d := foldU_cg (fun g hg y => by
  unfold gsS vgStep
  rw [gs_W E h d hg]
  cases vComes zc g d with
  | false => simp
  | true => rfl)
theorem pc_num8 : ∀ (x0 x1 x2 x3 x4 x5 x6 x7 : Bool), pcF 8 (jn (gSet (l8 x0 x1 x2 x3 x4 x5 x6 x7))) = gNum (l8 x0 x1 x2 x3 x4 x5 x6 x7) := by decide +kernel
theorem pc_num (c : Nat → Bool) : pcF 8 (jn (gSet c)) = gNum c := by
  have h := pc_num8 (c 0) (c 1) (c 2) (c 3) (c 4) (c 5) (c 6) (c 7)
  have e1 : gSet (l8 (c 0) (c 1) (c 2) (c 3) (c 4) (c 5) (c 6) (c 7)) = gSet c := foldU_cg (fun i hi x => by rw [l8_c c hi])
  have e2 : gNum (l8 (c 0) (c 1) (c 2) (c 3) (c 4) (c 5) (c 6) (c 7)) = gNum c := foldU_cg (fun i hi x => by rw [l8_c c hi])
  rw [e1, e2] at h
  exact h
theorem pc_gm {V : Nat → Nat → Int32} {d : Int32} (hcom : ∀ g, g < 8 → vComes V g d = !decide (comingB a kn n v (nI g) d = -1)) : pcF 8 (jn (vGuests V d)) = guestManyB a kn n v d := by
  have e1 : vGuests V d = gSet (fun g => vComes V g d) := rfl
  have e2 : guestManyB a kn n v d = gNum (fun g => vComes V g d) := foldU_cg (fun g hg x => by
    unfold gmStep
    show _ = if vComes V g d = true then x + 1 else x + 0
    rw [hcom g hg]
    by_cases q : comingB a kn n v (nI g) d = -1
    · simp [q]
    · simp [q])
  rw [e1, e2, pc_num]
/-- a cake's rank as a number -/
def rkR (a : Nat → Nat → Int32) (kn : Nat → Bool) (n v : Nat) (z : Nat → Nat → Int32) (k : Nat) : Nat := guestManyB a kn n v (a 14 k) * 1000000 + (99 - jn (a 14 k)) * 1000 + 999 - jn (z 7 k)
theorem fi_N (E : lT n cm a kn G) {zc : Nat → Nat → Int32} (h : ∀ g, g < 8 → gR n a G zc g) (hcom : ∀ g d, g < 8 → vComes zc g d = !decide (comingB a kn n v (nI g) d = -1)) {k : Nat} (hk : k < cm) (h7 : G 10 (12 + k) = zc 7 k) (hx : ∃ x, x ≤ 64 ∧ zc 7 k = nI x) : fiR G k = lN (rkR a kn n v zc k) := by
  obtain ⟨-, f14, d, hd, ed⟩ := E.f7 k hk
  obtain ⟨x, hx, ex⟩ := hx
  have g1 : guestManyB a kn n v (a 14 k) ≤ 8 := gm_le a kn n v (a 14 k) 8
  unfold fiR rkR
  rw [f14, gs_eq E h, pc_gm (fun g hg => hcom g (a 14 k) hg), h7, ed, ex, jn_nI (by omega), jn_nI (by omega)]
  rw [ed] at g1
  generalize guestManyB a kn n v (nI d) = y at g1 ⊢
  have s1 : (99 : Int32) - nI d = nI (99 - d) := pk_sub (a := 99) (b := d) (by omega)
  have m1 : lN y * 1000000 = lN (y * 1000000) := lN_mul y 1000000
  have m2 : lN (99 - d) * 1000 = lN ((99 - d) * 1000) := lN_mul (99 - d) 1000
  have m3 : lN (y * 1000000 + (99 - d) * 1000) + 999 = lN (y * 1000000 + (99 - d) * 1000 + 999) := lN_add _ 999
  rw [s1, nI_l (by omega), nI_l (by omega), nI_l (by omega), m1, m2, lN_add, m3, lN_sub (by omega)]
theorem lg_N {x y : Nat} (hx : x < 2 ^ 31) (hy : y < 2 ^ 31) : decide (lg_cmp (lN x) (lN y) ≤ 0) = decide (x ≤ y) := by
  unfold lg_cmp
  have h1 : (lN x > lN y) ↔ y < x := lN_lt hy hx
  by_cases q : y < x
  · rw [if_pos (h1.mpr q)]
    rw [decide_eq_false (show ¬ x ≤ y by omega)]; decide
  · rw [if_neg (fun z => q (h1.mp z)), decide_eq_true (show x ≤ y by omega)]
    split <;> decide
theorem lg_m1 {x : Nat} (hx : x < 2 ^ 31) : decide (lg_cmp (lN x) (-1) ≤ 0) = false := by
  unfold lg_cmp
  have h1 : lN x > -1 := by
    show (-1 : Int64) < lN x
    rw [Int64.lt_iff_toInt_lt, lN_toInt hx]
    have e : (-1 : Int64).toInt = -1 := by decide
    omega
  rw [if_pos h1]; decide
/-- the law's search for the first open cake of a set -/
theorem fi_char {set : Int32} {Rk : Nat → Nat} (hR : ∀ k, k < cm → lOp G k = true → fiR G k = lN (Rk k) ∧ Rk k < 2 ^ 31) : ∀ m, m ≤ cm →
    (foldU (fiS G set) (none, -1) m = (none, -1) ∧ ∀ k, k < m → (decide ((set >>> (nI k &&& 31)) &&& 1 = 1) && lOp G k) = false) ∨ ∃ k, k < m ∧ (decide ((set >>> (nI k &&& 31)) &&& 1 = 1) && lOp G k) = true ∧ foldU (fiS G set) (none, -1) m = (some k, lN (Rk k)) ∧ ∀ o, o < m → (decide ((set >>> (nI o &&& 31)) &&& 1 = 1) && lOp G o) = true → Rk o ≤ Rk k := by
  intro m
  induction m with
  | zero => intro _; exact Or.inl ⟨rfl, fun k hk => absurd hk (Nat.not_lt_zero _)⟩
  | succ m ih =>
    intro hm
    have hstep : ∀ z : Option Nat × Int64, fiS G set m z = if (decide ((set >>> (nI m &&& 31)) &&& 1 = 1) && lOp G m) && !decide (lg_cmp (fiR G m) z.2 ≤ 0) then (some m, fiR G m) else z := fun z => rfl
    rw [foldU_s, hstep]
    cases hp : (decide ((set >>> (nI m &&& 31)) &&& 1 = 1) && lOp G m) with
    | false =>
      rw [Bool.false_and, if_neg (by simp)]
      rcases ih (by omega) with ⟨h1, h2⟩ | ⟨k, h1, h2, h3, h4⟩
      · refine Or.inl ⟨h1, fun k hk => ?_⟩
        by_cases q : k = m
        · rw [q]; exact hp
        · exact h2 k (by omega)
      · refine Or.inr ⟨k, by omega, h2, h3, fun o ho hpo => ?_⟩
        by_cases q : o = m
        · rw [q, hp] at hpo; cases hpo
        · exact h4 o (by omega) hpo
    | true =>
      obtain ⟨r1, r2⟩ := hR m (by omega) (and_r hp)
      rcases ih (by omega) with ⟨h1, h2⟩ | ⟨k, h1, h2, h3, h4⟩
      · rw [h1, r1, lg_m1 r2, Bool.not_false, Bool.true_and, if_pos rfl]
        refine Or.inr ⟨m, by omega, hp, rfl, fun o ho hpo => ?_⟩
        by_cases q : o = m
        · rw [q]; exact Nat.le_refl _
        · rw [h2 o (by omega)] at hpo; cases hpo
      · obtain ⟨s1, s2⟩ := hR k (by omega) (and_r h2)
        rw [h3, r1, lg_N r2 s2, Bool.true_and]
        by_cases q : Rk m ≤ Rk k
        · rw [decide_eq_true q, if_neg (by simp)]
          refine Or.inr ⟨k, by omega, h2, rfl, fun o ho hpo => ?_⟩
          by_cases q2 : o = m
          · rw [q2]; exact q
          · exact h4 o (by omega) hpo
        · rw [decide_eq_false q, if_pos (by simp)]
          refine Or.inr ⟨m, by omega, hp, rfl, fun o ho hpo => ?_⟩
          by_cases q2 : o = m
          · rw [q2]; exact Nat.le_refl _
          · exact Nat.le_trans (h4 o (by omega) hpo) (by omega)
theorem ah_R (T : tInv n cm a kn) (E : lT n cm a kn G) {zc : VS} (hrk : rkJ a kn v cm os zc) (O : tOrd n a os) {k o : Nat} (hk : k < cm) (ho : o < cm) (sk : stateB a kn n v k = 1) (so : stateB a kn n v o = 1) (h : aheadB a kn n v k o = true) : rkR a kn n v zc.1 o < rkR a kn n v zc.1 k := by
  have hn := E.n64
  obtain ⟨pk, k1, k2, -, k4⟩ := T.cake k hk
  obtain ⟨po, o1, o2, -, o4⟩ := T.cake o ho
  have qk := st_open k2 (by omega) sk
  have qo := st_open o2 (by omega) so
  obtain ⟨c, hc, -, hA, hB⟩ := hrk
  have hc64 : c ≤ 64 := by have := O.1; omega
  obtain ⟨x, hx, ex⟩ := hA k pk hk k2 ((O.mem pk).mpr k1) qk
  obtain ⟨y, hy, ey⟩ := hA o po ho o2 ((O.mem po).mpr o1) qo
  obtain ⟨-, -, d, hd, ed⟩ := E.f7 k hk
  obtain ⟨-, -, d', hd', ed'⟩ := E.f7 o ho
  have hB2 := hB k pk o po hk ho k2 o2 ((O.mem pk).mpr k1) ((O.mem po).mpr o1) qk qo
  rw [ex, ey, nI_ltI (by omega) (by omega)] at hB2
  rw [ah_iff k2 o2 (by omega) (by omega), ed, ed', nI_toInt (by omega), nI_toInt (by omega)] at h
  have g1 : guestManyB a kn n v (nI d) ≤ 8 := gm_le a kn n v (nI d) 8
  have g2 : guestManyB a kn n v (nI d') ≤ 8 := gm_le a kn n v (nI d') 8
  unfold rkR
  rw [ed, ed', ex, ey, jn_nI (by omega), jn_nI (by omega), jn_nI (by omega), jn_nI (by omega)]
  generalize guestManyB a kn n v (nI d) = m1 at h g1 ⊢
  generalize guestManyB a kn n v (nI d') = m2 at h g2 ⊢
  rcases h with h | ⟨h1, h | ⟨h2, h3⟩⟩
  · omega
  · omega
  · have := hB2 h3
    omega
/-- all that the law reads of a view, against the class's view -/
def LV (n cm : Nat) (a : Nat → Nat → Int32) (kn : Nat → Bool) (v : Nat) (l : List Nat) (G : FF) (V : VS) : Prop :=
  (lNx G n v none = l.head? ∧ nxC G n v l ∧ ∀ z, z ∈ l → z < n) ∧ lT n cm a kn G ∧ (∀ t, t < 40 → G 8 t = V.1 0 t + 1) ∧ (∀ g, g < 8 → gR n a G V.1 g) ∧
  (∀ k, k < cm → V.1 6 k = if bitT (G 10 10) k then 3 else if bitT (G 10 9) k then 2 else if bitT (G 10 8) k then 1 else 0) ∧ G 10 11 = V.2.2 ∧ (∀ t, t < 40 → V.1 2 t = oI (lKp G cm t)) ∧ (∀ t, t < 40 → l.foldl (clS G t) 0 = V.1 1 t) ∧ (∀ k, k < cm → bitT (G 10 8) k = false → bitT (G 10 9) k = false ∧ bitT (G 10 10) k = false)
theorem cl_fold (T : tInv n cm a kn) (E : lT n cm a kn G) (O : tOrd n a os) {t : Nat} (ht : t < 40) : (knL kn v os).foldl (clS G t) 0 = (os.foldl (hs1 a kn v) zF).1 1 t := by
  have h := fold_proj (st := hs1 a kn v) (π := fun z : VS => z.1 1 t) (st' := fun y i => if kn (6 * i + v) then clS G t y i else y) (l := os) (z := zF) (fun i hi z => by
    have hi := (O.mem i).mp hi
    obtain ⟨d1, d2, d3, -, -⟩ := lw_dec T E hi
    show (hs1 a kn v z i).1 1 t = _
    rw [hs_1 T z hi ht]
    unfold pmv isMoveB clS
    rw [d1, d2, d3]
    cases hk : kn (6 * i + v) with
    | false => simp
    | true =>
      rw [if_pos rfl, Bool.true_and]
      obtain ⟨k, u, w, hk7, -, -, e1, -⟩ := wk_N T hi
      rw [e1]
      have hc : k = 0 ∨ k = 1 ∨ k = 2 ∨ k = 3 ∨ k = 4 ∨ k = 5 ∨ k = 6 := by omega
      have e0 : nI 0 = 0 := rfl
      rcases hc with q | q | q | q | q | q | q <;> subst q
      · by_cases h4 : a 4 i = nI t
        · rw [show decide (1 < nI 0) = false by decide, show decide (nI 0 = 0) = true by decide, show decide (nI 0 = 1) = false by decide, decide_eq_true h4]; rfl
        · rw [show decide (1 < nI 0) = false by decide, show decide (nI 0 = 0) = true by decide, show decide (nI 0 = 1) = false by decide, decide_eq_false h4]; rfl
      · by_cases h4 : a 4 i = nI t
        · rw [show decide (1 < nI 1) = false by decide, show decide (nI 1 = 0) = false by decide, show decide (nI 1 = 1) = true by decide, decide_eq_true h4]; rfl
        · rw [show decide (1 < nI 1) = false by decide, show decide (nI 1 = 0) = false by decide, show decide (nI 1 = 1) = true by decide, decide_eq_false h4]; rfl
      · rw [show decide (1 < nI 2) = true by decide, show decide (nI 2 = 0) = false by decide, show decide (nI 2 = 1) = false by decide]; simp
      · rw [show decide (1 < nI 3) = true by decide, show decide (nI 3 = 0) = false by decide, show decide (nI 3 = 1) = false by decide]; simp
      · rw [show decide (1 < nI 4) = true by decide, show decide (nI 4 = 0) = false by decide, show decide (nI 4 = 1) = false by decide]; simp
      · rw [show decide (1 < nI 5) = true by decide, show decide (nI 5 = 0) = false by decide, show decide (nI 5 = 1) = false by decide]; simp
      · rw [show decide (1 < nI 6) = true by decide, show decide (nI 6 = 0) = false by decide, show decide (nI 6 = 1) = false by decide]; simp)
  unfold knL
  rw [List.foldl_filter]
  exact h.symm
theorem lays_V (R : tRel n cm a kn cs) (E : lT n cm a kn F) (hv : v ≤ 5) : ∃ l, (lNx F n v none = l.head? ∧ nxC F n v l ∧ ∀ z, z ∈ l → z < n) ∧ LV n cm a kn v l (lLy F l) (rdA (frV v) (cs.1 12) cs.2.2) := by
  obtain ⟨T, ⟨os, O, e⟩, -, -, -, hdy, -⟩ := R
  have hn := E.n64
  have hcm := E.cm10
  have hm : ∀ i, i ∈ os → i < n := fun i hi => (O.mem i).mp hi
  refine ⟨knL kn v os, ⟨nx_first T E O hv, nx_chain T E O hv, fun z hz => ((kl_mem O z).mp hz).1⟩, ?_⟩
  have hLR := lays_R (v := v) T E O
  have hG : lLy F (knL kn v os) = (os.foldl (lst F kn v) (foldU zrS F 40, 0)).1 := by unfold lLy; rw [ly_os]
  have hk8 : ∀ k, k < 8 → lLy F (knL kn v os) k = F k := fun k hk => by rw [hG, lst_k F kn v hk]; exact zr_k F hk 40
  have E2 := lT_G E hk8
  generalize lLy F (knL kn v os) = G at hG hk8 E2 ⊢
  obtain ⟨h1, h2, h3, h4, h5, h6, h7⟩ := hLR
  rw [← hG] at h1 h2 h4 h5 h6 h7
  have hcom := fun (g : Nat) (d : Int32) (hg : g < 8) => (v_com (v := v) T O hg d).1
  have hrk := v_rk (v := v) T O
  have hst6 := fun (k : Nat) (hk : k < cm) => v_st (v := v) T O hv hk
  have hst := fun (k : Nat) (hk : k < cm) => (v_st (v := v) T O hv hk).trans (st_st T O hv hk)
  have hpl := fun (t : Nat) (ht : t < 40) => (v_pl (v := v) T hm ht).trans (pl_place T O t)
  have hcl := fun (t : Nat) (ht : t < 40) => cl_fold (v := v) T E2 O ht
  obtain ⟨s, hk1, hk2⟩ := v_keep T O hv hdy
  have hV : rdA (frV v) (cs.1 12) cs.2.2 = (upR (os.foldl (hs1 a kn v) zF).1 2 s, (os.foldl (hs1 a kn v) zF).2) := by
    unfold rdA
    rw [e, show ((fgV, 0, 0) : VS) = zF from rfl, rdA1_fold T hv os zF hm, rdA2_fold T hv _ os _ hm, hk1]
  rw [hV]
  generalize os.foldl (hs1 a kn v) zF = zc at *
  have hR6 : ∀ k, k < cm → zc.1 6 k = if bitT (G 10 10) k then 3 else if bitT (G 10 9) k then 2 else if bitT (G 10 8) k then 1 else 0 := fun k hk => by
    obtain ⟨b8, b9, b10⟩ := h6 k hk
    rw [b8, b9, b10, hst6 k hk]; rfl
  refine ⟨⟨nx_first T E2 O hv, nx_chain T E2 O hv, fun z hz => ((kl_mem O z).mp hz).1⟩, E2, fun t ht => ?_, fun g hg => ?_, fun k hk => ?_, h2, fun t ht => ?_, fun t ht => ?_, fun k hk hb8 => ?_⟩
  · show G 8 t = upR zc.1 2 s 0 t + 1
    rw [upR_n _ _ (by omega)]; exact h1 t ht
  · unfold gR
    show (_ ∧ upR zc.1 2 s 3 g = 0 ∧ upR zc.1 2 s 4 g = -1) ∨ ∃ m, m < n ∧ a 1 m = 2 ∧ _ ∧ upR zc.1 2 s 3 g = a 6 m ∧ upR zc.1 2 s 4 g = a 7 m ∧ upR zc.1 2 s 5 g = a 8 m
    rw [upR_n _ _ (by omega), upR_n _ _ (by omega), upR_n _ _ (by omega)]
    exact h5 g hg
  · show upR zc.1 2 s 6 k = _
    rw [upR_n _ _ (by omega)]; exact hR6 k hk
  · show upR zc.1 2 s 2 t = _
    rw [upR_2, hk2 t ht]
    have hop : ∀ k, k < cm → (lOp G k = true ↔ stateB a kn n v k = 1) := fun k hk => by
      have hk32 : k < 32 := by omega
      rw [← hst k hk, hR6 k hk]
      unfold lOp
      rw [Bool.and_eq_true, decide_eq_true_eq, decide_eq_true_eq, bt_sh hk32, bt_sh0 hk32, bt_or]
      cases bitT (G 10 8) k <;> cases bitT (G 10 9) k <;> cases bitT (G 10 10) k <;> decide
    have hcand : ∀ k, k < cm → ((decide ((G 9 t >>> (nI k &&& 31)) &&& 1 = 1) && lOp G k) = true ↔ ∃ i, i < n ∧ keQ a kn n v t i = true ∧ jn (a 5 i) = k) := fun k hk => by
      have hk32 : k < 32 := by omega
      rw [Bool.and_eq_true, decide_eq_true_eq, bt_sh hk32, h7 t k ht hk, hop k hk, List.any_eq_true]
      constructor
      · rintro ⟨⟨i, hi, hq⟩, ho⟩
        unfold kpP at hq
        simp only [Bool.and_eq_true, decide_eq_true_eq] at hq
        have j5 : jn (a 5 i) = k := by rw [hq.2]; exact jn_nI (by omega)
        refine ⟨i, hm i hi, ?_, j5⟩
        unfold keQ
        rw [j5]
        simp [hq.1.1.1, hq.1.1.2, hq.1.2, ho]
      · rintro ⟨i, hi, hq, j5⟩
        obtain ⟨⟨k', g1, g2, g3⟩, g4⟩ := ke_kd T hi hq
        rw [j5] at g3 g4
        unfold keQ at hq
        simp only [Bool.and_eq_true, decide_eq_true_eq] at hq
        refine ⟨⟨i, (O.mem i).mpr hi, ?_⟩, g4⟩
        unfold kpP
        simp [hq.1.1.1, hq.1.1.2, hq.1.2, g2, g3]
    have hRk : ∀ k, k < cm → lOp G k = true → fiR G k = lN (rkR a kn n v zc.1 k) ∧ rkR a kn n v zc.1 k < 2 ^ 31 := fun k hk ho => by
      obtain ⟨pk, k1, k2, -, k4⟩ := T.cake k hk
      have qk := st_open k2 (by omega) ((hop k hk).mp ho)
      obtain ⟨c, hc, -, hA, -⟩ := hrk
      have hc64 : c ≤ 64 := by have := O.1; omega
      obtain ⟨x, hx, ex⟩ := hA k pk hk k2 ((O.mem pk).mpr k1) qk
      have g1 : guestManyB a kn n v (a 14 k) ≤ 8 := gm_le a kn n v (a 14 k) 8
      refine ⟨fi_N E2 h5 (fun g d hg => hcom g d hg) hk (h4 k hk) ⟨x, by omega, ex⟩, ?_⟩
      unfold rkR
      omega
    have hGp : G 8 t = placeB a kn n v (nI t) + 1 := by rw [h1 t ht, hpl t ht]
    unfold keeperB lKp
    by_cases hp : placeB a kn n v (nI t) = -1
    · rw [if_pos hp, hGp, if_pos ((pl1_0 _).mpr hp)]; rfl
    · rw [if_neg hp, hGp, if_neg (fun z => hp ((pl1_0 _).mp z)), foldU_foldl]
      unfold lFi
      rcases fi_char (set := G 9 t) hRk cm (Nat.le_refl cm) with ⟨x1, x2⟩ | ⟨k, hk, hck, x1, x2⟩
      · rcases sel_ref (v := v) T O t with ⟨y1, y2⟩ | ⟨m', hm', hqm', y1, y2⟩
        · rw [x1, y1]; rfl
        · obtain ⟨⟨k', g1', g2', g3'⟩, g4'⟩ := ke_kd T (List.mem_range.mp hm') hqm'
          have := (hcand k' g1').mpr ⟨m', List.mem_range.mp hm', hqm', g3'⟩
          rw [x2 k' g1'] at this; cases this
      · obtain ⟨i, hi, hqi, ji⟩ := (hcand k hk).mp hck
        rcases sel_ref (v := v) T O t with ⟨y1, y2⟩ | ⟨m', hm', hqm', y1, y2⟩
        · rw [y2 i (List.mem_range.mpr hi)] at hqi; cases hqi
        · rw [x1, y1]
          obtain ⟨⟨k', g1', g2', g3'⟩, g4'⟩ := ke_kd T (List.mem_range.mp hm') hqm'
          have z2 := y2 i (List.mem_range.mpr hi) hqi
          rw [ji, g3'] at z2
          rw [g3'] at g4' ⊢
          have hck' := (hcand k' g1').mpr ⟨m', List.mem_range.mp hm', hqm', g3'⟩
          show nI k' = nI k
          rcases z2 with z2 | z2
          · rw [z2]
          · have q1 := ah_R T E2 hrk O g1' hk g4' ((hop k hk).mp (and_r hck)) z2
            have q2 := x2 k' g1' hck'
            omega
  · show (knL kn v os).foldl (clS G t) 0 = upR zc.1 2 s 1 t
    rw [upR_n _ _ (by omega)]; exact hcl t ht
  · obtain ⟨b8, b9, b10⟩ := h6 k hk
    rw [b8, List.any_eq_false] at hb8
    have hno : ∀ i, i ∈ os → (a 1 i = 5 ∨ a 1 i = 6) → a 4 i = nI k → kn (6 * i + v) = true → False := fun i hi h56 h44 hki => by
      obtain ⟨p, p1, -, -, p4⟩ := bd_plan T hk (hm i hi) h56 h44 hki hv
      exact hb8 p ((O.mem p).mpr p1) p4
    rw [b9, b10, List.any_eq_false, List.any_eq_false]
    refine ⟨fun i hi q => ?_, fun i hi q => ?_⟩
    · obtain ⟨q1, q2, q3⟩ := (dr_iff k i).mp q
      exact hno i hi (Or.inl q2) q3 q1
    · obtain ⟨q1, q2, q3⟩ := (bk_iff k i).mp q
      exact hno i hi (Or.inr q2) q3 q1
end LVIEW
