/-! no machine: the calls that ask answer alike -/
def tOp (xs : List Nat) (C : OP) (M : MR) : Prop := wzcode xs C.1 = M.1 ∧ (M.1 = 0 → C.1 = 0 ∧ C.2.1 = M.2.1) ∧ tRel M.2.2.1 M.2.2.2.1 M.2.2.2.2.1 M.2.2.2.2.2 C.2.2
theorem nOk_in (x : Int32) (k : Nat) (hk : k < 1000) : nOk x (nI (k + 1)) = inB x 0 (nI k) := by
  unfold nOk inB
  congr 1
  rw [Bool.eq_iff_iff, decide_eq_true_eq, Bool.not_eq_true', decide_eq_false_iff_not, Int32.lt_iff_toInt_lt, Int32.lt_iff_toInt_lt, nI_toInt (by omega), nI_toInt (by omega)]
  omega
theorem nOk_cm (x : Int32) (k : Nat) (hk : k < 1000) : nOk x (nI k) = inB x 0 (nI k - 1) := by
  unfold nOk inB
  congr 1
  have e : (nI k - 1 : Int32).toInt = (k : Int) - 1 := pk_sub_toInt (a := k) (b := 1) (by omega) (by omega)
  rw [Bool.eq_iff_iff, decide_eq_true_eq, Bool.not_eq_true', decide_eq_false_iff_not, Int32.lt_iff_toInt_lt, Int32.lt_iff_toInt_lt, nI_toInt (by omega), e]
  omega
theorem n5 (x : Int32) : nOk x 5 = inB x 0 4 := nOk_in x 4 (by omega)
theorem n40 (x : Int32) : nOk x 40 = inB x 0 39 := nOk_in x 39 (by omega)
theorem n8 (x : Int32) : nOk x 8 = inB x 0 7 := nOk_in x 7 (by omega)
theorem n6 (x : Int32) : nOk x 6 = inB x 0 5 := nOk_in x 5 (by omega)
theorem rOk_in (x lo hi : Int32) : rOk x lo hi = inB x lo hi := by
  unfold rOk inB
  congr 1
  rw [Bool.eq_iff_iff, decide_eq_true_eq, Bool.not_eq_true', decide_eq_false_iff_not, Int32.not_lt]
theorem room_full {n : Nat} (hn : n ≤ 240) (j : Nat) (hj : j ≤ 1000) : roomOk n (nI j) = !fullB n j := by
  unfold roomOk fullB
  rw [nI_add, Bool.eq_iff_iff, decide_eq_true_eq, Bool.not_eq_true', decide_eq_false_iff_not]
  have h := nI_leI (a := n + j) (b := 240) (by omega) (by omega)
  have h2 : nI (n + j) ≤ 240 ↔ n + j ≤ 240 := h
  rw [h2]; omega
section READ
variable {n cm : Nat} {a : Nat → Nat → Int32} {kn : Nat → Bool} {os : List Nat} {v : Nat} {cs : CS} {xs : List Nat}
theorem tOp_same (R : tRel n cm a kn cs) {k : Nat} {m : Int32} (h : wzcode xs k = m) (hm : ¬ m = 0) : tOp xs (k, 0, cs) (m, 0, n, cm, a, kn) := ⟨h, fun z => absurd z hm, R⟩
theorem tOp_ans (R : tRel n cm a kn cs) {x y : Int32} (h : x = y) : tOp xs (0, x, cs) (0, y, n, cm, a, kn) := ⟨rfl, fun _ => ⟨rfl, h⟩, R⟩
theorem tOp_wr {n' cm' : Nat} {a' : Nat → Nat → Int32} {kn' : Nat → Bool} {cs' : CS} {x y : Int32} (h : x = y) (R' : tRel n' cm' a' kn' cs') : tOp xs (0, x, cs') (0, y, n', cm', a', kn') := ⟨rfl, fun _ => ⟨rfl, h⟩, R'⟩
theorem frV_lt (h : v < 5) : frV v = (1 : Int32) <<< (nI v &&& 31) := if_neg (by omega)
theorem tRel.inv (R : tRel n cm a kn cs) : tInv n cm a kn := R.1
theorem tRel.cn (R : tRel n cm a kn cs) : cs.2.1 = cm := R.2.2.1
theorem tRel.clk (R : tRel n cm a kn cs) {v : Nat} (h : v < 5) : cs.1 10 v = a 10 v := R.2.2.2.1 v h
theorem tRel.rec (R : tRel n cm a kn cs) {k : Nat} (h : k < cm) : cs.1 11 k = a 13 k := R.2.2.2.2.1 k h
theorem tRel.day (R : tRel n cm a kn cs) {k : Nat} (h : k < cm) : cs.1 12 k = a 14 k := R.2.2.2.2.2.1 k h
theorem tRel.need (R : tRel n cm a kn cs) {r f : Nat} (hr : r < 6) (hf : f < 8) : cs.1 (20 + r) f = a 11 (8 * r + f) := R.2.2.2.2.2.2 r f hr hf
theorem tRel.len (R : tRel n cm a kn cs) : cs.2.2.length = n := by
  obtain ⟨-, ⟨os, O, e⟩, -⟩ := R
  rw [e, List.length_map]; exact O.1
theorem tRel.look (R : tRel n cm a kn cs) (hv : v < 5) : vOk n cm a kn v (cLk cs.1 cs.2.2 (nI v)) := by
  obtain ⟨T, ⟨os, O, e⟩, -, -, -, hd, -⟩ := R
  unfold cLk
  rw [e, ← frV_lt hv]
  exact view_ok T O (by omega) hd
theorem tRel.lookA (R : tRel n cm a kn cs) : vOk n cm a kn 5 (cLa cs.1 cs.2.2) := by
  obtain ⟨T, ⟨os, O, e⟩, -, -, -, hd, -⟩ := R
  unfold cLa
  rw [e, show (31 : Int32) = frV 5 from rfl]
  exact view_ok T O (by omega) hd
theorem place_rg (T : tInv n cm a kn) (x : Int32) : placeB a kn n v x = -1 ∨ ∃ w, w < 5 ∧ placeB a kn n v x = nI w := by
  have hn := T.hn
  unfold placeB
  rcases lm_range a kn v x (-1) n with h | ⟨j, hj, h⟩
  · left; unfold latestB; rw [h, if_pos rfl]
  · unfold latestB
    rw [h, if_neg (nI_m1 j (by omega)), jn_nI (by omega)]
    by_cases q : a 1 j = 0
    · rw [if_pos q]
      obtain ⟨w, hw, e, -⟩ := T.au j hj
      exact Or.inr ⟨w, hw, e⟩
    · rw [if_neg q]; exact Or.inl rfl
theorem oz_where (R : tRel n cm a kn cs) (f t : Int32) : tOp [1] (cWhere cs f t) (mWhere n cm a kn f t) := by
  unfold cWhere mWhere
  rw [n5, n40]
  cases hf : inB f 0 4 with
  | false => exact tOp_same R rfl (by decide)
  | true =>
    cases ht : inB t 0 39 with
    | false => exact tOp_same R rfl (by decide)
    | true =>
      obtain ⟨jf, hjf, rfl⟩ := in4 hf
      obtain ⟨jt, hjt, rfl⟩ := in39 ht
      refine tOp_ans R ?_
      rw [jn_nI (by omega), jn_nI (by omega)]
      exact (R.look hjf).1 jt hjt
theorem oz_whereByAll (R : tRel n cm a kn cs) (t : Int32) : tOp [1] (cWhereByAll cs t) (mWhereByAll n cm a kn t) := by
  unfold cWhereByAll mWhereByAll
  rw [n40]
  cases ht : inB t 0 39 with
  | false => exact tOp_same R rfl (by decide)
  | true =>
    obtain ⟨jt, hjt, rfl⟩ := in39 ht
    refine tOp_ans R ?_
    rw [jn_nI (by omega)]
    exact R.lookA.1 jt hjt
theorem cnt_eq {z : VS} (V : vOk n cm a kn v z) {o : Nat} (ho : o < 8) : vSome z.1 o = countB a kn n v o := foldU_cg (fun j hj x => by
  unfold vsStep cnStep
  rw [V.1 (o + 8 * j) (by omega)]; rfl)
theorem oz_count (R : tRel n cm a kn cs) (f o : Int32) : tOp [1] (cCount cs f o) (mCount n cm a kn f o) := by
  unfold cCount mCount
  rw [n5, n8]
  cases hf : inB f 0 4 with
  | false => exact tOp_same R rfl (by decide)
  | true =>
    cases ht : inB o 0 7 with
    | false => exact tOp_same R rfl (by decide)
    | true =>
      obtain ⟨jf, hjf, rfl⟩ := in4 hf
      obtain ⟨jt, hjt, rfl⟩ := in7 ht
      refine tOp_ans R ?_
      rw [jn_nI (by omega), jn_nI (by omega), cnt_eq (R.look hjf) hjt]
theorem oz_countByAll (R : tRel n cm a kn cs) (o : Int32) : tOp [1] (cCountByAll cs o) (mCountByAll n cm a kn o) := by
  unfold cCountByAll mCountByAll
  rw [n8]
  cases ht : inB o 0 7 with
  | false => exact tOp_same R rfl (by decide)
  | true =>
    obtain ⟨jt, hjt, rfl⟩ := in7 ht
    refine tOp_ans R ?_
    rw [jn_nI (by omega), cnt_eq R.lookA hjt]
theorem c5_fold : ∀ (x0 x1 x2 x3 x4 : Bool), foldU (fun o x => x ||| (if pick x0 x1 x2 x3 x4 o then (1 : Int32) <<< (nI o &&& 31) else 0)) 0 5 = c5 x0 x1 x2 x3 x4 := by decide +kernel
theorem b5_fold (c : Nat → Bool) : foldU (fun o x => x ||| (if c o then (1 : Int32) <<< (nI o &&& 31) else 0)) 0 5 = b5 c :=
  (foldU_cg (fun i hi x => by rw [pick_c c hi])).trans (c5_fold (c 0) (c 1) (c 2) (c 3) (c 4))
theorem oz_claims (R : tRel n cm a kn cs) (f t : Int32) : tOp [1] (cClaims cs f t) (mClaims n cm a kn f t) := by
  unfold cClaims mClaims
  rw [n5, n40]
  cases hf : inB f 0 4 with
  | false => exact tOp_same R rfl (by decide)
  | true =>
    cases ht : inB t 0 39 with
    | false => exact tOp_same R rfl (by decide)
    | true =>
      obtain ⟨jf, hjf, rfl⟩ := in4 hf
      obtain ⟨jt, hjt, rfl⟩ := in39 ht
      refine tOp_ans R ?_
      rw [jn_nI (by omega), jn_nI (by omega)]
      have V := R.look hjf
      have h1 : foldU (clStep a kn n jf (nI jt)) 0 5 = b5 (fun o => clB a kn n jf jt o && !decide (placeB a kn n jf (nI jt) = nI o)) := by
        refine Eq.trans (foldU_cg (fun o ho x => ?_)) (b5_fold _)
        unfold clStep clB
        by_cases q1 : latestB a kn n jf (nI jt) (nI o) = -1
        · simp [q1]
        · by_cases q2 : a 1 (jn (latestB a kn n jf (nI jt) (nI o))) = 0
          · by_cases q3 : placeB a kn n jf (nI jt) = nI o
            · simp [q1, q2, q3]
            · simp [q1, q2, q3]
          · simp [q1, q2]
      rw [h1]
      unfold vWrong
      rw [V.1 jt hjt, V.2.1 jt hjt]
      rcases place_rg (v := jf) R.inv (nI jt) with h | ⟨w, hw, h⟩
      · rw [h, if_pos rfl]
        refine b5_cg (fun o ho => ?_)
        have : ¬ (-1 : Int32) = nI o := fun z => nI_m1 o (by omega) z.symm
        simp [this]
      · rw [h, if_neg (nI_m1 w (by omega)), b5_clr _ hw]
        refine b5_cg (fun o ho => ?_)
        have j2 : nI w = nI o ↔ w = o := nI_eq (by omega) (by omega)
        by_cases q : o = w
        · subst q; simp
        · have q2 : ¬ w = o := fun z => q z.symm
          simp [q, q2, j2]
theorem oz_words (R : tRel n cm a kn cs) : tOp [] (cWords cs) (mWords n cm a kn) := by
  unfold cWords mWords
  exact tOp_ans R (by rw [R.len])
theorem oz_cakes (R : tRel n cm a kn cs) : tOp [] (cCakes cs) (mCakes n cm a kn) := by
  unfold cCakes mCakes
  exact tOp_ans R (by rw [R.cn])
theorem ord_perm (O : tOrd n a os) : os.Perm (List.range n) := (List.perm_ext_iff_of_nodup O.2.1 List.nodup_range).mpr (fun i => by rw [O.mem, List.mem_range])
theorem cnt_fold (p : Nat → Bool) : ∀ m, foldU (fun w x => if p w then x + 1 else x + 0) 0 m = (List.range m).countP p
  | 0 => rfl
  | m + 1 => by
    rw [foldU_s, cnt_fold p m, List.range_succ, List.countP_append]
    cases h : p m <;> simp [h]
theorem sk_cnt (T : tInv n cm a kn) (hv : v ≤ 5) : ∀ l : List Nat, (∀ i, i ∈ l → i < n) → skA (frV v) (l.map (recW a kn)) = l.countP (fun i => kn (6 * i + v))
  | [], _ => rfl
  | i :: r, h => by
    rw [List.map_cons, List.countP_cons]
    unfold skA
    rw [sk_cnt T hv r (fun j hj => h j (List.mem_cons_of_mem _ hj))]
    have h8 := rec8 T hv (h i List.mem_cons_self)
    cases hk : kn (6 * i + v) with
    | false => rw [if_pos (h8.mpr hk)]; simp
    | true =>
      rw [if_neg (fun q => by rw [h8.mp q] at hk; cases hk)]
      simp; omega
theorem oz_known (R : tRel n cm a kn cs) (f : Int32) : tOp [1] (cKnown cs f) (mKnown n cm a kn f) := by
  unfold cKnown mKnown
  rw [n5]
  cases hf : inB f 0 4 with
  | false => exact tOp_same R rfl (by decide)
  | true =>
    obtain ⟨jf, hjf, rfl⟩ := in4 hf
    refine tOp_ans R ?_
    rw [jn_nI (by omega), ← frV_lt hjf]
    obtain ⟨T, ⟨os, O, e⟩, -⟩ := R
    have e2 : foldU (knStep kn jf) 0 n = (List.range n).countP (fun i => kn (6 * i + jf)) := (cnt_fold (fun i => kn (6 * i + jf)) n)
    rw [e, sk_cnt T (by omega) os (fun i hi => (O.mem i).mp hi), e2, (ord_perm O).countP_eq]
theorem oz_clock (R : tRel n cm a kn cs) (f : Int32) : tOp [1] (cClock cs f) (mClock n cm a kn f) := by
  unfold cClock mClock
  rw [n5]
  cases hf : inB f 0 4 with
  | false => exact tOp_same R rfl (by decide)
  | true =>
    obtain ⟨jf, hjf, rfl⟩ := in4 hf
    refine tOp_ans R ?_
    rw [jn_nI (by omega)]
    exact R.clk hjf
theorem oz_guests (R : tRel n cm a kn cs) (f d : Int32) : tOp [1, 2] (cGuests cs f d) (mGuests n cm a kn f d) := by
  unfold cGuests mGuests
  rw [n5, rOk_in]
  cases hf : inB f 0 4 with
  | false => exact tOp_same R rfl (by decide)
  | true =>
    cases ht : inB d 0 99 with
    | false => exact tOp_same R rfl (by decide)
    | true =>
      obtain ⟨jf, hjf, rfl⟩ := in4 hf
      refine tOp_ans R ?_
      rw [jn_nI (by omega)]
      have V := R.look hjf
      refine foldU_cg (fun g hg x => ?_)
      unfold vgStep guStep
      rw [V.2.2.1 g d hg]
      by_cases q : comingB a kn n jf (nI g) d = -1
      · simp [q]
      · simp [q]
theorem oz_cake (R : tRel n cm a kn cs) (f k : Int32) : tOp [1] (cCake cs f k) (mCake n cm a kn f k) := by
  have hcm := R.inv.hcm
  unfold cCake mCake
  rw [n5, R.cn, nOk_cm k cm (by omega)]
  cases hf : inB f 0 4 with
  | false => exact tOp_same R rfl (by decide)
  | true =>
    cases ht : inB k 0 (nI cm - 1) with
    | false => exact tOp_same R rfl (by decide)
    | true =>
      obtain ⟨jf, hjf, rfl⟩ := in4 hf
      obtain ⟨jk, hjk, rfl⟩ := inC hcm ht
      refine tOp_ans R ?_
      rw [jn_nI (by omega), jn_nI (by omega)]
      exact (R.look hjf).2.2.2.2.1 jk hjk
theorem oz_keptFor (R : tRel n cm a kn cs) (f t : Int32) : tOp [1] (cKeptFor cs f t) (mKeptFor n cm a kn f t) := by
  unfold cKeptFor mKeptFor
  rw [n5, n40]
  cases hf : inB f 0 4 with
  | false => exact tOp_same R rfl (by decide)
  | true =>
    cases ht : inB t 0 39 with
    | false => exact tOp_same R rfl (by decide)
    | true =>
      obtain ⟨jf, hjf, rfl⟩ := in4 hf
      obtain ⟨jt, hjt, rfl⟩ := in39 ht
      refine tOp_ans R ?_
      rw [jn_nI (by omega), jn_nI (by omega)]
      exact (R.look hjf).2.2.2.2.2.1 jt hjt
theorem oz_keptByAll (R : tRel n cm a kn cs) (t : Int32) : tOp [1] (cKeptByAll cs t) (mKeptByAll n cm a kn t) := by
  unfold cKeptByAll mKeptByAll
  rw [n40]
  cases ht : inB t 0 39 with
  | false => exact tOp_same R rfl (by decide)
  | true =>
    obtain ⟨jt, hjt, rfl⟩ := in39 ht
    refine tOp_ans R ?_
    rw [jn_nI (by omega)]
    exact R.lookA.2.2.2.2.2.1 jt hjt
theorem max0 (x : Int32) : (if 0 < x then x else 0) = (if 0 ≤ x then x else 0) := by
  by_cases h : 0 < x
  · rw [if_pos h, if_pos (by rw [Int32.le_iff_toInt_le]; rw [Int32.lt_iff_toInt_lt] at h; omega)]
  · rw [if_neg h]
    by_cases h2 : 0 ≤ x
    · rw [if_pos h2]
      rw [Int32.lt_iff_toInt_lt] at h
      rw [Int32.le_iff_toInt_le] at h2
      rw [← Int32.toInt_inj]
      omega
    · rw [if_neg h2]
theorem kept_eq {z : VS} (V : vOk n cm a kn v z) (k : Int32) {o : Nat} (ho : o < 8) : vKeptN z.1 k o = keptOfB a kn n v k o := foldU_cg (fun j hj x => by
  unfold vkStep koStep
  rw [V.2.2.2.2.2.1 (o + 8 * j) (by omega)]; rfl)
theorem lack_eq (R : tRel n cm a kn cs) {z : VS} (V : vOk n cm a kn v z) {k o : Nat} (hk : k < cm) (ho : o < 8) : cLack z.1 cs.1 k o = lackB a kn n v k o := by
  obtain ⟨r, hr, er⟩ := R.inv.mi.2.2.2.2 k hk
  unfold cLack lackB
  rw [max0, R.rec hk, er, jn_nI (by omega), R.need hr ho, kept_eq V (nI k) ho]
theorem oz_lacks (R : tRel n cm a kn cs) (f k o : Int32) : tOp [1] (cLacks cs f k o) (mLacks n cm a kn f k o) := by
  have hcm := R.inv.hcm
  unfold cLacks mLacks
  rw [n5, n8, R.cn, nOk_cm k cm (by omega)]
  cases hf : inB f 0 4 with
  | false => exact tOp_same R rfl (by decide)
  | true =>
    cases hk : inB k 0 (nI cm - 1) with
    | false => exact tOp_same R rfl (by decide)
    | true =>
      cases ht : inB o 0 7 with
      | false => exact tOp_same R rfl (by decide)
      | true =>
        obtain ⟨jf, hjf, rfl⟩ := in4 hf
        obtain ⟨jk, hjk, rfl⟩ := inC hcm hk
        obtain ⟨jo, hjo, rfl⟩ := in7 ht
        have V := R.look hjf
        rw [jn_nI (show jf < 2 ^ 31 by omega), jn_nI (show jk < 2 ^ 31 by omega), jn_nI (show jo < 2 ^ 31 by omega), V.2.2.2.2.1 jk hjk, lack_eq R V hjk hjo]
        by_cases q : stateB a kn n jf jk = 1
        · rw [if_pos q, if_pos q]; exact tOp_ans R rfl
        · rw [if_neg q, if_neg q]; exact tOp_ans R rfl
theorem foldU_orb (p : Nat → Bool) (b : Bool) : ∀ m, foldU (fun f x => x || p f) b m = true ↔ b = true ∨ ∃ f, f < m ∧ p f = true
  | 0 => ⟨Or.inl, fun h => h.elim id (fun ⟨f, h, _⟩ => absurd h (Nat.not_lt_zero _))⟩
  | m + 1 => by
    rw [foldU_s]
    show (foldU (fun f x => x || p f) b m || p m) = true ↔ _
    rw [Bool.or_eq_true, foldU_orb p b m]
    constructor
    · rintro ((h | ⟨f, h1, h2⟩) | h)
      · exact Or.inl h
      · exact Or.inr ⟨f, by omega, h2⟩
      · exact Or.inr ⟨m, by omega, h⟩
    · rintro (h | ⟨f, h1, h2⟩)
      · exact Or.inl (Or.inl h)
      · by_cases q : f = m
        · rw [q] at h2; exact Or.inr h2
        · exact Or.inl (Or.inr ⟨f, by omega, h2⟩)
theorem disl_bit (V : Nat → Nat → Int32) (d : Int32) (f : Nat) : ∀ m, bitT (foldU (vdStep V d) 0 m) f = true ↔ ∃ g, g < m ∧ vComes V g d = true ∧ bitT (V 5 g) f = true
  | 0 => ⟨fun h => (by rw [foldU_0, bt_0] at h; cases h), fun ⟨g, h, _⟩ => absurd h (Nat.not_lt_zero _)⟩
  | m + 1 => by
    rw [foldU_s]
    have ih := disl_bit V d f m
    unfold vdStep at ih ⊢
    cases hc : vComes V m d with
    | false =>
      rw [if_neg (by simp), ih]
      constructor
      · rintro ⟨g, h1, h2⟩; exact ⟨g, by omega, h2⟩
      · rintro ⟨g, h1, h2, h3⟩
        by_cases q : g = m
        · rw [q, hc] at h2; cases h2
        · exact ⟨g, by omega, h2, h3⟩
    | true =>
      rw [if_pos rfl, bt_or, Bool.or_eq_true, ih]
      constructor
      · rintro (⟨g, h1, h2⟩ | h)
        · exact ⟨g, by omega, h2⟩
        · exact ⟨m, by omega, hc, h⟩
      · rintro ⟨g, h1, h2, h3⟩
        by_cases q : g = m
        · rw [q] at h3; exact Or.inr h3
        · exact Or.inl ⟨g, by omega, h2, h3⟩
theorem dg_iff (r : Nat) (d : Int32) : ∀ m, foldU (dgStep a kn n v r d) false m = true ↔ ∃ g, g < m ∧ ¬ comingB a kn n v (nI g) d = -1 ∧ ∃ f, f < 8 ∧ (!decide (a 11 (8 * r + f) ≤ 0) && decide ((a 8 (jn (comingB a kn n v (nI g) d)) >>> (nI f &&& 31)) &&& 1 = 1)) = true
  | 0 => ⟨fun h => (by rw [foldU_0] at h; cases h), fun ⟨g, h, _⟩ => absurd h (Nat.not_lt_zero _)⟩
  | m + 1 => by
    rw [foldU_s]
    have ih := dg_iff r d m
    generalize hx : foldU (dgStep a kn n v r d) false m = x at ih ⊢
    unfold dgStep
    by_cases q : comingB a kn n v (nI m) d = -1
    · rw [if_pos q, ih]
      constructor
      · rintro ⟨g, h1, h2⟩; exact ⟨g, by omega, h2⟩
      · rintro ⟨g, h1, h2, h3⟩
        by_cases e : g = m
        · rw [e] at h2; exact absurd q h2
        · exact ⟨g, by omega, h2, h3⟩
    · rw [if_neg q]
      have e0 : foldU (diStep a r (jn (comingB a kn n v (nI m) d))) x 8 = foldU (fun f y => y || (!decide (a 11 (8 * r + f) ≤ 0) && decide ((a 8 (jn (comingB a kn n v (nI m) d)) >>> (nI f &&& 31)) &&& 1 = 1))) x 8 := rfl
      rw [e0, foldU_orb, ih]
      constructor
      · rintro (⟨g, h1, h2⟩ | h)
        · exact ⟨g, by omega, h2⟩
        · exact ⟨m, by omega, q, h⟩
      · rintro ⟨g, h1, h2, h3⟩
        by_cases e : g = m
        · rw [e] at h3; exact Or.inr h3
        · exact Or.inl ⟨g, by omega, h2, h3⟩
theorem dis_eq (R : tRel n cm a kn cs) {z : VS} (V : vOk n cm a kn v z) {r : Nat} (hr : r < 6) (d : Int32) : cDis z.1 cs.1 r d = dislikedB a kn n v r d := by
  unfold cDis dislikedB
  rw [Bool.eq_iff_iff, foldU_or, dg_iff]
  constructor
  · rintro ⟨f, hf, h⟩
    unfold cdP at h
    rw [Bool.and_eq_true, R.need hr hf] at h
    obtain ⟨h1, h2⟩ := h
    rw [Bool.not_eq_true', decide_eq_false_iff_not, bt_and (show f < 32 by omega)] at h2
    have h3 : bitT (vDisl z.1 d) f = true := by simpa using h2
    unfold vDisl at h3
    obtain ⟨g, hg, hc, hb⟩ := (disl_bit z.1 d f 8).mp h3
    rw [V.2.2.1 g d hg, Bool.not_eq_true', decide_eq_false_iff_not] at hc
    rw [V.2.2.2.1 g d hg hc] at hb
    exact ⟨g, hg, hc, f, hf, by rw [Bool.and_eq_true, decide_eq_true_eq, bt_shr hf]; exact ⟨h1, hb⟩⟩
  · rintro ⟨g, hg, hc, f, hf, h⟩
    rw [Bool.and_eq_true, decide_eq_true_eq, bt_shr hf] at h
    refine ⟨f, hf, ?_⟩
    unfold cdP
    rw [Bool.and_eq_true, R.need hr hf]
    refine ⟨h.1, ?_⟩
    rw [Bool.not_eq_true', decide_eq_false_iff_not, bt_and (show f < 32 by omega)]
    have h3 : bitT (vDisl z.1 d) f = true := (disl_bit z.1 d f 8).mpr ⟨g, hg, by rw [V.2.2.1 g d hg, Bool.not_eq_true', decide_eq_false_iff_not]; exact hc, by rw [V.2.2.2.1 g d hg hc]; exact h.2⟩
    rw [h3]; simp
theorem oz_isUnfit (R : tRel n cm a kn cs) (f k : Int32) : tOp [1] (cIsUnfit cs f k) (mIsUnfit n cm a kn f k) := by
  have hcm := R.inv.hcm
  unfold cIsUnfit mIsUnfit
  rw [n5, R.cn, nOk_cm k cm (by omega)]
  cases hf : inB f 0 4 with
  | false => exact tOp_same R rfl (by decide)
  | true =>
    cases ht : inB k 0 (nI cm - 1) with
    | false => exact tOp_same R rfl (by decide)
    | true =>
      obtain ⟨jf, hjf, rfl⟩ := in4 hf
      obtain ⟨jk, hjk, rfl⟩ := inC hcm ht
      obtain ⟨r, hr, er⟩ := R.inv.mi.2.2.2.2 jk hjk
      refine tOp_ans R ?_
      rw [jn_nI (show jf < 2 ^ 31 by omega), jn_nI (show jk < 2 ^ 31 by omega), (R.look hjf).2.2.2.2.1 jk hjk, R.rec hjk, er, jn_nI (show r < 2 ^ 31 by omega), R.day hjk, dis_eq R (R.look hjf) hr]
theorem oz_isSpoilt (R : tRel n cm a kn cs) (f k : Int32) : tOp [1] (cIsSpoilt cs f k) (mIsSpoilt n cm a kn f k) := by
  have hcm := R.inv.hcm
  unfold cIsSpoilt mIsSpoilt
  rw [n5, R.cn, nOk_cm k cm (by omega)]
  cases hf : inB f 0 4 with
  | false => exact tOp_same R rfl (by decide)
  | true =>
    cases ht : inB k 0 (nI cm - 1) with
    | false => exact tOp_same R rfl (by decide)
    | true =>
      obtain ⟨jf, hjf, rfl⟩ := in4 hf
      obtain ⟨jk, hjk, rfl⟩ := inC hcm ht
      have V := R.look hjf
      refine tOp_ans R ?_
      have e : (!decide ((cLk cs.1 cs.2.2 (nI jf)).2.2 &&& ((1 : Int32) <<< (nI jk &&& 31)) = 0)) = foldU (spStep a kn n jf (nI jk)) false n := by
        rw [← V.2.2.2.2.2.2 jk hjk, Bool.eq_iff_iff, Bool.not_eq_true', decide_eq_false_iff_not, bt_and (show jk < 32 by omega)]
        simp
      rw [jn_nI (show jf < 2 ^ 31 by omega), jn_nI (show jk < 2 ^ 31 by omega), V.2.2.2.2.1 jk hjk, e]
theorem oz_missing (R : tRel n cm a kn cs) (f o : Int32) : tOp [1] (cMissing cs f o) (mMissing n cm a kn f o) := by
  have hcm := R.inv.hcm
  unfold cMissing mMissing
  rw [n5, n8]
  cases hf : inB f 0 4 with
  | false => exact tOp_same R rfl (by decide)
  | true =>
    cases ht : inB o 0 7 with
    | false => exact tOp_same R rfl (by decide)
    | true =>
      obtain ⟨jf, hjf, rfl⟩ := in4 hf
      obtain ⟨jo, hjo, rfl⟩ := in7 ht
      have V := R.look hjf
      refine tOp_ans R ?_
      rw [jn_nI (show jf < 2 ^ 31 by omega), jn_nI (show jo < 2 ^ 31 by omega), R.cn]
      unfold msF missB
      have e : foldU (cmStep (cLk cs.1 cs.2.2 (nI jf)).1 cs.1 jo) 0 cm = foldU (msStep a kn n jf jo) 0 cm := foldU_cg (fun k hk x => by
        obtain ⟨r, hr, er⟩ := R.inv.mi.2.2.2.2 k hk
        unfold cmStep msStep
        rw [V.2.2.2.2.1 k hk, R.rec hk, er, jn_nI (show r < 2 ^ 31 by omega), R.need hr hjo]
        by_cases q : stateB a kn n jf k = 1
        · rw [if_pos q, if_pos q]
        · rw [if_neg q, if_neg q, Int32.add_zero])
      rw [max0, e, cnt_eq V hjo]
end READ
