/-! no machine: what the class answers is what the law computes -/
section LASK
variable {n cm : Nat} {a : Nat → Nat → Int32} {kn : Nat → Bool} {v : Nat} {G : FF} {cs : CS} {l : List Nat}
theorem tf9 : ¬ (true = false) := by decide
theorem nk_t {f k : Nat} (h : f < k) (hk : k < 1000) : nOk (nI f) (nI k) = true := by
  unfold nOk
  rw [decide_eq_false (nI_nlt0 (by omega)), decide_eq_true (nI_lt h (by omega))]; rfl
theorem nk5 {f : Nat} (h : f < 5) : nOk (nI f) 5 = true := nk_t (k := 5) h (by omega)
theorem nk40 {f : Nat} (h : f < 40) : nOk (nI f) 40 = true := nk_t (k := 40) h (by omega)
theorem nk8 {f : Nat} (h : f < 8) : nOk (nI f) 8 = true := nk_t (k := 8) h (by omega)
theorem nk6 {f : Nat} (h : f < 6) : nOk (nI f) 6 = true := nk_t (k := 6) h (by omega)
theorem rk_t {d : Nat} (h : d < 100) : rOk (nI d) 0 99 = true := by
  unfold rOk
  rw [decide_eq_false (nI_nlt0 (by omega)), decide_eq_true (show nI d ≤ 99 from nI_le (a := d) (b := 99) (by omega) (by omega))]; rfl
theorem lk_fr {f : Nat} (hf : f < 5) : cLk cs.1 cs.2.2 (nI f) = rdA (frV f) (cs.1 12) cs.2.2 := by unfold cLk; rw [frV_lt hf]
theorem x1_add (x y : Int32) (h : x = y + 1) : y = x - 1 := by rw [h, x1_sub]
def lKw (F : FF) (f n : Nat) : Int32 := foldU (fun j y => y + ((F 3 j >>> (nI f &&& 31)) &&& 1)) 0 n
def lCn (F : FF) (fo : Nat) : Nat := foldU (fun i y => if F 8 (fo + 8 * i) ≤ 0 then y + 0 else y + 1) 0 5
def lNd (F : FF) (fo m : Nat) : Int32 := foldU (fun k y => y + (if lOp F k then F 6 (8 * jn (F 7 (2 * k)) + fo) else 0)) 0 m
theorem LV.l3 {V : VS} (h : LV n cm a kn v l G V) : lNx G n v none = l.head? ∧ nxC G n v l ∧ ∀ z, z ∈ l → z < n := h.1
theorem LV.lt {V : VS} (h : LV n cm a kn v l G V) : lT n cm a kn G := h.2.1
theorem LV.v8 {V : VS} (h : LV n cm a kn v l G V) {t : Nat} (ht : t < 40) : V.1 0 t = G 8 t - 1 := x1_add _ _ (h.2.2.1 t ht)
theorem LV.gr {V : VS} (h : LV n cm a kn v l G V) : ∀ g, g < 8 → gR n a G V.1 g := h.2.2.2.1
theorem LV.st {V : VS} (h : LV n cm a kn v l G V) {k : Nat} (hk : k < cm) : V.1 6 k = if bitT (G 10 10) k then 3 else if bitT (G 10 9) k then 2 else if bitT (G 10 8) k then 1 else 0 := h.2.2.2.2.1 k hk
theorem LV.sp {V : VS} (h : LV n cm a kn v l G V) : G 10 11 = V.2.2 := h.2.2.2.2.2.1
theorem LV.kp {V : VS} (h : LV n cm a kn v l G V) {t : Nat} (ht : t < 40) : V.1 2 t = oI (lKp G cm t) := h.2.2.2.2.2.2.1 t ht
theorem LV.cl {V : VS} (h : LV n cm a kn v l G V) {t : Nat} (ht : t < 40) : l.foldl (clS G t) 0 = V.1 1 t := h.2.2.2.2.2.2.2.1 t ht
theorem LV.pl {V : VS} (h : LV n cm a kn v l G V) {k : Nat} (hk : k < cm) : bitT (G 10 8) k = false → bitT (G 10 9) k = false ∧ bitT (G 10 10) k = false := h.2.2.2.2.2.2.2.2 k hk
theorem LV.gok {V : VS} (h : LV n cm a kn v l G V) : gOk G := gu_ok h.lt.n64 h.gr
theorem LV.op {V : VS} (h : LV n cm a kn v l G V) {k : Nat} (hk : k < cm) : lOp G k = decide (V.1 6 k = 1) := by
  have hk32 : k < 32 := by have := h.lt.cm10; omega
  rw [h.st hk, Bool.eq_iff_iff, decide_eq_true_eq]
  unfold lOp
  rw [Bool.and_eq_true, decide_eq_true_eq, decide_eq_true_eq, bt_sh hk32, bt_sh0 hk32, bt_or]
  cases bitT (G 10 8) k <;> cases bitT (G 10 9) k <;> cases bitT (G 10 10) k <;> decide
theorem os_words (R : tRel n cm a kn cs) : cWords cs = (0, nI n, cs) := by unfold cWords; rw [R.len]
theorem os_cakes (R : tRel n cm a kn cs) : cCakes cs = (0, nI cm, cs) := by unfold cCakes; rw [R.cn]
theorem kw_cnt (E : lT n cm a kn G) (T : tInv n cm a kn) {f : Nat} (hf : f < 5) : ∀ m, m ≤ n → lKw G f m = nI ((List.range m).countP (fun i => kn (6 * i + f)))
  | 0, _ => rfl
  | m + 1, h => by
    have ih := kw_cnt E T hf m (by omega)
    unfold lKw at ih ⊢
    rw [foldU_s, ih, List.range_succ, List.countP_append, E.f3 m (by omega)]
    have hb := b5_sh (fun v => kn (6 * m + v)) hf
    have h1 := bt_sh1 (x := b5 (fun v => kn (6 * m + v))) (f := f) (by omega)
    rw [h1] at hb ⊢
    cases hk : kn (6 * m + f) with
    | true =>
      rw [hb.mpr hk, List.countP_singleton, if_pos hk]
      exact nI_1 _
    | false =>
      cases hbt : bitT (b5 (fun v => kn (6 * m + v))) f with
      | true => rw [hbt] at hb; rw [hb.mp rfl] at hk; cases hk
      | false =>
        rw [List.countP_singleton, hk]
        simp
theorem os_known (R : tRel n cm a kn cs) (E : lT n cm a kn G) {f : Nat} (hf : f < 5) : cKnown cs (nI f) = (0, lKw G f n, cs) := by
  unfold cKnown
  rw [nk5 hf, if_neg tf9, ← frV_lt hf, kw_cnt E R.inv hf n (Nat.le_refl n)]
  obtain ⟨T, ⟨os, O, e⟩, -⟩ := R
  rw [e, sk_cnt T (by omega) os (fun i hi => (O.mem i).mp hi), (ord_perm O).countP_eq]
theorem os_clock (R : tRel n cm a kn cs) (E : lT n cm a kn G) {f : Nat} (hf : f < 5) : cClock cs (nI f) = (0, G 5 f, cs) := by
  unfold cClock
  rw [nk5 hf, if_neg tf9, jn_nI (by omega), R.clk hf, E.f5 f hf]
theorem os_guests {f : Nat} (hL : LV n cm a kn f l G (rdA (frV f) (cs.1 12) cs.2.2)) (hf : f < 5) {d : Nat} (hd : d < 100) : cGuests cs (nI f) (nI d) = (0, lGs G (nI d), cs) := by
  unfold cGuests
  rw [nk5 hf, rk_t hd, if_neg tf9, if_neg tf9, lk_fr hf, gs_eq hL.lt hL.gr]
theorem os_where {f : Nat} (hL : LV n cm a kn f l G (rdA (frV f) (cs.1 12) cs.2.2)) (hf : f < 5) {t : Nat} (ht : t < 40) : cWhere cs (nI f) (nI t) = (0, G 8 t - 1, cs) := by
  unfold cWhere
  rw [nk5 hf, nk40 ht, if_neg tf9, if_neg tf9, lk_fr hf, jn_nI (by omega), hL.v8 ht]
theorem os_keptFor {f : Nat} (hL : LV n cm a kn f l G (rdA (frV f) (cs.1 12) cs.2.2)) (hf : f < 5) {t : Nat} (ht : t < 40) : cKeptFor cs (nI f) (nI t) = (0, oI (lKp G cm t), cs) := by
  unfold cKeptFor
  rw [nk5 hf, nk40 ht, if_neg tf9, if_neg tf9, lk_fr hf, jn_nI (by omega), hL.kp ht]
theorem os_claims {f : Nat} (hL : LV n cm a kn f l G (rdA (frV f) (cs.1 12) cs.2.2)) (hf : f < 5) {t : Nat} (ht : t < 40) : cClaims cs (nI f) (nI t) = (0, lCm G l t, cs) := by
  unfold cClaims
  rw [nk5 hf, nk40 ht, if_neg tf9, if_neg tf9, lk_fr hf, jn_nI (by omega)]
  unfold vWrong lCm
  have h8 := hL.2.2.1 t ht
  rw [hL.cl ht, ← hL.v8 ht, h8]
  by_cases q : (rdA (frV f) (cs.1 12) cs.2.2).1 0 t = -1
  · rw [if_pos q, if_pos ((pl1_0 _).mpr q)]
  · rw [if_neg q, if_neg (fun z => q ((pl1_0 _).mp z))]
theorem sm_cn (R : tRel n cm a kn cs) (hv : v ≤ 5) (hL : LV n cm a kn v l G (rdA (frV v) (cs.1 12) cs.2.2)) {fo : Nat} (hfo : fo < 8) : vSome (rdA (frV v) (cs.1 12) cs.2.2).1 fo = lCn G fo := foldU_cg (fun i hi y => by
  unfold vsStep
  have h8 := hL.2.2.1 (fo + 8 * i) (by omega)
  have hV := (show vOk n cm a kn v (rdA (frV v) (cs.1 12) cs.2.2) by
    obtain ⟨T, ⟨os, O, e⟩, -, -, -, hd, -⟩ := R
    rw [e]; exact view_ok T O hv hd).1 (fo + 8 * i) (by omega)
  rw [h8]
  rcases place_rg (v := v) R.inv (nI (fo + 8 * i)) with q | ⟨w, hw, q⟩
  · rw [hV, q, if_pos rfl, if_pos (by decide)]; rfl
  · rw [hV, q, if_neg (nI_m1 w (by omega)), nI_1, if_neg (nI_nle (by omega) (by omega))])
theorem os_count (R : tRel n cm a kn cs) {f : Nat} (hL : LV n cm a kn f l G (rdA (frV f) (cs.1 12) cs.2.2)) (hf : f < 5) {fo : Nat} (hfo : fo < 8) : cCount cs (nI f) (nI fo) = (0, nI (lCn G fo), cs) := by
  unfold cCount
  rw [nk5 hf, nk8 hfo, if_neg tf9, if_neg tf9, lk_fr hf, jn_nI (by omega), sm_cn R (by omega) hL hfo]
theorem lT.f7r (E : lT n cm a kn G) (R : tRel n cm a kn cs) {k : Nat} (hk : k < cm) : ∃ r, r < 6 ∧ G 7 (2 * k) = nI r ∧ cs.1 11 k = nI r ∧ ∀ fo, fo < 8 → G 6 (8 * r + fo) = cs.1 (20 + r) fo := by
  obtain ⟨r, hr, er⟩ := R.inv.mi.2.2.2.2 k hk
  exact ⟨r, hr, (E.f7 k hk).1.trans er, (R.rec hk).trans er, fun fo hfo => by rw [(E.f6 (8 * r + fo) (by omega)).1, R.need hr hfo]⟩
theorem nd_eq (R : tRel n cm a kn cs) (hL : LV n cm a kn v l G (rdA (frV v) (cs.1 12) cs.2.2)) {fo : Nat} (hfo : fo < 8) : foldU (cmStep (rdA (frV v) (cs.1 12) cs.2.2).1 cs.1 fo) 0 cm = lNd G fo cm := foldU_cg (fun k hk y => by
  unfold cmStep
  obtain ⟨r, hr, e7, e11, e6⟩ := hL.lt.f7r R hk
  rw [hL.op hk, e7, e11, jn_nI (by omega), e6 fo hfo]
  by_cases q : (rdA (frV v) (cs.1 12) cs.2.2).1 6 k = 1
  · rw [if_pos q, decide_eq_true q, if_pos rfl]
  · rw [if_neg q, decide_eq_false q, if_neg (by simp)]; simp)
theorem os_missing (R : tRel n cm a kn cs) {f : Nat} (hL : LV n cm a kn f l G (rdA (frV f) (cs.1 12) cs.2.2)) (hf : f < 5) {fo : Nat} (hfo : fo < 8) : cMissing cs (nI f) (nI fo) = (0, (if 0 < lNd G fo cm - nI (lCn G fo) then lNd G fo cm - nI (lCn G fo) else 0), cs) := by
  unfold cMissing msF
  rw [nk5 hf, nk8 hfo, if_neg tf9, if_neg tf9, lk_fr hf, jn_nI (by omega), sm_cn R (by omega) hL hfo, R.cn, nd_eq R hL hfo]
theorem os_cake (R : tRel n cm a kn cs) {f : Nat} (hL : LV n cm a kn f l G (rdA (frV f) (cs.1 12) cs.2.2)) (hf : f < 5) {k : Nat} (hk : k < cm) : cCake cs (nI f) (nI k) = (0, (if bitT (G 10 10) k then 3 else if bitT (G 10 9) k then 2 else if bitT (G 10 8) k then 1 else 0), cs) := by
  have hcm := hL.lt.cm10
  unfold cCake
  rw [nk5 hf, R.cn, nk_t hk (by omega), if_neg tf9, if_neg tf9, lk_fr hf, jn_nI (by omega), hL.st hk]
theorem lk_sub (G : FF) (cm k fo : Nat) (V : Nat → Nat → Int32) (y0 : Int32) (h : ∀ i, i < 5 → V 2 (fo + 8 * i) = oI (lKp G cm (fo + 8 * i))) : ∀ m, m ≤ 5 → foldU (lkS G cm k fo) y0 m = y0 - nI (foldU (vkStep V (nI k) fo) 0 m)
  | 0, _ => by rw [foldU_0, foldU_0]; show y0 = y0 - 0; rw [Int32.sub_zero]
  | m + 1, hm => by
    rw [foldU_s, foldU_s, lk_sub G cm k fo V y0 h m (by omega)]
    have h1 := h m (by omega)
    unfold vkStep lkS
    rw [h1]
    by_cases q : oI (lKp G cm (fo + 8 * m)) = nI k
    · rw [if_pos q, if_pos q, ← nI_1]
      rw [Int32.sub_eq_add_neg, Int32.sub_eq_add_neg, Int32.sub_eq_add_neg, Int32.neg_add, Int32.sub_eq_add_neg, ← Int32.add_assoc]
    · rw [if_neg q, if_neg q, Int32.sub_zero]
theorem lack_eq2 (R : tRel n cm a kn cs) (hL : LV n cm a kn v l G (rdA (frV v) (cs.1 12) cs.2.2)) {k r fo : Nat} (hk : k < cm) (hr : r < 6) (e7 : G 7 (2 * k) = nI r) (hfo : fo < 8) : lkN G cm r k fo = cs.1 (20 + r) fo - nI (vKeptN (rdA (frV v) (cs.1 12) cs.2.2).1 (nI k) fo) ∧ cLack (rdA (frV v) (cs.1 12) cs.2.2).1 cs.1 k fo = if lkN G cm r k fo ≤ 0 then 0 else lkN G cm r k fo := by
  obtain ⟨r', hr', e7', e11, e6⟩ := hL.lt.f7r R hk
  have er : r = r' := (nI_eq (by omega) (by omega)).mp (e7.symm.trans e7')
  subst er
  have h1 : lkN G cm r k fo = cs.1 (20 + r) fo - nI (vKeptN (rdA (frV v) (cs.1 12) cs.2.2).1 (nI k) fo) := by
    unfold lkN vKeptN
    rw [lk_sub G cm k fo (rdA (frV v) (cs.1 12) cs.2.2).1 _ (fun i hi => hL.kp (by omega)) 5 (Nat.le_refl 5), e6 fo hfo]
  refine ⟨h1, ?_⟩
  unfold cLack
  rw [e11, jn_nI (by omega), ← h1]
  by_cases q : 0 < lkN G cm r k fo
  · rw [if_pos q, if_neg (Int32.not_le.mpr q)]
  · rw [if_neg q, if_pos (Int32.not_lt.mp q)]
theorem lLk_eq (R : tRel n cm a kn cs) (hL : LV n cm a kn v l G (rdA (frV v) (cs.1 12) cs.2.2)) {k r fo : Nat} (hk : k < cm) (hr : r < 6) (e7 : G 7 (2 * k) = nI r) (hfo : fo < 8) : lLk G cm r k fo = if (rdA (frV v) (cs.1 12) cs.2.2).1 6 k = 1 then cLack (rdA (frV v) (cs.1 12) cs.2.2).1 cs.1 k fo else 0 := by
  rw [(lack_eq2 R hL hk hr e7 hfo).2]
  unfold lLk
  rw [hL.op hk]
  by_cases q : (rdA (frV v) (cs.1 12) cs.2.2).1 6 k = 1 <;> by_cases q2 : lkN G cm r k fo ≤ 0 <;> simp [q, q2]
theorem os_lacks (R : tRel n cm a kn cs) {f : Nat} (hL : LV n cm a kn f l G (rdA (frV f) (cs.1 12) cs.2.2)) (hf : f < 5) {k r fo : Nat} (hk : k < cm) (hr : r < 6) (e7 : G 7 (2 * k) = nI r) (hfo : fo < 8) : cLacks cs (nI f) (nI k) (nI fo) = (0, lLk G cm r k fo, cs) := by
  have hcm := hL.lt.cm10
  unfold cLacks
  rw [nk5 hf, R.cn, nk_t hk (by omega), nk8 hfo, if_neg tf9, if_neg tf9, if_neg tf9, lk_fr hf, jn_nI (by omega), jn_nI (by omega), lLk_eq R hL hk hr e7 hfo]
theorem gs_bit (G : FF) (d : Int32) {g : Nat} (hg : g < 8) : bitT (lGs G d) g = gsW G d (G 10 g - 1) := by
  have h : ∀ m, m ≤ 8 → bitT (foldU (gsS G d) 0 m) g = (decide (g < m) && gsW G d (G 10 g - 1)) := by
    intro m
    induction m with
    | zero => intro _; rw [foldU_0, bt_0]; simp
    | succ m ih =>
      intro hm
      rw [foldU_s]
      unfold gsS
      have ih := ih (by omega)
      unfold gsS at ih
      rw [bt_or, ih]
      by_cases q : g = m
      · subst q
        cases gsW G d (G 10 g - 1) with
        | false => rw [if_neg (by simp), bt_0]; simp
        | true => rw [if_pos rfl]; have z := bt_set 0 (k := g) (j := g) (by omega); rw [Int32.zero_or, bt_0] at z; rw [z]; simp
      · have e2 : bitT (if gsW G d (G 10 m - 1) = true then (1 : Int32) <<< (nI m &&& 31) else 0) g = false := by
          split
          · have z := bt_set 0 (k := m) (j := g) (by omega); rw [Int32.zero_or, bt_0] at z; rw [z]; have q2 : ¬ m = g := fun z => q z.symm; simp [q2]
          · exact bt_0 g
        rw [e2, Bool.or_false]
        have e3 : decide (g < m + 1) = decide (g < m) := decide_eq_decide.mpr (by omega)
        rw [e3]
  have z := h 8 (Nat.le_refl 8)
  rw [decide_eq_true hg, Bool.true_and] at z
  exact z
theorem gs_some (hgo : gOk G) (d : Int32) {g : Nat} (hg : g < 8) (h : gsW G d (G 10 g - 1) = true) : ∃ x, x < 64 ∧ G 10 g - 1 = nI x := by
  obtain ⟨o, e, hb⟩ := hgo g hg
  cases o with
  | none =>
    rw [e] at h
    unfold gsW at h
    rw [show decide (oI none < 0) = true from by decide] at h
    simp at h
  | some x => exact ⟨x, hb x rfl, e⟩
theorem d_ok (hgo : gOk G) (d : Int32) : dOk G d := by
  intro g hg h
  rw [bt_sh (by omega), gs_bit G d hg] at h
  exact gs_some hgo d hg h
theorem al_bit (hL : LV n cm a kn v l G (rdA (frV v) (cs.1 12) cs.2.2)) (d : Int32) (f : Nat) : ∀ m, m ≤ 8 → (bitT (foldU (dlS G (lGs G d)) 0 m) f = true ↔ ∃ g, g < m ∧ vComes (rdA (frV v) (cs.1 12) cs.2.2).1 g d = true ∧ bitT ((rdA (frV v) (cs.1 12) cs.2.2).1 5 g) f = true)
  | 0, _ => ⟨fun h => (by rw [foldU_0, bt_0] at h; cases h), fun ⟨g, h, _⟩ => absurd h (Nat.not_lt_zero _)⟩
  | m + 1, hm => by
    rw [foldU_s]
    have ih := al_bit hL d f m (by omega)
    unfold dlS at ih ⊢
    rw [bt_or, Bool.or_eq_true, ih]
    have hb : ((lGs G d >>> (nI m &&& 31)) &&& 1 = 1) ↔ vComes (rdA (frV v) (cs.1 12) cs.2.2).1 m d = true := by
      rw [bt_sh (by omega), gs_bit G d (by omega), gs_W hL.lt hL.gr d (by omega)]
    have he : vComes (rdA (frV v) (cs.1 12) cs.2.2).1 m d = true → G 4 (jn (G 10 m - 1)) / 10000 = (rdA (frV v) (cs.1 12) cs.2.2).1 5 m := by
      intro hc
      have hn := hL.lt.n64
      rcases hL.gr m (by omega) with ⟨h1, h2, h3⟩ | ⟨i, hi, h4, h1, h2, h3, h5⟩
      · rw [← gs_W hL.lt hL.gr d (by omega), h1] at hc
        unfold gsW at hc
        rw [show decide ((0 : Int32) - 1 < 0) = true by decide] at hc
        simp at hc
      · obtain ⟨d1, d2, ds, b1, b2, b3, e6, e7, e8, e4⟩ := hL.lt.f4g i hi h4
        rw [h1, nI_pred, jn_nI (by omega), e4, h5, e8]
        exact (pk_div (a := d1 + 100 * d2 + 10000 * ds) (d := 10000) (by omega) (by omega) (by omega)).trans (congrArg nI (by omega))
    constructor
    · rintro (⟨g, h1, h2⟩ | h)
      · exact ⟨g, by omega, h2⟩
      · by_cases q : (lGs G d >>> (nI m &&& 31)) &&& 1 = 1
        · rw [if_pos q, he (hb.mp q)] at h
          exact ⟨m, by omega, hb.mp q, h⟩
        · rw [if_neg q, bt_0] at h; cases h
    · rintro ⟨g, h1, h2, h3⟩
      by_cases q : g = m
      · rw [q] at h2 h3
        right
        rw [if_pos (hb.mpr h2), he h2]; exact h3
      · exact Or.inl ⟨g, by omega, h2, h3⟩
theorem dl_eq (R : tRel n cm a kn cs) (hL : LV n cm a kn v l G (rdA (frV v) (cs.1 12) cs.2.2)) {r : Nat} (hr : r < 6) (d : Int32) : lDl G r d = cDis (rdA (frV v) (cs.1 12) cs.2.2).1 cs.1 r d := by
  have e : lDl G r d = foldU (fun fo b => b || ddP G (lAl G d) r fo) false 8 := rfl
  unfold cDis
  rw [e]
  refine foldU_cg (fun fo hfo b => ?_)
  congr 1
  unfold ddP cdP
  rw [(hL.lt.f6 (8 * r + fo) (by omega)).1, R.need hr hfo, Bool.and_comm]
  congr 1
  have h1 := al_bit hL d fo 8 (Nat.le_refl 8)
  have h2 := disl_bit (rdA (frV v) (cs.1 12) cs.2.2).1 d fo 8
  have h3 := bt_sh (x := lAl G d) (f := fo) (by omega)
  have h4 := bt_and (x := vDisl (rdA (frV v) (cs.1 12) cs.2.2).1 d) (f := fo) (by omega)
  have h5 : bitT (lAl G d) fo = bitT (vDisl (rdA (frV v) (cs.1 12) cs.2.2).1 d) fo := by
    rw [Bool.eq_iff_iff]
    exact h1.trans h2.symm
  rw [Bool.eq_iff_iff, decide_eq_true_eq, Bool.not_eq_true', decide_eq_false_iff_not, h3, h4, h5]
  cases bitT (vDisl (rdA (frV v) (cs.1 12) cs.2.2).1 d) fo <;> simp
theorem os_isUnfit (R : tRel n cm a kn cs) {f : Nat} (hL : LV n cm a kn f l G (rdA (frV f) (cs.1 12) cs.2.2)) (hf : f < 5) {k r : Nat} (hk : k < cm) (hr : r < 6) (e7 : G 7 (2 * k) = nI r) : cIsUnfit cs (nI f) (nI k) = (0, bI (decide ((if bitT (G 10 10) k then (3 : Int32) else if bitT (G 10 9) k then 2 else if bitT (G 10 8) k then 1 else 0) = 1) && lDl G r (G 7 (2 * k + 1))), cs) := by
  have hcm := hL.lt.cm10
  obtain ⟨r', hr', e7', e11, e6⟩ := hL.lt.f7r R hk
  have er : r = r' := (nI_eq (by omega) (by omega)).mp (e7.symm.trans e7')
  subst er
  unfold cIsUnfit
  rw [nk5 hf, R.cn, nk_t hk (by omega), if_neg tf9, if_neg tf9, lk_fr hf, jn_nI (by omega), e11, jn_nI (by omega), R.day hk, (hL.lt.f7 k hk).2.1, dl_eq R hL hr, hL.st hk]
theorem os_isSpoilt (R : tRel n cm a kn cs) {f : Nat} (hL : LV n cm a kn f l G (rdA (frV f) (cs.1 12) cs.2.2)) (hf : f < 5) {k : Nat} (hk : k < cm) : cIsSpoilt cs (nI f) (nI k) = (0, bI (decide ((if bitT (G 10 10) k then (3 : Int32) else if bitT (G 10 9) k then 2 else if bitT (G 10 8) k then 1 else 0) = 3) && decide ((G 10 11 >>> (nI k &&& 31)) &&& 1 = 1)), cs) := by
  have hcm := hL.lt.cm10
  have h3 := bt_sh (x := G 10 11) (f := k) (by omega)
  have h4 := bt_and (x := G 10 11) (f := k) (by omega)
  have h5 : (!decide (G 10 11 &&& ((1 : Int32) <<< (nI k &&& 31)) = 0)) = decide ((G 10 11 >>> (nI k &&& 31)) &&& 1 = 1) := by
    rw [Bool.eq_iff_iff, decide_eq_true_eq, Bool.not_eq_true', decide_eq_false_iff_not, h3, h4]
    cases bitT (G 10 11) k <;> simp
  unfold cIsSpoilt
  rw [nk5 hf, R.cn, nk_t hk (by omega), if_neg tf9, if_neg tf9, lk_fr hf, jn_nI (by omega), hL.st hk, ← hL.sp, h5]
theorem os_whereByAll (hL : LV n cm a kn 5 l G (rdA (frV 5) (cs.1 12) cs.2.2)) {t : Nat} (ht : t < 40) : cWhereByAll cs (nI t) = (0, G 8 t - 1, cs) := by
  unfold cWhereByAll
  rw [nk40 ht, if_neg tf9, jn_nI (by omega), ← hL.v8 ht]; rfl
theorem os_keptByAll (hL : LV n cm a kn 5 l G (rdA (frV 5) (cs.1 12) cs.2.2)) {t : Nat} (ht : t < 40) : cKeptByAll cs (nI t) = (0, oI (lKp G cm t), cs) := by
  unfold cKeptByAll
  rw [nk40 ht, if_neg tf9, jn_nI (by omega), ← hL.kp ht]; rfl
theorem os_countByAll (R : tRel n cm a kn cs) (hL : LV n cm a kn 5 l G (rdA (frV 5) (cs.1 12) cs.2.2)) {fo : Nat} (hfo : fo < 8) : cCountByAll cs (nI fo) = (0, nI (lCn G fo), cs) := by
  unfold cCountByAll
  rw [nk8 hfo, if_neg tf9, jn_nI (by omega), ← sm_cn R (Nat.le_refl 5) hL hfo]; rfl
def stI (G : FF) (k : Nat) : Int32 := if bitT (G 10 10) k then 3 else if bitT (G 10 9) k then 2 else if bitT (G 10 8) k then 1 else 0
theorem stI_0 {V : VS} (h : LV n cm a kn v l G V) {k : Nat} (hk : k < cm) (c : (G 10 8 >>> (nI k &&& 31)) &&& 1 = 0) : stI G k = 0 := by
  have hcm := h.lt.cm10
  rw [bt_sh0 (by omega)] at c
  obtain ⟨h1, h2⟩ := h.pl hk c
  unfold stI
  rw [c, h1, h2]; rfl
theorem stI_3 {k : Nat} (hk : k < 32) (c : (G 10 10 >>> (nI k &&& 31)) &&& 1 = 1) : stI G k = 3 := by
  rw [bt_sh hk] at c
  unfold stI
  rw [c]; rfl
theorem stI_2 {k : Nat} (hk : k < 32) (c : ¬ (G 10 10 >>> (nI k &&& 31)) &&& 1 = 1) (c2 : (G 10 9 >>> (nI k &&& 31)) &&& 1 = 1) : stI G k = 2 := by
  rw [bt_sh hk, Bool.not_eq_true] at c
  rw [bt_sh hk] at c2
  unfold stI
  rw [c, c2]; rfl
theorem stI_1 {k : Nat} (hk : k < 32) (c0 : ¬ (G 10 8 >>> (nI k &&& 31)) &&& 1 = 0) (c : ¬ (G 10 10 >>> (nI k &&& 31)) &&& 1 = 1) (c2 : ¬ (G 10 9 >>> (nI k &&& 31)) &&& 1 = 1) : stI G k = 1 := by
  rw [bt_sh0 hk, Bool.not_eq_false] at c0
  rw [bt_sh hk, Bool.not_eq_true] at c c2
  unfold stI
  rw [c, c2, c0]; rfl
theorem nd_N (E : lT n cm a kn G) (R : tRel n cm a kn cs) {fo : Nat} (hfo : fo < 8) : ∀ m, m ≤ cm → ∃ x, x ≤ 2 * m ∧ lNd G fo m = nI x
  | 0, _ => ⟨0, by omega, rfl⟩
  | m + 1, hm => by
    obtain ⟨x, hx, ex⟩ := nd_N E R hfo m (by omega)
    obtain ⟨r, hr, e7, -, -⟩ := E.f7r R (show m < cm by omega)
    obtain ⟨f6, q, hq, eq⟩ := E.f6 (8 * r + fo) (by omega)
    unfold lNd at ex ⊢
    rw [foldU_s, ex, e7, jn_nI (by omega), f6, eq]
    cases lOp G m with
    | true => exact ⟨x + q, by omega, by rw [if_pos rfl, nI_add]⟩
    | false => exact ⟨x, by omega, by rw [if_neg (by simp), Int32.add_zero]⟩
theorem cn_le2 (G : FF) (fo : Nat) : lCn G fo ≤ 5 := foldU_le _ (fun i x => by split <;> omega) 5
theorem ms_eq (E : lT n cm a kn G) (R : tRel n cm a kn cs) {fo : Nat} (hfo : fo < 8) : (if 0 < lNd G fo cm - nI (lCn G fo) then lNd G fo cm - nI (lCn G fo) else 0) = if lNd G fo cm ≤ nI (lCn G fo) then 0 else lNd G fo cm - nI (lCn G fo) := by
  have hcm := E.cm10
  obtain ⟨x, hx, ex⟩ := nd_N E R hfo cm (Nat.le_refl cm)
  have hy := cn_le2 G fo
  rw [ex]
  generalize lCn G fo = y at hy ⊢
  have h1 : (nI x - nI y).toInt = (x : Int) - y := pk_sub_toInt (by omega) (by omega)
  have h0 : (0 : Int32).toInt = 0 := by decide
  by_cases q : x ≤ y
  · rw [if_neg (by rw [Int32.lt_iff_toInt_lt, h1, h0]; omega), if_pos ((nI_leI (by omega) (by omega)).mpr q)]
  · rw [if_pos (by rw [Int32.lt_iff_toInt_lt, h1, h0]; omega), if_neg (fun z => q ((nI_leI (by omega) (by omega)).mp z))]
theorem sm_eq {l9 : Launch} {y : MethodName} {ws : List Cond} {fr mc ms lo : Nat} {D : va_G} {u : Nat → Nat} {cI cII : ClassId} {sa : Nat → Nat} {As : List Value} {op op' : OP} (h : op = op') (hM : sMet l9 y ws fr mc ms lo D u cI cII sa As cs op) : sMet l9 y ws fr mc ms lo D u cI cII sa As cs op' := h ▸ hM
end LASK
