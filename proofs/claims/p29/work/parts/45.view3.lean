/-! no machine: for which cake a thing is kept; the whole view -/
section VIEWC
variable {n cm : Nat} {a : Nat → Nat → Int32} {kn : Nat → Bool} {os : List Nat} {v : Nat}
theorem gm_num {V : Nat → Nat → Int32} {d : Int32} (hcom : ∀ g, g < 8 → vComes V g d = !decide (comingB a kn n v (nI g) d = -1)) : bcI (vGuests V d) = nI (guestManyB a kn n v d) := by
  have e1 : vGuests V d = gSet (fun g => vComes V g d) := rfl
  have e2 : guestManyB a kn n v d = gNum (fun g => vComes V g d) := foldU_cg (fun g hg x => by
    unfold gmStep
    show _ = if vComes V g d = true then x + 1 else x + 0
    rw [hcom g hg]
    by_cases q : comingB a kn n v (nI g) d = -1
    · simp [q]
    · simp [q])
  rw [e1, e2, g_num]
theorem ah_iff {k o pk po : Nat} (hk : a 15 k = nI pk) (ho : a 15 o = nI po) (hpk : pk < 240) (hpo : po < 240) : aheadB a kn n v k o = true ↔ (guestManyB a kn n v (a 14 o) < guestManyB a kn n v (a 14 k) ∨ (guestManyB a kn n v (a 14 k) = guestManyB a kn n v (a 14 o) ∧ ((a 14 k).toInt < (a 14 o).toInt ∨ ((a 14 k).toInt = (a 14 o).toInt ∧ isLaterB a po pk = true)))) := by
  have g1 : guestManyB a kn n v (a 14 k) ≤ 8 := gm_le a kn n v (a 14 k) 8
  have g2 : guestManyB a kn n v (a 14 o) ≤ 8 := gm_le a kn n v (a 14 o) 8
  unfold aheadB
  rw [hk, ho, jn_nI (by omega), jn_nI (by omega)]
  generalize guestManyB a kn n v (a 14 k) = x at g1 ⊢
  generalize guestManyB a kn n v (a 14 o) = y at g2 ⊢
  have hs : (nI x - nI y).toInt = (x : Int) - y := pk_sub_toInt (by omega) (by omega)
  have e0 : (0 : Int32).toInt = 0 := by decide
  by_cases q : x = y
  · have hz : nI x - nI y = 0 := by rw [← Int32.toInt_inj, hs, e0]; omega
    rw [if_pos hz, Bool.or_eq_true, Bool.and_eq_true, decide_eq_true_eq, decide_eq_true_eq, Int32.lt_iff_toInt_lt, ← Int32.toInt_inj]
    exact ⟨fun h => Or.inr ⟨q, h⟩, fun h => h.elim (fun z => absurd z (by omega)) (fun z => z.2)⟩
  · have hz : ¬ nI x - nI y = 0 := by rw [← Int32.toInt_inj, hs, e0]; omega
    rw [if_neg hz, decide_eq_true_eq, Int32.lt_iff_toInt_lt, hs, e0]
    exact ⟨fun h => Or.inl (by omega), fun h => h.elim (fun z => by omega) (fun z => absurd z.1 q)⟩
theorem ah_tr (T : tInv n cm a kn) {k o w : Nat} (hk : k < cm) (ho : o < cm) (hw : w < cm) (h1 : aheadB a kn n v k o = true) (h2 : aheadB a kn n v o w = true) : aheadB a kn n v k w = true := by
  have hn := T.hn
  obtain ⟨pk, k1, k2, -, -⟩ := T.cake k hk
  obtain ⟨po, o1, o2, -, -⟩ := T.cake o ho
  obtain ⟨pw, w1, w2, -, -⟩ := T.cake w hw
  rw [ah_iff k2 o2 (by omega) (by omega), lat_iff] at h1
  rw [ah_iff o2 w2 (by omega) (by omega), lat_iff] at h2
  rw [ah_iff k2 w2 (by omega) (by omega), lat_iff]
  omega
theorem ah_as (T : tInv n cm a kn) {k o : Nat} (hk : k < cm) (ho : o < cm) (h1 : aheadB a kn n v k o = true) (h2 : aheadB a kn n v o k = true) : False := by
  have hn := T.hn
  obtain ⟨pk, k1, k2, -, -⟩ := T.cake k hk
  obtain ⟨po, o1, o2, -, -⟩ := T.cake o ho
  rw [ah_iff k2 o2 (by omega) (by omega), lat_iff] at h1
  rw [ah_iff o2 k2 (by omega) (by omega), lat_iff] at h2
  omega
theorem ah_tot (T : tInv n cm a kn) (O : tOrd n a os) {k o : Nat} (hk : k < cm) (ho : o < cm) (hne : k ≠ o) : aheadB a kn n v k o = true ∨ aheadB a kn n v o k = true := by
  have hn := T.hn
  have hcm := T.hcm
  obtain ⟨pk, k1, k2, -, k4⟩ := T.cake k hk
  obtain ⟨po, o1, o2, -, o4⟩ := T.cake o ho
  have hp : pk ≠ po := fun q => by
    rw [q, o4] at k4
    exact hne ((nI_eq (by omega) (by omega)).mp k4).symm
  have hl := O.tot k1 o1 hp
  rw [ah_iff k2 o2 (by omega) (by omega), ah_iff o2 k2 (by omega) (by omega)]
  rw [lat_iff, lat_iff] at hl
  rw [lat_iff, lat_iff]
  omega
theorem sel_char {Q : Nat → Bool} {c : Nat → Nat} {ah : Nat → Nat → Bool} {Te : Nat → Int32 → Bool} {S : Nat → Prop} {st : Int32 → Nat → Int32} {l : List Nat}
    (hst : ∀ y i, i ∈ l → st y i = if Q i then (if decide (y = -1) || Te i y then nI (c i) else y) else y) (hS : ∀ i, i ∈ l → Q i = true → S (c i)) (hb : ∀ k, S k → k < 2 ^ 31) (tr : ∀ x y z, S x → S y → S z → ah x y = true → ah y z = true → ah x z = true)
    (ht : ∀ i, i ∈ l → Q i = true → ∀ o, S o → (Te i (nI o) = true → ah (c i) o = true ∨ c i = o) ∧ (Te i (nI o) = false → c i = o ∨ ah o (c i) = true)) :
    (l.foldl st (-1) = -1 ∧ ∀ i, i ∈ l → Q i = false) ∨ ∃ m, m ∈ l ∧ Q m = true ∧ l.foldl st (-1) = nI (c m) ∧ ∀ j, j ∈ l → Q j = true → c j = c m ∨ ah (c m) (c j) = true := by
  refine foldl_pre st l (fun l1 z => (z = -1 ∧ ∀ i, i ∈ l1 → Q i = false) ∨ ∃ m, m ∈ l1 ∧ Q m = true ∧ z = nI (c m) ∧ ∀ j, j ∈ l1 → Q j = true → c j = c m ∨ ah (c m) (c j) = true) (fun l1 i r z e hz => ?_) l [] (-1) rfl (Or.inl ⟨rfl, fun i h => absurd h List.not_mem_nil⟩)
  have hi : i ∈ l := by rw [e]; simp
  have hl1 : ∀ j, j ∈ l1 → j ∈ l := fun j hj => by rw [e]; exact List.mem_append_left _ hj
  have hsn : ∀ x, x ∈ l1 ++ [i] ↔ x ∈ l1 ∨ x = i := fun x => by rw [List.mem_append, List.mem_singleton]
  rw [hst z i hi]
  cases hq : Q i with
  | false =>
    rw [if_neg (by simp)]
    rcases hz with ⟨h1, h2⟩ | ⟨m, hm, hqm, h1, h2⟩
    · exact Or.inl ⟨h1, fun j hj => ((hsn j).mp hj).elim (h2 j) (fun z => by rw [z]; exact hq)⟩
    · exact Or.inr ⟨m, (hsn m).mpr (Or.inl hm), hqm, h1, fun j hj hqj => ((hsn j).mp hj).elim (fun z => h2 j z hqj) (fun z => by rw [z, hq] at hqj; cases hqj)⟩
  | true =>
    rw [if_pos rfl]
    rcases hz with ⟨h1, h2⟩ | ⟨m, hm, hqm, h1, h2⟩
    · rw [h1]
      refine Or.inr ⟨i, (hsn i).mpr (Or.inr rfl), hq, by simp, fun j hj hqj => ((hsn j).mp hj).elim (fun z => by rw [h2 j z] at hqj; cases hqj) (fun z => Or.inl (by rw [z]))⟩
    · have hSm := hS m (hl1 m hm) hqm
      have hSi := hS i hi hq
      have hne : ¬ nI (c m) = -1 := nI_m1 _ (hb _ hSm)
      obtain ⟨t1, t2⟩ := ht i hi hq (c m) hSm
      rw [h1]
      cases hT : Te i (nI (c m)) with
      | true =>
        refine Or.inr ⟨i, (hsn i).mpr (Or.inr rfl), hq, by simp, fun j hj hqj => ?_⟩
        rcases (hsn j).mp hj with q | q
        · rcases h2 j q hqj with r | r
          · rcases t1 hT with s | s
            · exact Or.inr (by rw [r]; exact s)
            · exact Or.inl (r.trans s.symm)
          · rcases t1 hT with s | s
            · exact Or.inr (tr _ _ _ hSi hSm (hS j (hl1 j q) hqj) s r)
            · exact Or.inr (by rw [s]; exact r)
        · exact Or.inl (by rw [q])
      | false =>
        refine Or.inr ⟨m, (hsn m).mpr (Or.inl hm), hqm, by simp [hne], fun j hj hqj => ?_⟩
        rcases (hsn j).mp hj with q | q
        · exact h2 j q hqj
        · rw [q]; exact t2 hT
theorem vah_eq (T : tInv n cm a kn) (O : tOrd n a os) {V : Nat → Nat → Int32} {dy : Nat → Int32} {c9 : VS} (hcom : ∀ g d, g < 8 → vComes V g d = !decide (comingB a kn n v (nI g) d = -1)) (hdy : ∀ k, k < cm → dy k = a 14 k) (hrk : rkJ a kn v cm os c9) (h7 : c9.1 7 = V 7) {k o : Nat} (hk : k < cm) (ho : o < cm) (sk : stateB a kn n v k = 1) (so : stateB a kn n v o = 1) : vAhead V dy k o = aheadB a kn n v k o := by
  have hn := T.hn
  have hcm := T.hcm
  obtain ⟨pk, k1, k2, -, k4⟩ := T.cake k hk
  obtain ⟨po, o1, o2, -, o4⟩ := T.cake o ho
  have qk := st_open k2 (by omega) sk
  have qo := st_open o2 (by omega) so
  obtain ⟨-, -, -, -, hB⟩ := hrk
  rw [h7] at hB
  have g1 : guestManyB a kn n v (a 14 k) ≤ 8 := gm_le a kn n v (a 14 k) 8
  have g2 : guestManyB a kn n v (a 14 o) ≤ 8 := gm_le a kn n v (a 14 o) 8
  have hr : V 7 k < V 7 o ↔ isLaterB a po pk = true := by
    refine ⟨fun h => ?_, fun h => hB k pk o po hk ho k2 o2 ((O.mem pk).mpr k1) ((O.mem po).mpr o1) qk qo h⟩
    by_cases q : k = o
    · subst q; rw [Int32.lt_iff_toInt_lt] at h; omega
    · have hp : po ≠ pk := fun q2 => by
        rw [q2, k4] at o4
        exact q ((nI_eq (by omega) (by omega)).mp o4)
      rcases O.tot o1 k1 hp with r | r
      · exact r
      · have h2 := hB o po k pk ho hk o2 k2 ((O.mem po).mpr o1) ((O.mem pk).mpr k1) qo qk r
        rw [Int32.lt_iff_toInt_lt] at h h2; omega
  rw [Bool.eq_iff_iff, ah_iff k2 o2 (by omega) (by omega)]
  unfold vAhead
  rw [hdy k hk, hdy o ho, gm_num (fun g hg => hcom g _ hg), gm_num (fun g hg => hcom g _ hg)]
  generalize guestManyB a kn n v (a 14 k) = x at g1 ⊢
  generalize guestManyB a kn n v (a 14 o) = y at g2 ⊢
  by_cases q : x = y
  · rw [if_pos (by rw [q])]
    by_cases qd : a 14 k = a 14 o
    · rw [if_pos qd, decide_eq_true_eq, hr]
      exact ⟨fun h => Or.inr ⟨q, Or.inr ⟨by rw [qd], h⟩⟩, fun h => h.elim (fun z => absurd z (by omega)) (fun z => z.2.elim (fun z => absurd z (by rw [qd]; omega)) (fun z => z.2))⟩
    · rw [if_neg qd, decide_eq_true_eq, Int32.lt_iff_toInt_lt]
      exact ⟨fun h => Or.inr ⟨q, Or.inl h⟩, fun h => h.elim (fun z => absurd z (by omega)) (fun z => z.2.elim id (fun z => absurd (Int32.toInt_inj.mp z.1) qd))⟩
  · rw [if_neg (fun z => q ((nI_eq (by omega) (by omega)).mp z)), decide_eq_true_eq, nI_ltI (by omega) (by omega)]
    exact ⟨Or.inl, fun h => h.elim id (fun z => absurd z.1 q)⟩
theorem upA_upR (V : Nat → Nat → Int32) (s : Nat → Int32) (t : Nat) (x : Int32) : upA (upR V 2 s) 2 t x = upR V 2 (upd s t x) := by
  funext z i
  unfold upA upR
  by_cases h : z = 2
  · simp [h]
  · simp [h]
def keQ (a : Nat → Nat → Int32) (kn : Nat → Bool) (n v t i : Nat) : Bool := kn (6 * i + v) && decide (a 1 i = 4) && decide (a 4 i = nI t) && decide (stateB a kn n v (jn (a 5 i)) = 1)
theorem upR_2 (V : Nat → Nat → Int32) (s : Nat → Int32) : upR V 2 s 2 = s := if_pos rfl
theorem upR_n (V : Nat → Nat → Int32) (s : Nat → Int32) {k : Nat} (h : ¬ k = 2) : upR V 2 s k = V k := if_neg h
theorem vComes_upR (V : Nat → Nat → Int32) (s : Nat → Int32) (g : Nat) (d : Int32) : vComes (upR V 2 s) g d = vComes V g d := by
  unfold vComes; rw [upR_n V s (by omega), upR_n V s (by omega)]
theorem vGuests_upR (V : Nat → Nat → Int32) (s : Nat → Int32) (d : Int32) : vGuests (upR V 2 s) d = vGuests V d := foldU_cg (fun g _ x => by unfold vgStep; rw [vComes_upR])
theorem vAhead_upR (V : Nat → Nat → Int32) (s : Nat → Int32) (dy : Nat → Int32) (k o : Nat) : vAhead (upR V 2 s) dy k o = vAhead V dy k o := by
  unfold vAhead; rw [vGuests_upR, vGuests_upR, upR_n V s (by omega)]
def selC (a : Nat → Nat → Int32) (kn : Nat → Bool) (n v : Nat) (V1 : Nat → Nat → Int32) (dy : Nat → Int32) (t : Nat) (y : Int32) (i : Nat) : Int32 := if (keQ a kn n v t i && !decide (placeB a kn n v (nI t) = -1)) then (if decide (y = -1) || vAhead V1 dy (jn (a 5 i)) (jn y) then nI (jn (a 5 i)) else y) else y
theorem selC_no {V1 : Nat → Nat → Int32} {dy : Nat → Int32} {t i : Nat} (h : (keQ a kn n v t i && !decide (placeB a kn n v (nI t) = -1)) = false) (y : Int32) : selC a kn n v V1 dy t y i = y := by
  unfold selC; rw [h]; rfl
theorem hs2_step (T : tInv n cm a kn) {dy : Nat → Int32} {V1 : Nat → Nat → Int32} (hst : ∀ k, k < cm → V1 6 k = stateB a kn n v k) (hpl : ∀ t, t < 40 → V1 0 t = placeB a kn n v (nI t)) (s : Nat → Int32) {i : Nat} (hi : i < n) : ∃ s', hs2 a kn v dy (upR V1 2 s) i = upR V1 2 s' ∧ ∀ t, t < 40 → s' t = selC a kn n v V1 dy t (s t) i := by
  have hn := T.hn
  have hcm := T.hcm
  unfold hs2
  by_cases h4 : a 1 i = 4
  · rw [if_pos h4]
    have hkd : (∃ t, t < 40 ∧ a 4 i = nI t) ∧ ∃ k, k < cm ∧ a 5 i = nI k := by
      rcases T.kind i hi with ⟨h, -⟩ | ⟨h, -⟩ | ⟨h, -⟩ | ⟨h, -⟩ | ⟨h, g1, g2⟩ | ⟨h, -⟩ | ⟨h, -⟩
      all_goals first | (rw [h4] at h; exact absurd h (by decide)) | skip
      exact ⟨g1, g2⟩
    obtain ⟨⟨t1, ht1, e4⟩, k1, hk1, e5⟩ := hkd
    have j4 : jn (a 4 i) = t1 := by rw [e4]; exact jn_nI (by omega)
    have j5 : jn (a 5 i) = k1 := by rw [e5]; exact jn_nI (by omega)
    cases hk : kn (6 * i + v) with
    | false =>
      rw [if_neg (by simp)]
      exact ⟨s, rfl, fun t ht => (selC_no (by simp [keQ, hk]) (s t)).symm⟩
    | true =>
      rw [if_pos rfl, j4, j5]
      have hQ : ∀ t, t < 40 → keQ a kn n v t i = (decide (t = t1) && decide (stateB a kn n v k1 = 1)) := by
        intro t ht
        have j2 : nI t1 = nI t ↔ t1 = t := nI_eq (by omega) (by omega)
        unfold keQ
        rw [hk, h4, e4, j5]
        by_cases q : t = t1
        · subst q; simp
        · have q2 : ¬ t1 = t := fun z => q z.symm
          simp [j2, q, q2]
      have e0 : upR V1 2 s 0 t1 = placeB a kn n v (nI t1) := by rw [upR_n V1 s (by omega)]; exact hpl t1 ht1
      have e6 : upR V1 2 s 6 k1 = stateB a kn n v k1 := by rw [upR_n V1 s (by omega)]; exact hst k1 hk1
      unfold hkV
      rw [e0, e6, upR_2, vAhead_upR]
      by_cases hp : placeB a kn n v (nI t1) = -1
      · rw [if_pos hp]
        refine ⟨s, rfl, fun t ht => (selC_no ?_ (s t)).symm⟩
        rw [hQ t ht]
        by_cases q : t = t1
        · subst q; simp [hp]
        · simp [q]
      · rw [if_neg hp]
        by_cases hs6 : stateB a kn n v k1 = 1
        · rw [if_pos hs6]
          have hit : ∀ t, t < 40 → (keQ a kn n v t i && !decide (placeB a kn n v (nI t) = -1)) = decide (t = t1) := by
            intro t ht
            rw [hQ t ht]
            by_cases q : t = t1
            · subst q; simp [hs6, hp]
            · simp [q]
          have upw : (decide (s t1 = -1) || vAhead V1 dy k1 (jn (s t1))) = true → ∃ s', upA (upR V1 2 s) 2 t1 (nI k1) = upR V1 2 s' ∧ ∀ t, t < 40 → s' t = selC a kn n v V1 dy t (s t) i := by
            intro hc
            refine ⟨upd s t1 (nI k1), upA_upR V1 s t1 (nI k1), fun t ht => ?_⟩
            by_cases q : t = t1
            · subst q
              unfold selC
              rw [hit t ht, if_pos (by simp), j5, if_pos hc, pk_us]
            · rw [selC_no (by rw [hit t ht]; simp [q]), pk_un q]
          by_cases hm : s t1 = -1
          · rw [if_pos hm]
            exact upw (by simp [hm])
          · rw [if_neg hm]
            cases hA : vAhead V1 dy k1 (jn (s t1)) with
            | true => rw [if_pos rfl]; exact upw (by simp [hA])
            | false =>
              rw [if_neg (by simp)]
              refine ⟨s, rfl, fun t ht => ?_⟩
              by_cases q : t = t1
              · subst q
                unfold selC
                rw [hit t ht, if_pos (by simp), j5, if_neg (by simp [hm, hA])]
              · rw [selC_no (by rw [hit t ht]; simp [q])]
        · rw [if_neg hs6]
          refine ⟨s, rfl, fun t ht => (selC_no ?_ (s t)).symm⟩
          rw [hQ t ht]
          simp [hs6]
  · rw [if_neg h4]
    exact ⟨s, rfl, fun t ht => (selC_no (by simp [keQ, h4]) (s t)).symm⟩
theorem hs2_all (T : tInv n cm a kn) {dy : Nat → Int32} {V1 : Nat → Nat → Int32} (hst : ∀ k, k < cm → V1 6 k = stateB a kn n v k) (hpl : ∀ t, t < 40 → V1 0 t = placeB a kn n v (nI t)) : ∀ (l : List Nat) (s : Nat → Int32), (∀ i, i ∈ l → i < n) → ∃ s', l.foldl (hs2 a kn v dy) (upR V1 2 s) = upR V1 2 s' ∧ ∀ t, t < 40 → s' t = l.foldl (selC a kn n v V1 dy t) (s t)
  | [], s, _ => ⟨s, rfl, fun t ht => rfl⟩
  | i :: r, s, h => by
    obtain ⟨s1, e1, h1⟩ := hs2_step (dy := dy) T hst hpl s (h i List.mem_cons_self)
    obtain ⟨s2, e2, h2⟩ := hs2_all T hst hpl r s1 (fun j hj => h j (List.mem_cons_of_mem _ hj))
    refine ⟨s2, ?_, fun t ht => ?_⟩
    · rw [List.foldl_cons, e1]; exact e2
    · rw [List.foldl_cons, ← h1 t ht]; exact h2 t ht
theorem ke_kd (T : tInv n cm a kn) {t i : Nat} (hi : i < n) (hq : keQ a kn n v t i = true) : (∃ k, k < cm ∧ a 5 i = nI k ∧ jn (a 5 i) = k) ∧ stateB a kn n v (jn (a 5 i)) = 1 := by
  have hcm := T.hcm
  unfold keQ at hq
  simp only [Bool.and_eq_true, decide_eq_true_eq] at hq
  refine ⟨?_, hq.2⟩
  rcases T.kind i hi with ⟨h, -⟩ | ⟨h, -⟩ | ⟨h, -⟩ | ⟨h, -⟩ | ⟨h, g1, k, g2, g3⟩ | ⟨h, -⟩ | ⟨h, -⟩
  all_goals first | (rw [hq.1.1.2] at h; exact absurd h (by decide)) | skip
  exact ⟨k, g2, g3, by rw [g3]; exact jn_nI (by omega)⟩
theorem sel_cls (T : tInv n cm a kn) (O : tOrd n a os) {dy : Nat → Int32} {V1 : Nat → Nat → Int32} (hvah : ∀ k o, k < cm → o < cm → stateB a kn n v k = 1 → stateB a kn n v o = 1 → vAhead V1 dy k o = aheadB a kn n v k o) {t : Nat} (hp : ¬ placeB a kn n v (nI t) = -1) :
    (os.foldl (selC a kn n v V1 dy t) (-1) = -1 ∧ ∀ i, i ∈ os → keQ a kn n v t i = false) ∨ ∃ m, m ∈ os ∧ keQ a kn n v t m = true ∧ os.foldl (selC a kn n v V1 dy t) (-1) = nI (jn (a 5 m)) ∧ ∀ j, j ∈ os → keQ a kn n v t j = true → jn (a 5 j) = jn (a 5 m) ∨ aheadB a kn n v (jn (a 5 m)) (jn (a 5 j)) = true := by
  have hcm := T.hcm
  refine sel_char (Q := keQ a kn n v t) (c := fun i => jn (a 5 i)) (ah := aheadB a kn n v) (Te := fun i y => vAhead V1 dy (jn (a 5 i)) (jn y)) (S := fun k => k < cm ∧ stateB a kn n v k = 1) (l := os) (fun y i _ => ?_) (fun i hi hq => ?_) (fun k hk => ?_) (fun x y z hx hy hz => ah_tr T hx.1 hy.1 hz.1) (fun i hi hq o ho => ?_)
  · unfold selC; rw [decide_eq_false hp, Bool.not_false, Bool.and_true]
  · obtain ⟨⟨k, g1, g2, g3⟩, g4⟩ := ke_kd T ((O.mem i).mp hi) hq
    exact ⟨by rw [g3]; exact g1, g4⟩
  · have := hk.1; omega
  · obtain ⟨⟨k, g1, g2, g3⟩, g4⟩ := ke_kd T ((O.mem i).mp hi) hq
    have ho1 := ho.1
    show (vAhead V1 dy (jn (a 5 i)) (jn (nI o)) = true → _) ∧ (vAhead V1 dy (jn (a 5 i)) (jn (nI o)) = false → _)
    rw [jn_nI (show o < 2 ^ 31 by omega), hvah _ _ (by rw [g3]; exact g1) ho.1 g4 ho.2]
    refine ⟨Or.inl, fun hf => ?_⟩
    by_cases q : jn (a 5 i) = o
    · exact Or.inl q
    · rcases ah_tot (v := v) T O (by rw [g3]; exact g1) ho.1 q with r | r
      · rw [hf] at r; cases r
      · exact Or.inr r
theorem sel_ref (T : tInv n cm a kn) (O : tOrd n a os) (t : Nat) :
    ((List.range n).foldl (fun y i => keStep a kn n v (nI t) i y) (-1) = -1 ∧ ∀ i, i ∈ List.range n → keQ a kn n v t i = false) ∨ ∃ m, m ∈ List.range n ∧ keQ a kn n v t m = true ∧ (List.range n).foldl (fun y i => keStep a kn n v (nI t) i y) (-1) = nI (jn (a 5 m)) ∧ ∀ j, j ∈ List.range n → keQ a kn n v t j = true → jn (a 5 j) = jn (a 5 m) ∨ aheadB a kn n v (jn (a 5 m)) (jn (a 5 j)) = true := by
  have hcm := T.hcm
  refine sel_char (Q := keQ a kn n v t) (c := fun i => jn (a 5 i)) (ah := aheadB a kn n v) (Te := fun i y => !decide (y = a 5 i) && aheadB a kn n v (jn (a 5 i)) (jn y)) (S := fun k => k < cm ∧ stateB a kn n v k = 1) (l := List.range n) (fun y i hi => ?_) (fun i hi hq => ?_) (fun k hk => ?_) (fun x y z hx hy hz => ah_tr T hx.1 hy.1 hz.1) (fun i hi hq o ho => ?_)
  · rw [List.mem_range] at hi
    unfold keStep
    have e : (kn (6 * i + v) && decide (a 1 i = 4) && decide (a 4 i = nI t) && decide (stateB a kn n v (jn (a 5 i)) = 1)) = keQ a kn n v t i := rfl
    rw [e]
    cases hq : keQ a kn n v t i with
    | false => rfl
    | true =>
      obtain ⟨⟨k, g1, g2, g3⟩, g4⟩ := ke_kd T hi hq
      rw [if_pos rfl, if_pos rfl, g3, g2]
  · obtain ⟨⟨k, g1, g2, g3⟩, g4⟩ := ke_kd T (List.mem_range.mp hi) hq
    exact ⟨by rw [g3]; exact g1, g4⟩
  · have := hk.1; omega
  · obtain ⟨⟨k, g1, g2, g3⟩, g4⟩ := ke_kd T (List.mem_range.mp hi) hq
    have ho1 := ho.1
    have j2 : nI o = nI k ↔ o = k := nI_eq (by omega) (by omega)
    show ((!decide (nI o = a 5 i) && aheadB a kn n v (jn (a 5 i)) (jn (nI o))) = true → aheadB a kn n v (jn (a 5 i)) o = true ∨ jn (a 5 i) = o) ∧ ((!decide (nI o = a 5 i) && aheadB a kn n v (jn (a 5 i)) (jn (nI o))) = false → jn (a 5 i) = o ∨ aheadB a kn n v o (jn (a 5 i)) = true)
    rw [jn_nI (show o < 2 ^ 31 by omega), g3, g2]
    by_cases q : k = o
    · exact ⟨fun _ => Or.inr q, fun _ => Or.inl q⟩
    · have q2 : ¬ nI o = nI k := fun z => q (j2.mp z).symm
      rw [decide_eq_false q2, Bool.not_false, Bool.true_and]
      refine ⟨Or.inl, fun hf => ?_⟩
      rcases ah_tot (v := v) T O g1 ho.1 q with r | r
      · rw [r] at hf; cases hf
      · exact Or.inr r
theorem v_keep (T : tInv n cm a kn) (O : tOrd n a os) (hv : v ≤ 5) {dy : Nat → Int32} (hdy : ∀ k, k < cm → dy k = a 14 k) : ∃ s, os.foldl (hs2 a kn v dy) (os.foldl (hs1 a kn v) zF).1 = upR (os.foldl (hs1 a kn v) zF).1 2 s ∧ ∀ t, t < 40 → s t = keeperB a kn n v (nI t) := by
  have hn := T.hn
  have hcm := T.hcm
  have hst : ∀ k, k < cm → (os.foldl (hs1 a kn v) zF).1 6 k = stateB a kn n v k := fun k hk => (v_st T O hv hk).trans (st_st T O hv hk)
  have hpl : ∀ t, t < 40 → (os.foldl (hs1 a kn v) zF).1 0 t = placeB a kn n v (nI t) := fun t ht => (v_pl T (fun i hi => (O.mem i).mp hi) ht).trans (pl_place T O t)
  have hcom := fun (g : Nat) (d : Int32) (hg : g < 8) => (v_com (v := v) T O hg d).1
  have hrk := v_rk (v := v) T O
  have h2 : (os.foldl (hs1 a kn v) zF).1 2 = fun _ => -1 := by
    have h := fold_proj (st := hs1 a kn v) (π := fun z : VS => z.1 2) (st' := fun y _ => y) (l := os) (z := zF) (fun i hi z => by
      show (hs1 a kn v z i).1 2 = z.1 2
      unfold hs1; split
      · exact hrS_2 z _
      · rfl)
    have this : ∀ (l : List Nat) (y : Nat → Int32), l.foldl (fun y _ => y) y = y := by
      intro l; induction l with
      | nil => intro y; rfl
      | cons x M ih => intro y; exact ih y
    rw [this] at h
    exact h
  have hvah : ∀ k o, k < cm → o < cm → stateB a kn n v k = 1 → stateB a kn n v o = 1 → vAhead (os.foldl (hs1 a kn v) zF).1 dy k o = aheadB a kn n v k o := fun k o hk ho sk so => vah_eq T O hcom hdy hrk rfl hk ho sk so
  generalize (os.foldl (hs1 a kn v) zF).1 = V1 at hst hpl h2 hvah ⊢
  have e1 : V1 = upR V1 2 (fun _ => -1) := by
    funext z j
    unfold upR
    by_cases q : z = 2
    · rw [if_pos q, q, h2]
    · rw [if_neg q]
  obtain ⟨s, h1, h3⟩ := hs2_all (dy := dy) T hst hpl os (fun _ => -1) (fun i hi => (O.mem i).mp hi)
  rw [← e1] at h1
  refine ⟨s, h1, fun t ht => ?_⟩
  rw [h3 t ht]
  unfold keeperB
  by_cases hp : placeB a kn n v (nI t) = -1
  · rw [if_pos hp]
    have : ∀ l : List Nat, l.foldl (selC a kn n v V1 dy t) (-1) = -1 := by
      intro l
      induction l with
      | nil => rfl
      | cons x M ih => rw [List.foldl_cons, selC_no (by rw [decide_eq_true hp]; simp)]; exact ih
    exact this os
  · rw [if_neg hp, foldU_foldl]
    rcases sel_cls T O hvah hp with ⟨x1, x2⟩ | ⟨m, hm, hqm, x1, x2⟩
    · rcases sel_ref (v := v) T O t with ⟨y1, y2⟩ | ⟨m', hm', hqm', y1, y2⟩
      · rw [x1, y1]
      · rw [x2 m' ((O.mem m').mpr (List.mem_range.mp hm'))] at hqm'; cases hqm'
    · rcases sel_ref (v := v) T O t with ⟨y1, y2⟩ | ⟨m', hm', hqm', y1, y2⟩
      · rw [y2 m (List.mem_range.mpr ((O.mem m).mp hm))] at hqm; cases hqm
      · rw [x1, y1]
        obtain ⟨⟨k, g1, g2, g3⟩, g4⟩ := ke_kd T ((O.mem m).mp hm) hqm
        obtain ⟨⟨k', g1', g2', g3'⟩, g4'⟩ := ke_kd T (List.mem_range.mp hm') hqm'
        have z1 := x2 m' ((O.mem m').mpr (List.mem_range.mp hm')) hqm'
        have z2 := y2 m (List.mem_range.mpr ((O.mem m).mp hm)) hqm
        rw [g3, g3'] at z1 z2 ⊢
        rcases z1 with z1 | z1
        · rw [z1]
        · rcases z2 with z2 | z2
          · rw [z2]
          · exact absurd z2 (fun z => ah_as T g1 g1' z1 z)
/-- the view is what the reference finds -/
def vOk (n cm : Nat) (a : Nat → Nat → Int32) (kn : Nat → Bool) (v : Nat) (z : VS) : Prop :=
  (∀ t, t < 40 → z.1 0 t = placeB a kn n v (nI t)) ∧ (∀ t, t < 40 → z.1 1 t = b5 (fun o => clB a kn n v t o)) ∧
  (∀ g d, g < 8 → vComes z.1 g d = !decide (comingB a kn n v (nI g) d = -1)) ∧ (∀ g d, g < 8 → ¬ comingB a kn n v (nI g) d = -1 → z.1 5 g = a 8 (jn (comingB a kn n v (nI g) d))) ∧
  (∀ k, k < cm → z.1 6 k = stateB a kn n v k) ∧ (∀ t, t < 40 → z.1 2 t = keeperB a kn n v (nI t)) ∧
  (∀ k, k < cm → bitT z.2.2 k = foldU (spStep a kn n v (nI k)) false n)
theorem view_ok (T : tInv n cm a kn) (O : tOrd n a os) (hv : v ≤ 5) {dy : Nat → Int32} (hdy : ∀ k, k < cm → dy k = a 14 k) : vOk n cm a kn v (rdA (frV v) dy (os.map (recW a kn))) := by
  have hm : ∀ i, i ∈ os → i < n := fun i hi => (O.mem i).mp hi
  unfold rdA
  rw [show ((fgV, 0, 0) : VS) = zF from rfl, rdA1_fold T hv os zF hm, rdA2_fold T hv dy os _ hm]
  obtain ⟨s, h1, h2⟩ := v_keep T O hv hdy
  rw [h1]
  refine ⟨fun t ht => ?_, fun t ht => ?_, fun g d hg => (v_com T O hg d).1, fun g d hg => (v_com T O hg d).2, fun k hk => (v_st T O hv hk).trans (st_st T O hv hk), fun t ht => h2 t ht, fun k hk => ?_⟩
  · exact (v_pl T hm ht).trans (pl_place T O t)
  · exact (v_cm T hm ht).trans (b5_cg (fun o ho => cm_cl T O t o ho))
  · rw [Bool.eq_iff_iff, sp_iff]
    exact v_sp T O hk
end VIEWC
