/-! no machine: states of cakes, the order of plans, what is spoilt -/
section VIEWB
variable {n cm : Nat} {a : Nat → Nat → Int32} {kn : Nat → Bool} {os : List Nat} {v : Nat}
def bkP (a : Nat → Nat → Int32) (kn : Nat → Bool) (v k i : Nat) : Bool := kn (6 * i + v) && decide (a 1 i = 6) && decide (a 4 i = nI k)
def drP (a : Nat → Nat → Int32) (kn : Nat → Bool) (v k i : Nat) : Bool := kn (6 * i + v) && decide (a 1 i = 5) && decide (a 4 i = nI k)
def pnP (a : Nat → Nat → Int32) (kn : Nat → Bool) (v k i : Nat) : Bool := kn (6 * i + v) && decide (a 1 i = 3) && decide (a 4 i = nI k)
def stA (a : Nat → Nat → Int32) (kn : Nat → Bool) (v k : Nat) (l : List Nat) : Int32 := if l.any (bkP a kn v k) then 3 else if l.any (drP a kn v k) then 2 else if l.any (pnP a kn v k) then 1 else 0
theorem and3 {x y z : Bool} : (x && y && z) = true ↔ x = true ∧ y = true ∧ z = true := by cases x <;> cases y <;> cases z <;> simp
theorem bk_iff (k i : Nat) : bkP a kn v k i = true ↔ kn (6 * i + v) = true ∧ a 1 i = 6 ∧ a 4 i = nI k := by unfold bkP; rw [and3, decide_eq_true_eq, decide_eq_true_eq]
theorem dr_iff (k i : Nat) : drP a kn v k i = true ↔ kn (6 * i + v) = true ∧ a 1 i = 5 ∧ a 4 i = nI k := by unfold drP; rw [and3, decide_eq_true_eq, decide_eq_true_eq]
theorem pn_iff (k i : Nat) : pnP a kn v k i = true ↔ kn (6 * i + v) = true ∧ a 1 i = 3 ∧ a 4 i = nI k := by unfold pnP; rw [and3, decide_eq_true_eq, decide_eq_true_eq]
/-- the plan of a cake is one word -/
theorem plan_one (T : tInv n cm a kn) {k i : Nat} (hk : k < cm) (hi : i < n) (h3 : a 1 i = 3) (h4 : a 4 i = nI k) : a 15 k = nI i := by
  have hcm := T.hcm
  rcases T.kind i hi with ⟨h, -⟩ | ⟨h, -⟩ | ⟨h, -⟩ | ⟨h, k', hk', e, e15⟩ | ⟨h, -⟩ | ⟨h, -⟩ | ⟨h, -⟩
  all_goals first | (rw [h3] at h; exact absurd h (by decide)) | skip
  rw [e] at h4
  have : k' = k := (nI_eq (by omega) (by omega)).mp h4
  rw [← this]; exact e15
theorem plan_of (T : tInv n cm a kn) {k p : Nat} (hk : k < cm) (hp : a 15 k = nI p) (hp2 : p < 240) : p < n ∧ a 1 p = 3 ∧ a 4 p = nI k := by
  have hn := T.hn
  obtain ⟨p1, h1, h2, h3, h4⟩ := T.cake k hk
  rw [hp] at h2
  have : p = p1 := (nI_eq (by omega) (by omega)).mp h2
  rw [this]; exact ⟨h1, h3, h4⟩
theorem bd_plan (T : tInv n cm a kn) {k i : Nat} (hk : k < cm) (hi : i < n) (h56 : a 1 i = 5 ∨ a 1 i = 6) (h4 : a 4 i = nI k) (hkn : kn (6 * i + v) = true) (hv : v ≤ 5) : ∃ p, p < n ∧ a 15 k = nI p ∧ isLaterB a i p = true ∧ pnP a kn v k p = true := by
  have hn := T.hn
  have hcm := T.hcm
  obtain ⟨p, h1, h2, h3, h5⟩ := T.cake k hk
  obtain ⟨g1, g2⟩ := T.plan i hi k p h56 h4 h2 (by omega) (by omega)
  exact ⟨p, h1, h2, g1, (pn_iff k p).mpr ⟨g2 v hv hkn, h3, h5⟩⟩
theorem any_snoc (p : Nat → Bool) (l : List Nat) (i : Nat) : (l ++ [i]).any p = (l.any p || p i) := by rw [List.any_append]; simp
theorem v_st (T : tInv n cm a kn) (O : tOrd n a os) (hv : v ≤ 5) {k : Nat} (hk : k < cm) : (os.foldl (hs1 a kn v) zF).1 6 k = stA a kn v k os := by
  refine foldl_pre (hs1 a kn v) os (fun l z => z.1 6 k = stA a kn v k l) (fun l i r z e hz => ?_) os [] zF rfl rfl
  obtain ⟨hi, c1, c2⟩ := O.cut e
  have hz : z.1 6 k = stA a kn v k l := hz
  show (hs1 a kn v z i).1 6 k = _
  rw [hs_6 T z hi hk]
  unfold stA at hz ⊢
  rw [any_snoc, any_snoc, any_snoc]
  cases hkn : kn (6 * i + v) with
  | false =>
    have e1 : bkP a kn v k i = false := by simp [bkP, hkn]
    have e2 : drP a kn v k i = false := by simp [drP, hkn]
    have e3 : pnP a kn v k i = false := by simp [pnP, hkn]
    rw [e1, e2, e3, hz]; simp
  | true =>
    rw [if_pos rfl]
    by_cases h4 : a 4 i = nI k
    · by_cases h3 : a 1 i = 3
      · rw [if_pos ⟨h3, h4⟩]
        have e3 : pnP a kn v k i = true := (pn_iff k i).mpr ⟨hkn, h3, h4⟩
        have e1 : bkP a kn v k i = false := by simp [bkP, h3]
        have e2 : drP a kn v k i = false := by simp [drP, h3]
        have f1 : ∀ j, j ∈ l → (a 1 j = 5 ∨ a 1 j = 6) → a 4 j = nI k → kn (6 * j + v) = true → False := by
          intro j hj h56 h44 hkj
          obtain ⟨p, p1, p2, p3, -⟩ := bd_plan T hk (c1 j hj).1 h56 h44 hkj hv
          have hn := T.hn
          have := plan_one T hk hi h3 h4
          rw [p2] at this
          have : p = i := (nI_eq (by omega) (by omega)).mp this
          rw [this] at p3
          exact lat_as p3 (c1 j hj).2
        have e4 : l.any (bkP a kn v k) = false := by
          rw [List.any_eq_false]
          intro j hj q
          obtain ⟨q1, q2, q3⟩ := (bk_iff k j).mp q
          exact f1 j hj (Or.inr q2) q3 q1
        have e5 : l.any (drP a kn v k) = false := by
          rw [List.any_eq_false]
          intro j hj q
          obtain ⟨q1, q2, q3⟩ := (dr_iff k j).mp q
          exact f1 j hj (Or.inl q2) q3 q1
        rw [e1, e2, e3, e4, e5]; simp
      · rw [if_neg (fun q => h3 q.1)]
        have e3 : pnP a kn v k i = false := by simp [pnP, h3]
        by_cases h5 : a 1 i = 5
        · have e1 : bkP a kn v k i = false := by simp [bkP, h5]
          have e2 : drP a kn v k i = true := (dr_iff k i).mpr ⟨hkn, h5, h4⟩
          obtain ⟨p, p1, p2, p3, p4⟩ := bd_plan T hk hi (Or.inl h5) h4 hkn hv
          have e6 : l.any (pnP a kn v k) = true := List.any_eq_true.mpr ⟨p, c2 p p1 p3, p4⟩
          rw [e1, e2, e3]
          rw [e6] at hz
          cases hb : l.any (bkP a kn v k) with
          | true => rw [hb] at hz; simp at hz; simp [hz, h5]
          | false =>
            rw [hb] at hz
            cases hd : l.any (drP a kn v k) with
            | true => rw [hd] at hz; simp at hz; simp [hz, h5]
            | false => rw [hd] at hz; simp at hz; simp [hz, h5, h4]
        · rw [if_neg (fun q => h5 q.1)]
          have e2 : drP a kn v k i = false := by simp [drP, h5]
          by_cases h6 : a 1 i = 6
          · rw [if_pos ⟨h6, h4⟩]
            have e1 : bkP a kn v k i = true := (bk_iff k i).mpr ⟨hkn, h6, h4⟩
            rw [e1]; simp
          · rw [if_neg (fun q => h6 q.1)]
            have e1 : bkP a kn v k i = false := by simp [bkP, h6]
            rw [e1, e2, e3, hz]; simp
    · have e1 : bkP a kn v k i = false := by simp [bkP, h4]
      have e2 : drP a kn v k i = false := by simp [drP, h4]
      have e3 : pnP a kn v k i = false := by simp [pnP, h4]
      rw [if_neg (fun q => h4 q.2), if_neg (fun q => h4 q.2.1), if_neg (fun q => h4 q.2), e1, e2, e3, hz]; simp
theorem any_same {p : Nat → Bool} {l l' : List Nat} (h : ∀ i, i ∈ l ↔ i ∈ l') : l.any p = l'.any p := by
  rw [Bool.eq_iff_iff, List.any_eq_true, List.any_eq_true]
  exact ⟨fun ⟨x, h1, h2⟩ => ⟨x, (h x).mp h1, h2⟩, fun ⟨x, h1, h2⟩ => ⟨x, (h x).mpr h1, h2⟩⟩
theorem st_st (T : tInv n cm a kn) (O : tOrd n a os) (hv : v ≤ 5) {k : Nat} (hk : k < cm) : stA a kn v k os = stateB a kn n v k := by
  have hn := T.hn
  obtain ⟨p, p1, p2, p3, p4⟩ := T.cake k hk
  unfold stateB
  rw [p2, jn_nI (by omega)]
  have hf : foldU (stStep a kn v k) 1 n = if (List.range n).any (bkP a kn v k) then 3 else if (List.range n).any (drP a kn v k) then 2 else 1 := by
    rw [foldU_foldl]
    refine foldl_pre (fun y i => stStep a kn v k i y) (List.range n) (fun l z => z = if l.any (bkP a kn v k) then 3 else if l.any (drP a kn v k) then 2 else 1) (fun l i r z e hz => ?_) (List.range n) [] 1 rfl rfl
    have hz : z = if l.any (bkP a kn v k) then 3 else if l.any (drP a kn v k) then 2 else 1 := hz
    show stStep a kn v k i z = _
    rw [any_snoc, any_snoc]
    have e1 : ((kn (6 * i + v) && decide (a 4 i = nI k)) && decide (a 1 i = 6)) = bkP a kn v k i := by unfold bkP; rw [Bool.and_assoc, Bool.and_assoc, Bool.and_comm (decide (a 4 i = nI k))]
    have e2 : ((kn (6 * i + v) && decide (a 4 i = nI k)) && decide (a 1 i = 5)) = drP a kn v k i := by unfold drP; rw [Bool.and_assoc, Bool.and_assoc, Bool.and_comm (decide (a 4 i = nI k))]
    unfold stStep
    rw [e1, e2, hz]
    cases bkP a kn v k i <;> cases drP a kn v k i <;> cases l.any (bkP a kn v k) <;> cases l.any (drP a kn v k) <;> simp
  have hm : ∀ i, i ∈ os ↔ i ∈ List.range n := fun i => by rw [O.mem, List.mem_range]
  rw [hf, ← any_same hm, ← any_same hm]
  unfold stA
  cases hkp : kn (6 * p + v) with
  | true =>
    have e3 : os.any (pnP a kn v k) = true := List.any_eq_true.mpr ⟨p, (O.mem p).mpr p1, (pn_iff k p).mpr ⟨hkp, p3, p4⟩⟩
    rw [e3]; simp
  | false =>
    have f1 : ∀ j, j ∈ os → (a 1 j = 5 ∨ a 1 j = 6) → a 4 j = nI k → kn (6 * j + v) = true → False := by
      intro j hj h56 h44 hkj
      obtain ⟨p', q1, q2, -, q4⟩ := bd_plan T hk ((O.mem j).mp hj) h56 h44 hkj hv
      rw [p2] at q2
      have : p = p' := (nI_eq (by omega) (by omega)).mp q2
      rw [← this] at q4
      have := ((pn_iff k p).mp q4).1
      rw [hkp] at this; cases this
    have e4 : os.any (bkP a kn v k) = false := by
      rw [List.any_eq_false]
      intro j hj q
      obtain ⟨q1, q2, q3⟩ := (bk_iff k j).mp q
      exact f1 j hj (Or.inr q2) q3 q1
    have e5 : os.any (drP a kn v k) = false := by
      rw [List.any_eq_false]
      intro j hj q
      obtain ⟨q1, q2, q3⟩ := (dr_iff k j).mp q
      exact f1 j hj (Or.inl q2) q3 q1
    have e6 : os.any (pnP a kn v k) = false := by
      rw [List.any_eq_false]
      intro j hj q
      obtain ⟨q1, q2, q3⟩ := (pn_iff k j).mp q
      have := plan_one T hk ((O.mem j).mp hj) q2 q3
      rw [p2] at this
      have hj' := (O.mem j).mp hj
      have : p = j := (nI_eq (by omega) (by omega)).mp this
      rw [← this, hkp] at q1; cases q1
    rw [e4, e5, e6]; simp
/-- an open cake's plan is known -/
theorem st_open {k p : Nat} (hp : a 15 k = nI p) (hp2 : p < 240) (h : stateB a kn n v k = 1) : kn (6 * p + v) = true := by
  unfold stateB at h
  rw [hp, jn_nI (by omega)] at h
  cases hk : kn (6 * p + v) with
  | true => rfl
  | false => rw [hk, if_neg (by simp)] at h; exact absurd h (by decide)
def rkJ (a : Nat → Nat → Int32) (kn : Nat → Bool) (v cm : Nat) (l : List Nat) (z : VS) : Prop := ∃ c, c ≤ l.length ∧ z.2.1 = nI c ∧ (∀ k p, k < cm → a 15 k = nI p → p ∈ l → kn (6 * p + v) = true → ∃ x, x < c ∧ z.1 7 k = nI x) ∧
  (∀ k p o q, k < cm → o < cm → a 15 k = nI p → a 15 o = nI q → p ∈ l → q ∈ l → kn (6 * p + v) = true → kn (6 * q + v) = true → isLaterB a q p = true → z.1 7 k < z.1 7 o)
theorem v_rk (T : tInv n cm a kn) (O : tOrd n a os) : rkJ a kn v cm os (os.foldl (hs1 a kn v) zF) := by
  have hn := T.hn
  have hcm := T.hcm
  refine foldl_pre (hs1 a kn v) os (rkJ a kn v cm) (fun l i r z e hz => ?_) os [] zF rfl ⟨0, Nat.le_refl _, rfl, fun k p _ _ h => absurd h List.not_mem_nil, fun k p o q _ _ _ _ h => absurd h List.not_mem_nil⟩
  obtain ⟨hi, c1, c2⟩ := O.cut e
  obtain ⟨c, hc, hq, hA, hB⟩ := hz
  have hlen : l.length < n := by
    have h1 := O.1
    rw [e, List.length_append, List.length_cons] at h1
    omega
  have hil : ¬ i ∈ l := fun q => lat_irr a i (c1 i q).2
  have hsn : ∀ x, x ∈ l ++ [i] ↔ x ∈ l ∨ x = i := fun x => by rw [List.mem_append, List.mem_singleton]
  cases hp : (kn (6 * i + v) && decide (a 1 i = 3)) with
  | false =>
    have h7 : ∀ k, k < cm → (hs1 a kn v z i).1 7 k = z.1 7 k := fun k hk => by rw [hs_7 T z hi hk, hp]; simp
    have hno : ∀ k p, k < cm → a 15 k = nI p → p ∈ l ++ [i] → kn (6 * p + v) = true → p ∈ l := by
      intro k p hk h15 hm hkp
      rcases (hsn p).mp hm with q | q
      · exact q
      · subst q
        have := (plan_of T hk h15 (by omega)).2.1
        rw [hkp, this] at hp; simp at hp
    refine ⟨c, by rw [List.length_append]; simp; omega, by rw [hs_pq T z hi, hp]; simpa using hq, fun k p hk h15 hm hkp => ?_, fun k p o q hk ho h15 h16 hm1 hm2 hk1 hk2 hl => ?_⟩
    · rw [h7 k hk]; exact hA k p hk h15 (hno k p hk h15 hm hkp) hkp
    · rw [h7 k hk, h7 o ho]; exact hB k p o q hk ho h15 h16 (hno k p hk h15 hm1 hk1) (hno o q ho h16 hm2 hk2) hk1 hk2 hl
  | true =>
    obtain ⟨hki, h3⟩ : kn (6 * i + v) = true ∧ a 1 i = 3 := by rw [Bool.and_eq_true, decide_eq_true_eq] at hp; exact hp
    have hkind : ∃ k', k' < cm ∧ a 4 i = nI k' ∧ a 15 k' = nI i := by
      rcases T.kind i hi with ⟨h, -⟩ | ⟨h, -⟩ | ⟨h, -⟩ | ⟨h, k', hk', e4, e15⟩ | ⟨h, -⟩ | ⟨h, -⟩ | ⟨h, -⟩
      all_goals first | (rw [h3] at h; exact absurd h (by decide)) | skip
      exact ⟨k', hk', e4, e15⟩
    obtain ⟨k', hk', e4, e15⟩ := hkind
    have h7 : ∀ k, k < cm → (hs1 a kn v z i).1 7 k = if k' = k then nI c else z.1 7 k := fun k hk => by
      have j2 : nI k' = nI k ↔ k' = k := nI_eq (by omega) (by omega)
      rw [hs_7 T z hi hk, hp, e4, hq]
      by_cases q : k' = k
      · simp [q]
      · simp [q, j2]
    have hk1 : ∀ k, k < cm → a 15 k = nI i → k' = k := by
      intro k hk h15
      have h := (plan_of T hk h15 (by omega)).2.2
      rw [e4] at h
      exact (nI_eq (by omega) (by omega)).mp h
    have hk2 : ∀ k p, k < cm → a 15 k = nI p → p ∈ l → ¬ k' = k := by
      intro k p hk h15 hm q
      rw [← q, e15] at h15
      have hpn := (c1 p hm).1
      have : i = p := (nI_eq (by omega) (by omega)).mp h15
      rw [← this] at hm
      exact hil hm
    refine ⟨c + 1, by rw [List.length_append]; simp; omega, by rw [hs_pq T z hi, hp]; simp [hq, nI_1], fun k p hk h15 hm hkp => ?_, fun k p o q hk ho h15 h16 hm1 hm2 g1 g2 hl => ?_⟩
    · rcases (hsn p).mp hm with q | q
      · obtain ⟨x, hx, ex⟩ := hA k p hk h15 q hkp
        exact ⟨x, by omega, by rw [h7 k hk, if_neg (hk2 k p hk h15 q)]; exact ex⟩
      · subst q
        exact ⟨c, by omega, by rw [h7 k hk, if_pos (hk1 k hk h15)]⟩
    · rcases (hsn p).mp hm1 with x1 | x1
      · rcases (hsn q).mp hm2 with x2 | x2
        · rw [h7 k hk, h7 o ho, if_neg (hk2 k p hk h15 x1), if_neg (hk2 o q ho h16 x2)]
          exact hB k p o q hk ho h15 h16 x1 x2 g1 g2 hl
        · subst x2
          obtain ⟨x, hx, ex⟩ := hA k p hk h15 x1 g1
          rw [h7 k hk, h7 o ho, if_neg (hk2 k p hk h15 x1), if_pos (hk1 o ho h16), ex]
          exact nI_lt hx (by omega)
      · subst x1
        rcases (hsn q).mp hm2 with x2 | x2
        · exact absurd hl (fun z => lat_as z (c1 q x2).2)
        · subst x2; exact absurd hl (lat_irr a _)
/-- a TAKE is in vain where its thing is nowhere until then -/
theorem vain_eq (T : tInv n cm a kn) (O : tOrd n a os) {l r : List Nat} {i : Nat} (e : os = l ++ i :: r) {t : Nat} (ht : t < 40) (h4 : a 4 i = nI t) : plL a kn v t l = -1 ↔ vainB a kn n v i = true := by
  have hn := T.hn
  obtain ⟨hi, c1, c2⟩ := O.cut e
  have hsl : l.Pairwise (fun i j => isLaterB a j i = true) := by
    have := O.srt
    rw [e, List.pairwise_append] at this
    exact this.1
  have e0 : plL a kn v t l = l.foldl (fun y j => if (kn (6 * j + v) && isMoveB a j (a 4 i) && isLaterB a i j) then (if a 1 j = 0 then a 2 j else -1) else y) (-1) := by
    unfold plL
    refine foldl_cg (fun j hj x => ?_)
    rw [(c1 j hj).2, h4, Bool.and_true]; rfl
  have e1 : vainF a kn n v i = foldU (fun j f => if (kn (6 * j + v) && isMoveB a j (a 4 i) && isLaterB a i j) && (decide (f = -1) || isLaterB a j (jn f)) then nI j else f) (-1 : Int32) n := rfl
  unfold vainB
  rw [e0, e1]
  rcases ml hn (fun i j hi hj hn => O.tot hi hj hn) hsl (fun i hi => (c1 i hi).1) (fun j => kn (6 * j + v) && isMoveB a j (a 4 i) && isLaterB a i j) (fun j hj q => c2 j hj (by rw [Bool.and_eq_true] at q; exact q.2)) (fun j => if a 1 j = 0 then a 2 j else -1) (-1 : Int32) with ⟨h1, h2⟩ | ⟨m, hm, hp, h1, h2⟩
  · rw [h1, h2]; simp
  · rw [h1, h2, jn_nI (by omega)]
    have hm1 : ¬ nI m = -1 := nI_m1 m (by omega)
    have hmv : a 1 m = 0 ∨ a 1 m = 1 := by
      have hp : (kn (6 * m + v) && isMoveB a m (a 4 i) && isLaterB a i m) = true := hp
      unfold isMoveB at hp
      simp only [Bool.and_eq_true, Bool.or_eq_true, decide_eq_true_eq] at hp
      exact hp.1.2.1
    rcases hmv with q | q
    · simp [q, hm1, au_m1 T hm]
    · simp [q]
theorem v_sp (T : tInv n cm a kn) (O : tOrd n a os) {k : Nat} (hk : k < cm) : bitT (os.foldl (hs1 a kn v) zF).2.2 k = true ↔ ∃ i, i < n ∧ kn (6 * i + v) = true ∧ a 1 i = 1 ∧ a 5 i = nI k ∧ vainB a kn n v i = true := by
  have hn := T.hn
  have hcm := T.hcm
  have hJ : (os.foldl (hs1 a kn v) zF) = os.foldl (hs1 a kn v) zF ∧ (bitT (os.foldl (hs1 a kn v) zF).2.2 k = true ↔ ∃ i, i ∈ os ∧ kn (6 * i + v) = true ∧ a 1 i = 1 ∧ a 5 i = nI k ∧ vainB a kn n v i = true) := by
    refine foldl_pre (hs1 a kn v) os (fun l z => z = l.foldl (hs1 a kn v) zF ∧ (bitT z.2.2 k = true ↔ ∃ i, i ∈ l ∧ kn (6 * i + v) = true ∧ a 1 i = 1 ∧ a 5 i = nI k ∧ vainB a kn n v i = true)) (fun l i r z e hz => ?_) os [] zF rfl ⟨rfl, ⟨fun h => (by rw [show zF.2.2 = 0 from rfl, bt_0] at h; cases h), fun ⟨i, h, _⟩ => absurd h List.not_mem_nil⟩⟩
    obtain ⟨hi, c1, c2⟩ := O.cut e
    obtain ⟨hz1, hz2⟩ := hz
    refine ⟨by rw [List.foldl_append, ← hz1]; rfl, ?_⟩
    have hsn : (∃ j, j ∈ l ++ [i] ∧ kn (6 * j + v) = true ∧ a 1 j = 1 ∧ a 5 j = nI k ∧ vainB a kn n v j = true) ↔ (∃ j, j ∈ l ∧ kn (6 * j + v) = true ∧ a 1 j = 1 ∧ a 5 j = nI k ∧ vainB a kn n v j = true) ∨ (kn (6 * i + v) = true ∧ a 1 i = 1 ∧ a 5 i = nI k ∧ vainB a kn n v i = true) := by
      constructor
      · rintro ⟨j, hj, h⟩
        rcases List.mem_append.mp hj with q | q
        · exact Or.inl ⟨j, q, h⟩
        · rw [List.mem_singleton] at q; subst q; exact Or.inr h
      · rintro (⟨j, hj, h⟩ | h)
        · exact ⟨j, List.mem_append_left _ hj, h⟩
        · exact ⟨i, by simp, h⟩
    rw [hsn, hs_sp T z hi]
    cases hp : (kn (6 * i + v) && decide (a 1 i = 1)) with
    | false =>
      rw [if_neg (by simp), hz2]
      refine ⟨Or.inl, fun q => q.elim id (fun h => ?_)⟩
      rw [h.1, h.2.1] at hp; simp at hp
    | true =>
      obtain ⟨hki, h1⟩ : kn (6 * i + v) = true ∧ a 1 i = 1 := by rw [Bool.and_eq_true, decide_eq_true_eq] at hp; exact hp
      have hkd : (∃ t, t < 40 ∧ a 4 i = nI t) ∧ (a 5 i = -1 ∨ ∃ k, k < cm ∧ a 5 i = nI k) := by
        rcases T.kind i hi with ⟨h, -⟩ | ⟨h, g1, g2⟩ | ⟨h, -⟩ | ⟨h, -⟩ | ⟨h, -⟩ | ⟨h, -⟩ | ⟨h, -⟩
        all_goals first | (rw [h1] at h; exact absurd h (by decide)) | skip
        exact ⟨g1, g2⟩
      obtain ⟨⟨t, ht, e4⟩, h5⟩ := hkd
      have hv0 : z.1 0 (jn (a 4 i)) = -1 ↔ vainB a kn n v i = true := by
        rw [e4, jn_nI (by omega), hz1, v_pl T (fun j hj => (c1 j hj).1) ht]
        exact vain_eq T O e ht e4
      rw [if_pos rfl]
      rcases h5 with h5 | ⟨k', hk', h5⟩
      · rw [if_pos h5, hz2]
        refine ⟨Or.inl, fun q => q.elim id (fun h => ?_)⟩
        have := h.2.2.1
        rw [h5] at this
        exact absurd this.symm (nI_m1 k (by omega))
      · have hm1 : ¬ a 5 i = -1 := by rw [h5]; exact nI_m1 k' (by omega)
        rw [if_neg hm1]
        by_cases hvn : vainB a kn n v i = true
        · rw [if_pos (hv0.mpr hvn), h5, bt_set _ (by omega), Bool.or_eq_true, hz2, decide_eq_true_eq, nI_eq (by omega) (by omega)]
          exact ⟨fun q => q.elim Or.inl (fun q => Or.inr ⟨hki, h1, q, hvn⟩), fun q => q.elim Or.inl (fun q => Or.inr q.2.2.1)⟩
        · rw [if_neg (fun q => hvn (hv0.mp q)), hz2]
          exact ⟨Or.inl, fun q => q.elim id (fun q => absurd q.2.2.2 hvn)⟩
  rw [hJ.2]
  exact ⟨fun ⟨i, h, g⟩ => ⟨i, (O.mem i).mp h, g⟩, fun ⟨i, h, g⟩ => ⟨i, (O.mem i).mpr h, g⟩⟩
theorem sp_iff (k : Nat) : foldU (spStep a kn n v (nI k)) false n = true ↔ ∃ i, i < n ∧ kn (6 * i + v) = true ∧ a 1 i = 1 ∧ a 5 i = nI k ∧ vainB a kn n v i = true := by
  have e : foldU (spStep a kn n v (nI k)) false n = foldU (fun f x => x || (kn (6 * f + v) && decide (a 1 f = 1) && decide (a 5 f = nI k) && vainB a kn n v f)) false n := rfl
  rw [e, foldU_or]
  constructor
  · rintro ⟨f, hf, h⟩
    simp only [Bool.and_eq_true, decide_eq_true_eq] at h
    exact ⟨f, hf, h.1.1.1, h.1.1.2, h.1.2, h.2⟩
  · rintro ⟨f, hf, h1, h2, h3, h4⟩
    exact ⟨f, hf, by simp [h1, h2, h3, h4]⟩
end VIEWB
