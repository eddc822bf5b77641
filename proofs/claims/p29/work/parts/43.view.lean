/-! no machine: what a view shows, row by row, is what the reference searches for -/
section VIEW
variable {n cm : Nat} {a : Nat → Nat → Int32} {kn : Nat → Bool} {os : List Nat} {v : Nat}
def pmv (a : Nat → Nat → Int32) (kn : Nat → Bool) (v t i : Nat) : Bool := kn (6 * i + v) && isMoveB a i (nI t)
theorem hs_0 (T : tInv n cm a kn) (z : VS) {i : Nat} (hi : i < n) {t : Nat} (ht : t < 40) : (hs1 a kn v z i).1 0 t = if pmv a kn v t i then (if a 1 i = 0 then a 2 i else -1) else z.1 0 t := by
  have hcm := T.hcm
  unfold hs1 pmv isMoveB
  cases hk : kn (6 * i + v) with
  | false => simp
  | true =>
    rw [if_pos rfl]
    rcases T.kind i hi with ⟨h, q', hq', e⟩ | ⟨h, ⟨q', hq', e⟩, -⟩ | ⟨h, q', hq', e⟩ | ⟨h, q', hq', e, -⟩ | ⟨h, -⟩ | ⟨h, q', hq', e⟩ | ⟨h, q', hq', e⟩
    · rw [hr_0 _ h]
      have j1 : jn (nI q') = q' := jn_nI (by omega)
      have j2 : nI q' = nI t ↔ q' = t := nI_eq (by omega) (by omega)
      by_cases q : t = q'
      · subst q; simp_all [upA_at]
      · have q2 : ¬ q' = t := fun z => q z.symm
        simp_all [upA_at]
    · rw [hr_1 _ h]
      have j1 : jn (nI q') = q' := jn_nI (by omega)
      have j2 : nI q' = nI t ↔ q' = t := nI_eq (by omega) (by omega)
      by_cases q : t = q'
      · subst q; simp_all [upA_at]
      · have q2 : ¬ q' = t := fun z => q z.symm
        simp_all [upA_at]
    · rw [hr_2 _ h]
      simp [upA_at, h]
    · rw [hr_3 _ h]
      simp [upA_at, h]
    · rw [hr_4 _ h]
      simp [upA_at, h]
    · rw [hr_5 _ h]
      split <;> simp [upA_at, h]
    · rw [hr_6 _ h]
      simp [upA_at, h]
theorem hs_1 (T : tInv n cm a kn) (z : VS) {i : Nat} (hi : i < n) {t : Nat} (ht : t < 40) : (hs1 a kn v z i).1 1 t = if pmv a kn v t i then (if a 1 i = 0 then z.1 1 t ||| ((1 : Int32) <<< (a 2 i &&& 31)) else z.1 1 t &&& (((1 : Int32) <<< (a 2 i &&& 31)) ^^^ (-1))) else z.1 1 t := by
  have hcm := T.hcm
  unfold hs1 pmv isMoveB
  cases hk : kn (6 * i + v) with
  | false => simp
  | true =>
    rw [if_pos rfl]
    rcases T.kind i hi with ⟨h, q', hq', e⟩ | ⟨h, ⟨q', hq', e⟩, -⟩ | ⟨h, q', hq', e⟩ | ⟨h, q', hq', e, -⟩ | ⟨h, -⟩ | ⟨h, q', hq', e⟩ | ⟨h, q', hq', e⟩
    · rw [hr_0 _ h]
      have j1 : jn (nI q') = q' := jn_nI (by omega)
      have j2 : nI q' = nI t ↔ q' = t := nI_eq (by omega) (by omega)
      by_cases q : t = q'
      · subst q; simp_all [upA_at]
      · have q2 : ¬ q' = t := fun z => q z.symm
        simp_all [upA_at]
    · rw [hr_1 _ h]
      have j1 : jn (nI q') = q' := jn_nI (by omega)
      have j2 : nI q' = nI t ↔ q' = t := nI_eq (by omega) (by omega)
      by_cases q : t = q'
      · subst q; simp_all [upA_at]
      · have q2 : ¬ q' = t := fun z => q z.symm
        simp_all [upA_at]
    · rw [hr_2 _ h]
      simp [upA_at, h]
    · rw [hr_3 _ h]
      simp [upA_at, h]
    · rw [hr_4 _ h]
      simp [upA_at, h]
    · rw [hr_5 _ h]
      split <;> simp [upA_at, h]
    · rw [hr_6 _ h]
      simp [upA_at, h]
theorem hs_345 (T : tInv n cm a kn) (z : VS) {i : Nat} (hi : i < n) {g : Nat} (hg : g < 8) : ((hs1 a kn v z i).1 3 g, (hs1 a kn v z i).1 4 g, (hs1 a kn v z i).1 5 g) = if kn (6 * i + v) && decide (a 1 i = 2) && decide (a 4 i = nI g) then (a 6 i, a 7 i, a 8 i) else (z.1 3 g, z.1 4 g, z.1 5 g) := by
  have hcm := T.hcm
  unfold hs1 
  cases hk : kn (6 * i + v) with
  | false => simp
  | true =>
    rw [if_pos rfl]
    rcases T.kind i hi with ⟨h, q', hq', e⟩ | ⟨h, ⟨q', hq', e⟩, -⟩ | ⟨h, q', hq', e⟩ | ⟨h, q', hq', e, -⟩ | ⟨h, -⟩ | ⟨h, q', hq', e⟩ | ⟨h, q', hq', e⟩
    · rw [hr_0 _ h]
      simp [upA_at, h]
    · rw [hr_1 _ h]
      simp [upA_at, h]
    · rw [hr_2 _ h]
      have j1 : jn (nI q') = q' := jn_nI (by omega)
      have j2 : nI q' = nI g ↔ q' = g := nI_eq (by omega) (by omega)
      by_cases q : g = q'
      · subst q; simp_all [upA_at]
      · have q2 : ¬ q' = g := fun z => q z.symm
        simp_all [upA_at]
    · rw [hr_3 _ h]
      simp [upA_at, h]
    · rw [hr_4 _ h]
      simp [upA_at, h]
    · rw [hr_5 _ h]
      split <;> simp [upA_at, h]
    · rw [hr_6 _ h]
      simp [upA_at, h]
theorem hs_6 (T : tInv n cm a kn) (z : VS) {i : Nat} (hi : i < n) {k : Nat} (hkc : k < cm) : (hs1 a kn v z i).1 6 k = if kn (6 * i + v) then (if a 1 i = 3 ∧ a 4 i = nI k then 1 else if a 1 i = 5 ∧ a 4 i = nI k ∧ z.1 6 k = 1 then 2 else if a 1 i = 6 ∧ a 4 i = nI k then 3 else z.1 6 k) else z.1 6 k := by
  have hcm := T.hcm
  unfold hs1 
  cases hk : kn (6 * i + v) with
  | false => simp
  | true =>
    rw [if_pos rfl]
    rcases T.kind i hi with ⟨h, q', hq', e⟩ | ⟨h, ⟨q', hq', e⟩, -⟩ | ⟨h, q', hq', e⟩ | ⟨h, q', hq', e, -⟩ | ⟨h, -⟩ | ⟨h, q', hq', e⟩ | ⟨h, q', hq', e⟩
    · rw [hr_0 _ h]
      simp [upA_at, h]
    · rw [hr_1 _ h]
      simp [upA_at, h]
    · rw [hr_2 _ h]
      simp [upA_at, h]
    · rw [hr_3 _ h]
      have j1 : jn (nI q') = q' := jn_nI (by omega)
      have j2 : nI q' = nI k ↔ q' = k := nI_eq (by omega) (by omega)
      by_cases q : k = q'
      · subst q; simp_all [upA_at]
      · have q2 : ¬ q' = k := fun z => q z.symm
        simp_all [upA_at]
    · rw [hr_4 _ h]
      simp [upA_at, h]
    · rw [hr_5 _ h]
      have j1 : jn (nI q') = q' := jn_nI (by omega)
      have j2 : nI q' = nI k ↔ q' = k := nI_eq (by omega) (by omega)
      by_cases q : k = q'
      · subst q; split <;> simp_all [upA_at]
      · have q2 : ¬ q' = k := fun z => q z.symm
        split <;> simp_all [upA_at]
    · rw [hr_6 _ h]
      have j1 : jn (nI q') = q' := jn_nI (by omega)
      have j2 : nI q' = nI k ↔ q' = k := nI_eq (by omega) (by omega)
      by_cases q : k = q'
      · subst q; simp_all [upA_at]
      · have q2 : ¬ q' = k := fun z => q z.symm
        simp_all [upA_at]
theorem hs_7 (T : tInv n cm a kn) (z : VS) {i : Nat} (hi : i < n) {k : Nat} (hkc : k < cm) : (hs1 a kn v z i).1 7 k = if kn (6 * i + v) && decide (a 1 i = 3) && decide (a 4 i = nI k) then z.2.1 else z.1 7 k := by
  have hcm := T.hcm
  unfold hs1 
  cases hk : kn (6 * i + v) with
  | false => simp
  | true =>
    rw [if_pos rfl]
    rcases T.kind i hi with ⟨h, q', hq', e⟩ | ⟨h, ⟨q', hq', e⟩, -⟩ | ⟨h, q', hq', e⟩ | ⟨h, q', hq', e, -⟩ | ⟨h, -⟩ | ⟨h, q', hq', e⟩ | ⟨h, q', hq', e⟩
    · rw [hr_0 _ h]
      simp [upA_at, h]
    · rw [hr_1 _ h]
      simp [upA_at, h]
    · rw [hr_2 _ h]
      simp [upA_at, h]
    · rw [hr_3 _ h]
      have j1 : jn (nI q') = q' := jn_nI (by omega)
      have j2 : nI q' = nI k ↔ q' = k := nI_eq (by omega) (by omega)
      by_cases q : k = q'
      · subst q; simp_all [upA_at]
      · have q2 : ¬ q' = k := fun z => q z.symm
        simp_all [upA_at]
    · rw [hr_4 _ h]
      simp [upA_at, h]
    · rw [hr_5 _ h]
      split <;> simp [upA_at, h]
    · rw [hr_6 _ h]
      simp [upA_at, h]
theorem hs_pq (T : tInv n cm a kn) (z : VS) {i : Nat} (hi : i < n) : (hs1 a kn v z i).2.1 = if kn (6 * i + v) && decide (a 1 i = 3) then z.2.1 + 1 else z.2.1 := by
  unfold hs1
  cases hk : kn (6 * i + v) with
  | false => simp
  | true =>
    rw [if_pos rfl]
    rcases T.kind i hi with ⟨h, -⟩ | ⟨h, -⟩ | ⟨h, -⟩ | ⟨h, -⟩ | ⟨h, -⟩ | ⟨h, -⟩ | ⟨h, -⟩
    · rw [hr_0 _ h]; simp [h]
    · rw [hr_1 _ h]; simp [h]
    · rw [hr_2 _ h]; simp [h]
    · rw [hr_3 _ h]; simp [h]
    · rw [hr_4 _ h]; simp [h]
    · rw [hr_5 _ h]; simp [h]
    · rw [hr_6 _ h]; simp [h]
theorem hs_sp (T : tInv n cm a kn) (z : VS) {i : Nat} (hi : i < n) : (hs1 a kn v z i).2.2 = if kn (6 * i + v) && decide (a 1 i = 1) then (if a 5 i = -1 then z.2.2 else if z.1 0 (jn (a 4 i)) = -1 then z.2.2 ||| ((1 : Int32) <<< (a 5 i &&& 31)) else z.2.2) else z.2.2 := by
  unfold hs1
  cases hk : kn (6 * i + v) with
  | false => simp
  | true =>
    rw [if_pos rfl]
    rcases T.kind i hi with ⟨h, -⟩ | ⟨h, -⟩ | ⟨h, -⟩ | ⟨h, -⟩ | ⟨h, -⟩ | ⟨h, -⟩ | ⟨h, -⟩
    · rw [hr_0 _ h]; simp [h]
    · rw [hr_1 _ h]; simp [h]
    · rw [hr_2 _ h]; simp [h]
    · rw [hr_3 _ h]; simp [h]
    · rw [hr_4 _ h]; simp [h]
    · rw [hr_5 _ h]; simp [h]
    · rw [hr_6 _ h]; simp [h]
theorem fold_proj {σ β : Type} {st : σ → Nat → σ} {π : σ → β} {st' : β → Nat → β} : ∀ {l : List Nat} {z : σ}, (∀ i, i ∈ l → ∀ z, π (st z i) = st' (π z) i) → π (l.foldl st z) = l.foldl st' (π z)
  | [], _, _ => rfl
  | i :: r, z, h => by
    rw [List.foldl_cons, List.foldl_cons, fold_proj (fun j hj => h j (List.mem_cons_of_mem _ hj)), h i List.mem_cons_self z]
def plL (a : Nat → Nat → Int32) (kn : Nat → Bool) (v t : Nat) (l : List Nat) : Int32 := l.foldl (fun y i => if pmv a kn v t i then (if a 1 i = 0 then a 2 i else -1) else y) (-1)
def cmL (a : Nat → Nat → Int32) (kn : Nat → Bool) (v t o : Nat) (l : List Nat) : Bool := l.foldl (fun y i => if pmv a kn v t i && decide (a 2 i = nI o) then decide (a 1 i = 0) else y) false
def clB (a : Nat → Nat → Int32) (kn : Nat → Bool) (n v t o : Nat) : Bool := !decide (latestB a kn n v (nI t) (nI o) = -1) && decide (a 1 (jn (latestB a kn n v (nI t) (nI o))) = 0)
def zF : VS := (fgV, 0, 0)
theorem v_pl (T : tInv n cm a kn) {l : List Nat} (hl : ∀ i, i ∈ l → i < n) {t : Nat} (ht : t < 40) : (l.foldl (hs1 a kn v) zF).1 0 t = plL a kn v t l := by
  have h := fold_proj (st := hs1 a kn v) (π := fun z : VS => z.1 0 t) (st' := fun y i => if pmv a kn v t i then (if a 1 i = 0 then a 2 i else -1) else y) (l := l) (z := zF) (fun i hi z => hs_0 T z (hl i hi) ht)
  exact h
theorem au_m1 (T : tInv n cm a kn) {i : Nat} (hi : i < n) : ¬ a 2 i = -1 := by
  obtain ⟨w, hw, e, -⟩ := T.au i hi
  rw [e]; exact nI_m1 w (by omega)
theorem pl_place (T : tInv n cm a kn) (O : tOrd n a os) (t : Nat) : plL a kn v t os = placeB a kn n v (nI t) := by
  have e0 : ∀ f, lmStep a kn v (nI t) (-1) f = fun f1 => if pmv a kn v t f && (decide (f1 = -1) || isLaterB a f (jn f1)) then nI f else f1 := by
    intro f; funext f1; simp [lmStep, pmv]
  have e1 : latestB a kn n v (nI t) (-1) = foldU (fun i f => if pmv a kn v t i && (decide (f = -1) || isLaterB a i (jn f)) then nI i else f) (-1 : Int32) n := foldU_cg (fun i _ x => by rw [e0])
  unfold placeB plL
  rw [e1]
  rcases ml T.hn (fun i j hi hj hn => O.tot hi hj hn) O.srt (fun i hi => (O.mem i).mp hi) (pmv a kn v t) (fun i hi _ => (O.mem i).mpr hi) (fun i => if a 1 i = 0 then a 2 i else -1) (-1 : Int32) with ⟨h1, h2⟩ | ⟨m, hm, hp, h1, h2⟩
  · rw [h1, h2, if_pos rfl]
  · have hn := T.hn
    rw [h1, h2, if_neg (nI_m1 m (by omega)), jn_nI (by omega)]
theorem cm_cl (T : tInv n cm a kn) (O : tOrd n a os) (t o : Nat) (ho : o < 5) : cmL a kn v t o os = clB a kn n v t o := by
  have e2 : ¬ nI o = -1 := nI_m1 o (by omega)
  have e0 : ∀ f, lmStep a kn v (nI t) (nI o) f = fun f1 => if (pmv a kn v t f && decide (a 2 f = nI o)) && (decide (f1 = -1) || isLaterB a f (jn f1)) then nI f else f1 := by
    intro f; funext f1; simp [lmStep, pmv, e2]
  have e1 : latestB a kn n v (nI t) (nI o) = foldU (fun i f => if (pmv a kn v t i && decide (a 2 i = nI o)) && (decide (f = -1) || isLaterB a i (jn f)) then nI i else f) (-1 : Int32) n := foldU_cg (fun i _ x => by rw [e0])
  unfold clB cmL
  rw [e1]
  rcases ml T.hn (fun i j hi hj hn => O.tot hi hj hn) O.srt (fun i hi => (O.mem i).mp hi) (fun i => pmv a kn v t i && decide (a 2 i = nI o)) (fun i hi _ => (O.mem i).mpr hi) (fun i => decide (a 1 i = 0)) false with ⟨h1, h2⟩ | ⟨m, hm, hp, h1, h2⟩
  · rw [h1, h2]; rfl
  · have hn := T.hn
    rw [h1, h2, jn_nI (by omega)]
    simp [nI_m1 m (show m < 2 ^ 31 by omega)]
theorem v_cm (T : tInv n cm a kn) {l : List Nat} (hl : ∀ i, i ∈ l → i < n) {t : Nat} (ht : t < 40) : (l.foldl (hs1 a kn v) zF).1 1 t = b5 (fun o => cmL a kn v t o l) := by
  refine foldl_pre (hs1 a kn v) l (fun l z => z.1 1 t = b5 (fun o => cmL a kn v t o l)) (fun l1 i r z e hz => ?_) l [] zF rfl b5_0
  have hi : i < n := hl i (by rw [e]; simp)
  obtain ⟨w, hw, ew, -⟩ := T.au i hi
  show (hs1 a kn v z i).1 1 t = _
  rw [hs_1 T z hi ht, hz, ew]
  cases hp : pmv a kn v t i with
  | false =>
    rw [if_neg (by simp)]
    refine b5_cg (fun o _ => ?_)
    unfold cmL
    rw [List.foldl_append]
    simp [hp]
  | true =>
    rw [if_pos rfl]
    by_cases h0 : a 1 i = 0
    · rw [if_pos h0, b5_or _ hw]
      refine b5_cg (fun o ho => ?_)
      have j2 : nI w = nI o ↔ w = o := nI_eq (by omega) (by omega)
      unfold cmL
      rw [List.foldl_append]
      by_cases q : o = w
      · subst q; simp [hp, h0, ew]
      · have q2 : ¬ w = o := fun z => q z.symm
        simp [hp, h0, ew, j2, q, q2]
    · rw [if_neg h0, b5_clr _ hw]
      refine b5_cg (fun o ho => ?_)
      have j2 : nI w = nI o ↔ w = o := nI_eq (by omega) (by omega)
      unfold cmL
      rw [List.foldl_append]
      by_cases q : o = w
      · subst q; simp [hp, h0, ew]
      · have q2 : ¬ w = o := fun z => q z.symm
        simp [hp, h0, ew, j2, q, q2]
theorem v_gu (T : tInv n cm a kn) (O : tOrd n a os) {g : Nat} (hg : g < 8) : (comF a kn n v (nI g) = -1 ∧ (os.foldl (hs1 a kn v) zF).1 3 g = 0 ∧ (os.foldl (hs1 a kn v) zF).1 4 g = -1) ∨
    ∃ m, m < n ∧ comF a kn n v (nI g) = nI m ∧ (os.foldl (hs1 a kn v) zF).1 3 g = a 6 m ∧ (os.foldl (hs1 a kn v) zF).1 4 g = a 7 m ∧ (os.foldl (hs1 a kn v) zF).1 5 g = a 8 m := by
  have h := fold_proj (st := hs1 a kn v) (π := fun z : VS => (z.1 3 g, z.1 4 g, z.1 5 g)) (st' := fun y i => if kn (6 * i + v) && decide (a 1 i = 2) && decide (a 4 i = nI g) then (a 6 i, a 7 i, a 8 i) else y) (l := os) (z := zF) (fun i hi z => hs_345 T z ((O.mem i).mp hi) hg)
  have hc : comF a kn n v (nI g) = foldU (fun i f => if (kn (6 * i + v) && decide (a 1 i = 2) && decide (a 4 i = nI g)) && (decide (f = -1) || isLaterB a i (jn f)) then nI i else f) (-1 : Int32) n := rfl
  rw [hc]
  rcases ml T.hn (fun i j hi hj hn => O.tot hi hj hn) O.srt (fun i hi => (O.mem i).mp hi) (fun i => kn (6 * i + v) && decide (a 1 i = 2) && decide (a 4 i = nI g)) (fun i hi _ => (O.mem i).mpr hi) (fun i => (a 6 i, a 7 i, a 8 i)) (zF.1 3 g, zF.1 4 g, zF.1 5 g) with ⟨h1, h2⟩ | ⟨m, hm, hp, h1, h2⟩
  · rw [h2] at h
    have h3 := congrArg Prod.fst h
    have h4 := congrArg (fun x => x.2.1) h
    exact Or.inl ⟨h1, h3, h4⟩
  · rw [h2] at h
    have h3 := congrArg Prod.fst h
    have h4 := congrArg (fun x => x.2.1) h
    have h5 := congrArg (fun x => x.2.2) h
    exact Or.inr ⟨m, hm, h1, h3, h4, h5⟩
theorem v_com (T : tInv n cm a kn) (O : tOrd n a os) {g : Nat} (hg : g < 8) (d : Int32) : vComes (os.foldl (hs1 a kn v) zF).1 g d = !decide (comingB a kn n v (nI g) d = -1) ∧ (¬ comingB a kn n v (nI g) d = -1 → (os.foldl (hs1 a kn v) zF).1 5 g = a 8 (jn (comingB a kn n v (nI g) d))) := by
  have hn := T.hn
  unfold vComes comingB
  rcases v_gu (v := v) T O hg with ⟨h1, h3, h4⟩ | ⟨m, hm, h1, h3, h4, h5⟩
  · rw [h1, h3, h4, if_pos rfl]
    refine ⟨?_, fun z => absurd rfl z⟩
    have : (decide (d < 0) || decide (-1 < d)) = true := by
      rw [Bool.or_eq_true, decide_eq_true_eq, decide_eq_true_eq, Int32.lt_iff_toInt_lt, Int32.lt_iff_toInt_lt]
      have e1 : (0 : Int32).toInt = 0 := by decide
      have e2 : (-1 : Int32).toInt = -1 := by decide
      omega
    cases h6 : decide (d < 0) <;> cases h7 : decide (-1 < d) <;> simp_all
  · have hm1 : ¬ nI m = -1 := nI_m1 m (by omega)
    have ej : jn (nI m) = m := jn_nI (by omega)
    rw [h1, h3, h4, h5, if_neg hm1, ej]
    unfold inB
    cases h6 : (!decide (d < a 6 m) && !decide (a 7 m < d)) with
    | false => simp
    | true => simp [hm1, ej]
end VIEW
