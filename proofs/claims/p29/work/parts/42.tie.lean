/-! no machine: the class's words in their order are the reference's words -/
theorem lat_iff (a : Nat → Nat → Int32) (i j : Nat) : isLaterB a i j = true ↔ ((a 3 j).toInt < (a 3 i).toInt ∨ ((a 3 i).toInt = (a 3 j).toInt ∧ (a 2 j).toInt < (a 2 i).toInt)) := by
  unfold isLaterB
  rw [Bool.or_eq_true, Bool.and_eq_true, decide_eq_true_eq, decide_eq_true_eq, decide_eq_true_eq, Int32.lt_iff_toInt_lt, Int32.lt_iff_toInt_lt, ← Int32.toInt_inj]
theorem lat_tr {a : Nat → Nat → Int32} {i j k : Nat} (h1 : isLaterB a i j = true) (h2 : isLaterB a j k = true) : isLaterB a i k = true := by
  rw [lat_iff] at *; omega
theorem lat_irr (a : Nat → Nat → Int32) (i : Nat) : ¬ isLaterB a i i = true := by
  rw [lat_iff]; omega
theorem lat_as {a : Nat → Nat → Int32} {i j : Nat} (h1 : isLaterB a i j = true) (h2 : isLaterB a j i = true) : False := lat_irr a i (lat_tr h1 h2)
def recW (a : Nat → Nat → Int32) (kn : Nat → Bool) (i : Nat) : Nat → Int32 := fun k =>
  if k = 0 then a 1 i else if k = 1 then a 3 i else if k = 2 then a 2 i
  else if k = 3 then (if a 1 i = 3 ∨ a 1 i = 5 ∨ a 1 i = 6 then -1 else a 4 i)
  else if k = 4 then (if a 1 i = 3 ∨ a 1 i = 5 ∨ a 1 i = 6 then a 4 i else a 5 i)
  else if k = 5 then (if a 1 i = 2 then a 6 i else 0)
  else if k = 6 then (if a 1 i = 2 then a 7 i else 0)
  else if k = 7 then (if a 1 i = 2 then a 8 i else 0)
  else if k = 8 then b5 (fun v => kn (6 * i + v)) else 0
def tOrd (n : Nat) (a : Nat → Nat → Int32) (os : List Nat) : Prop := os.length = n ∧ os.Nodup ∧ (∀ i, i ∈ os ↔ i < n) ∧ os.Pairwise (fun i j => isLaterB a j i = true)
def wKind (cm : Nat) (a : Nat → Nat → Int32) (i : Nat) : Prop :=
  (a 1 i = 0 ∧ ∃ t, t < 40 ∧ a 4 i = nI t) ∨ (a 1 i = 1 ∧ (∃ t, t < 40 ∧ a 4 i = nI t) ∧ (a 5 i = -1 ∨ ∃ k, k < cm ∧ a 5 i = nI k)) ∨ (a 1 i = 2 ∧ ∃ g, g < 8 ∧ a 4 i = nI g) ∨
  (a 1 i = 3 ∧ ∃ k, k < cm ∧ a 4 i = nI k ∧ a 15 k = nI i) ∨ (a 1 i = 4 ∧ (∃ t, t < 40 ∧ a 4 i = nI t) ∧ ∃ k, k < cm ∧ a 5 i = nI k) ∨ (a 1 i = 5 ∧ ∃ k, k < cm ∧ a 4 i = nI k) ∨ (a 1 i = 6 ∧ ∃ k, k < cm ∧ a 4 i = nI k)
/-- a DROP or a BAKE is later than, and known with, its PLAN -/
def wPlan (a : Nat → Nat → Int32) (kn : Nat → Bool) (i : Nat) : Prop := ∀ k p, a 1 i = 5 ∨ a 1 i = 6 → a 4 i = nI k → a 15 k = nI p → k < 20 → p < 240 → isLaterB a i p = true ∧ ∀ v, v ≤ 5 → kn (6 * i + v) = true → kn (6 * p + v) = true
def tInv (n cm : Nat) (a : Nat → Nat → Int32) (kn : Nat → Bool) : Prop :=
  mI n cm a ∧ (∀ v, v < 5 → ∃ c, c ≤ n ∧ a 10 v = nI c) ∧ (∀ i, i < n → ∃ v, v < 5 ∧ a 2 i = nI v ∧ kn (6 * i + v) = true) ∧ (∀ i, i < n → kn (6 * i + 5) = true) ∧
  (∀ i v, i < n → v < 5 → kn (6 * i + v) = true → (a 3 i).toInt ≤ (a 10 v).toInt) ∧ (∀ i, i < n → wKind cm a i) ∧ (∀ i, i < n → wPlan a kn i) ∧
  (∀ k, k < cm → ∃ p, p < n ∧ a 15 k = nI p ∧ a 1 p = 3 ∧ a 4 p = nI k) ∧ (∀ j, j < 48 → ∃ q, q ≤ 3 ∧ a 11 j = nI q) ∧ (∀ i u, n ≤ i → u ≤ 5 → kn (6 * i + u) = false)
def tRel (n cm : Nat) (a : Nat → Nat → Int32) (kn : Nat → Bool) (cs : CS) : Prop :=
  tInv n cm a kn ∧ (∃ os, tOrd n a os ∧ cs.2.2 = os.map (recW a kn)) ∧ cs.2.1 = cm ∧ (∀ v, v < 5 → cs.1 10 v = a 10 v) ∧ (∀ k, k < cm → cs.1 11 k = a 13 k) ∧ (∀ k, k < cm → cs.1 12 k = a 14 k) ∧ (∀ r f, r < 6 → f < 8 → cs.1 (20 + r) f = a 11 (8 * r + f))
section TIE
variable {n cm : Nat} {a : Nat → Nat → Int32} {kn : Nat → Bool} {os : List Nat} {v : Nat}
theorem tInv.mi (T : tInv n cm a kn) : mI n cm a := T.1
theorem tInv.hn (T : tInv n cm a kn) : n ≤ 240 := T.1.1
theorem tInv.hcm (T : tInv n cm a kn) : cm ≤ 20 := T.1.2.1
theorem tInv.au (T : tInv n cm a kn) : ∀ i, i < n → ∃ v, v < 5 ∧ a 2 i = nI v ∧ kn (6 * i + v) = true := T.2.2.1
theorem tInv.all (T : tInv n cm a kn) : ∀ i, i < n → kn (6 * i + 5) = true := T.2.2.2.1
theorem tInv.kind (T : tInv n cm a kn) : ∀ i, i < n → wKind cm a i := T.2.2.2.2.2.1
theorem tInv.plan (T : tInv n cm a kn) : ∀ i, i < n → wPlan a kn i := T.2.2.2.2.2.2.1
theorem tInv.cake (T : tInv n cm a kn) : ∀ k, k < cm → ∃ p, p < n ∧ a 15 k = nI p ∧ a 1 p = 3 ∧ a 4 p = nI k := T.2.2.2.2.2.2.2.1
theorem tInv.needs (T : tInv n cm a kn) : ∀ j, j < 48 → ∃ q, q ≤ 3 ∧ a 11 j = nI q := T.2.2.2.2.2.2.2.2.1
theorem tInv.fresh (T : tInv n cm a kn) : ∀ i u, n ≤ i → u ≤ 5 → kn (6 * i + u) = false := T.2.2.2.2.2.2.2.2.2
theorem tOrd.mem (O : tOrd n a os) : ∀ i, i ∈ os ↔ i < n := O.2.2.1
theorem tOrd.srt (O : tOrd n a os) : os.Pairwise (fun i j => isLaterB a j i = true) := O.2.2.2
theorem pw_tot {R : Nat → Nat → Prop} : ∀ {l : List Nat}, l.Pairwise R → ∀ i j, i ∈ l → j ∈ l → i ≠ j → R i j ∨ R j i
  | [], _, i, _, h, _, _ => absurd h List.not_mem_nil
  | x :: M, hp, i, j, hi, hj, hn => by
    obtain ⟨h1, h2⟩ := List.pairwise_cons.mp hp
    rcases List.mem_cons.mp hi with e | e
    · rcases List.mem_cons.mp hj with q | q
      · exact absurd (e.trans q.symm) hn
      · rw [e]; exact Or.inl (h1 j q)
    · rcases List.mem_cons.mp hj with q | q
      · rw [q]; exact Or.inr (h1 i e)
      · exact pw_tot h2 i j e q hn
theorem tOrd.tot (O : tOrd n a os) {i j : Nat} (hi : i < n) (hj : j < n) (hn : i ≠ j) : isLaterB a i j = true ∨ isLaterB a j i = true := by
  rcases pw_tot O.srt i j ((O.mem i).mpr hi) ((O.mem j).mpr hj) hn with h | h
  · exact Or.inr h
  · exact Or.inl h
/-- in the order's list, what stands ahead is earlier -/
theorem tOrd.cut (O : tOrd n a os) {l r : List Nat} {i : Nat} (e : os = l ++ i :: r) : i < n ∧ (∀ j, j ∈ l → j < n ∧ isLaterB a i j = true) ∧ (∀ j, j < n → isLaterB a i j = true → j ∈ l) := by
  have hs := O.srt
  rw [e, List.pairwise_append] at hs
  obtain ⟨-, h2, h3⟩ := hs
  obtain ⟨h4, -⟩ := List.pairwise_cons.mp h2
  refine ⟨(O.mem i).mp (by rw [e]; simp), fun j hj => ⟨(O.mem j).mp (by rw [e]; exact List.mem_append_left _ hj), h3 j hj i List.mem_cons_self⟩, fun j hj hl => ?_⟩
  have hm : j ∈ l ++ i :: r := by rw [← e]; exact (O.mem j).mpr hj
  rcases List.mem_append.mp hm with q | q
  · exact q
  · rcases List.mem_cons.mp q with q | q
    · rw [q] at hl; exact absurd hl (lat_irr a i)
    · exact absurd (h4 j q) (fun z => lat_as z hl)
/-- the latest that qualifies: the reference's search and a walk through the list in its order -/
theorem ml {β : Type} (hn : n ≤ 240) (hT : ∀ i j, i < n → j < n → i ≠ j → isLaterB a i j = true ∨ isLaterB a j i = true) {l : List Nat} (hs : l.Pairwise (fun i j => isLaterB a j i = true)) (hl : ∀ i, i ∈ l → i < n) (P : Nat → Bool) (hP : ∀ i, i < n → P i = true → i ∈ l) (g : Nat → β) (z : β) :
    (foldU (fun i f => if P i && (decide (f = -1) || isLaterB a i (jn f)) then nI i else f) (-1 : Int32) n = -1 ∧ l.foldl (fun y i => if P i then g i else y) z = z) ∨
    ∃ m, m < n ∧ P m = true ∧ foldU (fun i f => if P i && (decide (f = -1) || isLaterB a i (jn f)) then nI i else f) (-1 : Int32) n = nI m ∧ l.foldl (fun y i => if P i then g i else y) z = g m := by
  rw [fold_last]
  rcases late_max P (isLaterB a) n (by omega) (fun i j k => lat_tr) hT n (Nat.le_refl n) with ⟨h1, h2⟩ | ⟨m, hm, hpm, hf, hmax⟩
  · refine Or.inl ⟨h1, ?_⟩
    have : l.filter P = [] := List.filter_eq_nil_iff.mpr (fun i hi => by rw [h2 i (hl i hi)]; simp)
    rw [this]; rfl
  · refine Or.inr ⟨m, hm, hpm, hf, ?_⟩
    have hmem : m ∈ l.filter P := List.mem_filter.mpr ⟨hP m hm hpm, hpm⟩
    cases hg : (l.filter P).getLast? with
    | none => rw [List.getLast?_eq_none_iff.mp hg] at hmem; exact absurd hmem List.not_mem_nil
    | some x =>
      obtain ⟨k1, k2, k3⟩ := last_max P (isLaterB a) l hs x hg
      have e : x = m := by
        by_cases q : x = m
        · exact q
        · rcases k3 m (hP m hm hpm) hpm with r | r
          · exact r.symm
          · exact absurd (hmax x (hl x k1) k2 q) (fun z => lat_as r z)
      rw [e]; rfl
theorem foldl_pre {σ : Type} (st : σ → Nat → σ) (os : List Nat) (J : List Nat → σ → Prop) (h : ∀ l i r z, os = l ++ i :: r → J l z → J (l ++ [i]) (st z i)) : ∀ (r l : List Nat) (z : σ), os = l ++ r → J l z → J os (r.foldl st z)
  | [], l, z, e, j => by rw [e, List.append_nil]; exact j
  | i :: r, l, z, e, j => foldl_pre st os J h r (l ++ [i]) (st z i) (by rw [e]; simp) (h l i r z e j)
theorem foldl_cg {σ : Type} {st st' : σ → Nat → σ} : ∀ {l : List Nat} {z : σ}, (∀ i, i ∈ l → ∀ x, st x i = st' x i) → l.foldl st z = l.foldl st' z
  | [], _, _ => rfl
  | i :: r, z, h => by
    rw [List.foldl_cons, List.foldl_cons, h i List.mem_cons_self z]
    exact foldl_cg (fun j hj x => h j (List.mem_cons_of_mem _ hj) x)
theorem foldU_foldl {α : Type} (st : Nat → α → α) (z : α) : ∀ n, foldU st z n = (List.range n).foldl (fun y i => st i y) z
  | 0 => rfl
  | n + 1 => by rw [foldU_s, List.range_succ, List.foldl_append, foldU_foldl st z n]; rfl
/-- the words that a view reads -/
def frV (v : Nat) : Int32 := if v = 5 then 31 else (1 : Int32) <<< (nI v &&& 31)
theorem rec8 (T : tInv n cm a kn) (hv : v ≤ 5) {i : Nat} (hi : i < n) : (recW a kn i 8 &&& frV v = 0) ↔ kn (6 * i + v) = false := by
  have e8 : recW a kn i 8 = b5 (fun v => kn (6 * i + v)) := rfl
  rw [e8]
  unfold frV
  split
  · rename_i h
    subst h
    obtain ⟨w, hw, -, hk⟩ := T.au i hi
    have := T.all i hi
    exact ⟨fun z => absurd z (b5_31 (fun v => kn (6 * i + v)) hw hk), fun z => by rw [z] at this; cases this⟩
  · exact b5_and (fun v => kn (6 * i + v)) (by omega)
def hs1 (a : Nat → Nat → Int32) (kn : Nat → Bool) (v : Nat) (z : VS) (i : Nat) : VS := if kn (6 * i + v) then hrS z (recW a kn i) else z
theorem rdA1_fold (T : tInv n cm a kn) (hv : v ≤ 5) : ∀ (l : List Nat) (z : VS), (∀ i, i ∈ l → i < n) → rdA1 (frV v) (l.map (recW a kn)) z = l.foldl (hs1 a kn v) z
  | [], _, _ => rfl
  | i :: r, z, h => by
    rw [List.map_cons, List.foldl_cons]
    unfold rdA1
    rw [rdA1_fold T hv r _ (fun j hj => h j (List.mem_cons_of_mem _ hj))]
    congr 1
    have h8 := rec8 T hv (h i List.mem_cons_self)
    unfold hs1
    cases hk : kn (6 * i + v) with
    | false => rw [if_pos (h8.mpr hk)]; rfl
    | true => rw [if_neg (fun q => by rw [h8.mp q] at hk; cases hk)]; rfl
def hs2 (a : Nat → Nat → Int32) (kn : Nat → Bool) (v : Nat) (dy : Nat → Int32) (V : Nat → Nat → Int32) (i : Nat) : Nat → Nat → Int32 := if a 1 i = 4 then (if kn (6 * i + v) then hkV V dy (jn (a 4 i)) (jn (a 5 i)) else V) else V
theorem rdA2_fold (T : tInv n cm a kn) (hv : v ≤ 5) (dy : Nat → Int32) : ∀ (l : List Nat) (V : Nat → Nat → Int32), (∀ i, i ∈ l → i < n) → rdA2 (frV v) dy (l.map (recW a kn)) V = l.foldl (hs2 a kn v dy) V
  | [], _, _ => rfl
  | i :: r, V, h => by
    rw [List.map_cons, List.foldl_cons]
    unfold rdA2
    rw [rdA2_fold T hv dy r _ (fun j hj => h j (List.mem_cons_of_mem _ hj))]
    congr 1
    have h8 := rec8 T hv (h i List.mem_cons_self)
    unfold hs2
    have e0 : recW a kn i 0 = a 1 i := rfl
    rw [e0]
    by_cases h4 : a 1 i = 4
    · have e3 : recW a kn i 3 = a 4 i := by show (if a 1 i = 3 ∨ a 1 i = 5 ∨ a 1 i = 6 then _ else _) = _; rw [h4]; rfl
      have e4 : recW a kn i 4 = a 5 i := by show (if a 1 i = 3 ∨ a 1 i = 5 ∨ a 1 i = 6 then _ else _) = _; rw [h4]; rfl
      rw [if_pos h4, if_pos h4, e3, e4]
      cases hk : kn (6 * i + v) with
      | false => rw [if_pos (h8.mpr hk)]; rfl
      | true => rw [if_neg (fun q => by rw [h8.mp q] at hk; cases hk)]; rfl
    · rw [if_neg h4, if_neg h4]
theorem hr_0 (z : VS) {i : Nat} (h : a 1 i = 0) : hrS z (recW a kn i) = (upA (upA z.1 0 (jn (a 4 i)) (a 2 i)) 1 (jn (a 4 i)) (z.1 1 (jn (a 4 i)) ||| ((1 : Int32) <<< (a 2 i &&& 31))), z.2.1, z.2.2) := by
  have e0 : recW a kn i 0 = 0 := h
  have e3 : recW a kn i 3 = a 4 i := by show (if a 1 i = 3 ∨ a 1 i = 5 ∨ a 1 i = 6 then _ else _) = _; rw [h]; rfl
  have e2 : recW a kn i 2 = a 2 i := rfl
  unfold hrS
  rw [e0, e3, e2]; rfl
theorem hr_1 (z : VS) {i : Nat} (h : a 1 i = 1) : hrS z (recW a kn i) = (upA (upA z.1 0 (jn (a 4 i)) (-1)) 1 (jn (a 4 i)) (z.1 1 (jn (a 4 i)) &&& (((1 : Int32) <<< (a 2 i &&& 31)) ^^^ (-1))), z.2.1, if a 5 i = -1 then z.2.2 else if z.1 0 (jn (a 4 i)) = -1 then z.2.2 ||| ((1 : Int32) <<< (a 5 i &&& 31)) else z.2.2) := by
  have e0 : recW a kn i 0 = 1 := h
  have e3 : recW a kn i 3 = a 4 i := by show (if a 1 i = 3 ∨ a 1 i = 5 ∨ a 1 i = 6 then _ else _) = _; rw [h]; rfl
  have e4 : recW a kn i 4 = a 5 i := by show (if a 1 i = 3 ∨ a 1 i = 5 ∨ a 1 i = 6 then _ else _) = _; rw [h]; rfl
  have e2 : recW a kn i 2 = a 2 i := rfl
  unfold hrS htV htS
  rw [e0, e3, e2, e4]; rfl
theorem hr_2 (z : VS) {i : Nat} (h : a 1 i = 2) : hrS z (recW a kn i) = (upA (upA (upA z.1 3 (jn (a 4 i)) (a 6 i)) 4 (jn (a 4 i)) (a 7 i)) 5 (jn (a 4 i)) (a 8 i), z.2.1, z.2.2) := by
  have e0 : recW a kn i 0 = 2 := h
  have e3 : recW a kn i 3 = a 4 i := by show (if a 1 i = 3 ∨ a 1 i = 5 ∨ a 1 i = 6 then _ else _) = _; rw [h]; rfl
  have e5 : recW a kn i 5 = a 6 i := by show (if a 1 i = 2 then _ else _) = _; rw [if_pos h]
  have e6 : recW a kn i 6 = a 7 i := by show (if a 1 i = 2 then _ else _) = _; rw [if_pos h]
  have e7 : recW a kn i 7 = a 8 i := by show (if a 1 i = 2 then _ else _) = _; rw [if_pos h]
  unfold hrS
  rw [e0, e3, e5, e6, e7]; rfl
theorem hr_3 (z : VS) {i : Nat} (h : a 1 i = 3) : hrS z (recW a kn i) = (upA (upA z.1 6 (jn (a 4 i)) 1) 7 (jn (a 4 i)) z.2.1, z.2.1 + 1, z.2.2) := by
  have e0 : recW a kn i 0 = 3 := h
  have e4 : recW a kn i 4 = a 4 i := by show (if a 1 i = 3 ∨ a 1 i = 5 ∨ a 1 i = 6 then _ else _) = _; rw [h]; rfl
  unfold hrS
  rw [e0, e4]; rfl
theorem hr_4 (z : VS) {i : Nat} (h : a 1 i = 4) : hrS z (recW a kn i) = z := by
  have e0 : recW a kn i 0 = 4 := h
  unfold hrS
  rw [e0]; rfl
theorem hr_5 (z : VS) {i : Nat} (h : a 1 i = 5) : hrS z (recW a kn i) = (if z.1 6 (jn (a 4 i)) = 1 then upA z.1 6 (jn (a 4 i)) 2 else z.1, z.2.1, z.2.2) := by
  have e0 : recW a kn i 0 = 5 := h
  have e4 : recW a kn i 4 = a 4 i := by show (if a 1 i = 3 ∨ a 1 i = 5 ∨ a 1 i = 6 then _ else _) = _; rw [h]; rfl
  unfold hrS
  rw [e0, e4]; rfl
theorem hr_6 (z : VS) {i : Nat} (h : a 1 i = 6) : hrS z (recW a kn i) = (upA z.1 6 (jn (a 4 i)) 3, z.2.1, z.2.2) := by
  have e0 : recW a kn i 0 = 6 := h
  have e4 : recW a kn i 4 = a 4 i := by show (if a 1 i = 3 ∨ a 1 i = 5 ∨ a 1 i = 6 then _ else _) = _; rw [h]; rfl
  unfold hrS
  rw [e0, e4]; rfl
end TIE
theorem upA_at (a : Nat → Nat → Int32) (k j : Nat) (x : Int32) (z i : Nat) : upA a k j x z i = if z = k then (if i = j then x else a z i) else a z i := by
  unfold upA upd
  by_cases h : z = k
  · subst h; rw [if_pos rfl, if_pos rfl]
  · rw [if_neg h, if_neg h]
