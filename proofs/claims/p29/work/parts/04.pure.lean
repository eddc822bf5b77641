/-! the reference's answers as functions, without a machine (out of whole's parts 04 to 08) -/
/-- what the reference's state keeps, so that no place is out of its row -/
def mI (n cm : Nat) (a : Nat → Nat → Int32) : Prop := n ≤ 240 ∧ cm ≤ 20 ∧ (∀ k, k < cm → ∃ j, j < n ∧ a 15 k = nI j) ∧ (∀ i, i < n → a 1 i = 4 → ∃ k, k < cm ∧ a 5 i = nI k) ∧ (∀ k, k < cm → ∃ r, r < 6 ∧ a 13 k = nI r)
def inB (x lo hi : Int32) : Bool := !decide (x < lo) && !decide (hi < x)
def isLaterB (a : Nat → Nat → Int32) (w t : Nat) : Bool := decide (a 3 t < a 3 w) || (decide (a 3 w = a 3 t) && decide (a 2 t < a 2 w))
def isMoveB (a : Nat → Nat → Int32) (w : Nat) (x : Int32) : Bool := (decide (a 1 w = 0) || decide (a 1 w = 1)) && decide (a 4 w = x)
def lmStep (a : Nat → Nat → Int32) (kn : Nat → Bool) (v : Nat) (x au : Int32) (i : Nat) (f : Int32) : Int32 := if (kn (6 * i + v) && isMoveB a i x && (decide (au = -1) || decide (a 2 i = au))) && (decide (f = -1) || isLaterB a i (jn f)) then nI i else f
def latestB (a : Nat → Nat → Int32) (kn : Nat → Bool) (n v : Nat) (x au : Int32) : Int32 := foldU (lmStep a kn v x au) (-1) n
def placeB (a : Nat → Nat → Int32) (kn : Nat → Bool) (n v : Nat) (x : Int32) : Int32 := if latestB a kn n v x (-1) = -1 then -1 else if a 1 (jn (latestB a kn n v x (-1))) = 0 then a 2 (jn (latestB a kn n v x (-1))) else -1
def coStep (a : Nat → Nat → Int32) (kn : Nat → Bool) (v : Nat) (x : Int32) (i : Nat) (f : Int32) : Int32 := if (kn (6 * i + v) && decide (a 1 i = 2) && decide (a 4 i = x)) && (decide (f = -1) || isLaterB a i (jn f)) then nI i else f
def comF (a : Nat → Nat → Int32) (kn : Nat → Bool) (n v : Nat) (x : Int32) : Int32 := foldU (coStep a kn v x) (-1) n
def comingB (a : Nat → Nat → Int32) (kn : Nat → Bool) (n v : Nat) (x day : Int32) : Int32 := if comF a kn n v x = -1 then -1 else if inB day (a 6 (jn (comF a kn n v x))) (a 7 (jn (comF a kn n v x))) then comF a kn n v x else -1
def gmStep (a : Nat → Nat → Int32) (kn : Nat → Bool) (n v : Nat) (day : Int32) (i : Nat) (x : Nat) : Nat := if comingB a kn n v (nI i) day = -1 then x + 0 else x + 1
def guestManyB (a : Nat → Nat → Int32) (kn : Nat → Bool) (n v : Nat) (day : Int32) : Nat := foldU (gmStep a kn n v day) 0 8
def diStep (a : Nat → Nat → Int32) (r w : Nat) (f : Nat) (b : Bool) : Bool := b || (!decide (a 11 (8 * r + f) ≤ 0) && decide ((a 8 w >>> (nI f &&& 31)) &&& 1 = 1))
def dgStep (a : Nat → Nat → Int32) (kn : Nat → Bool) (n v r : Nat) (day : Int32) (i : Nat) (b : Bool) : Bool := if comingB a kn n v (nI i) day = -1 then b else foldU (diStep a r (jn (comingB a kn n v (nI i) day))) b 8
def dislikedB (a : Nat → Nat → Int32) (kn : Nat → Bool) (n v r : Nat) (day : Int32) : Bool := foldU (dgStep a kn n v r day) false 8
def stStep (a : Nat → Nat → Int32) (kn : Nat → Bool) (v k : Nat) (i : Nat) (x : Int32) : Int32 := if (kn (6 * i + v) && decide (a 4 i = nI k)) && decide (a 1 i = 6) then 3 else if (kn (6 * i + v) && decide (a 4 i = nI k)) && decide (a 1 i = 5) && decide (x = 1) then 2 else x
def stateB (a : Nat → Nat → Int32) (kn : Nat → Bool) (n v k : Nat) : Int32 := if kn (6 * jn (a 15 k) + v) then foldU (stStep a kn v k) 1 n else 0
def aheadB (a : Nat → Nat → Int32) (kn : Nat → Bool) (n v k o : Nat) : Bool := if nI (guestManyB a kn n v (a 14 k)) - nI (guestManyB a kn n v (a 14 o)) = 0 then decide (a 14 k < a 14 o) || (decide (a 14 k = a 14 o) && isLaterB a (jn (a 15 o)) (jn (a 15 k))) else decide (0 < nI (guestManyB a kn n v (a 14 k)) - nI (guestManyB a kn n v (a 14 o)))
def keStep (a : Nat → Nat → Int32) (kn : Nat → Bool) (n v : Nat) (x : Int32) (i : Nat) (f : Int32) : Int32 := if kn (6 * i + v) && decide (a 1 i = 4) && decide (a 4 i = x) && decide (stateB a kn n v (jn (a 5 i)) = 1) then (if decide (f = -1) || (!decide (f = a 5 i) && aheadB a kn n v (jn (a 5 i)) (jn f)) then a 5 i else f) else f
def keeperB (a : Nat → Nat → Int32) (kn : Nat → Bool) (n v : Nat) (x : Int32) : Int32 := if placeB a kn n v x = -1 then -1 else foldU (keStep a kn n v x) (-1) n
def koStep (a : Nat → Nat → Int32) (kn : Nat → Bool) (n v : Nat) (cake : Int32) (fo : Nat) (j : Nat) (x : Nat) : Nat := if keeperB a kn n v (nI (fo + 8 * j)) = cake then x + 1 else x + 0
def keptOfB (a : Nat → Nat → Int32) (kn : Nat → Bool) (n v : Nat) (cake : Int32) (fo : Nat) : Nat := foldU (koStep a kn n v cake fo) 0 5
def lackB (a : Nat → Nat → Int32) (kn : Nat → Bool) (n v k fo : Nat) : Int32 := if 0 ≤ a 11 (8 * jn (a 13 k) + fo) - nI (keptOfB a kn n v (nI k) fo) then a 11 (8 * jn (a 13 k) + fo) - nI (keptOfB a kn n v (nI k) fo) else 0
def vaStep (a : Nat → Nat → Int32) (kn : Nat → Bool) (v t : Nat) (i : Nat) (f : Int32) : Int32 := if (kn (6 * i + v) && isMoveB a i (a 4 t) && isLaterB a t i) && (decide (f = -1) || isLaterB a i (jn f)) then nI i else f
def vainF (a : Nat → Nat → Int32) (kn : Nat → Bool) (n v t : Nat) : Int32 := foldU (vaStep a kn v t) (-1) n
def vainB (a : Nat → Nat → Int32) (kn : Nat → Bool) (n v t : Nat) : Bool := decide (vainF a kn n v t = -1) || decide (a 1 (jn (vainF a kn n v t)) = 1)
def cnStep (a : Nat → Nat → Int32) (kn : Nat → Bool) (n v fo : Nat) (j : Nat) (x : Nat) : Nat := if placeB a kn n v (nI (fo + 8 * j)) = -1 then x + 0 else x + 1
def countB (a : Nat → Nat → Int32) (kn : Nat → Bool) (n v fo : Nat) : Nat := foldU (cnStep a kn n v fo) 0 5
def fullB (n k : Nat) : Bool := decide (240 < n + k)
theorem foldU_range (st : Nat → Int32 → Int32) (h : ∀ i f, st i f = nI i ∨ st i f = f) : ∀ i, foldU st (-1) i = -1 ∨ ∃ j, j < i ∧ foldU st (-1) i = nI j
  | 0 => Or.inl rfl
  | i + 1 => by
    rw [foldU_s]
    rcases h i (foldU st (-1) i) with q | q
    · exact Or.inr ⟨i, Nat.lt_succ_self i, q⟩
    · rw [q]
      rcases foldU_range st h i with z | ⟨j, hj, z⟩
      · exact Or.inl z
      · exact Or.inr ⟨j, Nat.lt_succ_of_lt hj, z⟩
theorem lm_range (a : Nat → Nat → Int32) (kn : Nat → Bool) (v : Nat) (x au : Int32) (i : Nat) : foldU (lmStep a kn v x au) (-1) i = -1 ∨ ∃ j, j < i ∧ foldU (lmStep a kn v x au) (-1) i = nI j :=
  foldU_range _ (fun i f => by unfold lmStep; split; exact Or.inl rfl; exact Or.inr rfl) i
theorem co_range (a : Nat → Nat → Int32) (kn : Nat → Bool) (v : Nat) (x : Int32) (i : Nat) : foldU (coStep a kn v x) (-1) i = -1 ∨ ∃ j, j < i ∧ foldU (coStep a kn v x) (-1) i = nI j :=
  foldU_range _ (fun i f => by unfold coStep; split; exact Or.inl rfl; exact Or.inr rfl) i
theorem comingB_range (a : Nat → Nat → Int32) (kn : Nat → Bool) (n v : Nat) (x day : Int32) : comingB a kn n v x day = -1 ∨ ∃ j, j < n ∧ comingB a kn n v x day = nI j := by
  unfold comingB
  rcases co_range a kn v x n with q | ⟨j, hj, q⟩
  · rw [if_pos (show comF a kn n v x = -1 from q)]; exact Or.inl rfl
  · split
    · exact Or.inl rfl
    · split
      · exact Or.inr ⟨j, hj, q⟩
      · exact Or.inl rfl
theorem foldU_le (st : Nat → Nat → Nat) (h : ∀ i x, st i x ≤ x + 1) : ∀ i, foldU st 0 i ≤ i
  | 0 => Nat.le_refl _
  | i + 1 => by
    rw [foldU_s]
    have h1 := h i (foldU st 0 i)
    have h2 := foldU_le st h i
    omega
theorem gm_le (a : Nat → Nat → Int32) (kn : Nat → Bool) (n v : Nat) (day : Int32) (i : Nat) : foldU (gmStep a kn n v day) 0 i ≤ i := foldU_le _ (fun i x => by unfold gmStep; split <;> omega) i
theorem ko_le (a : Nat → Nat → Int32) (kn : Nat → Bool) (n v : Nat) (cake : Int32) (fo : Nat) (i : Nat) : foldU (koStep a kn n v cake fo) 0 i ≤ i := foldU_le _ (fun i x => by unfold koStep; split <;> omega) i
theorem cn_le (a : Nat → Nat → Int32) (kn : Nat → Bool) (n v fo : Nat) (i : Nat) : foldU (cnStep a kn n v fo) 0 i ≤ i := foldU_le _ (fun i x => by unfold cnStep; split <;> omega) i
theorem ke_range {n cm : Nat} {a : Nat → Nat → Int32} (I : mI n cm a) (kn : Nat → Bool) (v : Nat) (x : Int32) : ∀ i, i ≤ n → foldU (keStep a kn n v x) (-1) i = -1 ∨ ∃ k, k < cm ∧ foldU (keStep a kn n v x) (-1) i = nI k
  | 0, _ => Or.inl rfl
  | i + 1, hi => by
    rw [foldU_s]
    have ih := ke_range I kn v x i (by omega)
    generalize foldU (keStep a kn n v x) (-1) i = f at ih ⊢
    unfold keStep
    split
    · rename_i hc
      simp only [Bool.and_eq_true, decide_eq_true_eq] at hc
      obtain ⟨k, hk, ek⟩ := I.2.2.2.1 i (by omega) hc.1.1.2
      split
      · exact Or.inr ⟨k, hk, ek⟩
      · exact ih
    · exact ih
def upA (a : Nat → Nat → Int32) (k j : Nat) (x : Int32) : Nat → Nat → Int32 := fun z => if z = k then upd (a k) j x else a z
def upK (kn : Nat → Bool) (j : Nat) (b : Bool) : Nat → Bool := fun i => if i = j then b else kn i
def set17 (a : Nat → Nat → Int32) (r : Nat → Int32) : Nat → Nat → Int32 := fun z => if z = 17 then r else a z
theorem upA_s (a : Nat → Nat → Int32) (k j : Nat) (x : Int32) : upA a k j x k j = x := by simp [upA, pk_us]
theorem upA_k {a : Nat → Nat → Int32} {k j z : Nat} {x : Int32} (h : z ≠ k) : upA a k j x z = a z := by simp [upA, h]
theorem upK_bI (kn : Nat → Bool) (j : Nat) (b : Bool) : upd (fun i => bI (kn i)) j (bI b) = fun i => bI (upK kn j b i) := by
  funext i
  by_cases h : i = j
  · subst h; simp [upK, pk_us]
  · rw [pk_un h]; simp [upK, h]
theorem set17_up (a : Nat → Nat → Int32) (r : Nat → Int32) (j : Nat) (x : Int32) : upA (set17 a r) 17 j x = set17 a (upd r j x) := by
  funext z
  by_cases h : z = 17
  · subst h; simp [upA, set17]
  · simp [upA, set17, h]
theorem set17_self (a : Nat → Nat → Int32) : set17 a (a 17) = a := by
  funext z
  by_cases h : z = 17
  · subst h; simp [set17]
  · simp [set17, h]
def rI (r : Int32) : Option Value := some (.int r)
def rV (_ : Int32) : Option Value := none
abbrev MR : Type := Int32 × Int32 × Nat × Nat × (Nat → Nat → Int32) × (Nat → Bool)
def wrA (a : Nat → Nat → Int32) (n v : Nat) (kd sb ck : Int32) : Nat → Nat → Int32 := upA (upA (upA (upA (upA (upA a 10 v (a 10 v + 1)) 1 n kd) 2 n (nI v)) 3 n (a 10 v + 1)) 4 n sb) 5 n ck
def wrK (kn : Nat → Bool) (n v : Nat) : Nat → Bool := upK (upK kn (6 * n + v) true) (6 * n + 5) true
theorem inB_at {x hi : Int32} {k : Nat} (hk : k < 2 ^ 31) (e : hi = nI k) (h : inB x 0 hi = true) : ∃ j, j ≤ k ∧ x = nI j := by
  simp only [inB, Bool.and_eq_true, Bool.not_eq_true', decide_eq_false_iff_not] at h
  obtain ⟨j, hj, ej⟩ := nI_of2 (M := hi) (n := k) (by rw [e]; exact nI_toInt hk) h.1 (by
    have h2 := h.2
    rw [Int32.lt_iff_toInt_lt] at h2
    rw [Int32.le_iff_toInt_le]
    omega)
  exact ⟨j, hj, ej⟩
theorem in4 {x : Int32} (h : inB x 0 4 = true) : ∃ j, j < 5 ∧ x = nI j := by
  obtain ⟨j, hj, e⟩ := inB_at (k := 4) (by omega) rfl h
  exact ⟨j, by omega, e⟩
theorem in7 {x : Int32} (h : inB x 0 7 = true) : ∃ j, j < 8 ∧ x = nI j := by
  obtain ⟨j, hj, e⟩ := inB_at (k := 7) (by omega) rfl h
  exact ⟨j, by omega, e⟩
theorem in5 {x : Int32} (h : inB x 0 5 = true) : ∃ j, j < 6 ∧ x = nI j := by
  obtain ⟨j, hj, e⟩ := inB_at (k := 5) (by omega) rfl h
  exact ⟨j, by omega, e⟩
theorem in39 {x : Int32} (h : inB x 0 39 = true) : ∃ j, j < 40 ∧ x = nI j := by
  obtain ⟨j, hj, e⟩ := inB_at (k := 39) (by omega) rfl h
  exact ⟨j, by omega, e⟩
theorem inC {x : Int32} {cm : Nat} (hcm : cm ≤ 20) (h : inB x 0 (nI cm - 1) = true) : ∃ j, j < cm ∧ x = nI j := by
  rcases Nat.eq_zero_or_pos cm with z | z
  · subst z
    simp only [inB, Bool.and_eq_true, Bool.not_eq_true', decide_eq_false_iff_not] at h
    have h1 := h.1
    have h2 := h.2
    rw [Int32.lt_iff_toInt_lt] at h1 h2
    have e1 : (0 : Int32).toInt = 0 := by decide
    have e2 : (nI 0 - 1 : Int32).toInt = -1 := by decide
    omega
  · obtain ⟨j, hj, e⟩ := inB_at (k := cm - 1) (by omega) (show nI cm - 1 = nI (cm - 1) from pk_sub (a := cm) (b := 1) z) h
    exact ⟨j, by omega, e⟩
def mPut (n cm : Nat) (a : Nat → Nat → Int32) (kn : Nat → Bool) (f t : Int32) : MR :=
  if inB f 0 4 && inB t 0 39 then
    if decide (placeB a kn n (jn f) t = f) || fullB n 1 then (2, 0, n, cm, a, kn) else (0, a 10 (jn f) + 1, n + 1, cm, wrA a n (jn f) 0 t (-1), wrK kn n (jn f))
  else (1, 0, n, cm, a, kn)
def mTake (n cm : Nat) (a : Nat → Nat → Int32) (kn : Nat → Bool) (f t : Int32) : MR :=
  if inB f 0 4 && inB t 0 39 then
    if decide (placeB a kn n (jn f) t = -1) || fullB n 1 then (2, 0, n, cm, a, kn) else (0, placeB a kn n (jn f) t, n + 1, cm, wrA a n (jn f) 1 t (-1), wrK kn n (jn f))
  else (1, 0, n, cm, a, kn)
def mWhere (n cm : Nat) (a : Nat → Nat → Int32) (kn : Nat → Bool) (f t : Int32) : MR :=
  if inB f 0 4 && inB t 0 39 then (0, placeB a kn n (jn f) t, n, cm, a, kn) else (1, 0, n, cm, a, kn)
def mWhereByAll (n cm : Nat) (a : Nat → Nat → Int32) (kn : Nat → Bool) (t : Int32) : MR :=
  if inB t 0 39 then (0, placeB a kn n 5 t, n, cm, a, kn) else (1, 0, n, cm, a, kn)
def mCount (n cm : Nat) (a : Nat → Nat → Int32) (kn : Nat → Bool) (f fo : Int32) : MR :=
  if inB f 0 4 && inB fo 0 7 then (0, nI (countB a kn n (jn f) (jn fo)), n, cm, a, kn) else (1, 0, n, cm, a, kn)
def mCountByAll (n cm : Nat) (a : Nat → Nat → Int32) (kn : Nat → Bool) (fo : Int32) : MR :=
  if inB fo 0 7 then (0, nI (countB a kn n 5 (jn fo)), n, cm, a, kn) else (1, 0, n, cm, a, kn)
def clStep (a : Nat → Nat → Int32) (kn : Nat → Bool) (n v : Nat) (t : Int32) (o : Nat) (x : Int32) : Int32 :=
  x ||| (if latestB a kn n v t (nI o) = -1 then 0 else if a 1 (jn (latestB a kn n v t (nI o))) = 0 then (if placeB a kn n v t = nI o then 0 else (1 : Int32) <<< (nI o &&& 31)) else 0)
def mClaims (n cm : Nat) (a : Nat → Nat → Int32) (kn : Nat → Bool) (f t : Int32) : MR :=
  if inB f 0 4 && inB t 0 39 then (0, foldU (clStep a kn n (jn f) t) 0 5, n, cm, a, kn) else (1, 0, n, cm, a, kn)
def meStep (f o : Nat) (w : Nat) (x : Nat × (Nat → Bool)) : Nat × (Nat → Bool) :=
  (if x.2 (6 * w + f) = x.2 (6 * w + o) then x.1 + 0 else x.1 + 1, upK (upK x.2 (6 * w + f) (x.2 (6 * w + f) || x.2 (6 * w + o))) (6 * w + o) (x.2 (6 * w + f) || x.2 (6 * w + o)))
def meC (a : Nat → Nat → Int32) (f o : Nat) : Int32 := if a 10 f ≤ a 10 o then a 10 o else a 10 f
def mMeet (n cm : Nat) (a : Nat → Nat → Int32) (kn : Nat → Bool) (f o : Int32) : MR :=
  if inB f 0 4 && inB o 0 4 then
    if f = o then (2, 0, n, cm, a, kn) else (0, nI (foldU (meStep (jn f) (jn o)) (0, kn) n).1, n, cm, upA (upA a 10 (jn f) (meC a (jn f) (jn o))) 10 (jn o) (meC a (jn f) (jn o)), (foldU (meStep (jn f) (jn o)) (0, kn) n).2)
  else (1, 0, n, cm, a, kn)
def mWords (n cm : Nat) (a : Nat → Nat → Int32) (kn : Nat → Bool) : MR := (0, nI n, n, cm, a, kn)
def knStep (kn : Nat → Bool) (v w : Nat) (x : Nat) : Nat := if kn (6 * w + v) then x + 1 else x + 0
def mKnown (n cm : Nat) (a : Nat → Nat → Int32) (kn : Nat → Bool) (f : Int32) : MR :=
  if inB f 0 4 then (0, nI (foldU (knStep kn (jn f)) 0 n), n, cm, a, kn) else (1, 0, n, cm, a, kn)
def mClock (n cm : Nat) (a : Nat → Nat → Int32) (kn : Nat → Bool) (f : Int32) : MR :=
  if inB f 0 4 then (0, a 10 (jn f), n, cm, a, kn) else (1, 0, n, cm, a, kn)
def mGuest (n cm : Nat) (a : Nat → Nat → Int32) (kn : Nat → Bool) (f g d1 d2 ds : Int32) : MR :=
  if inB f 0 4 && inB g 0 7 then
    if inB d1 0 99 && inB d2 d1 99 && inB ds 0 255 then
      if fullB n 1 then (3, 0, n, cm, a, kn) else (0, a 10 (jn f) + 1, n + 1, cm, wrA (upA (upA (upA a 6 n d1) 7 n d2) 8 n ds) n (jn f) 2 g (-1), wrK kn n (jn f))
    else (2, 0, n, cm, a, kn)
  else (1, 0, n, cm, a, kn)
def guStep (a : Nat → Nat → Int32) (kn : Nat → Bool) (n v : Nat) (d : Int32) (i : Nat) (x : Int32) : Int32 := x ||| (if comingB a kn n v (nI i) d = -1 then 0 else (1 : Int32) <<< (nI i &&& 31))
def mGuests (n cm : Nat) (a : Nat → Nat → Int32) (kn : Nat → Bool) (f d : Int32) : MR :=
  if inB f 0 4 then
    if inB d 0 99 then (0, foldU (guStep a kn n (jn f) d) 0 8, n, cm, a, kn) else (2, 0, n, cm, a, kn)
  else (1, 0, n, cm, a, kn)
def mSetNeed (n cm : Nat) (a : Nat → Nat → Int32) (kn : Nat → Bool) (r fo t : Int32) : MR :=
  if inB r 0 5 && inB fo 0 7 then
    if inB t 0 3 then (0, a 11 (8 * jn r + jn fo), n, cm, upA a 11 (8 * jn r + jn fo) t, kn) else (2, 0, n, cm, a, kn)
  else (1, 0, n, cm, a, kn)
def mPlan (n cm : Nat) (a : Nat → Nat → Int32) (kn : Nat → Bool) (f r d : Int32) : MR :=
  if inB f 0 4 && inB r 0 5 then
    if inB d 0 99 then
      if dislikedB a kn n (jn f) (jn r) d || decide (cm = 20) || fullB n 1 then (3, 0, n, cm, a, kn)
      else (0, nI cm, n + 1, cm + 1, wrA (upA (upA (upA a 13 cm r) 14 cm d) 15 cm (nI n)) n (jn f) 3 (nI cm) (-1), wrK kn n (jn f))
    else (2, 0, n, cm, a, kn)
  else (1, 0, n, cm, a, kn)
def mCakes (n cm : Nat) (a : Nat → Nat → Int32) (kn : Nat → Bool) : MR := (0, nI cm, n, cm, a, kn)
def mCake (n cm : Nat) (a : Nat → Nat → Int32) (kn : Nat → Bool) (f k : Int32) : MR :=
  if inB f 0 4 && inB k 0 (nI cm - 1) then (0, stateB a kn n (jn f) (jn k), n, cm, a, kn) else (1, 0, n, cm, a, kn)
def mKeptFor (n cm : Nat) (a : Nat → Nat → Int32) (kn : Nat → Bool) (f t : Int32) : MR :=
  if inB f 0 4 && inB t 0 39 then (0, keeperB a kn n (jn f) t, n, cm, a, kn) else (1, 0, n, cm, a, kn)
def mKeptByAll (n cm : Nat) (a : Nat → Nat → Int32) (kn : Nat → Bool) (t : Int32) : MR :=
  if inB t 0 39 then (0, keeperB a kn n 5 t, n, cm, a, kn) else (1, 0, n, cm, a, kn)
def mLacks (n cm : Nat) (a : Nat → Nat → Int32) (kn : Nat → Bool) (f k fo : Int32) : MR :=
  if inB f 0 4 && inB k 0 (nI cm - 1) && inB fo 0 7 then
    if stateB a kn n (jn f) (jn k) = 1 then (0, lackB a kn n (jn f) (jn k) (jn fo), n, cm, a, kn) else (0, 0, n, cm, a, kn)
  else (1, 0, n, cm, a, kn)
def mIsUnfit (n cm : Nat) (a : Nat → Nat → Int32) (kn : Nat → Bool) (f k : Int32) : MR :=
  if inB f 0 4 && inB k 0 (nI cm - 1) then (0, bI (decide (stateB a kn n (jn f) (jn k) = 1) && dislikedB a kn n (jn f) (jn (a 13 (jn k))) (a 14 (jn k))), n, cm, a, kn) else (1, 0, n, cm, a, kn)
def spStep (a : Nat → Nat → Int32) (kn : Nat → Bool) (n v : Nat) (k : Int32) (w : Nat) (b : Bool) : Bool := b || (kn (6 * w + v) && decide (a 1 w = 1) && decide (a 5 w = k) && vainB a kn n v w)
def mIsSpoilt (n cm : Nat) (a : Nat → Nat → Int32) (kn : Nat → Bool) (f k : Int32) : MR :=
  if inB f 0 4 && inB k 0 (nI cm - 1) then (0, bI (decide (stateB a kn n (jn f) (jn k) = 3) && foldU (spStep a kn n (jn f) k) false n), n, cm, a, kn) else (1, 0, n, cm, a, kn)
def msStep (a : Nat → Nat → Int32) (kn : Nat → Bool) (n v fo : Nat) (k : Nat) (x : Int32) : Int32 := x + (if stateB a kn n v k = 1 then a 11 (8 * jn (a 13 k) + fo) else 0)
def missB (a : Nat → Nat → Int32) (kn : Nat → Bool) (n cm v fo : Nat) : Int32 := if 0 ≤ foldU (msStep a kn n v fo) 0 cm - nI (countB a kn n v fo) then foldU (msStep a kn n v fo) 0 cm - nI (countB a kn n v fo) else 0
def mMissing (n cm : Nat) (a : Nat → Nat → Int32) (kn : Nat → Bool) (f fo : Int32) : MR :=
  if inB f 0 4 && inB fo 0 7 then (0, missB a kn n cm (jn f) (jn fo), n, cm, a, kn) else (1, 0, n, cm, a, kn)
theorem and_l {x y : Bool} (h : (x && y) = true) : x = true := by cases x <;> simp_all
theorem and_r {x y : Bool} (h : (x && y) = true) : y = true := by cases x <;> simp_all
theorem cl_dummy : True := trivial
/-- the places j of a row hold the list -/
def rowOf (L : List Nat) (rw : Nat → Int32) : Prop := ∀ j x, L[j]? = some x → rw j = nI x
theorem rowOf_nil (rw : Nat → Int32) : rowOf [] rw := fun j x h => by simp at h
theorem rowOf_add {L : List Nat} {rw : Nat → Int32} (h : rowOf L rw) (x : Nat) : rowOf (L ++ [x]) (upd rw L.length (nI x)) := by
  intro j y hj
  rcases Nat.lt_or_ge j L.length with q | q
  · rw [List.getElem?_append_left q] at hj
    rw [pk_un (by omega)]
    exact h j y hj
  · rw [List.getElem?_append_right q] at hj
    have h0 : j - L.length < 1 := (List.getElem?_eq_some_iff.mp hj).1
    rw [show j = L.length by omega] at hj ⊢
    simp at hj
    rw [pk_us, hj]
def opB (n cm : Nat) (a : Nat → Nat → Int32) (kn : Nat → Bool) (f k : Int32) : Bool := (inB f 0 4 && inB k 0 (nI cm - 1)) && decide (stateB a kn n (jn f) (jn k) = 1)
def opTh (n cm : Nat) (a : Nat → Nat → Int32) (kn : Nat → Bool) (f k : Int32) : Int32 := if inB f 0 4 && inB k 0 (nI cm - 1) then (if stateB a kn n (jn f) (jn k) = 1 then 0 else 2) else 1
def kpStep (a : Nat → Nat → Int32) (kn : Nat → Bool) (n v : Nat) (k : Int32) (t : Nat) (L : List Nat) : List Nat := if keeperB a kn n v (nI t) = k then L ++ [t] else L
def keptL (a : Nat → Nat → Int32) (kn : Nat → Bool) (n v : Nat) (k : Int32) : List Nat := foldU (kpStep a kn n v k) [] 40
def liStep (a : Nat → Nat → Int32) (kn : Nat → Bool) (n v fo : Nat) (j : Nat) (x : Int32 × List Nat) : Int32 × List Nat := if x.1 ≤ 0 then x else if placeB a kn n v (nI (fo + 8 * j)) = -1 then x else if keeperB a kn n v (nI (fo + 8 * j)) = -1 then (x.1 + -1, x.2 ++ [fo + 8 * j]) else x
def lkStep (a : Nat → Nat → Int32) (kn : Nat → Bool) (n v k : Nat) (fo : Nat) (L : List Nat) : List Nat := (foldU (liStep a kn n v fo) (lackB a kn n v k fo, L) 5).2
def keepsL (a : Nat → Nat → Int32) (kn : Nat → Bool) (n v k : Nat) : List Nat := foldU (lkStep a kn n v k) [] 8
theorem kp_len (a : Nat → Nat → Int32) (kn : Nat → Bool) (n v : Nat) (k : Int32) : ∀ i, (foldU (kpStep a kn n v k) [] i).length ≤ i
  | 0 => Nat.le_refl _
  | i + 1 => by
    rw [foldU_s]
    have := kp_len a kn n v k i
    generalize foldU (kpStep a kn n v k) [] i = z at this ⊢
    unfold kpStep
    split
    · rw [List.length_append]; simp; exact this
    · omega
theorem li_len (a : Nat → Nat → Int32) (kn : Nat → Bool) (n v fo : Nat) (z : Int32 × List Nat) : ∀ j, (foldU (liStep a kn n v fo) z j).2.length ≤ z.2.length + j
  | 0 => Nat.le_refl _
  | j + 1 => by
    rw [foldU_s]
    have := li_len a kn n v fo z j
    generalize foldU (liStep a kn n v fo) z j = y at this ⊢
    unfold liStep
    split
    · omega
    · split
      · omega
      · split
        · simp only [List.length_append, List.length_singleton]; omega
        · omega
theorem lk_len (a : Nat → Nat → Int32) (kn : Nat → Bool) (n v k : Nat) : ∀ i, (foldU (lkStep a kn n v k) [] i).length ≤ 5 * i
  | 0 => Nat.le_refl _
  | i + 1 => by
    rw [foldU_s]
    have h1 := lk_len a kn n v k i
    have h2 := li_len a kn n v i (lackB a kn n v k i, foldU (lkStep a kn n v k) [] i) 5
    unfold lkStep at *
    simp only at h2
    omega
theorem li_stop (a : Nat → Nat → Int32) (kn : Nat → Bool) (n v fo : Nat) (z : Int32 × List Nat) (j : Nat) (h : (foldU (liStep a kn n v fo) z j).1 ≤ 0) : ∀ d, foldU (liStep a kn n v fo) z (j + d) = foldU (liStep a kn n v fo) z j
  | 0 => rfl
  | d + 1 => by
    rw [show j + (d + 1) = (j + d) + 1 by omega, foldU_s, li_stop a kn n v fo z j h d]
    generalize foldU (liStep a kn n v fo) z j = y at h ⊢
    unfold liStep
    rw [if_pos h]
abbrev WS : Type := Nat × (Nat → Nat → Int32) × (Nat → Bool)
/-- the words of a list, one behind another -/
def wlStep (v : Nat) (kd ck : Int32) (L : List Nat) (j : Nat) (x : WS) : WS := (x.1 + 1, wrA x.2.1 x.1 v kd (nI (L.getD j 0)) ck, wrK x.2.2 x.1 v)
def wrL (n : Nat) (a : Nat → Nat → Int32) (kn : Nat → Bool) (v : Nat) (kd ck : Int32) (L : List Nat) : WS := foldU (wlStep v kd ck L) (n, a, kn) L.length
theorem wl_n (v : Nat) (kd ck : Int32) (L : List Nat) (z : WS) : ∀ j, (foldU (wlStep v kd ck L) z j).1 = z.1 + j
  | 0 => rfl
  | j + 1 => by rw [foldU_s]; show (foldU (wlStep v kd ck L) z j).1 + 1 = _; rw [wl_n v kd ck L z j]; rfl
theorem wl_17 (v : Nat) (kd ck : Int32) (L : List Nat) (z : WS) : ∀ j, (foldU (wlStep v kd ck L) z j).2.1 17 = z.2.1 17
  | 0 => rfl
  | j + 1 => by rw [foldU_s]; exact wl_17 v kd ck L z j
def mKeep (n cm : Nat) (a : Nat → Nat → Int32) (kn : Nat → Bool) (f k : Int32) : MR :=
  if opB n cm a kn f k then
    if fullB n (keepsL a kn n (jn f) (jn k)).length then (2, 0, n, cm, a, kn)
    else (0, nI (keepsL a kn n (jn f) (jn k)).length, (wrL n a kn (jn f) 4 k (keepsL a kn n (jn f) (jn k))).1, cm, (wrL n a kn (jn f) 4 k (keepsL a kn n (jn f) (jn k))).2.1, (wrL n a kn (jn f) 4 k (keepsL a kn n (jn f) (jn k))).2.2)
  else (opTh n cm a kn f k, 0, n, cm, a, kn)
def mDrop (n cm : Nat) (a : Nat → Nat → Int32) (kn : Nat → Bool) (f k : Int32) : MR :=
  if opB n cm a kn f k then
    if fullB n 1 then (2, 0, n, cm, a, kn)
    else (0, nI (keptL a kn n (jn f) k).length, n + 1, cm, wrA a n (jn f) 5 k (-1), wrK kn n (jn f))
  else (opTh n cm a kn f k, 0, n, cm, a, kn)
def laStep (a : Nat → Nat → Int32) (kn : Nat → Bool) (n v k : Nat) (fo : Nat) (y : Int32) : Int32 := y + lackB a kn n v k fo
def lackAll (a : Nat → Nat → Int32) (kn : Nat → Bool) (n v k : Nat) : Int32 := foldU (laStep a kn n v k) 0 8
def mBake (n cm : Nat) (a : Nat → Nat → Int32) (kn : Nat → Bool) (f k : Int32) : MR :=
  if opB n cm a kn f k then
    if decide (0 < lackAll a kn n (jn f) (jn k)) || fullB n ((keptL a kn n (jn f) k).length + 1) then (2, 0, n, cm, a, kn)
    else (0, nI (keptL a kn n (jn f) k).length, (wrL n a kn (jn f) 1 k (keptL a kn n (jn f) k)).1 + 1, cm, wrA (wrL n a kn (jn f) 1 k (keptL a kn n (jn f) k)).2.1 (wrL n a kn (jn f) 1 k (keptL a kn n (jn f) k)).1 (jn f) 6 k (-1), wrK (wrL n a kn (jn f) 1 k (keptL a kn n (jn f) k)).2.2 (wrL n a kn (jn f) 1 k (keptL a kn n (jn f) k)).1 (jn f))
  else (opTh n cm a kn f k, 0, n, cm, a, kn)
theorem opB_f {n cm : Nat} {a : Nat → Nat → Int32} {kn : Nat → Bool} {f k : Int32} (h : opB n cm a kn f k = true) : inB f 0 4 = true := and_l (and_l h)
theorem opB_k {n cm : Nat} {a : Nat → Nat → Int32} {kn : Nat → Bool} {f k : Int32} (h : opB n cm a kn f k = true) : inB k 0 (nI cm - 1) = true := and_r (and_l h)
theorem rowOf_get {L : List Nat} {rw : Nat → Int32} {j : Nat} (h : rowOf L rw) (hj : j < L.length) : rw j = nI (L.getD j 0) := h j _ (by rw [List.getD_eq_getElem?_getD, List.getElem?_eq_getElem hj]; rfl)
theorem keepsL_17 (a : Nat → Nat → Int32) (rw : Nat → Int32) (kn : Nat → Bool) (n v k : Nat) : keepsL (set17 a rw) kn n v k = keepsL a kn n v k := rfl
theorem keptL_17 (a : Nat → Nat → Int32) (rw : Nat → Int32) (kn : Nat → Bool) (n v : Nat) (k : Int32) : keptL (set17 a rw) kn n v k = keptL a kn n v k := rfl
theorem opB_17 (a : Nat → Nat → Int32) (rw : Nat → Int32) (kn : Nat → Bool) (n cm : Nat) (f k : Int32) : opB n cm (set17 a rw) kn f k = opB n cm a kn f k := rfl
theorem opTh_17 (a : Nat → Nat → Int32) (rw : Nat → Int32) (kn : Nat → Bool) (n cm : Nat) (f k : Int32) : opTh n cm (set17 a rw) kn f k = opTh n cm a kn f k := rfl
theorem lackAll_17 (a : Nat → Nat → Int32) (rw : Nat → Int32) (kn : Nat → Bool) (n v k : Nat) : lackAll (set17 a rw) kn n v k = lackAll a kn n v k := rfl
