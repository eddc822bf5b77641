/-! the reference's calls, as functions: thrown, answer, words, cakes, rows, known -/
abbrev MR : Type := Int32 × Int32 × Nat × Nat × (Nat → Nat → Int32) × (Nat → Bool)
def pEq (R : Int32) (n cm : Nat) (th : Int32) (lm : Nat) (a : Nat → Nat → Int32) (kn : Nat → Bool) : PostT := fun r n' cm' th' lm' a' kn' => r = R ∧ n' = n ∧ cm' = cm ∧ th' = th ∧ lm' = lm ∧ a' = a ∧ kn' = kn
def eqQ (z : MR) : PostT := fun r n' cm' th' _ a' kn' => (th', r, n', cm', a', kn') = z
def exQ (z : (Nat → Int32) → MR) : PostT := fun r n' cm' th' _ a' kn' => ∃ rw, (th', r, n', cm', a', kn') = z rw
def wrA (a : Nat → Nat → Int32) (n v : Nat) (kd sb ck : Int32) : Nat → Nat → Int32 := upA (upA (upA (upA (upA (upA a 10 v (a 10 v + 1)) 1 n kd) 2 n (nI v)) 3 n (a 10 v + 1)) 4 n sb) 5 n ck
def wrK (kn : Nat → Bool) (n v : Nat) : Nat → Bool := upK (upK kn (6 * n + v) true) (6 * n + 5) true
theorem inB_at {x hi : Int32} {k : Nat} (hk : k < 2 ^ 31) (e : hi = nI k) (h : inB x 0 hi = true) : ∃ j, j ≤ k ∧ x = nI j := by
  simp only [inB, Bool.and_eq_true, Bool.not_eq_true', decide_eq_false_iff_not] at h
  obtain ⟨j, hj, ej⟩ := nI_of2 (M := hi) (n := k) (by rw [e]; exact nI_toInt hk) h.1 (by
    have h2 := h.2
    rw [Int32.lt_iff_toInt_lt] at h2
    rw [Int32.le_iff_toInt_le]
    omega)
  exact ⟨j, hj, ej⟩
theorem in4 {x : Int32} (h : inB x 0 4 = true) : ∃ j, j < 5 ∧ x = nI j := by
  obtain ⟨j, hj, e⟩ := inB_at (k := 4) (by omega) rfl h
  exact ⟨j, by omega, e⟩
theorem in7 {x : Int32} (h : inB x 0 7 = true) : ∃ j, j < 8 ∧ x = nI j := by
  obtain ⟨j, hj, e⟩ := inB_at (k := 7) (by omega) rfl h
  exact ⟨j, by omega, e⟩
theorem in5 {x : Int32} (h : inB x 0 5 = true) : ∃ j, j < 6 ∧ x = nI j := by
  obtain ⟨j, hj, e⟩ := inB_at (k := 5) (by omega) rfl h
  exact ⟨j, by omega, e⟩
theorem in39 {x : Int32} (h : inB x 0 39 = true) : ∃ j, j < 40 ∧ x = nI j := by
  obtain ⟨j, hj, e⟩ := inB_at (k := 39) (by omega) rfl h
  exact ⟨j, by omega, e⟩
theorem inC {x : Int32} {cm : Nat} (hcm : cm ≤ 20) (h : inB x 0 (nI cm - 1) = true) : ∃ j, j < cm ∧ x = nI j := by
  rcases Nat.eq_zero_or_pos cm with z | z
  · subst z
    simp only [inB, Bool.and_eq_true, Bool.not_eq_true', decide_eq_false_iff_not] at h
    have h1 := h.1
    have h2 := h.2
    rw [Int32.lt_iff_toInt_lt] at h1 h2
    have e1 : (0 : Int32).toInt = 0 := by decide
    have e2 : (nI 0 - 1 : Int32).toInt = -1 := by decide
    omega
  · obtain ⟨j, hj, e⟩ := inB_at (k := cm - 1) (by omega) (show nI cm - 1 = nI (cm - 1) from pk_sub (a := cm) (b := 1) z) h
    exact ⟨j, by omega, e⟩
def mPut (n cm : Nat) (a : Nat → Nat → Int32) (kn : Nat → Bool) (f t : Int32) : MR :=
  if inB f 0 4 && inB t 0 39 then
    if decide (placeB a kn n (jn f) t = f) || fullB n 1 then (2, 0, n, cm, a, kn) else (0, a 10 (jn f) + 1, n + 1, cm, wrA a n (jn f) 0 t (-1), wrK kn n (jn f))
  else (1, 0, n, cm, a, kn)
def mTake (n cm : Nat) (a : Nat → Nat → Int32) (kn : Nat → Bool) (f t : Int32) : MR :=
  if inB f 0 4 && inB t 0 39 then
    if decide (placeB a kn n (jn f) t = -1) || fullB n 1 then (2, 0, n, cm, a, kn) else (0, placeB a kn n (jn f) t, n + 1, cm, wrA a n (jn f) 1 t (-1), wrK kn n (jn f))
  else (1, 0, n, cm, a, kn)
def mWhere (n cm : Nat) (a : Nat → Nat → Int32) (kn : Nat → Bool) (f t : Int32) : MR :=
  if inB f 0 4 && inB t 0 39 then (0, placeB a kn n (jn f) t, n, cm, a, kn) else (1, 0, n, cm, a, kn)
def mWhereByAll (n cm : Nat) (a : Nat → Nat → Int32) (kn : Nat → Bool) (t : Int32) : MR :=
  if inB t 0 39 then (0, placeB a kn n 5 t, n, cm, a, kn) else (1, 0, n, cm, a, kn)
def mCount (n cm : Nat) (a : Nat → Nat → Int32) (kn : Nat → Bool) (f fo : Int32) : MR :=
  if inB f 0 4 && inB fo 0 7 then (0, nI (countB a kn n (jn f) (jn fo)), n, cm, a, kn) else (1, 0, n, cm, a, kn)
def mCountByAll (n cm : Nat) (a : Nat → Nat → Int32) (kn : Nat → Bool) (fo : Int32) : MR :=
  if inB fo 0 7 then (0, nI (countB a kn n 5 (jn fo)), n, cm, a, kn) else (1, 0, n, cm, a, kn)
def clStep (a : Nat → Nat → Int32) (kn : Nat → Bool) (n v : Nat) (t : Int32) (o : Nat) (x : Int32) : Int32 :=
  x ||| (if latestB a kn n v t (nI o) = -1 then 0 else if a 1 (jn (latestB a kn n v t (nI o))) = 0 then (if placeB a kn n v t = nI o then 0 else (1 : Int32) <<< (nI o &&& 31)) else 0)
def mClaims (n cm : Nat) (a : Nat → Nat → Int32) (kn : Nat → Bool) (f t : Int32) : MR :=
  if inB f 0 4 && inB t 0 39 then (0, foldU (clStep a kn n (jn f) t) 0 5, n, cm, a, kn) else (1, 0, n, cm, a, kn)
def meStep (f o : Nat) (w : Nat) (x : Nat × (Nat → Bool)) : Nat × (Nat → Bool) :=
  (if x.2 (6 * w + f) = x.2 (6 * w + o) then x.1 + 0 else x.1 + 1, upK (upK x.2 (6 * w + f) (x.2 (6 * w + f) || x.2 (6 * w + o))) (6 * w + o) (x.2 (6 * w + f) || x.2 (6 * w + o)))
def meC (a : Nat → Nat → Int32) (f o : Nat) : Int32 := if a 10 f ≤ a 10 o then a 10 o else a 10 f
def mMeet (n cm : Nat) (a : Nat → Nat → Int32) (kn : Nat → Bool) (f o : Int32) : MR :=
  if inB f 0 4 && inB o 0 4 then
    if f = o then (2, 0, n, cm, a, kn) else (0, nI (foldU (meStep (jn f) (jn o)) (0, kn) n).1, n, cm, upA (upA a 10 (jn f) (meC a (jn f) (jn o))) 10 (jn o) (meC a (jn f) (jn o)), (foldU (meStep (jn f) (jn o)) (0, kn) n).2)
  else (1, 0, n, cm, a, kn)
def mWords (n cm : Nat) (a : Nat → Nat → Int32) (kn : Nat → Bool) : MR := (0, nI n, n, cm, a, kn)
def knStep (kn : Nat → Bool) (v w : Nat) (x : Nat) : Nat := if kn (6 * w + v) then x + 1 else x + 0
def mKnown (n cm : Nat) (a : Nat → Nat → Int32) (kn : Nat → Bool) (f : Int32) : MR :=
  if inB f 0 4 then (0, nI (foldU (knStep kn (jn f)) 0 n), n, cm, a, kn) else (1, 0, n, cm, a, kn)
def mClock (n cm : Nat) (a : Nat → Nat → Int32) (kn : Nat → Bool) (f : Int32) : MR :=
  if inB f 0 4 then (0, a 10 (jn f), n, cm, a, kn) else (1, 0, n, cm, a, kn)
def mGuest (n cm : Nat) (a : Nat → Nat → Int32) (kn : Nat → Bool) (f g d1 d2 ds : Int32) : MR :=
  if inB f 0 4 && inB g 0 7 then
    if inB d1 0 99 && inB d2 d1 99 && inB ds 0 255 then
      if fullB n 1 then (3, 0, n, cm, a, kn) else (0, a 10 (jn f) + 1, n + 1, cm, wrA (upA (upA (upA a 6 n d1) 7 n d2) 8 n ds) n (jn f) 2 g (-1), wrK kn n (jn f))
    else (2, 0, n, cm, a, kn)
  else (1, 0, n, cm, a, kn)
def guStep (a : Nat → Nat → Int32) (kn : Nat → Bool) (n v : Nat) (d : Int32) (i : Nat) (x : Int32) : Int32 := x ||| (if comingB a kn n v (nI i) d = -1 then 0 else (1 : Int32) <<< (nI i &&& 31))
def mGuests (n cm : Nat) (a : Nat → Nat → Int32) (kn : Nat → Bool) (f d : Int32) : MR :=
  if inB f 0 4 then
    if inB d 0 99 then (0, foldU (guStep a kn n (jn f) d) 0 8, n, cm, a, kn) else (2, 0, n, cm, a, kn)
  else (1, 0, n, cm, a, kn)
def mSetNeed (n cm : Nat) (a : Nat → Nat → Int32) (kn : Nat → Bool) (r fo t : Int32) : MR :=
  if inB r 0 5 && inB fo 0 7 then
    if inB t 0 3 then (0, a 11 (8 * jn r + jn fo), n, cm, upA a 11 (8 * jn r + jn fo) t, kn) else (2, 0, n, cm, a, kn)
  else (1, 0, n, cm, a, kn)
def mPlan (n cm : Nat) (a : Nat → Nat → Int32) (kn : Nat → Bool) (f r d : Int32) : MR :=
  if inB f 0 4 && inB r 0 5 then
    if inB d 0 99 then
      if dislikedB a kn n (jn f) (jn r) d || decide (cm = 20) || fullB n 1 then (3, 0, n, cm, a, kn)
      else (0, nI cm, n + 1, cm + 1, wrA (upA (upA (upA a 13 cm r) 14 cm d) 15 cm (nI n)) n (jn f) 3 (nI cm) (-1), wrK kn n (jn f))
    else (2, 0, n, cm, a, kn)
  else (1, 0, n, cm, a, kn)
def mCakes (n cm : Nat) (a : Nat → Nat → Int32) (kn : Nat → Bool) : MR := (0, nI cm, n, cm, a, kn)
def mCake (n cm : Nat) (a : Nat → Nat → Int32) (kn : Nat → Bool) (f k : Int32) : MR :=
  if inB f 0 4 && inB k 0 (nI cm - 1) then (0, stateB a kn n (jn f) (jn k), n, cm, a, kn) else (1, 0, n, cm, a, kn)
def mKeptFor (n cm : Nat) (a : Nat → Nat → Int32) (kn : Nat → Bool) (f t : Int32) : MR :=
  if inB f 0 4 && inB t 0 39 then (0, keeperB a kn n (jn f) t, n, cm, a, kn) else (1, 0, n, cm, a, kn)
def mKeptByAll (n cm : Nat) (a : Nat → Nat → Int32) (kn : Nat → Bool) (t : Int32) : MR :=
  if inB t 0 39 then (0, keeperB a kn n 5 t, n, cm, a, kn) else (1, 0, n, cm, a, kn)
def mLacks (n cm : Nat) (a : Nat → Nat → Int32) (kn : Nat → Bool) (f k fo : Int32) : MR :=
  if inB f 0 4 && inB k 0 (nI cm - 1) && inB fo 0 7 then
    if stateB a kn n (jn f) (jn k) = 1 then (0, lackB a kn n (jn f) (jn k) (jn fo), n, cm, a, kn) else (0, 0, n, cm, a, kn)
  else (1, 0, n, cm, a, kn)
def mIsUnfit (n cm : Nat) (a : Nat → Nat → Int32) (kn : Nat → Bool) (f k : Int32) : MR :=
  if inB f 0 4 && inB k 0 (nI cm - 1) then (0, bI (decide (stateB a kn n (jn f) (jn k) = 1) && dislikedB a kn n (jn f) (jn (a 13 (jn k))) (a 14 (jn k))), n, cm, a, kn) else (1, 0, n, cm, a, kn)
def spStep (a : Nat → Nat → Int32) (kn : Nat → Bool) (n v : Nat) (k : Int32) (w : Nat) (b : Bool) : Bool := b || (kn (6 * w + v) && decide (a 1 w = 1) && decide (a 5 w = k) && vainB a kn n v w)
def mIsSpoilt (n cm : Nat) (a : Nat → Nat → Int32) (kn : Nat → Bool) (f k : Int32) : MR :=
  if inB f 0 4 && inB k 0 (nI cm - 1) then (0, bI (decide (stateB a kn n (jn f) (jn k) = 3) && foldU (spStep a kn n (jn f) k) false n), n, cm, a, kn) else (1, 0, n, cm, a, kn)
def msStep (a : Nat → Nat → Int32) (kn : Nat → Bool) (n v fo : Nat) (k : Nat) (x : Int32) : Int32 := x + (if stateB a kn n v k = 1 then a 11 (8 * jn (a 13 k) + fo) else 0)
def missB (a : Nat → Nat → Int32) (kn : Nat → Bool) (n cm v fo : Nat) : Int32 := if 0 ≤ foldU (msStep a kn n v fo) 0 cm - nI (countB a kn n v fo) then foldU (msStep a kn n v fo) 0 cm - nI (countB a kn n v fo) else 0
def mMissing (n cm : Nat) (a : Nat → Nat → Int32) (kn : Nat → Bool) (f fo : Int32) : MR :=
  if inB f 0 4 && inB fo 0 7 then (0, missB a kn n cm (jn f) (jn fo), n, cm, a, kn) else (1, 0, n, cm, a, kn)
theorem and_l {x y : Bool} (h : (x && y) = true) : x = true := by cases x <;> simp_all
theorem and_r {x y : Bool} (h : (x && y) = true) : y = true := by cases x <;> simp_all
theorem cl_dummy : True := trivial
/-- the places j of a row hold the list -/
def rowOf (L : List Nat) (rw : Nat → Int32) : Prop := ∀ j x, L[j]? = some x → rw j = nI x
theorem rowOf_nil (rw : Nat → Int32) : rowOf [] rw := fun j x h => by simp at h
theorem rowOf_add {L : List Nat} {rw : Nat → Int32} (h : rowOf L rw) (x : Nat) : rowOf (L ++ [x]) (upd rw L.length (nI x)) := by
  intro j y hj
  rcases Nat.lt_or_ge j L.length with q | q
  · rw [List.getElem?_append_left q] at hj
    rw [pk_un (by omega)]
    exact h j y hj
  · rw [List.getElem?_append_right q] at hj
    have h0 : j - L.length < 1 := (List.getElem?_eq_some_iff.mp hj).1
    rw [show j = L.length by omega] at hj ⊢
    simp at hj
    rw [pk_us, hj]
def opB (n cm : Nat) (a : Nat → Nat → Int32) (kn : Nat → Bool) (f k : Int32) : Bool := (inB f 0 4 && inB k 0 (nI cm - 1)) && decide (stateB a kn n (jn f) (jn k) = 1)
def opTh (n cm : Nat) (a : Nat → Nat → Int32) (kn : Nat → Bool) (f k : Int32) : Int32 := if inB f 0 4 && inB k 0 (nI cm - 1) then (if stateB a kn n (jn f) (jn k) = 1 then 0 else 2) else 1
def kpStep (a : Nat → Nat → Int32) (kn : Nat → Bool) (n v : Nat) (k : Int32) (t : Nat) (L : List Nat) : List Nat := if keeperB a kn n v (nI t) = k then L ++ [t] else L
def keptL (a : Nat → Nat → Int32) (kn : Nat → Bool) (n v : Nat) (k : Int32) : List Nat := foldU (kpStep a kn n v k) [] 40
def liStep (a : Nat → Nat → Int32) (kn : Nat → Bool) (n v fo : Nat) (j : Nat) (x : Int32 × List Nat) : Int32 × List Nat := if x.1 ≤ 0 then x else if placeB a kn n v (nI (fo + 8 * j)) = -1 then x else if keeperB a kn n v (nI (fo + 8 * j)) = -1 then (x.1 + -1, x.2 ++ [fo + 8 * j]) else x
def lkStep (a : Nat → Nat → Int32) (kn : Nat → Bool) (n v k : Nat) (fo : Nat) (L : List Nat) : List Nat := (foldU (liStep a kn n v fo) (lackB a kn n v k fo, L) 5).2
def keepsL (a : Nat → Nat → Int32) (kn : Nat → Bool) (n v k : Nat) : List Nat := foldU (lkStep a kn n v k) [] 8
theorem kp_len (a : Nat → Nat → Int32) (kn : Nat → Bool) (n v : Nat) (k : Int32) : ∀ i, (foldU (kpStep a kn n v k) [] i).length ≤ i
  | 0 => Nat.le_refl _
  | i + 1 => by
    rw [foldU_s]
    have := kp_len a kn n v k i
    generalize foldU (kpStep a kn n v k) [] i = z at this ⊢
    unfold kpStep
    split
    · rw [List.length_append]; simp; exact this
    · omega
theorem li_len (a : Nat → Nat → Int32) (kn : Nat → Bool) (n v fo : Nat) (z : Int32 × List Nat) : ∀ j, (foldU (liStep a kn n v fo) z j).2.length ≤ z.2.length + j
  | 0 => Nat.le_refl _
  | j + 1 => by
    rw [foldU_s]
    have := li_len a kn n v fo z j
    generalize foldU (liStep a kn n v fo) z j = y at this ⊢
    unfold liStep
    split
    · omega
    · split
      · omega
      · split
        · simp only [List.length_append, List.length_singleton]; omega
        · omega
theorem lk_len (a : Nat → Nat → Int32) (kn : Nat → Bool) (n v k : Nat) : ∀ i, (foldU (lkStep a kn n v k) [] i).length ≤ 5 * i
  | 0 => Nat.le_refl _
  | i + 1 => by
    rw [foldU_s]
    have h1 := lk_len a kn n v k i
    have h2 := li_len a kn n v i (lackB a kn n v k i, foldU (lkStep a kn n v k) [] i) 5
    unfold lkStep at *
    simp only at h2
    omega
theorem li_stop (a : Nat → Nat → Int32) (kn : Nat → Bool) (n v fo : Nat) (z : Int32 × List Nat) (j : Nat) (h : (foldU (liStep a kn n v fo) z j).1 ≤ 0) : ∀ d, foldU (liStep a kn n v fo) z (j + d) = foldU (liStep a kn n v fo) z j
  | 0 => rfl
  | d + 1 => by
    rw [show j + (d + 1) = (j + d) + 1 by omega, foldU_s, li_stop a kn n v fo z j h d]
    generalize foldU (liStep a kn n v fo) z j = y at h ⊢
    unfold liStep
    rw [if_pos h]
abbrev WS : Type := Nat × (Nat → Nat → Int32) × (Nat → Bool)
/-- the words of a list, one behind another -/
def wlStep (v : Nat) (kd ck : Int32) (L : List Nat) (j : Nat) (x : WS) : WS := (x.1 + 1, wrA x.2.1 x.1 v kd (nI (L.getD j 0)) ck, wrK x.2.2 x.1 v)
def wrL (n : Nat) (a : Nat → Nat → Int32) (kn : Nat → Bool) (v : Nat) (kd ck : Int32) (L : List Nat) : WS := foldU (wlStep v kd ck L) (n, a, kn) L.length
theorem wl_n (v : Nat) (kd ck : Int32) (L : List Nat) (z : WS) : ∀ j, (foldU (wlStep v kd ck L) z j).1 = z.1 + j
  | 0 => rfl
  | j + 1 => by rw [foldU_s]; show (foldU (wlStep v kd ck L) z j).1 + 1 = _; rw [wl_n v kd ck L z j]; rfl
theorem wl_17 (v : Nat) (kd ck : Int32) (L : List Nat) (z : WS) : ∀ j, (foldU (wlStep v kd ck L) z j).2.1 17 = z.2.1 17
  | 0 => rfl
  | j + 1 => by rw [foldU_s]; exact wl_17 v kd ck L z j
def mKeep (n cm : Nat) (a : Nat → Nat → Int32) (kn : Nat → Bool) (f k : Int32) : MR :=
  if opB n cm a kn f k then
    if fullB n (keepsL a kn n (jn f) (jn k)).length then (2, 0, n, cm, a, kn)
    else (0, nI (keepsL a kn n (jn f) (jn k)).length, (wrL n a kn (jn f) 4 k (keepsL a kn n (jn f) (jn k))).1, cm, (wrL n a kn (jn f) 4 k (keepsL a kn n (jn f) (jn k))).2.1, (wrL n a kn (jn f) 4 k (keepsL a kn n (jn f) (jn k))).2.2)
  else (opTh n cm a kn f k, 0, n, cm, a, kn)
def mDrop (n cm : Nat) (a : Nat → Nat → Int32) (kn : Nat → Bool) (f k : Int32) : MR :=
  if opB n cm a kn f k then
    if fullB n 1 then (2, 0, n, cm, a, kn)
    else (0, nI (keptL a kn n (jn f) k).length, n + 1, cm, wrA a n (jn f) 5 k (-1), wrK kn n (jn f))
  else (opTh n cm a kn f k, 0, n, cm, a, kn)
def laStep (a : Nat → Nat → Int32) (kn : Nat → Bool) (n v k : Nat) (fo : Nat) (y : Int32) : Int32 := y + lackB a kn n v k fo
def lackAll (a : Nat → Nat → Int32) (kn : Nat → Bool) (n v k : Nat) : Int32 := foldU (laStep a kn n v k) 0 8
def mBake (n cm : Nat) (a : Nat → Nat → Int32) (kn : Nat → Bool) (f k : Int32) : MR :=
  if opB n cm a kn f k then
    if decide (0 < lackAll a kn n (jn f) (jn k)) || fullB n ((keptL a kn n (jn f) k).length + 1) then (2, 0, n, cm, a, kn)
    else (0, nI (keptL a kn n (jn f) k).length, (wrL n a kn (jn f) 1 k (keptL a kn n (jn f) k)).1 + 1, cm, wrA (wrL n a kn (jn f) 1 k (keptL a kn n (jn f) k)).2.1 (wrL n a kn (jn f) 1 k (keptL a kn n (jn f) k)).1 (jn f) 6 k (-1), wrK (wrL n a kn (jn f) 1 k (keptL a kn n (jn f) k)).2.2 (wrL n a kn (jn f) 1 k (keptL a kn n (jn f) k)).1 (jn f))
  else (opTh n cm a kn f k, 0, n, cm, a, kn)
theorem opB_f {n cm : Nat} {a : Nat → Nat → Int32} {kn : Nat → Bool} {f k : Int32} (h : opB n cm a kn f k = true) : inB f 0 4 = true := and_l (and_l h)
theorem opB_k {n cm : Nat} {a : Nat → Nat → Int32} {kn : Nat → Bool} {f k : Int32} (h : opB n cm a kn f k = true) : inB k 0 (nI cm - 1) = true := and_r (and_l h)
theorem rowOf_get {L : List Nat} {rw : Nat → Int32} {j : Nat} (h : rowOf L rw) (hj : j < L.length) : rw j = nI (L.getD j 0) := h j _ (by rw [List.getD_eq_getElem?_getD, List.getElem?_eq_getElem hj]; rfl)
theorem keepsL_17 (a : Nat → Nat → Int32) (rw : Nat → Int32) (kn : Nat → Bool) (n v k : Nat) : keepsL (set17 a rw) kn n v k = keepsL a kn n v k := rfl
theorem keptL_17 (a : Nat → Nat → Int32) (rw : Nat → Int32) (kn : Nat → Bool) (n v : Nat) (k : Int32) : keptL (set17 a rw) kn n v k = keptL a kn n v k := rfl
theorem opB_17 (a : Nat → Nat → Int32) (rw : Nat → Int32) (kn : Nat → Bool) (n cm : Nat) (f k : Int32) : opB n cm (set17 a rw) kn f k = opB n cm a kn f k := rfl
theorem opTh_17 (a : Nat → Nat → Int32) (rw : Nat → Int32) (kn : Nat → Bool) (n cm : Nat) (f k : Int32) : opTh n cm (set17 a rw) kn f k = opTh n cm a kn f k := rfl
theorem lackAll_17 (a : Nat → Nat → Int32) (rw : Nat → Int32) (kn : Nat → Bool) (n v k : Nat) : lackAll (set17 a rw) kn n v k = lackAll a kn n v k := rfl
set_option maxHeartbeats 4000000 in
set_option maxRecDepth 100000 in
theorem mc_write {l : Launch} {D : va_G} {cI cZ : ClassId} {h : Nat} {q : Nat → Nat} (hN : (mAd h q).Nodup) {n cm : Nat} {th : Int32} {lm : Nat} {a : Nat → Nat → Int32} {kn : Nat → Bool} (v : Nat) (kd : Int32) (sb : Int32) (ck : Int32) (hv5 : v < 5) (hn : n < 240) : wr_Met l yX4_write wsX4_write 0 0 D h q cI cZ (mW h q cI cZ n cm th lm a kn) [.ref h, .int (nI v), .int kd, .int sb, .int ck] rI (pEq (a 10 v + 1) (n + 1) cm th lm (wrA a n v kd sb ck) (wrK kn n v)) := by
  refine wr_start rfl (by decide +kernel) (Nat.le_of_ble_eq_true rfl) (fun p e s m below meth c F hr hlocks hK H locs hP hS ls hl => ?_)
  have hl : lv_has ls 5 [(0, .ref h), (1, .int (nI v)), (2, .int kd), (3, .int sb), (4, .int ck)] := hl
  have hx := F.1
  have hb := F.2.1
  have hA : ∀ x, x ∈ mAd h q → mF h q x := fun _ z => z
  have hin : ∀ w ∈ wsX40, w ∈ wsX4_write := fun _ z => List.mem_cons_of_mem _ (List.mem_append_right _ z)
  refine lv_aload_n hx hb dX4_write_0 rfl (lv_at hl 0 rfl) ?_
  refine mg_get F hK hin hP 10 (by decide) (by decide +kernel) rfl dX4_write_1 ?_
  refine lv_iload_n hx hb dX4_write_4 rfl (lv_at hl 1 rfl) ?_
  refine lv_dup2_11 hx hb dX4_write_5 rfl rfl ?_
  refine mg_ald F hK hP 10 10 5 rfl v rfl (by omega) (by decide) dX4_write_6 ?_
  refine lv_iconst (v := 1) hx hb dX4_write_7 (by decide) ?_
  refine lv_iadd hx hb dX4_write_8 ?_
  refine mp_ast F hK hN hA hP hS 10 10 5 rfl v rfl (by omega) (by decide) rfl dX4_write_9 (fun H locs hP hS => ?_)
  refine lv_aload_n hx hb dX4_write_10 rfl (lv_at hl 0 rfl) ?_
  refine mg_get F hK hin hP 1 (by decide) (by decide +kernel) rfl dX4_write_11 ?_
  refine lv_aload_n hx hb dX4_write_14 rfl (lv_at hl 0 rfl) ?_
  refine mg_get F hK hin hP 0 (by decide) (by decide +kernel) rfl dX4_write_15 ?_
  refine lv_iload_n hx hb dX4_write_18 rfl (lv_at hl 2 rfl) ?_
  refine mp_ast F hK hN hA hP hS 1 1 240 rfl n rfl (by omega) (by decide) rfl dX4_write_19 (fun H locs hP hS => ?_)
  refine lv_aload_n hx hb dX4_write_20 rfl (lv_at hl 0 rfl) ?_
  refine mg_get F hK hin hP 2 (by decide) (by decide +kernel) rfl dX4_write_21 ?_
  refine lv_aload_n hx hb dX4_write_24 rfl (lv_at hl 0 rfl) ?_
  refine mg_get F hK hin hP 0 (by decide) (by decide +kernel) rfl dX4_write_25 ?_
  refine lv_iload_n hx hb dX4_write_28 rfl (lv_at hl 1 rfl) ?_
  refine mp_ast F hK hN hA hP hS 2 2 240 rfl n rfl (by omega) (by decide) rfl dX4_write_29 (fun H locs hP hS => ?_)
  refine lv_aload_n hx hb dX4_write_30 rfl (lv_at hl 0 rfl) ?_
  refine mg_get F hK hin hP 3 (by decide) (by decide +kernel) rfl dX4_write_31 ?_
  refine lv_aload_n hx hb dX4_write_34 rfl (lv_at hl 0 rfl) ?_
  refine mg_get F hK hin hP 0 (by decide) (by decide +kernel) rfl dX4_write_35 ?_
  refine lv_aload_n hx hb dX4_write_38 rfl (lv_at hl 0 rfl) ?_
  refine mg_get F hK hin hP 10 (by decide) (by decide +kernel) rfl dX4_write_39 ?_
  refine lv_iload_n hx hb dX4_write_42 rfl (lv_at hl 1 rfl) ?_
  refine mg_ald F hK hP 10 10 5 rfl v rfl (by omega) (by decide) dX4_write_43 ?_
  refine lw_E (a 10 v + 1) (by simp [upA, pk_us]) ?_
  refine mp_ast F hK hN hA hP hS 3 3 240 rfl n rfl (by omega) (by decide) rfl dX4_write_44 (fun H locs hP hS => ?_)
  refine lv_aload_n hx hb dX4_write_45 rfl (lv_at hl 0 rfl) ?_
  refine mg_get F hK hin hP 4 (by decide) (by decide +kernel) rfl dX4_write_46 ?_
  refine lv_aload_n hx hb dX4_write_49 rfl (lv_at hl 0 rfl) ?_
  refine mg_get F hK hin hP 0 (by decide) (by decide +kernel) rfl dX4_write_50 ?_
  refine lv_iload_n hx hb dX4_write_53 rfl (lv_at hl 3 rfl) ?_
  refine mp_ast F hK hN hA hP hS 4 4 240 rfl n rfl (by omega) (by decide) rfl dX4_write_54 (fun H locs hP hS => ?_)
  refine lv_aload_n hx hb dX4_write_55 rfl (lv_at hl 0 rfl) ?_
  refine mg_get F hK hin hP 5 (by decide) (by decide +kernel) rfl dX4_write_56 ?_
  refine lv_aload_n hx hb dX4_write_59 rfl (lv_at hl 0 rfl) ?_
  refine mg_get F hK hin hP 0 (by decide) (by decide +kernel) rfl dX4_write_60 ?_
  refine lv_iload hx hb dX4_write_63 (lv_at hl 4 rfl) ?_
  refine mp_ast F hK hN hA hP hS 5 5 240 rfl n rfl (by omega) (by decide) rfl dX4_write_65 (fun H locs hP hS => ?_)
  refine lv_aload_n hx hb dX4_write_66 rfl (lv_at hl 0 rfl) ?_
  refine mg_get F hK hin hP 9 (by decide) (by decide +kernel) rfl dX4_write_67 ?_
  refine lv_bipush (v := 6) hx hb dX4_write_70 (by decide) ?_
  refine lv_aload_n hx hb dX4_write_72 rfl (lv_at hl 0 rfl) ?_
  refine mg_get F hK hin hP 0 (by decide) (by decide +kernel) rfl dX4_write_73 ?_
  refine lw_mul hx hb (i := 6) (j := n) dX4_write_76 ?_
  refine lv_iload_n hx hb dX4_write_77 rfl (lv_at hl 1 rfl) ?_
  refine lw_add hx hb (i := (6 * n)) (j := v) dX4_write_78 ?_
  refine lv_iconst (v := 1) hx hb dX4_write_79 (by decide) ?_
  refine mp_zst F hK hN hA hP hS ((6 * n) + v) true rfl (by omega) rfl dX4_write_80 (fun H locs hP hS => ?_)
  refine lv_aload_n hx hb dX4_write_81 rfl (lv_at hl 0 rfl) ?_
  refine mg_get F hK hin hP 9 (by decide) (by decide +kernel) rfl dX4_write_82 ?_
  refine lv_bipush (v := 6) hx hb dX4_write_85 (by decide) ?_
  refine lv_aload_n hx hb dX4_write_87 rfl (lv_at hl 0 rfl) ?_
  refine mg_get F hK hin hP 0 (by decide) (by decide +kernel) rfl dX4_write_88 ?_
  refine lw_mul hx hb (i := 6) (j := n) dX4_write_91 ?_
  refine lv_iconst (v := 5) hx hb dX4_write_92 (by decide) ?_
  refine lw_add hx hb (i := (6 * n)) (j := 5) dX4_write_93 ?_
  refine lv_iconst (v := 1) hx hb dX4_write_94 (by decide) ?_
  refine mp_zst F hK hN hA hP hS ((6 * n) + 5) true rfl (by omega) rfl dX4_write_95 (fun H locs hP hS => ?_)
  refine lv_aload_n hx hb dX4_write_96 rfl (lv_at hl 0 rfl) ?_
  refine lv_dup hx hb dX4_write_97 rfl ?_
  refine mg_get F hK hin hP 0 (by decide) (by decide +kernel) rfl dX4_write_98 ?_
  refine lv_iconst (v := 1) hx hb dX4_write_101 (by decide) ?_
  refine lw_add hx hb (i := n) (j := 1) dX4_write_102 ?_
  refine mp_put F hK hin hN hA hP hS 0 (n + 1) cm th lm rfl (by decide) (by decide +kernel) rfl rfl dX4_write_103 (fun H locs hP hS => ?_)
  refine lv_aload_n hx hb dX4_write_106 rfl (lv_at hl 0 rfl) ?_
  refine mg_get F hK hin hP 10 (by decide) (by decide +kernel) rfl dX4_write_107 ?_
  refine lv_iload_n hx hb dX4_write_110 rfl (lv_at hl 1 rfl) ?_
  refine mg_ald F hK hP 10 10 5 rfl v rfl (by omega) (by decide) dX4_write_111 ?_
  refine lw_E (a 10 v + 1) (by simp [upA, pk_us]) ?_
  exact wr_reti F hr hlocks hP hS (⟨rfl, rfl, rfl, rfl, rfl, rfl, rfl⟩) dX4_write_112
set_option maxHeartbeats 4000000 in
set_option maxRecDepth 100000 in
theorem mc_areOne {l : Launch} {D : va_G} {cI cZ : ClassId} {h : Nat} {q : Nat → Nat} (hN : (mAd h q).Nodup) {n cm : Nat} {th : Int32} {lm : Nat} {a : Nat → Nat → Int32} {kn : Nat → Bool} (f : Int32) (t : Int32)  : wr_Met l yX4_areOne wsX4_areOne 2 42 D h q cI cZ (mW h q cI cZ n cm th lm a kn) [.ref h, .int f, .int t] rI (pEq (bI (inB f 0 4 && inB t 0 39)) n cm (bI (!(inB f 0 4 && inB t 0 39))) lm a kn) := by
  refine wr_start rfl (by decide +kernel) (Nat.le_of_ble_eq_true rfl) (fun p e s m below meth c F hr hlocks hK H locs hP hS ls hl => ?_)
  have hl : lv_has ls 3 [(0, .ref h), (1, .int f), (2, .int t)] := hl
  have hx := F.1
  have hb := F.2.1
  have hA : ∀ x, x ∈ mAd h q → mF h q x := fun _ z => z
  have hin : ∀ w ∈ wsX40, w ∈ wsX4_areOne := fun _ z => List.mem_cons_of_mem _ (List.mem_append_right _ z)
  refine lv_aload_n hx hb dX4_areOne_0 rfl (lv_at hl 0 rfl) ?_
  refine lv_iload_n hx hb dX4_areOne_1 rfl (lv_at hl 1 rfl) ?_
  refine ro_callS F hK [.int f] (mc_isFridge f ) (va_cwS 1 F.2.2.2.2 gX4_areOne_X4_isFridge rfl rfl rfl (by decide +kernel) ⟨Nat.le_of_ble_eq_true rfl, Nat.le_of_ble_eq_true rfl⟩) rfl hl.1 rfl (lv_room (Nat.le_of_ble_eq_true rfl)) ⟨Nat.zero_le _, Nat.zero_le _⟩ dX4_areOne_2 ?_
  refine lw_beq (tgt := 19) hx hb dX4_areOne_5 (by decide) (fun c_1 => ?_) (fun c_1 => ?_)
  · skip
    refine lv_iconst (v := 1) hx hb dX4_areOne_19 (by decide) ?_
    refine mp_put F hK hin hN hA hP hS 16 n cm 1 lm rfl (by decide) (by decide +kernel) rfl rfl dX4_areOne_20 (fun H locs hP hS => ?_)
    refine lv_aload_n hx hb dX4_areOne_23 rfl (lv_at hl 0 rfl) ?_
    refine mg_get F hK hin hP 16 (by decide) (by decide +kernel) rfl dX4_areOne_24 ?_
    refine lv_if_ne (tgt := 34) hx hb dX4_areOne_27 (by decide) (fun _ => ?_) (fun z9 => absurd z9 (by decide))
    refine lv_iconst (v := 0) hx hb dX4_areOne_34 (by decide) ?_
    exact wr_retz F hr hlocks hP hS false rfl (⟨by simp [bI, c_1], rfl, rfl, by simp [bI, c_1], rfl, rfl, rfl⟩) dX4_areOne_35
  · skip
    refine lv_iload_n hx hb dX4_areOne_8 rfl (lv_at hl 2 rfl) ?_
    refine ro_callS F hK [.int t] (mc_isThing t ) (va_cwS 1 F.2.2.2.2 gX4_areOne_X4_isThing rfl rfl rfl (by decide +kernel) ⟨Nat.le_of_ble_eq_true rfl, Nat.le_of_ble_eq_true rfl⟩) rfl hl.1 rfl (lv_room (Nat.le_of_ble_eq_true rfl)) ⟨Nat.zero_le _, Nat.zero_le _⟩ dX4_areOne_9 ?_
    refine lw_beq (tgt := 19) hx hb dX4_areOne_12 (by decide) (fun c_2 => ?_) (fun c_2 => ?_)
    · skip
      refine lv_iconst (v := 1) hx hb dX4_areOne_19 (by decide) ?_
      refine mp_put F hK hin hN hA hP hS 16 n cm 1 lm rfl (by decide) (by decide +kernel) rfl rfl dX4_areOne_20 (fun H locs hP hS => ?_)
      refine lv_aload_n hx hb dX4_areOne_23 rfl (lv_at hl 0 rfl) ?_
      refine mg_get F hK hin hP 16 (by decide) (by decide +kernel) rfl dX4_areOne_24 ?_
      refine lv_if_ne (tgt := 34) hx hb dX4_areOne_27 (by decide) (fun _ => ?_) (fun z9 => absurd z9 (by decide))
      refine lv_iconst (v := 0) hx hb dX4_areOne_34 (by decide) ?_
      exact wr_retz F hr hlocks hP hS false rfl (⟨by simp [bI, c_1, c_2], rfl, rfl, by simp [bI, c_1, c_2], rfl, rfl, rfl⟩) dX4_areOne_35
    · skip
      refine lv_iconst (v := 0) hx hb dX4_areOne_15 (by decide) ?_
      refine lv_goto (tgt := 20) hx hb dX4_areOne_16 (by decide) ?_
      refine mp_put F hK hin hN hA hP hS 16 n cm 0 lm rfl (by decide) (by decide +kernel) rfl rfl dX4_areOne_20 (fun H locs hP hS => ?_)
      refine lv_aload_n hx hb dX4_areOne_23 rfl (lv_at hl 0 rfl) ?_
      refine mg_get F hK hin hP 16 (by decide) (by decide +kernel) rfl dX4_areOne_24 ?_
      refine lv_if_ne (tgt := 34) hx hb dX4_areOne_27 (by decide) (fun z9 => absurd z9 (by decide)) (fun _ => ?_)
      refine lv_iconst (v := 1) hx hb dX4_areOne_30 (by decide) ?_
      refine lv_goto (tgt := 35) hx hb dX4_areOne_31 (by decide) ?_
      exact wr_retz F hr hlocks hP hS true rfl (⟨by simp [bI, c_1, c_2], rfl, rfl, by simp [bI, c_1, c_2], rfl, rfl, rfl⟩) dX4_areOne_35
set_option maxHeartbeats 4000000 in
set_option maxRecDepth 100000 in
theorem mc_areCake {l : Launch} {D : va_G} {cI cZ : ClassId} {h : Nat} {q : Nat → Nat} (hN : (mAd h q).Nodup) {n cm : Nat} {th : Int32} {lm : Nat} {a : Nat → Nat → Int32} {kn : Nat → Bool} (f : Int32) (k : Int32)  : wr_Met l yX4_areCake wsX4_areCake 2 43 D h q cI cZ (mW h q cI cZ n cm th lm a kn) [.ref h, .int f, .int k] rI (pEq (bI (inB f 0 4 && inB k 0 (nI cm - 1))) n cm (bI (!(inB f 0 4 && inB k 0 (nI cm - 1)))) lm a kn) := by
  refine wr_start rfl (by decide +kernel) (Nat.le_of_ble_eq_true rfl) (fun p e s m below meth c F hr hlocks hK H locs hP hS ls hl => ?_)
  have hl : lv_has ls 3 [(0, .ref h), (1, .int f), (2, .int k)] := hl
  have hx := F.1
  have hb := F.2.1
  have hA : ∀ x, x ∈ mAd h q → mF h q x := fun _ z => z
  have hin : ∀ w ∈ wsX40, w ∈ wsX4_areCake := fun _ z => List.mem_cons_of_mem _ (List.mem_append_right _ z)
  refine lv_aload_n hx hb dX4_areCake_0 rfl (lv_at hl 0 rfl) ?_
  refine lv_iload_n hx hb dX4_areCake_1 rfl (lv_at hl 1 rfl) ?_
  refine ro_callS F hK [.int f] (mc_isFridge f ) (va_cwS 1 F.2.2.2.2 gX4_areCake_X4_isFridge rfl rfl rfl (by decide +kernel) ⟨Nat.le_of_ble_eq_true rfl, Nat.le_of_ble_eq_true rfl⟩) rfl hl.1 rfl (lv_room (Nat.le_of_ble_eq_true rfl)) ⟨Nat.zero_le _, Nat.zero_le _⟩ dX4_areCake_2 ?_
  refine lw_beq (tgt := 20) hx hb dX4_areCake_5 (by decide) (fun c_1 => ?_) (fun c_1 => ?_)
  · skip
    refine lv_iconst (v := 1) hx hb dX4_areCake_20 (by decide) ?_
    refine mp_put F hK hin hN hA hP hS 16 n cm 1 lm rfl (by decide) (by decide +kernel) rfl rfl dX4_areCake_21 (fun H locs hP hS => ?_)
    refine lv_aload_n hx hb dX4_areCake_24 rfl (lv_at hl 0 rfl) ?_
    refine mg_get F hK hin hP 16 (by decide) (by decide +kernel) rfl dX4_areCake_25 ?_
    refine lv_if_ne (tgt := 35) hx hb dX4_areCake_28 (by decide) (fun _ => ?_) (fun z9 => absurd z9 (by decide))
    refine lv_iconst (v := 0) hx hb dX4_areCake_35 (by decide) ?_
    exact wr_retz F hr hlocks hP hS false rfl (⟨by simp [bI, c_1], rfl, rfl, by simp [bI, c_1], rfl, rfl, rfl⟩) dX4_areCake_36
  · skip
    refine lv_aload_n hx hb dX4_areCake_8 rfl (lv_at hl 0 rfl) ?_
    refine lv_iload_n hx hb dX4_areCake_9 rfl (lv_at hl 2 rfl) ?_
    refine ro_callV F hK [.int k] (mc_isCake hP k ) (cwV 1 F.2.2.2.2 gX4_areCake_X4_isCake rfl rfl rfl (by decide +kernel) ⟨Nat.le_of_ble_eq_true rfl, Nat.le_of_ble_eq_true rfl⟩) (mg_rc hK hP) rfl hl.1 rfl (lv_room (Nat.le_of_ble_eq_true rfl)) ⟨Nat.zero_le _, Nat.zero_le _⟩ dX4_areCake_10 ?_
    refine lw_beq (tgt := 20) hx hb dX4_areCake_13 (by decide) (fun c_2 => ?_) (fun c_2 => ?_)
    · skip
      refine lv_iconst (v := 1) hx hb dX4_areCake_20 (by decide) ?_
      refine mp_put F hK hin hN hA hP hS 16 n cm 1 lm rfl (by decide) (by decide +kernel) rfl rfl dX4_areCake_21 (fun H locs hP hS => ?_)
      refine lv_aload_n hx hb dX4_areCake_24 rfl (lv_at hl 0 rfl) ?_
      refine mg_get F hK hin hP 16 (by decide) (by decide +kernel) rfl dX4_areCake_25 ?_
      refine lv_if_ne (tgt := 35) hx hb dX4_areCake_28 (by decide) (fun _ => ?_) (fun z9 => absurd z9 (by decide))
      refine lv_iconst (v := 0) hx hb dX4_areCake_35 (by decide) ?_
      exact wr_retz F hr hlocks hP hS false rfl (⟨by simp [bI, c_1, c_2], rfl, rfl, by simp [bI, c_1, c_2], rfl, rfl, rfl⟩) dX4_areCake_36
    · skip
      refine lv_iconst (v := 0) hx hb dX4_areCake_16 (by decide) ?_
      refine lv_goto (tgt := 21) hx hb dX4_areCake_17 (by decide) ?_
      refine mp_put F hK hin hN hA hP hS 16 n cm 0 lm rfl (by decide) (by decide +kernel) rfl rfl dX4_areCake_21 (fun H locs hP hS => ?_)
      refine lv_aload_n hx hb dX4_areCake_24 rfl (lv_at hl 0 rfl) ?_
      refine mg_get F hK hin hP 16 (by decide) (by decide +kernel) rfl dX4_areCake_25 ?_
      refine lv_if_ne (tgt := 35) hx hb dX4_areCake_28 (by decide) (fun z9 => absurd z9 (by decide)) (fun _ => ?_)
      refine lv_iconst (v := 1) hx hb dX4_areCake_31 (by decide) ?_
      refine lv_goto (tgt := 36) hx hb dX4_areCake_32 (by decide) ?_
      exact wr_retz F hr hlocks hP hS true rfl (⟨by simp [bI, c_1, c_2], rfl, rfl, by simp [bI, c_1, c_2], rfl, rfl, rfl⟩) dX4_areCake_36
set_option maxHeartbeats 4000000 in
set_option maxRecDepth 100000 in
theorem mc_put {l : Launch} {D : va_G} {cI cZ : ClassId} {h : Nat} {q : Nat → Nat} (hN : (mAd h q).Nodup) {n cm : Nat} {th : Int32} {lm : Nat} {a : Nat → Nat → Int32} {kn : Nat → Bool} (f : Int32) (t : Int32) (I : mI n cm a) : wr_Met l yX4_put wsX4_put 3 71 D h q cI cZ (mW h q cI cZ n cm th lm a kn) [.ref h, .int f, .int t] rI (eqQ (mPut n cm a kn f t)) := by
  refine wr_start rfl (by decide +kernel) (Nat.le_of_ble_eq_true rfl) (fun p e s m below meth c F hr hlocks hK H locs hP hS ls hl => ?_)
  have hl : lv_has ls 3 [(0, .ref h), (1, .int f), (2, .int t)] := hl
  have hx := F.1
  have hb := F.2.1
  have hA : ∀ x, x ∈ mAd h q → mF h q x := fun _ z => z
  have hin : ∀ w ∈ wsX40, w ∈ wsX4_put := fun _ z => List.mem_cons_of_mem _ (List.mem_append_right _ z)
  have hn := I.1
  have hcm := I.2.1
  refine lv_aload_n hx hb dX4_put_0 rfl (lv_at hl 0 rfl) ?_
  refine lv_iload_n hx hb dX4_put_1 rfl (lv_at hl 1 rfl) ?_
  refine lv_iload_n hx hb dX4_put_2 rfl (lv_at hl 2 rfl) ?_
  refine wr_callVi F hK [.int f, .int t] (mc_areOne hN f t ) (cwV 2 F.2.2.2.2 gX4_put_X4_areOne rfl rfl rfl (by decide +kernel) ⟨Nat.le_of_ble_eq_true rfl, Nat.le_of_ble_eq_true rfl⟩) (mg_rc hK hP) hP hS hA rfl hl.1 rfl (lv_room (Nat.le_of_ble_eq_true rfl)) ⟨Nat.zero_le _, Nat.zero_le _⟩ dX4_put_3 (fun r_w_1 n_w_1 cm_w_1 th_w_1 lm_w_1 a_w_1 kn_w_1 H locs hp_w_1 hP hS => ?_)
  obtain ⟨e1_w_1, e2_w_1, e3_w_1, e4_w_1, e5_w_1, e6_w_1, e7_w_1⟩ := hp_w_1
  rw [e2_w_1, e3_w_1, e4_w_1, e5_w_1, e6_w_1, e7_w_1] at hP
  rw [e1_w_1]
  refine lw_beq (tgt := 36) hx hb dX4_put_6 (by decide) (fun c_2 => ?_) (fun c_2 => ?_)
  · skip
    refine lv_aload_n hx hb dX4_put_36 rfl (lv_at hl 0 rfl) ?_
    refine mg_get F hK hin hP 16 (by decide) (by decide +kernel) rfl dX4_put_37 ?_
    refine lw_bne (tgt := 54) hx hb dX4_put_40 (by decide) (fun _ => ?_) (fun z9 => by simp [c_2] at z9)
    refine lv_iconst (v := 0) hx hb dX4_put_54 (by decide) ?_
    exact wr_reti F hr hlocks hP hS (by simp [eqQ, mPut, bI, c_2]) dX4_put_55
  · skip
    refine lv_aload_n hx hb dX4_put_9 rfl (lv_at hl 0 rfl) ?_
    refine lv_aload_n hx hb dX4_put_10 rfl (lv_at hl 0 rfl) ?_
    refine lv_iload_n hx hb dX4_put_11 rfl (lv_at hl 1 rfl) ?_
    refine lv_iload_n hx hb dX4_put_12 rfl (lv_at hl 2 rfl) ?_
    obtain ⟨vf, hvf, evf⟩ := in4 (x := f)  (by first | exact (and_l c_2) | exact (and_r c_2) | exact (and_l (and_l c_2)) | exact (and_r (and_l c_2)))
    have nvf : jn f = vf := by rw [evf]; exact jn_nI (by omega)
    refine ro_callV F hK [.int (nI vf), .int t] (mc_placeOf hP vf t (by first | assumption | omega) (by first | assumption | omega)) (cwV 2 F.2.2.2.2 gX4_put_X4_placeOf rfl rfl rfl (by decide +kernel) ⟨Nat.le_of_ble_eq_true rfl, Nat.le_of_ble_eq_true rfl⟩) (mg_rc hK hP) rfl hl.1 (by first | (rw [evf]; done) | (rw [evf]; rfl)) (lv_room (Nat.le_of_ble_eq_true rfl)) ⟨Nat.zero_le _, Nat.zero_le _⟩ dX4_put_13 ?_
    refine lv_iload_n hx hb dX4_put_16 rfl (lv_at hl 1 rfl) ?_
    refine lv_icmp_eq (tgt := 28) hx hb dX4_put_17 (by decide) (fun c_3 => ?_) (fun c_3 => ?_)
    · skip
      refine lv_iconst (v := 2) hx hb dX4_put_28 (by decide) ?_
      refine lv_goto (tgt := 33) hx hb dX4_put_29 (by decide) ?_
      refine mp_put F hK hin hN hA hP hS 16 n cm 2 lm rfl (by decide) (by decide +kernel) rfl rfl dX4_put_33 (fun H locs hP hS => ?_)
      refine lv_aload_n hx hb dX4_put_36 rfl (lv_at hl 0 rfl) ?_
      refine mg_get F hK hin hP 16 (by decide) (by decide +kernel) rfl dX4_put_37 ?_
      refine lv_if_ne (tgt := 54) hx hb dX4_put_40 (by decide) (fun _ => ?_) (fun z9 => absurd z9 (by decide))
      refine lv_iconst (v := 0) hx hb dX4_put_54 (by decide) ?_
      exact wr_reti F hr hlocks hP hS (by simp [eqQ, mPut, bI, c_2, nvf, c_3]) dX4_put_55
    · skip
      refine lv_aload_n hx hb dX4_put_20 rfl (lv_at hl 0 rfl) ?_
      refine lv_iconst (v := 1) hx hb dX4_put_21 (by decide) ?_
      refine ro_callV F hK [.int 1] (mc_isFull hP 1 (by first | assumption | omega) (by first | assumption | omega)) (cwV 1 F.2.2.2.2 gX4_put_X4_isFull rfl rfl rfl (by decide +kernel) ⟨Nat.le_of_ble_eq_true rfl, Nat.le_of_ble_eq_true rfl⟩) (mg_rc hK hP) rfl hl.1 rfl (lv_room (Nat.le_of_ble_eq_true rfl)) ⟨Nat.zero_le _, Nat.zero_le _⟩ dX4_put_22 ?_
      refine lw_beq (tgt := 32) hx hb dX4_put_25 (by decide) (fun c_4 => ?_) (fun c_4 => ?_)
      · skip
        refine lv_iconst (v := 0) hx hb dX4_put_32 (by decide) ?_
        refine mp_put F hK hin hN hA hP hS 16 n cm 0 lm rfl (by decide) (by decide +kernel) rfl rfl dX4_put_33 (fun H locs hP hS => ?_)
        refine lv_aload_n hx hb dX4_put_36 rfl (lv_at hl 0 rfl) ?_
        refine mg_get F hK hin hP 16 (by decide) (by decide +kernel) rfl dX4_put_37 ?_
        refine lv_if_ne (tgt := 54) hx hb dX4_put_40 (by decide) (fun z9 => absurd z9 (by decide)) (fun _ => ?_)
        refine lv_aload_n hx hb dX4_put_43 rfl (lv_at hl 0 rfl) ?_
        refine lv_iload_n hx hb dX4_put_44 rfl (lv_at hl 1 rfl) ?_
        refine lv_iconst (v := 0) hx hb dX4_put_45 (by decide) ?_
        refine lv_iload_n hx hb dX4_put_46 rfl (lv_at hl 2 rfl) ?_
        refine lv_iconst (v := (-1)) hx hb dX4_put_47 (by decide) ?_
        refine wr_callVi F hK [.int (nI vf), .int 0, .int t, .int (-1)] (mc_write hN vf 0 t (-1) (by first | assumption | omega) (by have z := c_4; simp only [fullB, decide_eq_false_iff_not] at z; omega)) (cwV 4 F.2.2.2.2 gX4_put_X4_write rfl rfl rfl (by decide +kernel) ⟨Nat.le_of_ble_eq_true rfl, Nat.le_of_ble_eq_true rfl⟩) (mg_rc hK hP) hP hS hA rfl hl.1 (by first | (rw [evf]; done) | (rw [evf]; rfl)) (lv_room (Nat.le_of_ble_eq_true rfl)) ⟨Nat.zero_le _, Nat.zero_le _⟩ dX4_put_48 (fun r_w_5 n_w_5 cm_w_5 th_w_5 lm_w_5 a_w_5 kn_w_5 H locs hp_w_5 hP hS => ?_)
        obtain ⟨e1_w_5, e2_w_5, e3_w_5, e4_w_5, e5_w_5, e6_w_5, e7_w_5⟩ := hp_w_5
        rw [e2_w_5, e3_w_5, e4_w_5, e5_w_5, e6_w_5, e7_w_5] at hP
        rw [e1_w_5]
        refine lv_goto (tgt := 55) hx hb dX4_put_51 (by decide) ?_
        exact wr_reti F hr hlocks hP hS (by simp [eqQ, mPut, bI, c_2, nvf, c_3, c_4]) dX4_put_55
      · skip
        refine lv_iconst (v := 2) hx hb dX4_put_28 (by decide) ?_
        refine lv_goto (tgt := 33) hx hb dX4_put_29 (by decide) ?_
        refine mp_put F hK hin hN hA hP hS 16 n cm 2 lm rfl (by decide) (by decide +kernel) rfl rfl dX4_put_33 (fun H locs hP hS => ?_)
        refine lv_aload_n hx hb dX4_put_36 rfl (lv_at hl 0 rfl) ?_
        refine mg_get F hK hin hP 16 (by decide) (by decide +kernel) rfl dX4_put_37 ?_
        refine lv_if_ne (tgt := 54) hx hb dX4_put_40 (by decide) (fun _ => ?_) (fun z9 => absurd z9 (by decide))
        refine lv_iconst (v := 0) hx hb dX4_put_54 (by decide) ?_
        exact wr_reti F hr hlocks hP hS (by simp [eqQ, mPut, bI, c_2, nvf, c_3, c_4]) dX4_put_55
set_option maxHeartbeats 4000000 in
set_option maxRecDepth 100000 in
theorem mc_take {l : Launch} {D : va_G} {cI cZ : ClassId} {h : Nat} {q : Nat → Nat} (hN : (mAd h q).Nodup) {n cm : Nat} {th : Int32} {lm : Nat} {a : Nat → Nat → Int32} {kn : Nat → Bool} (f : Int32) (t : Int32) (I : mI n cm a) : wr_Met l yX4_take wsX4_take 3 71 D h q cI cZ (mW h q cI cZ n cm th lm a kn) [.ref h, .int f, .int t] rI (eqQ (mTake n cm a kn f t)) := by
  refine wr_start rfl (by decide +kernel) (Nat.le_of_ble_eq_true rfl) (fun p e s m below meth c F hr hlocks hK H locs hP hS ls hl => ?_)
  have hl : lv_has ls 5 [(0, .ref h), (1, .int f), (2, .int t)] := hl
  have hx := F.1
  have hb := F.2.1
  have hA : ∀ x, x ∈ mAd h q → mF h q x := fun _ z => z
  have hin : ∀ w ∈ wsX40, w ∈ wsX4_take := fun _ z => List.mem_cons_of_mem _ (List.mem_append_right _ z)
  have hn := I.1
  have hcm := I.2.1
  refine lv_aload_n hx hb dX4_take_0 rfl (lv_at hl 0 rfl) ?_
  refine lv_iload_n hx hb dX4_take_1 rfl (lv_at hl 1 rfl) ?_
  refine lv_iload_n hx hb dX4_take_2 rfl (lv_at hl 2 rfl) ?_
  refine wr_callVi F hK [.int f, .int t] (mc_areOne hN f t ) (cwV 2 F.2.2.2.2 gX4_take_X4_areOne rfl rfl rfl (by decide +kernel) ⟨Nat.le_of_ble_eq_true rfl, Nat.le_of_ble_eq_true rfl⟩) (mg_rc hK hP) hP hS hA rfl hl.1 rfl (lv_room (Nat.le_of_ble_eq_true rfl)) ⟨Nat.zero_le _, Nat.zero_le _⟩ dX4_take_3 (fun r_w_1 n_w_1 cm_w_1 th_w_1 lm_w_1 a_w_1 kn_w_1 H locs hp_w_1 hP hS => ?_)
  obtain ⟨e1_w_1, e2_w_1, e3_w_1, e4_w_1, e5_w_1, e6_w_1, e7_w_1⟩ := hp_w_1
  rw [e2_w_1, e3_w_1, e4_w_1, e5_w_1, e6_w_1, e7_w_1] at hP
  rw [e1_w_1]
  refine lw_beq (tgt := 18) hx hb dX4_take_6 (by decide) (fun c_2 => ?_) (fun c_2 => ?_)
  · skip
    refine lv_iconst (v := (-1)) hx hb dX4_take_18 (by decide) ?_
    refine lv_istore_n (lv' := [(3, .int (-1)), (0, .ref h), (1, .int f), (2, .int t)]) hx hb dX4_take_19 rfl hl (by decide) rfl (fun ls hl => ?_)
    refine lv_aload_n hx hb dX4_take_20 rfl (lv_at hl 1 rfl) ?_
    refine lv_aload_n hx hb dX4_take_21 rfl (lv_at hl 1 rfl) ?_
    refine mg_get F hK hin hP 16 (by decide) (by decide +kernel) rfl dX4_take_22 ?_
    refine lw_bne (tgt := 45) hx hb dX4_take_25 (by decide) (fun _ => ?_) (fun z9 => by simp [c_2] at z9)
    refine lv_aload_n hx hb dX4_take_45 rfl (lv_at hl 1 rfl) ?_
    refine mg_get F hK hin hP 16 (by decide) (by decide +kernel) rfl dX4_take_46 ?_
    refine mp_put F hK hin hN hA hP hS 16 n cm (bI (!(inB f 0 4 && inB t 0 39))) lm rfl (by decide) (by decide +kernel) rfl rfl dX4_take_49 (fun H locs hP hS => ?_)
    refine lv_aload_n hx hb dX4_take_52 rfl (lv_at hl 1 rfl) ?_
    refine mg_get F hK hin hP 16 (by decide) (by decide +kernel) rfl dX4_take_53 ?_
    refine lv_if_le (tgt := 61) hx hb dX4_take_56 (by decide) (fun z9 => absurd z9 (by rw [c_2]; decide)) (fun _ => ?_)
    refine lv_iconst (v := 0) hx hb dX4_take_59 (by decide) ?_
    exact wr_reti F hr hlocks hP hS (by simp [eqQ, mTake, bI, c_2]) dX4_take_60
  · skip
    refine lv_aload_n hx hb dX4_take_9 rfl (lv_at hl 0 rfl) ?_
    refine lv_iload_n hx hb dX4_take_10 rfl (lv_at hl 1 rfl) ?_
    refine lv_iload_n hx hb dX4_take_11 rfl (lv_at hl 2 rfl) ?_
    obtain ⟨vf, hvf, evf⟩ := in4 (x := f)  (by first | exact (and_l c_2) | exact (and_r c_2) | exact (and_l (and_l c_2)) | exact (and_r (and_l c_2)))
    have nvf : jn f = vf := by rw [evf]; exact jn_nI (by omega)
    refine ro_callV F hK [.int (nI vf), .int t] (mc_placeOf hP vf t (by first | assumption | omega) (by first | assumption | omega)) (cwV 2 F.2.2.2.2 gX4_take_X4_placeOf rfl rfl rfl (by decide +kernel) ⟨Nat.le_of_ble_eq_true rfl, Nat.le_of_ble_eq_true rfl⟩) (mg_rc hK hP) rfl hl.1 (by first | (rw [evf]; done) | (rw [evf]; rfl)) (lv_room (Nat.le_of_ble_eq_true rfl)) ⟨Nat.zero_le _, Nat.zero_le _⟩ dX4_take_12 ?_
    refine lv_goto (tgt := 19) hx hb dX4_take_15 (by decide) ?_
    refine lv_istore_n (lv' := [(3, .int (placeB a kn n vf t)), (0, .ref h), (1, .int f), (2, .int t)]) hx hb dX4_take_19 rfl hl (by decide) rfl (fun ls hl => ?_)
    refine lv_aload_n hx hb dX4_take_20 rfl (lv_at hl 1 rfl) ?_
    refine lv_aload_n hx hb dX4_take_21 rfl (lv_at hl 1 rfl) ?_
    refine mg_get F hK hin hP 16 (by decide) (by decide +kernel) rfl dX4_take_22 ?_
    refine lw_bne (tgt := 45) hx hb dX4_take_25 (by decide) (fun z9 => by simp [c_2] at z9) (fun _ => ?_)
    refine lv_iload_n hx hb dX4_take_28 rfl (lv_at hl 0 rfl) ?_
    refine lv_iconst (v := (-1)) hx hb dX4_take_29 (by decide) ?_
    refine lv_icmp_eq (tgt := 41) hx hb dX4_take_30 (by decide) (fun c_3 => ?_) (fun c_3 => ?_)
    · skip
      refine lv_iconst (v := 2) hx hb dX4_take_41 (by decide) ?_
      refine lv_goto (tgt := 49) hx hb dX4_take_42 (by decide) ?_
      refine mp_put F hK hin hN hA hP hS 16 n cm 2 lm rfl (by decide) (by decide +kernel) rfl rfl dX4_take_49 (fun H locs hP hS => ?_)
      refine lv_aload_n hx hb dX4_take_52 rfl (lv_at hl 1 rfl) ?_
      refine mg_get F hK hin hP 16 (by decide) (by decide +kernel) rfl dX4_take_53 ?_
      refine lv_if_le (tgt := 61) hx hb dX4_take_56 (by decide) (fun z9 => absurd z9 (by decide)) (fun _ => ?_)
      refine lv_iconst (v := 0) hx hb dX4_take_59 (by decide) ?_
      exact wr_reti F hr hlocks hP hS (by simp [eqQ, mTake, bI, c_2, nvf, c_3]) dX4_take_60
    · skip
      refine lv_aload_n hx hb dX4_take_33 rfl (lv_at hl 1 rfl) ?_
      refine lv_iconst (v := 1) hx hb dX4_take_34 (by decide) ?_
      refine ro_callV F hK [.int 1] (mc_isFull hP 1 (by first | assumption | omega) (by first | assumption | omega)) (cwV 1 F.2.2.2.2 gX4_take_X4_isFull rfl rfl rfl (by decide +kernel) ⟨Nat.le_of_ble_eq_true rfl, Nat.le_of_ble_eq_true rfl⟩) (mg_rc hK hP) rfl hl.1 rfl (lv_room (Nat.le_of_ble_eq_true rfl)) ⟨Nat.zero_le _, Nat.zero_le _⟩ dX4_take_35 ?_
      refine lw_beq (tgt := 45) hx hb dX4_take_38 (by decide) (fun c_4 => ?_) (fun c_4 => ?_)
      · skip
        refine lv_aload_n hx hb dX4_take_45 rfl (lv_at hl 1 rfl) ?_
        refine mg_get F hK hin hP 16 (by decide) (by decide +kernel) rfl dX4_take_46 ?_
        refine mp_put F hK hin hN hA hP hS 16 n cm (bI (!(inB f 0 4 && inB t 0 39))) lm rfl (by decide) (by decide +kernel) rfl rfl dX4_take_49 (fun H locs hP hS => ?_)
        refine lv_aload_n hx hb dX4_take_52 rfl (lv_at hl 1 rfl) ?_
        refine mg_get F hK hin hP 16 (by decide) (by decide +kernel) rfl dX4_take_53 ?_
        refine lv_if_le (tgt := 61) hx hb dX4_take_56 (by decide) (fun _ => ?_) (fun z9 => absurd (by rw [c_2]; decide) z9)
        refine lv_aload_n hx hb dX4_take_61 rfl (lv_at hl 1 rfl) ?_
        refine lv_iload_n hx hb dX4_take_62 rfl (lv_at hl 2 rfl) ?_
        refine lv_iconst (v := 1) hx hb dX4_take_63 (by decide) ?_
        refine lv_iload_n hx hb dX4_take_64 rfl (lv_at hl 3 rfl) ?_
        refine lv_iconst (v := (-1)) hx hb dX4_take_65 (by decide) ?_
        refine wr_callVi F hK [.int (nI vf), .int 1, .int t, .int (-1)] (mc_write hN vf 1 t (-1) (by first | assumption | omega) (by have z := c_4; simp only [fullB, decide_eq_false_iff_not] at z; omega)) (cwV 4 F.2.2.2.2 gX4_take_X4_write rfl rfl rfl (by decide +kernel) ⟨Nat.le_of_ble_eq_true rfl, Nat.le_of_ble_eq_true rfl⟩) (mg_rc hK hP) hP hS hA rfl hl.1 (by first | (rw [evf]; done) | (rw [evf]; rfl)) (lv_room (Nat.le_of_ble_eq_true rfl)) ⟨Nat.zero_le _, Nat.zero_le _⟩ dX4_take_66 (fun r_w_5 n_w_5 cm_w_5 th_w_5 lm_w_5 a_w_5 kn_w_5 H locs hp_w_5 hP hS => ?_)
        obtain ⟨e1_w_5, e2_w_5, e3_w_5, e4_w_5, e5_w_5, e6_w_5, e7_w_5⟩ := hp_w_5
        rw [e2_w_5, e3_w_5, e4_w_5, e5_w_5, e6_w_5, e7_w_5] at hP
        rw [e1_w_5]
        refine lv_istore (lv' := [(4, .int (a 10 vf + 1)), (3, .int (placeB a kn n vf t)), (0, .ref h), (1, .int f), (2, .int t)]) hx hb dX4_take_69 hl (by decide) rfl (fun ls hl => ?_)
        refine lv_iload_n hx hb dX4_take_71 rfl (lv_at hl 1 rfl) ?_
        exact wr_reti F hr hlocks hP hS (by simp [eqQ, mTake, bI, c_2, nvf, c_3, c_4]) dX4_take_72
      · skip
        refine lv_iconst (v := 2) hx hb dX4_take_41 (by decide) ?_
        refine lv_goto (tgt := 49) hx hb dX4_take_42 (by decide) ?_
        refine mp_put F hK hin hN hA hP hS 16 n cm 2 lm rfl (by decide) (by decide +kernel) rfl rfl dX4_take_49 (fun H locs hP hS => ?_)
        refine lv_aload_n hx hb dX4_take_52 rfl (lv_at hl 1 rfl) ?_
        refine mg_get F hK hin hP 16 (by decide) (by decide +kernel) rfl dX4_take_53 ?_
        refine lv_if_le (tgt := 61) hx hb dX4_take_56 (by decide) (fun z9 => absurd z9 (by decide)) (fun _ => ?_)
        refine lv_iconst (v := 0) hx hb dX4_take_59 (by decide) ?_
        exact wr_reti F hr hlocks hP hS (by simp [eqQ, mTake, bI, c_2, nvf, c_3, c_4]) dX4_take_60
set_option maxHeartbeats 4000000 in
set_option maxRecDepth 100000 in
theorem mc_where {l : Launch} {D : va_G} {cI cZ : ClassId} {h : Nat} {q : Nat → Nat} (hN : (mAd h q).Nodup) {n cm : Nat} {th : Int32} {lm : Nat} {a : Nat → Nat → Int32} {kn : Nat → Bool} (f : Int32) (t : Int32) (I : mI n cm a) : wr_Met l yX4_where wsX4_where 3 71 D h q cI cZ (mW h q cI cZ n cm th lm a kn) [.ref h, .int f, .int t] rI (eqQ (mWhere n cm a kn f t)) := by
  refine wr_start rfl (by decide +kernel) (Nat.le_of_ble_eq_true rfl) (fun p e s m below meth c F hr hlocks hK H locs hP hS ls hl => ?_)
  have hl : lv_has ls 3 [(0, .ref h), (1, .int f), (2, .int t)] := hl
  have hx := F.1
  have hb := F.2.1
  have hA : ∀ x, x ∈ mAd h q → mF h q x := fun _ z => z
  have hin : ∀ w ∈ wsX40, w ∈ wsX4_where := fun _ z => List.mem_cons_of_mem _ (List.mem_append_right _ z)
  have hn := I.1
  have hcm := I.2.1
  refine lv_aload_n hx hb dX4_where_0 rfl (lv_at hl 0 rfl) ?_
  refine lv_iload_n hx hb dX4_where_1 rfl (lv_at hl 1 rfl) ?_
  refine lv_iload_n hx hb dX4_where_2 rfl (lv_at hl 2 rfl) ?_
  refine wr_callVi F hK [.int f, .int t] (mc_areOne hN f t ) (cwV 2 F.2.2.2.2 gX4_where_X4_areOne rfl rfl rfl (by decide +kernel) ⟨Nat.le_of_ble_eq_true rfl, Nat.le_of_ble_eq_true rfl⟩) (mg_rc hK hP) hP hS hA rfl hl.1 rfl (lv_room (Nat.le_of_ble_eq_true rfl)) ⟨Nat.zero_le _, Nat.zero_le _⟩ dX4_where_3 (fun r_w_1 n_w_1 cm_w_1 th_w_1 lm_w_1 a_w_1 kn_w_1 H locs hp_w_1 hP hS => ?_)
  obtain ⟨e1_w_1, e2_w_1, e3_w_1, e4_w_1, e5_w_1, e6_w_1, e7_w_1⟩ := hp_w_1
  rw [e2_w_1, e3_w_1, e4_w_1, e5_w_1, e6_w_1, e7_w_1] at hP
  rw [e1_w_1]
  refine lw_beq (tgt := 18) hx hb dX4_where_6 (by decide) (fun c_2 => ?_) (fun c_2 => ?_)
  · skip
    refine lv_iconst (v := 0) hx hb dX4_where_18 (by decide) ?_
    exact wr_reti F hr hlocks hP hS (by simp [eqQ, mWhere, bI, c_2]) dX4_where_19
  · skip
    refine lv_aload_n hx hb dX4_where_9 rfl (lv_at hl 0 rfl) ?_
    refine lv_iload_n hx hb dX4_where_10 rfl (lv_at hl 1 rfl) ?_
    refine lv_iload_n hx hb dX4_where_11 rfl (lv_at hl 2 rfl) ?_
    obtain ⟨vf, hvf, evf⟩ := in4 (x := f)  (by first | exact (and_l c_2) | exact (and_r c_2) | exact (and_l (and_l c_2)) | exact (and_r (and_l c_2)))
    have nvf : jn f = vf := by rw [evf]; exact jn_nI (by omega)
    refine ro_callV F hK [.int (nI vf), .int t] (mc_placeOf hP vf t (by first | assumption | omega) (by first | assumption | omega)) (cwV 2 F.2.2.2.2 gX4_where_X4_placeOf rfl rfl rfl (by decide +kernel) ⟨Nat.le_of_ble_eq_true rfl, Nat.le_of_ble_eq_true rfl⟩) (mg_rc hK hP) rfl hl.1 (by first | (rw [evf]; done) | (rw [evf]; rfl)) (lv_room (Nat.le_of_ble_eq_true rfl)) ⟨Nat.zero_le _, Nat.zero_le _⟩ dX4_where_12 ?_
    refine lv_goto (tgt := 19) hx hb dX4_where_15 (by decide) ?_
    exact wr_reti F hr hlocks hP hS (by simp [eqQ, mWhere, bI, c_2, nvf]) dX4_where_19
set_option maxHeartbeats 4000000 in
set_option maxRecDepth 100000 in
theorem mc_whereByAll {l : Launch} {D : va_G} {cI cZ : ClassId} {h : Nat} {q : Nat → Nat} (hN : (mAd h q).Nodup) {n cm : Nat} {th : Int32} {lm : Nat} {a : Nat → Nat → Int32} {kn : Nat → Bool} (t : Int32) (I : mI n cm a) : wr_Met l yX4_whereByAll wsX4_whereByAll 3 71 D h q cI cZ (mW h q cI cZ n cm th lm a kn) [.ref h, .int t] rI (eqQ (mWhereByAll n cm a kn t)) := by
  refine wr_start rfl (by decide +kernel) (Nat.le_of_ble_eq_true rfl) (fun p e s m below meth c F hr hlocks hK H locs hP hS ls hl => ?_)
  have hl : lv_has ls 2 [(0, .ref h), (1, .int t)] := hl
  have hx := F.1
  have hb := F.2.1
  have hA : ∀ x, x ∈ mAd h q → mF h q x := fun _ z => z
  have hin : ∀ w ∈ wsX40, w ∈ wsX4_whereByAll := fun _ z => List.mem_cons_of_mem _ (List.mem_append_right _ z)
  have hn := I.1
  have hcm := I.2.1
  refine lv_aload_n hx hb dX4_whereByAll_0 rfl (lv_at hl 0 rfl) ?_
  refine lv_iload_n hx hb dX4_whereByAll_1 rfl (lv_at hl 1 rfl) ?_
  refine ro_callS F hK [.int t] (mc_isThing t ) (va_cwS 1 F.2.2.2.2 gX4_whereByAll_X4_isThing rfl rfl rfl (by decide +kernel) ⟨Nat.le_of_ble_eq_true rfl, Nat.le_of_ble_eq_true rfl⟩) rfl hl.1 rfl (lv_room (Nat.le_of_ble_eq_true rfl)) ⟨Nat.zero_le _, Nat.zero_le _⟩ dX4_whereByAll_2 ?_
  refine lw_beq (tgt := 12) hx hb dX4_whereByAll_5 (by decide) (fun c_1 => ?_) (fun c_1 => ?_)
  · skip
    refine lv_iconst (v := 1) hx hb dX4_whereByAll_12 (by decide) ?_
    refine mp_put F hK hin hN hA hP hS 16 n cm 1 lm rfl (by decide) (by decide +kernel) rfl rfl dX4_whereByAll_13 (fun H locs hP hS => ?_)
    refine lv_aload_n hx hb dX4_whereByAll_16 rfl (lv_at hl 0 rfl) ?_
    refine mg_get F hK hin hP 16 (by decide) (by decide +kernel) rfl dX4_whereByAll_17 ?_
    refine lv_if_ne (tgt := 32) hx hb dX4_whereByAll_20 (by decide) (fun _ => ?_) (fun z9 => absurd z9 (by decide))
    refine lv_iconst (v := 0) hx hb dX4_whereByAll_32 (by decide) ?_
    exact wr_reti F hr hlocks hP hS (by simp [eqQ, mWhereByAll, bI, c_1]) dX4_whereByAll_33
  · skip
    refine lv_iconst (v := 0) hx hb dX4_whereByAll_8 (by decide) ?_
    refine lv_goto (tgt := 13) hx hb dX4_whereByAll_9 (by decide) ?_
    refine mp_put F hK hin hN hA hP hS 16 n cm 0 lm rfl (by decide) (by decide +kernel) rfl rfl dX4_whereByAll_13 (fun H locs hP hS => ?_)
    refine lv_aload_n hx hb dX4_whereByAll_16 rfl (lv_at hl 0 rfl) ?_
    refine mg_get F hK hin hP 16 (by decide) (by decide +kernel) rfl dX4_whereByAll_17 ?_
    refine lv_if_ne (tgt := 32) hx hb dX4_whereByAll_20 (by decide) (fun z9 => absurd z9 (by decide)) (fun _ => ?_)
    refine lv_aload_n hx hb dX4_whereByAll_23 rfl (lv_at hl 0 rfl) ?_
    refine lv_iconst (v := 5) hx hb dX4_whereByAll_24 (by decide) ?_
    refine lv_iload_n hx hb dX4_whereByAll_25 rfl (lv_at hl 1 rfl) ?_
    refine ro_callV F hK [.int 5, .int t] (mc_placeOf hP 5 t (by first | assumption | omega) (by first | assumption | omega)) (cwV 2 F.2.2.2.2 gX4_whereByAll_X4_placeOf rfl rfl rfl (by decide +kernel) ⟨Nat.le_of_ble_eq_true rfl, Nat.le_of_ble_eq_true rfl⟩) (mg_rc hK hP) rfl hl.1 rfl (lv_room (Nat.le_of_ble_eq_true rfl)) ⟨Nat.zero_le _, Nat.zero_le _⟩ dX4_whereByAll_26 ?_
    refine lv_goto (tgt := 33) hx hb dX4_whereByAll_29 (by decide) ?_
    exact wr_reti F hr hlocks hP hS (by simp [eqQ, mWhereByAll, bI, c_1]) dX4_whereByAll_33
set_option maxHeartbeats 4000000 in
set_option maxRecDepth 100000 in
theorem mc_keptFor {l : Launch} {D : va_G} {cI cZ : ClassId} {h : Nat} {q : Nat → Nat} (hN : (mAd h q).Nodup) {n cm : Nat} {th : Int32} {lm : Nat} {a : Nat → Nat → Int32} {kn : Nat → Bool} (f : Int32) (t : Int32) (I : mI n cm a) : wr_Met l yX4_keptFor wsX4_keptFor 5 120 D h q cI cZ (mW h q cI cZ n cm th lm a kn) [.ref h, .int f, .int t] rI (eqQ (mKeptFor n cm a kn f t)) := by
  refine wr_start rfl (by decide +kernel) (Nat.le_of_ble_eq_true rfl) (fun p e s m below meth c F hr hlocks hK H locs hP hS ls hl => ?_)
  have hl : lv_has ls 3 [(0, .ref h), (1, .int f), (2, .int t)] := hl
  have hx := F.1
  have hb := F.2.1
  have hA : ∀ x, x ∈ mAd h q → mF h q x := fun _ z => z
  have hin : ∀ w ∈ wsX40, w ∈ wsX4_keptFor := fun _ z => List.mem_cons_of_mem _ (List.mem_append_right _ z)
  have hn := I.1
  have hcm := I.2.1
  refine lv_aload_n hx hb dX4_keptFor_0 rfl (lv_at hl 0 rfl) ?_
  refine lv_iload_n hx hb dX4_keptFor_1 rfl (lv_at hl 1 rfl) ?_
  refine lv_iload_n hx hb dX4_keptFor_2 rfl (lv_at hl 2 rfl) ?_
  refine wr_callVi F hK [.int f, .int t] (mc_areOne hN f t ) (cwV 2 F.2.2.2.2 gX4_keptFor_X4_areOne rfl rfl rfl (by decide +kernel) ⟨Nat.le_of_ble_eq_true rfl, Nat.le_of_ble_eq_true rfl⟩) (mg_rc hK hP) hP hS hA rfl hl.1 rfl (lv_room (Nat.le_of_ble_eq_true rfl)) ⟨Nat.zero_le _, Nat.zero_le _⟩ dX4_keptFor_3 (fun r_w_1 n_w_1 cm_w_1 th_w_1 lm_w_1 a_w_1 kn_w_1 H locs hp_w_1 hP hS => ?_)
  obtain ⟨e1_w_1, e2_w_1, e3_w_1, e4_w_1, e5_w_1, e6_w_1, e7_w_1⟩ := hp_w_1
  rw [e2_w_1, e3_w_1, e4_w_1, e5_w_1, e6_w_1, e7_w_1] at hP
  rw [e1_w_1]
  refine lw_beq (tgt := 18) hx hb dX4_keptFor_6 (by decide) (fun c_2 => ?_) (fun c_2 => ?_)
  · skip
    refine lv_iconst (v := 0) hx hb dX4_keptFor_18 (by decide) ?_
    exact wr_reti F hr hlocks hP hS (by simp [eqQ, mKeptFor, bI, c_2]) dX4_keptFor_19
  · skip
    refine lv_aload_n hx hb dX4_keptFor_9 rfl (lv_at hl 0 rfl) ?_
    refine lv_iload_n hx hb dX4_keptFor_10 rfl (lv_at hl 1 rfl) ?_
    refine lv_iload_n hx hb dX4_keptFor_11 rfl (lv_at hl 2 rfl) ?_
    obtain ⟨vf, hvf, evf⟩ := in4 (x := f)  (by first | exact (and_l c_2) | exact (and_r c_2) | exact (and_l (and_l c_2)) | exact (and_r (and_l c_2)))
    have nvf : jn f = vf := by rw [evf]; exact jn_nI (by omega)
    refine ro_callV F hK [.int (nI vf), .int t] (mc_keeper hP vf t (by first | assumption | omega) (by first | assumption | omega)) (cwV 2 F.2.2.2.2 gX4_keptFor_X4_keeper rfl rfl rfl (by decide +kernel) ⟨Nat.le_of_ble_eq_true rfl, Nat.le_of_ble_eq_true rfl⟩) (mg_rc hK hP) rfl hl.1 (by first | (rw [evf]; done) | (rw [evf]; rfl)) (lv_room (Nat.le_of_ble_eq_true rfl)) ⟨Nat.zero_le _, Nat.zero_le _⟩ dX4_keptFor_12 ?_
    refine lv_goto (tgt := 19) hx hb dX4_keptFor_15 (by decide) ?_
    exact wr_reti F hr hlocks hP hS (by simp [eqQ, mKeptFor, bI, c_2, nvf]) dX4_keptFor_19
set_option maxHeartbeats 4000000 in
set_option maxRecDepth 100000 in
theorem mc_keptByAll {l : Launch} {D : va_G} {cI cZ : ClassId} {h : Nat} {q : Nat → Nat} (hN : (mAd h q).Nodup) {n cm : Nat} {th : Int32} {lm : Nat} {a : Nat → Nat → Int32} {kn : Nat → Bool} (t : Int32) (I : mI n cm a) : wr_Met l yX4_keptByAll wsX4_keptByAll 5 120 D h q cI cZ (mW h q cI cZ n cm th lm a kn) [.ref h, .int t] rI (eqQ (mKeptByAll n cm a kn t)) := by
  refine wr_start rfl (by decide +kernel) (Nat.le_of_ble_eq_true rfl) (fun p e s m below meth c F hr hlocks hK H locs hP hS ls hl => ?_)
  have hl : lv_has ls 2 [(0, .ref h), (1, .int t)] := hl
  have hx := F.1
  have hb := F.2.1
  have hA : ∀ x, x ∈ mAd h q → mF h q x := fun _ z => z
  have hin : ∀ w ∈ wsX40, w ∈ wsX4_keptByAll := fun _ z => List.mem_cons_of_mem _ (List.mem_append_right _ z)
  have hn := I.1
  have hcm := I.2.1
  refine lv_aload_n hx hb dX4_keptByAll_0 rfl (lv_at hl 0 rfl) ?_
  refine lv_iload_n hx hb dX4_keptByAll_1 rfl (lv_at hl 1 rfl) ?_
  refine ro_callS F hK [.int t] (mc_isThing t ) (va_cwS 1 F.2.2.2.2 gX4_keptByAll_X4_isThing rfl rfl rfl (by decide +kernel) ⟨Nat.le_of_ble_eq_true rfl, Nat.le_of_ble_eq_true rfl⟩) rfl hl.1 rfl (lv_room (Nat.le_of_ble_eq_true rfl)) ⟨Nat.zero_le _, Nat.zero_le _⟩ dX4_keptByAll_2 ?_
  refine lw_beq (tgt := 12) hx hb dX4_keptByAll_5 (by decide) (fun c_1 => ?_) (fun c_1 => ?_)
  · skip
    refine lv_iconst (v := 1) hx hb dX4_keptByAll_12 (by decide) ?_
    refine mp_put F hK hin hN hA hP hS 16 n cm 1 lm rfl (by decide) (by decide +kernel) rfl rfl dX4_keptByAll_13 (fun H locs hP hS => ?_)
    refine lv_aload_n hx hb dX4_keptByAll_16 rfl (lv_at hl 0 rfl) ?_
    refine mg_get F hK hin hP 16 (by decide) (by decide +kernel) rfl dX4_keptByAll_17 ?_
    refine lv_if_ne (tgt := 32) hx hb dX4_keptByAll_20 (by decide) (fun _ => ?_) (fun z9 => absurd z9 (by decide))
    refine lv_iconst (v := 0) hx hb dX4_keptByAll_32 (by decide) ?_
    exact wr_reti F hr hlocks hP hS (by simp [eqQ, mKeptByAll, bI, c_1]) dX4_keptByAll_33
  · skip
    refine lv_iconst (v := 0) hx hb dX4_keptByAll_8 (by decide) ?_
    refine lv_goto (tgt := 13) hx hb dX4_keptByAll_9 (by decide) ?_
    refine mp_put F hK hin hN hA hP hS 16 n cm 0 lm rfl (by decide) (by decide +kernel) rfl rfl dX4_keptByAll_13 (fun H locs hP hS => ?_)
    refine lv_aload_n hx hb dX4_keptByAll_16 rfl (lv_at hl 0 rfl) ?_
    refine mg_get F hK hin hP 16 (by decide) (by decide +kernel) rfl dX4_keptByAll_17 ?_
    refine lv_if_ne (tgt := 32) hx hb dX4_keptByAll_20 (by decide) (fun z9 => absurd z9 (by decide)) (fun _ => ?_)
    refine lv_aload_n hx hb dX4_keptByAll_23 rfl (lv_at hl 0 rfl) ?_
    refine lv_iconst (v := 5) hx hb dX4_keptByAll_24 (by decide) ?_
    refine lv_iload_n hx hb dX4_keptByAll_25 rfl (lv_at hl 1 rfl) ?_
    refine ro_callV F hK [.int 5, .int t] (mc_keeper hP 5 t (by first | assumption | omega) (by first | assumption | omega)) (cwV 2 F.2.2.2.2 gX4_keptByAll_X4_keeper rfl rfl rfl (by decide +kernel) ⟨Nat.le_of_ble_eq_true rfl, Nat.le_of_ble_eq_true rfl⟩) (mg_rc hK hP) rfl hl.1 rfl (lv_room (Nat.le_of_ble_eq_true rfl)) ⟨Nat.zero_le _, Nat.zero_le _⟩ dX4_keptByAll_26 ?_
    refine lv_goto (tgt := 33) hx hb dX4_keptByAll_29 (by decide) ?_
    exact wr_reti F hr hlocks hP hS (by simp [eqQ, mKeptByAll, bI, c_1]) dX4_keptByAll_33
set_option maxHeartbeats 4000000 in
set_option maxRecDepth 100000 in
theorem mc_words {l : Launch} {D : va_G} {cI cZ : ClassId} {h : Nat} {q : Nat → Nat} (hN : (mAd h q).Nodup) {n cm : Nat} {th : Int32} {lm : Nat} {a : Nat → Nat → Int32} {kn : Nat → Bool}  (I : mI n cm a) : wr_Met l yX4_words wsX4_words 0 0 D h q cI cZ (mW h q cI cZ n cm th lm a kn) [.ref h] rI (eqQ (mWords n cm a kn )) := by
  refine wr_start rfl (by decide +kernel) (Nat.le_of_ble_eq_true rfl) (fun p e s m below meth c F hr hlocks hK H locs hP hS ls hl => ?_)
  have hl : lv_has ls 1 [(0, .ref h)] := hl
  have hx := F.1
  have hb := F.2.1
  have hA : ∀ x, x ∈ mAd h q → mF h q x := fun _ z => z
  have hin : ∀ w ∈ wsX40, w ∈ wsX4_words := fun _ z => List.mem_cons_of_mem _ (List.mem_append_right _ z)
  have hn := I.1
  have hcm := I.2.1
  refine lv_aload_n hx hb dX4_words_0 rfl (lv_at hl 0 rfl) ?_
  refine lv_iconst (v := 0) hx hb dX4_words_1 (by decide) ?_
  refine mp_put F hK hin hN hA hP hS 16 n cm 0 lm rfl (by decide) (by decide +kernel) rfl rfl dX4_words_2 (fun H locs hP hS => ?_)
  refine lv_aload_n hx hb dX4_words_5 rfl (lv_at hl 0 rfl) ?_
  refine mg_get F hK hin hP 0 (by decide) (by decide +kernel) rfl dX4_words_6 ?_
  exact wr_reti F hr hlocks hP hS (by simp [eqQ, mWords, bI, ]) dX4_words_9
set_option maxHeartbeats 4000000 in
set_option maxRecDepth 100000 in
theorem mc_cakes {l : Launch} {D : va_G} {cI cZ : ClassId} {h : Nat} {q : Nat → Nat} (hN : (mAd h q).Nodup) {n cm : Nat} {th : Int32} {lm : Nat} {a : Nat → Nat → Int32} {kn : Nat → Bool}  (I : mI n cm a) : wr_Met l yX4_cakes wsX4_cakes 0 0 D h q cI cZ (mW h q cI cZ n cm th lm a kn) [.ref h] rI (eqQ (mCakes n cm a kn )) := by
  refine wr_start rfl (by decide +kernel) (Nat.le_of_ble_eq_true rfl) (fun p e s m below meth c F hr hlocks hK H locs hP hS ls hl => ?_)
  have hl : lv_has ls 1 [(0, .ref h)] := hl
  have hx := F.1
  have hb := F.2.1
  have hA : ∀ x, x ∈ mAd h q → mF h q x := fun _ z => z
  have hin : ∀ w ∈ wsX40, w ∈ wsX4_cakes := fun _ z => List.mem_cons_of_mem _ (List.mem_append_right _ z)
  have hn := I.1
  have hcm := I.2.1
  refine lv_aload_n hx hb dX4_cakes_0 rfl (lv_at hl 0 rfl) ?_
  refine lv_iconst (v := 0) hx hb dX4_cakes_1 (by decide) ?_
  refine mp_put F hK hin hN hA hP hS 16 n cm 0 lm rfl (by decide) (by decide +kernel) rfl rfl dX4_cakes_2 (fun H locs hP hS => ?_)
  refine lv_aload_n hx hb dX4_cakes_5 rfl (lv_at hl 0 rfl) ?_
  refine mg_get F hK hin hP 12 (by decide) (by decide +kernel) rfl dX4_cakes_6 ?_
  exact wr_reti F hr hlocks hP hS (by simp [eqQ, mCakes, bI, ]) dX4_cakes_9
set_option maxHeartbeats 4000000 in
set_option maxRecDepth 100000 in
theorem mc_clock {l : Launch} {D : va_G} {cI cZ : ClassId} {h : Nat} {q : Nat → Nat} (hN : (mAd h q).Nodup) {n cm : Nat} {th : Int32} {lm : Nat} {a : Nat → Nat → Int32} {kn : Nat → Bool} (f : Int32) (I : mI n cm a) : wr_Met l yX4_clock wsX4_clock 2 42 D h q cI cZ (mW h q cI cZ n cm th lm a kn) [.ref h, .int f] rI (eqQ (mClock n cm a kn f)) := by
  refine wr_start rfl (by decide +kernel) (Nat.le_of_ble_eq_true rfl) (fun p e s m below meth c F hr hlocks hK H locs hP hS ls hl => ?_)
  have hl : lv_has ls 2 [(0, .ref h), (1, .int f)] := hl
  have hx := F.1
  have hb := F.2.1
  have hA : ∀ x, x ∈ mAd h q → mF h q x := fun _ z => z
  have hin : ∀ w ∈ wsX40, w ∈ wsX4_clock := fun _ z => List.mem_cons_of_mem _ (List.mem_append_right _ z)
  have hn := I.1
  have hcm := I.2.1
  refine lv_aload_n hx hb dX4_clock_0 rfl (lv_at hl 0 rfl) ?_
  refine lv_iload_n hx hb dX4_clock_1 rfl (lv_at hl 1 rfl) ?_
  refine ro_callS F hK [.int f] (mc_isFridge f ) (va_cwS 1 F.2.2.2.2 gX4_clock_X4_isFridge rfl rfl rfl (by decide +kernel) ⟨Nat.le_of_ble_eq_true rfl, Nat.le_of_ble_eq_true rfl⟩) rfl hl.1 rfl (lv_room (Nat.le_of_ble_eq_true rfl)) ⟨Nat.zero_le _, Nat.zero_le _⟩ dX4_clock_2 ?_
  refine lw_beq (tgt := 12) hx hb dX4_clock_5 (by decide) (fun c_1 => ?_) (fun c_1 => ?_)
  · skip
    refine lv_iconst (v := 1) hx hb dX4_clock_12 (by decide) ?_
    refine mp_put F hK hin hN hA hP hS 16 n cm 1 lm rfl (by decide) (by decide +kernel) rfl rfl dX4_clock_13 (fun H locs hP hS => ?_)
    refine lv_aload_n hx hb dX4_clock_16 rfl (lv_at hl 0 rfl) ?_
    refine mg_get F hK hin hP 16 (by decide) (by decide +kernel) rfl dX4_clock_17 ?_
    refine lv_if_ne (tgt := 32) hx hb dX4_clock_20 (by decide) (fun _ => ?_) (fun z9 => absurd z9 (by decide))
    refine lv_iconst (v := 0) hx hb dX4_clock_32 (by decide) ?_
    exact wr_reti F hr hlocks hP hS (by simp [eqQ, mClock, bI, c_1]) dX4_clock_33
  · skip
    refine lv_iconst (v := 0) hx hb dX4_clock_8 (by decide) ?_
    refine lv_goto (tgt := 13) hx hb dX4_clock_9 (by decide) ?_
    refine mp_put F hK hin hN hA hP hS 16 n cm 0 lm rfl (by decide) (by decide +kernel) rfl rfl dX4_clock_13 (fun H locs hP hS => ?_)
    refine lv_aload_n hx hb dX4_clock_16 rfl (lv_at hl 0 rfl) ?_
    refine mg_get F hK hin hP 16 (by decide) (by decide +kernel) rfl dX4_clock_17 ?_
    refine lv_if_ne (tgt := 32) hx hb dX4_clock_20 (by decide) (fun z9 => absurd z9 (by decide)) (fun _ => ?_)
    refine lv_aload_n hx hb dX4_clock_23 rfl (lv_at hl 0 rfl) ?_
    refine mg_get F hK hin hP 10 (by decide) (by decide +kernel) rfl dX4_clock_24 ?_
    refine lv_iload_n hx hb dX4_clock_27 rfl (lv_at hl 1 rfl) ?_
    obtain ⟨vf, hvf, evf⟩ := in4 (x := f)  (by first | exact c_1)
    have nvf : jn f = vf := by rw [evf]; exact jn_nI (by omega)
    refine mg_ald F hK hP 10 10 5 rfl vf evf (by omega) (by decide) dX4_clock_28 ?_
    refine lv_goto (tgt := 33) hx hb dX4_clock_29 (by decide) ?_
    exact wr_reti F hr hlocks hP hS (by simp [eqQ, mClock, bI, c_1, nvf]) dX4_clock_33
set_option maxHeartbeats 4000000 in
set_option maxRecDepth 100000 in
theorem mc_count {l : Launch} {D : va_G} {cI cZ : ClassId} {h : Nat} {q : Nat → Nat} (hN : (mAd h q).Nodup) {n cm : Nat} {th : Int32} {lm : Nat} {a : Nat → Nat → Int32} {kn : Nat → Bool} (f : Int32) (fo : Int32) (I : mI n cm a) : wr_Met l yX4_count wsX4_count 4 95 D h q cI cZ (mW h q cI cZ n cm th lm a kn) [.ref h, .int f, .int fo] rI (eqQ (mCount n cm a kn f fo)) := by
  refine wr_start rfl (by decide +kernel) (Nat.le_of_ble_eq_true rfl) (fun p e s m below meth c F hr hlocks hK H locs hP hS ls hl => ?_)
  have hl : lv_has ls 3 [(0, .ref h), (1, .int f), (2, .int fo)] := hl
  have hx := F.1
  have hb := F.2.1
  have hA : ∀ x, x ∈ mAd h q → mF h q x := fun _ z => z
  have hin : ∀ w ∈ wsX40, w ∈ wsX4_count := fun _ z => List.mem_cons_of_mem _ (List.mem_append_right _ z)
  have hn := I.1
  have hcm := I.2.1
  refine lv_aload_n hx hb dX4_count_0 rfl (lv_at hl 0 rfl) ?_
  refine lv_iload_n hx hb dX4_count_1 rfl (lv_at hl 1 rfl) ?_
  refine ro_callS F hK [.int f] (mc_isFridge f ) (va_cwS 1 F.2.2.2.2 gX4_count_X4_isFridge rfl rfl rfl (by decide +kernel) ⟨Nat.le_of_ble_eq_true rfl, Nat.le_of_ble_eq_true rfl⟩) rfl hl.1 rfl (lv_room (Nat.le_of_ble_eq_true rfl)) ⟨Nat.zero_le _, Nat.zero_le _⟩ dX4_count_2 ?_
  refine lw_beq (tgt := 19) hx hb dX4_count_5 (by decide) (fun c_1 => ?_) (fun c_1 => ?_)
  · skip
    refine lv_iconst (v := 1) hx hb dX4_count_19 (by decide) ?_
    refine mp_put F hK hin hN hA hP hS 16 n cm 1 lm rfl (by decide) (by decide +kernel) rfl rfl dX4_count_20 (fun H locs hP hS => ?_)
    refine lv_aload_n hx hb dX4_count_23 rfl (lv_at hl 0 rfl) ?_
    refine mg_get F hK hin hP 16 (by decide) (by decide +kernel) rfl dX4_count_24 ?_
    refine lv_if_ne (tgt := 39) hx hb dX4_count_27 (by decide) (fun _ => ?_) (fun z9 => absurd z9 (by decide))
    refine lv_iconst (v := 0) hx hb dX4_count_39 (by decide) ?_
    exact wr_reti F hr hlocks hP hS (by simp [eqQ, mCount, bI, c_1]) dX4_count_40
  · skip
    refine lv_iload_n hx hb dX4_count_8 rfl (lv_at hl 2 rfl) ?_
    refine ro_callS F hK [.int fo] (mc_isFood fo ) (va_cwS 1 F.2.2.2.2 gX4_count_X4_isFood rfl rfl rfl (by decide +kernel) ⟨Nat.le_of_ble_eq_true rfl, Nat.le_of_ble_eq_true rfl⟩) rfl hl.1 rfl (lv_room (Nat.le_of_ble_eq_true rfl)) ⟨Nat.zero_le _, Nat.zero_le _⟩ dX4_count_9 ?_
    refine lw_beq (tgt := 19) hx hb dX4_count_12 (by decide) (fun c_2 => ?_) (fun c_2 => ?_)
    · skip
      refine lv_iconst (v := 1) hx hb dX4_count_19 (by decide) ?_
      refine mp_put F hK hin hN hA hP hS 16 n cm 1 lm rfl (by decide) (by decide +kernel) rfl rfl dX4_count_20 (fun H locs hP hS => ?_)
      refine lv_aload_n hx hb dX4_count_23 rfl (lv_at hl 0 rfl) ?_
      refine mg_get F hK hin hP 16 (by decide) (by decide +kernel) rfl dX4_count_24 ?_
      refine lv_if_ne (tgt := 39) hx hb dX4_count_27 (by decide) (fun _ => ?_) (fun z9 => absurd z9 (by decide))
      refine lv_iconst (v := 0) hx hb dX4_count_39 (by decide) ?_
      exact wr_reti F hr hlocks hP hS (by simp [eqQ, mCount, bI, c_1, c_2]) dX4_count_40
    · skip
      refine lv_iconst (v := 0) hx hb dX4_count_15 (by decide) ?_
      refine lv_goto (tgt := 20) hx hb dX4_count_16 (by decide) ?_
      refine mp_put F hK hin hN hA hP hS 16 n cm 0 lm rfl (by decide) (by decide +kernel) rfl rfl dX4_count_20 (fun H locs hP hS => ?_)
      refine lv_aload_n hx hb dX4_count_23 rfl (lv_at hl 0 rfl) ?_
      refine mg_get F hK hin hP 16 (by decide) (by decide +kernel) rfl dX4_count_24 ?_
      refine lv_if_ne (tgt := 39) hx hb dX4_count_27 (by decide) (fun z9 => absurd z9 (by decide)) (fun _ => ?_)
      refine lv_aload_n hx hb dX4_count_30 rfl (lv_at hl 0 rfl) ?_
      refine lv_iload_n hx hb dX4_count_31 rfl (lv_at hl 1 rfl) ?_
      refine lv_iload_n hx hb dX4_count_32 rfl (lv_at hl 2 rfl) ?_
      obtain ⟨vf, hvf, evf⟩ := in4 (x := f)  (by first | exact c_2 | exact c_1)
      have nvf : jn f = vf := by rw [evf]; exact jn_nI (by omega)
      obtain ⟨vfo, hvfo, evfo⟩ := in7 (x := fo)  (by first | exact c_2 | exact c_1)
      have nvfo : jn fo = vfo := by rw [evfo]; exact jn_nI (by omega)
      refine ro_callV F hK [.int (nI vf), .int (nI vfo)] (mc_countOf hP vf vfo (by first | assumption | omega) (by first | assumption | omega) (by first | assumption | omega)) (cwV 2 F.2.2.2.2 gX4_count_X4_countOf rfl rfl rfl (by decide +kernel) ⟨Nat.le_of_ble_eq_true rfl, Nat.le_of_ble_eq_true rfl⟩) (mg_rc hK hP) rfl hl.1 (by first | (rw [evf, evfo]; done) | (rw [evf, evfo]; rfl)) (lv_room (Nat.le_of_ble_eq_true rfl)) ⟨Nat.zero_le _, Nat.zero_le _⟩ dX4_count_33 ?_
      refine lv_goto (tgt := 40) hx hb dX4_count_36 (by decide) ?_
      exact wr_reti F hr hlocks hP hS (by simp [eqQ, mCount, bI, c_1, c_2, nvf, nvfo]) dX4_count_40
set_option maxHeartbeats 4000000 in
set_option maxRecDepth 100000 in
theorem mc_countByAll {l : Launch} {D : va_G} {cI cZ : ClassId} {h : Nat} {q : Nat → Nat} (hN : (mAd h q).Nodup) {n cm : Nat} {th : Int32} {lm : Nat} {a : Nat → Nat → Int32} {kn : Nat → Bool} (fo : Int32) (I : mI n cm a) : wr_Met l yX4_countByAll wsX4_countByAll 4 95 D h q cI cZ (mW h q cI cZ n cm th lm a kn) [.ref h, .int fo] rI (eqQ (mCountByAll n cm a kn fo)) := by
  refine wr_start rfl (by decide +kernel) (Nat.le_of_ble_eq_true rfl) (fun p e s m below meth c F hr hlocks hK H locs hP hS ls hl => ?_)
  have hl : lv_has ls 2 [(0, .ref h), (1, .int fo)] := hl
  have hx := F.1
  have hb := F.2.1
  have hA : ∀ x, x ∈ mAd h q → mF h q x := fun _ z => z
  have hin : ∀ w ∈ wsX40, w ∈ wsX4_countByAll := fun _ z => List.mem_cons_of_mem _ (List.mem_append_right _ z)
  have hn := I.1
  have hcm := I.2.1
  refine lv_aload_n hx hb dX4_countByAll_0 rfl (lv_at hl 0 rfl) ?_
  refine lv_iload_n hx hb dX4_countByAll_1 rfl (lv_at hl 1 rfl) ?_
  refine ro_callS F hK [.int fo] (mc_isFood fo ) (va_cwS 1 F.2.2.2.2 gX4_countByAll_X4_isFood rfl rfl rfl (by decide +kernel) ⟨Nat.le_of_ble_eq_true rfl, Nat.le_of_ble_eq_true rfl⟩) rfl hl.1 rfl (lv_room (Nat.le_of_ble_eq_true rfl)) ⟨Nat.zero_le _, Nat.zero_le _⟩ dX4_countByAll_2 ?_
  refine lw_beq (tgt := 12) hx hb dX4_countByAll_5 (by decide) (fun c_1 => ?_) (fun c_1 => ?_)
  · skip
    refine lv_iconst (v := 1) hx hb dX4_countByAll_12 (by decide) ?_
    refine mp_put F hK hin hN hA hP hS 16 n cm 1 lm rfl (by decide) (by decide +kernel) rfl rfl dX4_countByAll_13 (fun H locs hP hS => ?_)
    refine lv_aload_n hx hb dX4_countByAll_16 rfl (lv_at hl 0 rfl) ?_
    refine mg_get F hK hin hP 16 (by decide) (by decide +kernel) rfl dX4_countByAll_17 ?_
    refine lv_if_ne (tgt := 32) hx hb dX4_countByAll_20 (by decide) (fun _ => ?_) (fun z9 => absurd z9 (by decide))
    refine lv_iconst (v := 0) hx hb dX4_countByAll_32 (by decide) ?_
    exact wr_reti F hr hlocks hP hS (by simp [eqQ, mCountByAll, bI, c_1]) dX4_countByAll_33
  · skip
    refine lv_iconst (v := 0) hx hb dX4_countByAll_8 (by decide) ?_
    refine lv_goto (tgt := 13) hx hb dX4_countByAll_9 (by decide) ?_
    refine mp_put F hK hin hN hA hP hS 16 n cm 0 lm rfl (by decide) (by decide +kernel) rfl rfl dX4_countByAll_13 (fun H locs hP hS => ?_)
    refine lv_aload_n hx hb dX4_countByAll_16 rfl (lv_at hl 0 rfl) ?_
    refine mg_get F hK hin hP 16 (by decide) (by decide +kernel) rfl dX4_countByAll_17 ?_
    refine lv_if_ne (tgt := 32) hx hb dX4_countByAll_20 (by decide) (fun z9 => absurd z9 (by decide)) (fun _ => ?_)
    refine lv_aload_n hx hb dX4_countByAll_23 rfl (lv_at hl 0 rfl) ?_
    refine lv_iconst (v := 5) hx hb dX4_countByAll_24 (by decide) ?_
    refine lv_iload_n hx hb dX4_countByAll_25 rfl (lv_at hl 1 rfl) ?_
    obtain ⟨vfo, hvfo, evfo⟩ := in7 (x := fo)  (by first | exact c_1)
    have nvfo : jn fo = vfo := by rw [evfo]; exact jn_nI (by omega)
    refine ro_callV F hK [.int 5, .int (nI vfo)] (mc_countOf hP 5 vfo (by first | assumption | omega) (by first | assumption | omega) (by first | assumption | omega)) (cwV 2 F.2.2.2.2 gX4_countByAll_X4_countOf rfl rfl rfl (by decide +kernel) ⟨Nat.le_of_ble_eq_true rfl, Nat.le_of_ble_eq_true rfl⟩) (mg_rc hK hP) rfl hl.1 (by first | (rw [evfo]; done) | (rw [evfo]; rfl)) (lv_room (Nat.le_of_ble_eq_true rfl)) ⟨Nat.zero_le _, Nat.zero_le _⟩ dX4_countByAll_26 ?_
    refine lv_goto (tgt := 33) hx hb dX4_countByAll_29 (by decide) ?_
    exact wr_reti F hr hlocks hP hS (by simp [eqQ, mCountByAll, bI, c_1, nvfo]) dX4_countByAll_33
set_option maxHeartbeats 4000000 in
set_option maxRecDepth 100000 in
theorem mc_cake {l : Launch} {D : va_G} {cI cZ : ClassId} {h : Nat} {q : Nat → Nat} (hN : (mAd h q).Nodup) {n cm : Nat} {th : Int32} {lm : Nat} {a : Nat → Nat → Int32} {kn : Nat → Bool} (f : Int32) (k : Int32) (I : mI n cm a) : wr_Met l yX4_cake wsX4_cake 3 65 D h q cI cZ (mW h q cI cZ n cm th lm a kn) [.ref h, .int f, .int k] rI (eqQ (mCake n cm a kn f k)) := by
  refine wr_start rfl (by decide +kernel) (Nat.le_of_ble_eq_true rfl) (fun p e s m below meth c F hr hlocks hK H locs hP hS ls hl => ?_)
  have hl : lv_has ls 3 [(0, .ref h), (1, .int f), (2, .int k)] := hl
  have hx := F.1
  have hb := F.2.1
  have hA : ∀ x, x ∈ mAd h q → mF h q x := fun _ z => z
  have hin : ∀ w ∈ wsX40, w ∈ wsX4_cake := fun _ z => List.mem_cons_of_mem _ (List.mem_append_right _ z)
  have hn := I.1
  have hcm := I.2.1
  refine lv_aload_n hx hb dX4_cake_0 rfl (lv_at hl 0 rfl) ?_
  refine lv_iload_n hx hb dX4_cake_1 rfl (lv_at hl 1 rfl) ?_
  refine lv_iload_n hx hb dX4_cake_2 rfl (lv_at hl 2 rfl) ?_
  refine wr_callVi F hK [.int f, .int k] (mc_areCake hN f k ) (cwV 2 F.2.2.2.2 gX4_cake_X4_areCake rfl rfl rfl (by decide +kernel) ⟨Nat.le_of_ble_eq_true rfl, Nat.le_of_ble_eq_true rfl⟩) (mg_rc hK hP) hP hS hA rfl hl.1 rfl (lv_room (Nat.le_of_ble_eq_true rfl)) ⟨Nat.zero_le _, Nat.zero_le _⟩ dX4_cake_3 (fun r_w_1 n_w_1 cm_w_1 th_w_1 lm_w_1 a_w_1 kn_w_1 H locs hp_w_1 hP hS => ?_)
  obtain ⟨e1_w_1, e2_w_1, e3_w_1, e4_w_1, e5_w_1, e6_w_1, e7_w_1⟩ := hp_w_1
  rw [e2_w_1, e3_w_1, e4_w_1, e5_w_1, e6_w_1, e7_w_1] at hP
  rw [e1_w_1]
  refine lw_beq (tgt := 18) hx hb dX4_cake_6 (by decide) (fun c_2 => ?_) (fun c_2 => ?_)
  · skip
    refine lv_iconst (v := 0) hx hb dX4_cake_18 (by decide) ?_
    exact wr_reti F hr hlocks hP hS (by simp [eqQ, mCake, bI, c_2]) dX4_cake_19
  · skip
    refine lv_aload_n hx hb dX4_cake_9 rfl (lv_at hl 0 rfl) ?_
    refine lv_iload_n hx hb dX4_cake_10 rfl (lv_at hl 1 rfl) ?_
    refine lv_iload_n hx hb dX4_cake_11 rfl (lv_at hl 2 rfl) ?_
    obtain ⟨vf, hvf, evf⟩ := in4 (x := f)  (by first | exact (and_l c_2) | exact (and_r c_2) | exact (and_l (and_l c_2)) | exact (and_r (and_l c_2)))
    have nvf : jn f = vf := by rw [evf]; exact jn_nI (by omega)
    obtain ⟨vk, hvk, evk⟩ := inC (x := k) hcm (by first | exact (and_l c_2) | exact (and_r c_2) | exact (and_l (and_l c_2)) | exact (and_r (and_l c_2)))
    have nvk : jn k = vk := by rw [evk]; exact jn_nI (by omega)
    refine ro_callV F hK [.int (nI vf), .int (nI vk)] (mc_stateOf hP vf vk (by first | assumption | omega) (by first | assumption | omega) (by first | assumption | omega)) (cwV 2 F.2.2.2.2 gX4_cake_X4_stateOf rfl rfl rfl (by decide +kernel) ⟨Nat.le_of_ble_eq_true rfl, Nat.le_of_ble_eq_true rfl⟩) (mg_rc hK hP) rfl hl.1 (by first | (rw [evf, evk]; done) | (rw [evf, evk]; rfl)) (lv_room (Nat.le_of_ble_eq_true rfl)) ⟨Nat.zero_le _, Nat.zero_le _⟩ dX4_cake_12 ?_
    refine lv_goto (tgt := 19) hx hb dX4_cake_15 (by decide) ?_
    exact wr_reti F hr hlocks hP hS (by simp [eqQ, mCake, bI, c_2, nvf, nvk]) dX4_cake_19
set_option maxHeartbeats 4000000 in
set_option maxRecDepth 100000 in
theorem mc_lacks {l : Launch} {D : va_G} {cI cZ : ClassId} {h : Nat} {q : Nat → Nat} (hN : (mAd h q).Nodup) {n cm : Nat} {th : Int32} {lm : Nat} {a : Nat → Nat → Int32} {kn : Nat → Bool} (f : Int32) (k : Int32) (fo : Int32) (I : mI n cm a) : wr_Met l yX4_lacks wsX4_lacks 7 169 D h q cI cZ (mW h q cI cZ n cm th lm a kn) [.ref h, .int f, .int k, .int fo] rI (eqQ (mLacks n cm a kn f k fo)) := by
  refine wr_start rfl (by decide +kernel) (Nat.le_of_ble_eq_true rfl) (fun p e s m below meth c F hr hlocks hK H locs hP hS ls hl => ?_)
  have hl : lv_has ls 4 [(0, .ref h), (1, .int f), (2, .int k), (3, .int fo)] := hl
  have hx := F.1
  have hb := F.2.1
  have hA : ∀ x, x ∈ mAd h q → mF h q x := fun _ z => z
  have hin : ∀ w ∈ wsX40, w ∈ wsX4_lacks := fun _ z => List.mem_cons_of_mem _ (List.mem_append_right _ z)
  have hn := I.1
  have hcm := I.2.1
  refine lv_aload_n hx hb dX4_lacks_0 rfl (lv_at hl 0 rfl) ?_
  refine lv_iload_n hx hb dX4_lacks_1 rfl (lv_at hl 1 rfl) ?_
  refine ro_callS F hK [.int f] (mc_isFridge f ) (va_cwS 1 F.2.2.2.2 gX4_lacks_X4_isFridge rfl rfl rfl (by decide +kernel) ⟨Nat.le_of_ble_eq_true rfl, Nat.le_of_ble_eq_true rfl⟩) rfl hl.1 rfl (lv_room (Nat.le_of_ble_eq_true rfl)) ⟨Nat.zero_le _, Nat.zero_le _⟩ dX4_lacks_2 ?_
  refine lw_beq (tgt := 27) hx hb dX4_lacks_5 (by decide) (fun c_1 => ?_) (fun c_1 => ?_)
  · skip
    refine lv_iconst (v := 1) hx hb dX4_lacks_27 (by decide) ?_
    refine mp_put F hK hin hN hA hP hS 16 n cm 1 lm rfl (by decide) (by decide +kernel) rfl rfl dX4_lacks_28 (fun H locs hP hS => ?_)
    refine lv_aload_n hx hb dX4_lacks_31 rfl (lv_at hl 0 rfl) ?_
    refine mg_get F hK hin hP 16 (by decide) (by decide +kernel) rfl dX4_lacks_32 ?_
    refine lv_if_ne (tgt := 58) hx hb dX4_lacks_35 (by decide) (fun _ => ?_) (fun z9 => absurd z9 (by decide))
    refine lv_iconst (v := 0) hx hb dX4_lacks_58 (by decide) ?_
    exact wr_reti F hr hlocks hP hS (by simp [eqQ, mLacks, bI, c_1]) dX4_lacks_59
  · skip
    refine lv_aload_n hx hb dX4_lacks_8 rfl (lv_at hl 0 rfl) ?_
    refine lv_iload_n hx hb dX4_lacks_9 rfl (lv_at hl 2 rfl) ?_
    refine ro_callV F hK [.int k] (mc_isCake hP k ) (cwV 1 F.2.2.2.2 gX4_lacks_X4_isCake rfl rfl rfl (by decide +kernel) ⟨Nat.le_of_ble_eq_true rfl, Nat.le_of_ble_eq_true rfl⟩) (mg_rc hK hP) rfl hl.1 rfl (lv_room (Nat.le_of_ble_eq_true rfl)) ⟨Nat.zero_le _, Nat.zero_le _⟩ dX4_lacks_10 ?_
    refine lw_beq (tgt := 27) hx hb dX4_lacks_13 (by decide) (fun c_2 => ?_) (fun c_2 => ?_)
    · skip
      refine lv_iconst (v := 1) hx hb dX4_lacks_27 (by decide) ?_
      refine mp_put F hK hin hN hA hP hS 16 n cm 1 lm rfl (by decide) (by decide +kernel) rfl rfl dX4_lacks_28 (fun H locs hP hS => ?_)
      refine lv_aload_n hx hb dX4_lacks_31 rfl (lv_at hl 0 rfl) ?_
      refine mg_get F hK hin hP 16 (by decide) (by decide +kernel) rfl dX4_lacks_32 ?_
      refine lv_if_ne (tgt := 58) hx hb dX4_lacks_35 (by decide) (fun _ => ?_) (fun z9 => absurd z9 (by decide))
      refine lv_iconst (v := 0) hx hb dX4_lacks_58 (by decide) ?_
      exact wr_reti F hr hlocks hP hS (by simp [eqQ, mLacks, bI, c_1, c_2]) dX4_lacks_59
    · skip
      refine lv_iload_n hx hb dX4_lacks_16 rfl (lv_at hl 3 rfl) ?_
      refine ro_callS F hK [.int fo] (mc_isFood fo ) (va_cwS 1 F.2.2.2.2 gX4_lacks_X4_isFood rfl rfl rfl (by decide +kernel) ⟨Nat.le_of_ble_eq_true rfl, Nat.le_of_ble_eq_true rfl⟩) rfl hl.1 rfl (lv_room (Nat.le_of_ble_eq_true rfl)) ⟨Nat.zero_le _, Nat.zero_le _⟩ dX4_lacks_17 ?_
      refine lw_beq (tgt := 27) hx hb dX4_lacks_20 (by decide) (fun c_3 => ?_) (fun c_3 => ?_)
      · skip
        refine lv_iconst (v := 1) hx hb dX4_lacks_27 (by decide) ?_
        refine mp_put F hK hin hN hA hP hS 16 n cm 1 lm rfl (by decide) (by decide +kernel) rfl rfl dX4_lacks_28 (fun H locs hP hS => ?_)
        refine lv_aload_n hx hb dX4_lacks_31 rfl (lv_at hl 0 rfl) ?_
        refine mg_get F hK hin hP 16 (by decide) (by decide +kernel) rfl dX4_lacks_32 ?_
        refine lv_if_ne (tgt := 58) hx hb dX4_lacks_35 (by decide) (fun _ => ?_) (fun z9 => absurd z9 (by decide))
        refine lv_iconst (v := 0) hx hb dX4_lacks_58 (by decide) ?_
        exact wr_reti F hr hlocks hP hS (by simp [eqQ, mLacks, bI, c_1, c_2, c_3]) dX4_lacks_59
      · skip
        refine lv_iconst (v := 0) hx hb dX4_lacks_23 (by decide) ?_
        refine lv_goto (tgt := 28) hx hb dX4_lacks_24 (by decide) ?_
        refine mp_put F hK hin hN hA hP hS 16 n cm 0 lm rfl (by decide) (by decide +kernel) rfl rfl dX4_lacks_28 (fun H locs hP hS => ?_)
        refine lv_aload_n hx hb dX4_lacks_31 rfl (lv_at hl 0 rfl) ?_
        refine mg_get F hK hin hP 16 (by decide) (by decide +kernel) rfl dX4_lacks_32 ?_
        refine lv_if_ne (tgt := 58) hx hb dX4_lacks_35 (by decide) (fun z9 => absurd z9 (by decide)) (fun _ => ?_)
        refine lv_aload_n hx hb dX4_lacks_38 rfl (lv_at hl 0 rfl) ?_
        refine lv_iload_n hx hb dX4_lacks_39 rfl (lv_at hl 1 rfl) ?_
        refine lv_iload_n hx hb dX4_lacks_40 rfl (lv_at hl 2 rfl) ?_
        obtain ⟨vf, hvf, evf⟩ := in4 (x := f)  (by first | exact c_3 | exact c_2 | exact c_1)
        have nvf : jn f = vf := by rw [evf]; exact jn_nI (by omega)
        obtain ⟨vk, hvk, evk⟩ := inC (x := k) hcm (by first | exact c_3 | exact c_2 | exact c_1)
        have nvk : jn k = vk := by rw [evk]; exact jn_nI (by omega)
        refine ro_callV F hK [.int (nI vf), .int (nI vk)] (mc_stateOf hP vf vk (by first | assumption | omega) (by first | assumption | omega) (by first | assumption | omega)) (cwV 2 F.2.2.2.2 gX4_lacks_X4_stateOf rfl rfl rfl (by decide +kernel) ⟨Nat.le_of_ble_eq_true rfl, Nat.le_of_ble_eq_true rfl⟩) (mg_rc hK hP) rfl hl.1 (by first | (rw [evf, evk]; done) | (rw [evf, evk]; rfl)) (lv_room (Nat.le_of_ble_eq_true rfl)) ⟨Nat.zero_le _, Nat.zero_le _⟩ dX4_lacks_41 ?_
        refine lv_iconst (v := 1) hx hb dX4_lacks_44 (by decide) ?_
        refine lv_icmp_ne (tgt := 58) hx hb dX4_lacks_45 (by decide) (fun c_4 => ?_) (fun c_4 => ?_)
        · skip
          refine lv_iconst (v := 0) hx hb dX4_lacks_58 (by decide) ?_
          exact wr_reti F hr hlocks hP hS (by simp [eqQ, mLacks, bI, c_1, c_2, c_3, nvf, nvk, c_4]) dX4_lacks_59
        · skip
          refine lv_aload_n hx hb dX4_lacks_48 rfl (lv_at hl 0 rfl) ?_
          refine lv_iload_n hx hb dX4_lacks_49 rfl (lv_at hl 1 rfl) ?_
          refine lv_iload_n hx hb dX4_lacks_50 rfl (lv_at hl 2 rfl) ?_
          refine lv_iload_n hx hb dX4_lacks_51 rfl (lv_at hl 3 rfl) ?_
          obtain ⟨vfo, hvfo, evfo⟩ := in7 (x := fo)  (by first | exact c_3 | exact c_2 | exact c_1)
          have nvfo : jn fo = vfo := by rw [evfo]; exact jn_nI (by omega)
          refine ro_callV F hK [.int (nI vf), .int (nI vk), .int (nI vfo)] (mc_lackOf hP vf vk vfo (by first | assumption | omega) (by first | assumption | omega) (by first | assumption | omega) (by first | assumption | omega)) (cwV 3 F.2.2.2.2 gX4_lacks_X4_lackOf rfl rfl rfl (by decide +kernel) ⟨Nat.le_of_ble_eq_true rfl, Nat.le_of_ble_eq_true rfl⟩) (mg_rc hK hP) rfl hl.1 (by first | (rw [evf, evk, evfo]; done) | (rw [evf, evk, evfo]; rfl)) (lv_room (Nat.le_of_ble_eq_true rfl)) ⟨Nat.zero_le _, Nat.zero_le _⟩ dX4_lacks_52 ?_
          refine lv_goto (tgt := 59) hx hb dX4_lacks_55 (by decide) ?_
          exact wr_reti F hr hlocks hP hS (by simp [eqQ, mLacks, bI, c_1, c_2, c_3, nvf, nvk, c_4, nvfo]) dX4_lacks_59
set_option maxHeartbeats 4000000 in
set_option maxRecDepth 100000 in
theorem mc_setNeed {l : Launch} {D : va_G} {cI cZ : ClassId} {h : Nat} {q : Nat → Nat} (hN : (mAd h q).Nodup) {n cm : Nat} {th : Int32} {lm : Nat} {a : Nat → Nat → Int32} {kn : Nat → Bool} (r : Int32) (fo : Int32) (t : Int32) (I : mI n cm a) : wr_Met l yX4_setNeed wsX4_setNeed 2 42 D h q cI cZ (mW h q cI cZ n cm th lm a kn) [.ref h, .int r, .int fo, .int t] rI (eqQ (mSetNeed n cm a kn r fo t)) := by
  refine wr_start rfl (by decide +kernel) (Nat.le_of_ble_eq_true rfl) (fun p e s m below meth c F hr hlocks hK H locs hP hS ls hl => ?_)
  have hl : lv_has ls 5 [(0, .ref h), (1, .int r), (2, .int fo), (3, .int t)] := hl
  have hx := F.1
  have hb := F.2.1
  have hA : ∀ x, x ∈ mAd h q → mF h q x := fun _ z => z
  have hin : ∀ w ∈ wsX40, w ∈ wsX4_setNeed := fun _ z => List.mem_cons_of_mem _ (List.mem_append_right _ z)
  have hn := I.1
  have hcm := I.2.1
  refine lv_aload_n hx hb dX4_setNeed_0 rfl (lv_at hl 0 rfl) ?_
  refine lv_iload_n hx hb dX4_setNeed_1 rfl (lv_at hl 1 rfl) ?_
  refine lv_iconst (v := 0) hx hb dX4_setNeed_2 (by decide) ?_
  refine lv_iconst (v := 5) hx hb dX4_setNeed_3 (by decide) ?_
  refine ro_callS F hK [.int r, .int 0, .int 5] (mc_in r 0 5 ) (va_cwS 3 F.2.2.2.2 gX4_setNeed_X4_in rfl rfl rfl (by decide +kernel) ⟨Nat.le_of_ble_eq_true rfl, Nat.le_of_ble_eq_true rfl⟩) rfl hl.1 rfl (lv_room (Nat.le_of_ble_eq_true rfl)) ⟨Nat.zero_le _, Nat.zero_le _⟩ dX4_setNeed_4 ?_
  refine lw_beq (tgt := 17) hx hb dX4_setNeed_7 (by decide) (fun c_1 => ?_) (fun c_1 => ?_)
  · skip
    refine lv_iconst (v := 1) hx hb dX4_setNeed_17 (by decide) ?_
    refine lv_goto (tgt := 35) hx hb dX4_setNeed_18 (by decide) ?_
    refine mp_put F hK hin hN hA hP hS 16 n cm 1 lm rfl (by decide) (by decide +kernel) rfl rfl dX4_setNeed_35 (fun H locs hP hS => ?_)
    refine lv_aload_n hx hb dX4_setNeed_38 rfl (lv_at hl 0 rfl) ?_
    refine mg_get F hK hin hP 16 (by decide) (by decide +kernel) rfl dX4_setNeed_39 ?_
    refine lv_if_le (tgt := 47) hx hb dX4_setNeed_42 (by decide) (fun z9 => absurd z9 (by decide)) (fun _ => ?_)
    refine lv_iconst (v := 0) hx hb dX4_setNeed_45 (by decide) ?_
    exact wr_reti F hr hlocks hP hS (by simp [eqQ, mSetNeed, bI, c_1]) dX4_setNeed_46
  · skip
    refine lv_iload_n hx hb dX4_setNeed_10 rfl (lv_at hl 2 rfl) ?_
    refine ro_callS F hK [.int fo] (mc_isFood fo ) (va_cwS 1 F.2.2.2.2 gX4_setNeed_X4_isFood rfl rfl rfl (by decide +kernel) ⟨Nat.le_of_ble_eq_true rfl, Nat.le_of_ble_eq_true rfl⟩) rfl hl.1 rfl (lv_room (Nat.le_of_ble_eq_true rfl)) ⟨Nat.zero_le _, Nat.zero_le _⟩ dX4_setNeed_11 ?_
    refine lw_bne (tgt := 21) hx hb dX4_setNeed_14 (by decide) (fun c_2 => ?_) (fun c_2 => ?_)
    · skip
      refine lv_iload_n hx hb dX4_setNeed_21 rfl (lv_at hl 3 rfl) ?_
      refine lv_iconst (v := 0) hx hb dX4_setNeed_22 (by decide) ?_
      refine lv_iconst (v := 3) hx hb dX4_setNeed_23 (by decide) ?_
      refine ro_callS F hK [.int t, .int 0, .int 3] (mc_in t 0 3 ) (va_cwS 3 F.2.2.2.2 gX4_setNeed_X4_in rfl rfl rfl (by decide +kernel) ⟨Nat.le_of_ble_eq_true rfl, Nat.le_of_ble_eq_true rfl⟩) rfl hl.1 rfl (lv_room (Nat.le_of_ble_eq_true rfl)) ⟨Nat.zero_le _, Nat.zero_le _⟩ dX4_setNeed_24 ?_
      refine lw_bne (tgt := 34) hx hb dX4_setNeed_27 (by decide) (fun c_3 => ?_) (fun c_3 => ?_)
      · skip
        refine lv_iconst (v := 0) hx hb dX4_setNeed_34 (by decide) ?_
        refine mp_put F hK hin hN hA hP hS 16 n cm 0 lm rfl (by decide) (by decide +kernel) rfl rfl dX4_setNeed_35 (fun H locs hP hS => ?_)
        refine lv_aload_n hx hb dX4_setNeed_38 rfl (lv_at hl 0 rfl) ?_
        refine mg_get F hK hin hP 16 (by decide) (by decide +kernel) rfl dX4_setNeed_39 ?_
        refine lv_if_le (tgt := 47) hx hb dX4_setNeed_42 (by decide) (fun _ => ?_) (fun z9 => absurd (by decide) z9)
        refine lv_aload_n hx hb dX4_setNeed_47 rfl (lv_at hl 0 rfl) ?_
        refine mg_get F hK hin hP 11 (by decide) (by decide +kernel) rfl dX4_setNeed_48 ?_
        refine lv_bipush (v := 8) hx hb dX4_setNeed_51 (by decide) ?_
        refine lv_iload_n hx hb dX4_setNeed_53 rfl (lv_at hl 1 rfl) ?_
        obtain ⟨vr, hvr, evr⟩ := in5 (x := r)  (by first | exact c_3 | exact c_2 | exact c_1)
        have nvr : jn r = vr := by rw [evr]; exact jn_nI (by omega)
        refine lw_N vr evr ?_
        refine lw_mul hx hb (i := 8) (j := vr) dX4_setNeed_54 ?_
        refine lv_iload_n hx hb dX4_setNeed_55 rfl (lv_at hl 2 rfl) ?_
        obtain ⟨vfo, hvfo, evfo⟩ := in7 (x := fo)  (by first | exact c_3 | exact c_2 | exact c_1)
        have nvfo : jn fo = vfo := by rw [evfo]; exact jn_nI (by omega)
        refine lw_N vfo evfo ?_
        refine lw_add hx hb (i := (8 * vr)) (j := vfo) dX4_setNeed_56 ?_
        refine mg_ald F hK hP 11 11 48 rfl ((8 * vr) + vfo) rfl (by omega) (by decide) dX4_setNeed_57 ?_
        refine lv_istore (lv' := [(4, .int (a 11 ((8 * vr) + vfo))), (0, .ref h), (1, .int r), (2, .int fo), (3, .int t)]) hx hb dX4_setNeed_58 hl (by decide) rfl (fun ls hl => ?_)
        refine lv_aload_n hx hb dX4_setNeed_60 rfl (lv_at hl 1 rfl) ?_
        refine mg_get F hK hin hP 11 (by decide) (by decide +kernel) rfl dX4_setNeed_61 ?_
        refine lv_bipush (v := 8) hx hb dX4_setNeed_64 (by decide) ?_
        refine lv_iload_n hx hb dX4_setNeed_66 rfl (lv_at hl 2 rfl) ?_
        refine lw_N vr evr ?_
        refine lw_mul hx hb (i := 8) (j := vr) dX4_setNeed_67 ?_
        refine lv_iload_n hx hb dX4_setNeed_68 rfl (lv_at hl 3 rfl) ?_
        refine lw_N vfo evfo ?_
        refine lw_add hx hb (i := (8 * vr)) (j := vfo) dX4_setNeed_69 ?_
        refine lv_iload_n hx hb dX4_setNeed_70 rfl (lv_at hl 4 rfl) ?_
        refine mp_ast F hK hN hA hP hS 11 11 48 rfl ((8 * vr) + vfo) rfl (by omega) (by decide) rfl dX4_setNeed_71 (fun H locs hP hS => ?_)
        refine lv_iload hx hb dX4_setNeed_72 (lv_at hl 0 rfl) ?_
        exact wr_reti F hr hlocks hP hS (by simp [eqQ, mSetNeed, bI, c_1, c_2, c_3, nvr, nvfo]) dX4_setNeed_74
      · skip
        refine lv_iconst (v := 2) hx hb dX4_setNeed_30 (by decide) ?_
        refine lv_goto (tgt := 35) hx hb dX4_setNeed_31 (by decide) ?_
        refine mp_put F hK hin hN hA hP hS 16 n cm 2 lm rfl (by decide) (by decide +kernel) rfl rfl dX4_setNeed_35 (fun H locs hP hS => ?_)
        refine lv_aload_n hx hb dX4_setNeed_38 rfl (lv_at hl 0 rfl) ?_
        refine mg_get F hK hin hP 16 (by decide) (by decide +kernel) rfl dX4_setNeed_39 ?_
        refine lv_if_le (tgt := 47) hx hb dX4_setNeed_42 (by decide) (fun z9 => absurd z9 (by decide)) (fun _ => ?_)
        refine lv_iconst (v := 0) hx hb dX4_setNeed_45 (by decide) ?_
        exact wr_reti F hr hlocks hP hS (by simp [eqQ, mSetNeed, bI, c_1, c_2, c_3]) dX4_setNeed_46
    · skip
      refine lv_iconst (v := 1) hx hb dX4_setNeed_17 (by decide) ?_
      refine lv_goto (tgt := 35) hx hb dX4_setNeed_18 (by decide) ?_
      refine mp_put F hK hin hN hA hP hS 16 n cm 1 lm rfl (by decide) (by decide +kernel) rfl rfl dX4_setNeed_35 (fun H locs hP hS => ?_)
      refine lv_aload_n hx hb dX4_setNeed_38 rfl (lv_at hl 0 rfl) ?_
      refine mg_get F hK hin hP 16 (by decide) (by decide +kernel) rfl dX4_setNeed_39 ?_
      refine lv_if_le (tgt := 47) hx hb dX4_setNeed_42 (by decide) (fun z9 => absurd z9 (by decide)) (fun _ => ?_)
      refine lv_iconst (v := 0) hx hb dX4_setNeed_45 (by decide) ?_
      exact wr_reti F hr hlocks hP hS (by simp [eqQ, mSetNeed, bI, c_1, c_2]) dX4_setNeed_46
set_option maxHeartbeats 4000000 in
set_option maxRecDepth 100000 in
theorem mc_guest {l : Launch} {D : va_G} {cI cZ : ClassId} {h : Nat} {q : Nat → Nat} (hN : (mAd h q).Nodup) {n cm : Nat} {th : Int32} {lm : Nat} {a : Nat → Nat → Int32} {kn : Nat → Bool} (f : Int32) (g : Int32) (d1 : Int32) (d2 : Int32) (ds : Int32) (I : mI n cm a) : wr_Met l yX4_guest wsX4_guest 2 42 D h q cI cZ (mW h q cI cZ n cm th lm a kn) [.ref h, .int f, .int g, .int d1, .int d2, .int ds] rI (eqQ (mGuest n cm a kn f g d1 d2 ds)) := by
  refine wr_start rfl (by decide +kernel) (Nat.le_of_ble_eq_true rfl) (fun p e s m below meth c F hr hlocks hK H locs hP hS ls hl => ?_)
  have hl : lv_has ls 6 [(0, .ref h), (1, .int f), (2, .int g), (3, .int d1), (4, .int d2), (5, .int ds)] := hl
  have hx := F.1
  have hb := F.2.1
  have hA : ∀ x, x ∈ mAd h q → mF h q x := fun _ z => z
  have hin : ∀ w ∈ wsX40, w ∈ wsX4_guest := fun _ z => List.mem_cons_of_mem _ (List.mem_append_right _ z)
  have hn := I.1
  have hcm := I.2.1
  refine lv_aload_n hx hb dX4_guest_0 rfl (lv_at hl 0 rfl) ?_
  refine lv_iload_n hx hb dX4_guest_1 rfl (lv_at hl 1 rfl) ?_
  refine ro_callS F hK [.int f] (mc_isFridge f ) (va_cwS 1 F.2.2.2.2 gX4_guest_X4_isFridge rfl rfl rfl (by decide +kernel) ⟨Nat.le_of_ble_eq_true rfl, Nat.le_of_ble_eq_true rfl⟩) rfl hl.1 rfl (lv_room (Nat.le_of_ble_eq_true rfl)) ⟨Nat.zero_le _, Nat.zero_le _⟩ dX4_guest_2 ?_
  refine lw_beq (tgt := 18) hx hb dX4_guest_5 (by decide) (fun c_1 => ?_) (fun c_1 => ?_)
  · skip
    refine lv_iconst (v := 1) hx hb dX4_guest_18 (by decide) ?_
    refine lv_goto (tgt := 72) hx hb dX4_guest_19 (by decide) ?_
    refine mp_put F hK hin hN hA hP hS 16 n cm 1 lm rfl (by decide) (by decide +kernel) rfl rfl dX4_guest_72 (fun H locs hP hS => ?_)
    refine lv_aload_n hx hb dX4_guest_75 rfl (lv_at hl 0 rfl) ?_
    refine mg_get F hK hin hP 16 (by decide) (by decide +kernel) rfl dX4_guest_76 ?_
    refine lv_if_le (tgt := 84) hx hb dX4_guest_79 (by decide) (fun z9 => absurd z9 (by decide)) (fun _ => ?_)
    refine lv_iconst (v := 0) hx hb dX4_guest_82 (by decide) ?_
    exact wr_reti F hr hlocks hP hS (by simp [eqQ, mGuest, bI, upA_k, c_1]) dX4_guest_83
  · skip
    refine lv_iload_n hx hb dX4_guest_8 rfl (lv_at hl 2 rfl) ?_
    refine lv_iconst (v := 0) hx hb dX4_guest_9 (by decide) ?_
    refine lv_bipush (v := 7) hx hb dX4_guest_10 (by decide) ?_
    refine ro_callS F hK [.int g, .int 0, .int 7] (mc_in g 0 7 ) (va_cwS 3 F.2.2.2.2 gX4_guest_X4_in rfl rfl rfl (by decide +kernel) ⟨Nat.le_of_ble_eq_true rfl, Nat.le_of_ble_eq_true rfl⟩) rfl hl.1 rfl (lv_room (Nat.le_of_ble_eq_true rfl)) ⟨Nat.zero_le _, Nat.zero_le _⟩ dX4_guest_12 ?_
    refine lw_bne (tgt := 22) hx hb dX4_guest_15 (by decide) (fun c_2 => ?_) (fun c_2 => ?_)
    · skip
      refine lv_iload_n hx hb dX4_guest_22 rfl (lv_at hl 3 rfl) ?_
      refine lv_iconst (v := 0) hx hb dX4_guest_23 (by decide) ?_
      refine lv_bipush (v := 99) hx hb dX4_guest_24 (by decide) ?_
      refine ro_callS F hK [.int d1, .int 0, .int 99] (mc_in d1 0 99 ) (va_cwS 3 F.2.2.2.2 gX4_guest_X4_in rfl rfl rfl (by decide +kernel) ⟨Nat.le_of_ble_eq_true rfl, Nat.le_of_ble_eq_true rfl⟩) rfl hl.1 rfl (lv_room (Nat.le_of_ble_eq_true rfl)) ⟨Nat.zero_le _, Nat.zero_le _⟩ dX4_guest_26 ?_
      refine lw_beq (tgt := 55) hx hb dX4_guest_29 (by decide) (fun c_3 => ?_) (fun c_3 => ?_)
      · skip
        refine lv_iconst (v := 2) hx hb dX4_guest_55 (by decide) ?_
        refine lv_goto (tgt := 72) hx hb dX4_guest_56 (by decide) ?_
        refine mp_put F hK hin hN hA hP hS 16 n cm 2 lm rfl (by decide) (by decide +kernel) rfl rfl dX4_guest_72 (fun H locs hP hS => ?_)
        refine lv_aload_n hx hb dX4_guest_75 rfl (lv_at hl 0 rfl) ?_
        refine mg_get F hK hin hP 16 (by decide) (by decide +kernel) rfl dX4_guest_76 ?_
        refine lv_if_le (tgt := 84) hx hb dX4_guest_79 (by decide) (fun z9 => absurd z9 (by decide)) (fun _ => ?_)
        refine lv_iconst (v := 0) hx hb dX4_guest_82 (by decide) ?_
        exact wr_reti F hr hlocks hP hS (by simp [eqQ, mGuest, bI, upA_k, c_1, c_2, c_3]) dX4_guest_83
      · skip
        refine lv_iload hx hb dX4_guest_32 (lv_at hl 4 rfl) ?_
        refine lv_iload_n hx hb dX4_guest_34 rfl (lv_at hl 3 rfl) ?_
        refine lv_bipush (v := 99) hx hb dX4_guest_35 (by decide) ?_
        refine ro_callS F hK [.int d2, .int d1, .int 99] (mc_in d2 d1 99 ) (va_cwS 3 F.2.2.2.2 gX4_guest_X4_in rfl rfl rfl (by decide +kernel) ⟨Nat.le_of_ble_eq_true rfl, Nat.le_of_ble_eq_true rfl⟩) rfl hl.1 rfl (lv_room (Nat.le_of_ble_eq_true rfl)) ⟨Nat.zero_le _, Nat.zero_le _⟩ dX4_guest_37 ?_
        refine lw_beq (tgt := 55) hx hb dX4_guest_40 (by decide) (fun c_4 => ?_) (fun c_4 => ?_)
        · skip
          refine lv_iconst (v := 2) hx hb dX4_guest_55 (by decide) ?_
          refine lv_goto (tgt := 72) hx hb dX4_guest_56 (by decide) ?_
          refine mp_put F hK hin hN hA hP hS 16 n cm 2 lm rfl (by decide) (by decide +kernel) rfl rfl dX4_guest_72 (fun H locs hP hS => ?_)
          refine lv_aload_n hx hb dX4_guest_75 rfl (lv_at hl 0 rfl) ?_
          refine mg_get F hK hin hP 16 (by decide) (by decide +kernel) rfl dX4_guest_76 ?_
          refine lv_if_le (tgt := 84) hx hb dX4_guest_79 (by decide) (fun z9 => absurd z9 (by decide)) (fun _ => ?_)
          refine lv_iconst (v := 0) hx hb dX4_guest_82 (by decide) ?_
          exact wr_reti F hr hlocks hP hS (by simp [eqQ, mGuest, bI, upA_k, c_1, c_2, c_3, c_4]) dX4_guest_83
        · skip
          refine lv_iload hx hb dX4_guest_43 (lv_at hl 5 rfl) ?_
          refine lv_iconst (v := 0) hx hb dX4_guest_45 (by decide) ?_
          refine lv_sipush (v := 255) hx hb dX4_guest_46 (by decide) ?_
          refine ro_callS F hK [.int ds, .int 0, .int 255] (mc_in ds 0 255 ) (va_cwS 3 F.2.2.2.2 gX4_guest_X4_in rfl rfl rfl (by decide +kernel) ⟨Nat.le_of_ble_eq_true rfl, Nat.le_of_ble_eq_true rfl⟩) rfl hl.1 rfl (lv_room (Nat.le_of_ble_eq_true rfl)) ⟨Nat.zero_le _, Nat.zero_le _⟩ dX4_guest_49 ?_
          refine lw_bne (tgt := 59) hx hb dX4_guest_52 (by decide) (fun c_5 => ?_) (fun c_5 => ?_)
          · skip
            refine lv_aload_n hx hb dX4_guest_59 rfl (lv_at hl 0 rfl) ?_
            refine lv_iconst (v := 1) hx hb dX4_guest_60 (by decide) ?_
            refine ro_callV F hK [.int 1] (mc_isFull hP 1 (by first | assumption | omega) (by first | assumption | omega)) (cwV 1 F.2.2.2.2 gX4_guest_X4_isFull rfl rfl rfl (by decide +kernel) ⟨Nat.le_of_ble_eq_true rfl, Nat.le_of_ble_eq_true rfl⟩) (mg_rc hK hP) rfl hl.1 rfl (lv_room (Nat.le_of_ble_eq_true rfl)) ⟨Nat.zero_le _, Nat.zero_le _⟩ dX4_guest_61 ?_
            refine lw_beq (tgt := 71) hx hb dX4_guest_64 (by decide) (fun c_6 => ?_) (fun c_6 => ?_)
            · skip
              refine lv_iconst (v := 0) hx hb dX4_guest_71 (by decide) ?_
              refine mp_put F hK hin hN hA hP hS 16 n cm 0 lm rfl (by decide) (by decide +kernel) rfl rfl dX4_guest_72 (fun H locs hP hS => ?_)
              refine lv_aload_n hx hb dX4_guest_75 rfl (lv_at hl 0 rfl) ?_
              refine mg_get F hK hin hP 16 (by decide) (by decide +kernel) rfl dX4_guest_76 ?_
              refine lv_if_le (tgt := 84) hx hb dX4_guest_79 (by decide) (fun _ => ?_) (fun z9 => absurd (by decide) z9)
              refine lv_aload_n hx hb dX4_guest_84 rfl (lv_at hl 0 rfl) ?_
              refine mg_get F hK hin hP 6 (by decide) (by decide +kernel) rfl dX4_guest_85 ?_
              refine lv_aload_n hx hb dX4_guest_88 rfl (lv_at hl 0 rfl) ?_
              refine mg_get F hK hin hP 0 (by decide) (by decide +kernel) rfl dX4_guest_89 ?_
              refine lv_iload_n hx hb dX4_guest_92 rfl (lv_at hl 3 rfl) ?_
              refine mp_ast F hK hN hA hP hS 6 6 240 rfl n rfl (by have z := c_6; simp only [fullB, decide_eq_false_iff_not] at z; omega) (by decide) rfl dX4_guest_93 (fun H locs hP hS => ?_)
              refine lv_aload_n hx hb dX4_guest_94 rfl (lv_at hl 0 rfl) ?_
              refine mg_get F hK hin hP 7 (by decide) (by decide +kernel) rfl dX4_guest_95 ?_
              refine lv_aload_n hx hb dX4_guest_98 rfl (lv_at hl 0 rfl) ?_
              refine mg_get F hK hin hP 0 (by decide) (by decide +kernel) rfl dX4_guest_99 ?_
              refine lv_iload hx hb dX4_guest_102 (lv_at hl 4 rfl) ?_
              refine mp_ast F hK hN hA hP hS 7 7 240 rfl n rfl (by have z := c_6; simp only [fullB, decide_eq_false_iff_not] at z; omega) (by decide) rfl dX4_guest_104 (fun H locs hP hS => ?_)
              refine lv_aload_n hx hb dX4_guest_105 rfl (lv_at hl 0 rfl) ?_
              refine mg_get F hK hin hP 8 (by decide) (by decide +kernel) rfl dX4_guest_106 ?_
              refine lv_aload_n hx hb dX4_guest_109 rfl (lv_at hl 0 rfl) ?_
              refine mg_get F hK hin hP 0 (by decide) (by decide +kernel) rfl dX4_guest_110 ?_
              refine lv_iload hx hb dX4_guest_113 (lv_at hl 5 rfl) ?_
              refine mp_ast F hK hN hA hP hS 8 8 240 rfl n rfl (by have z := c_6; simp only [fullB, decide_eq_false_iff_not] at z; omega) (by decide) rfl dX4_guest_115 (fun H locs hP hS => ?_)
              refine lv_aload_n hx hb dX4_guest_116 rfl (lv_at hl 0 rfl) ?_
              refine lv_iload_n hx hb dX4_guest_117 rfl (lv_at hl 1 rfl) ?_
              refine lv_iconst (v := 2) hx hb dX4_guest_118 (by decide) ?_
              refine lv_iload_n hx hb dX4_guest_119 rfl (lv_at hl 2 rfl) ?_
              refine lv_iconst (v := (-1)) hx hb dX4_guest_120 (by decide) ?_
              obtain ⟨vf, hvf, evf⟩ := in4 (x := f)  (by first | exact c_5 | exact c_4 | exact c_3 | exact c_2 | exact c_1)
              have nvf : jn f = vf := by rw [evf]; exact jn_nI (by omega)
              refine wr_callVi F hK [.int (nI vf), .int 2, .int g, .int (-1)] (mc_write hN vf 2 g (-1) (by first | assumption | omega) (by have z := c_6; simp only [fullB, decide_eq_false_iff_not] at z; omega)) (cwV 4 F.2.2.2.2 gX4_guest_X4_write rfl rfl rfl (by decide +kernel) ⟨Nat.le_of_ble_eq_true rfl, Nat.le_of_ble_eq_true rfl⟩) (mg_rc hK hP) hP hS hA rfl hl.1 (by first | (rw [evf]; done) | (rw [evf]; rfl)) (lv_room (Nat.le_of_ble_eq_true rfl)) ⟨Nat.zero_le _, Nat.zero_le _⟩ dX4_guest_121 (fun r_w_7 n_w_7 cm_w_7 th_w_7 lm_w_7 a_w_7 kn_w_7 H locs hp_w_7 hP hS => ?_)
              obtain ⟨e1_w_7, e2_w_7, e3_w_7, e4_w_7, e5_w_7, e6_w_7, e7_w_7⟩ := hp_w_7
              rw [e2_w_7, e3_w_7, e4_w_7, e5_w_7, e6_w_7, e7_w_7] at hP
              rw [e1_w_7]
              exact wr_reti F hr hlocks hP hS (by simp [eqQ, mGuest, bI, upA_k, c_1, c_2, c_3, c_4, c_5, c_6, nvf]) dX4_guest_124
            · skip
              refine lv_iconst (v := 3) hx hb dX4_guest_67 (by decide) ?_
              refine lv_goto (tgt := 72) hx hb dX4_guest_68 (by decide) ?_
              refine mp_put F hK hin hN hA hP hS 16 n cm 3 lm rfl (by decide) (by decide +kernel) rfl rfl dX4_guest_72 (fun H locs hP hS => ?_)
              refine lv_aload_n hx hb dX4_guest_75 rfl (lv_at hl 0 rfl) ?_
              refine mg_get F hK hin hP 16 (by decide) (by decide +kernel) rfl dX4_guest_76 ?_
              refine lv_if_le (tgt := 84) hx hb dX4_guest_79 (by decide) (fun z9 => absurd z9 (by decide)) (fun _ => ?_)
              refine lv_iconst (v := 0) hx hb dX4_guest_82 (by decide) ?_
              exact wr_reti F hr hlocks hP hS (by simp [eqQ, mGuest, bI, upA_k, c_1, c_2, c_3, c_4, c_5, c_6]) dX4_guest_83
          · skip
            refine lv_iconst (v := 2) hx hb dX4_guest_55 (by decide) ?_
            refine lv_goto (tgt := 72) hx hb dX4_guest_56 (by decide) ?_
            refine mp_put F hK hin hN hA hP hS 16 n cm 2 lm rfl (by decide) (by decide +kernel) rfl rfl dX4_guest_72 (fun H locs hP hS => ?_)
            refine lv_aload_n hx hb dX4_guest_75 rfl (lv_at hl 0 rfl) ?_
            refine mg_get F hK hin hP 16 (by decide) (by decide +kernel) rfl dX4_guest_76 ?_
            refine lv_if_le (tgt := 84) hx hb dX4_guest_79 (by decide) (fun z9 => absurd z9 (by decide)) (fun _ => ?_)
            refine lv_iconst (v := 0) hx hb dX4_guest_82 (by decide) ?_
            exact wr_reti F hr hlocks hP hS (by simp [eqQ, mGuest, bI, upA_k, c_1, c_2, c_3, c_4, c_5]) dX4_guest_83
    · skip
      refine lv_iconst (v := 1) hx hb dX4_guest_18 (by decide) ?_
      refine lv_goto (tgt := 72) hx hb dX4_guest_19 (by decide) ?_
      refine mp_put F hK hin hN hA hP hS 16 n cm 1 lm rfl (by decide) (by decide +kernel) rfl rfl dX4_guest_72 (fun H locs hP hS => ?_)
      refine lv_aload_n hx hb dX4_guest_75 rfl (lv_at hl 0 rfl) ?_
      refine mg_get F hK hin hP 16 (by decide) (by decide +kernel) rfl dX4_guest_76 ?_
      refine lv_if_le (tgt := 84) hx hb dX4_guest_79 (by decide) (fun z9 => absurd z9 (by decide)) (fun _ => ?_)
      refine lv_iconst (v := 0) hx hb dX4_guest_82 (by decide) ?_
      exact wr_reti F hr hlocks hP hS (by simp [eqQ, mGuest, bI, upA_k, c_1, c_2]) dX4_guest_83
set_option maxHeartbeats 4000000 in
set_option maxRecDepth 100000 in
theorem mc_plan {l : Launch} {D : va_G} {cI cZ : ClassId} {h : Nat} {q : Nat → Nat} (hN : (mAd h q).Nodup) {n cm : Nat} {th : Int32} {lm : Nat} {a : Nat → Nat → Int32} {kn : Nat → Bool} (f : Int32) (r : Int32) (d : Int32) (I : mI n cm a) : wr_Met l yX4_plan wsX4_plan 3 75 D h q cI cZ (mW h q cI cZ n cm th lm a kn) [.ref h, .int f, .int r, .int d] rI (eqQ (mPlan n cm a kn f r d)) := by
  refine wr_start rfl (by decide +kernel) (Nat.le_of_ble_eq_true rfl) (fun p e s m below meth c F hr hlocks hK H locs hP hS ls hl => ?_)
  have hl : lv_has ls 5 [(0, .ref h), (1, .int f), (2, .int r), (3, .int d)] := hl
  have hx := F.1
  have hb := F.2.1
  have hA : ∀ x, x ∈ mAd h q → mF h q x := fun _ z => z
  have hin : ∀ w ∈ wsX40, w ∈ wsX4_plan := fun _ z => List.mem_cons_of_mem _ (List.mem_append_right _ z)
  have hn := I.1
  have hcm := I.2.1
  refine lv_aload_n hx hb dX4_plan_0 rfl (lv_at hl 0 rfl) ?_
  refine lv_iload_n hx hb dX4_plan_1 rfl (lv_at hl 1 rfl) ?_
  refine ro_callS F hK [.int f] (mc_isFridge f ) (va_cwS 1 F.2.2.2.2 gX4_plan_X4_isFridge rfl rfl rfl (by decide +kernel) ⟨Nat.le_of_ble_eq_true rfl, Nat.le_of_ble_eq_true rfl⟩) rfl hl.1 rfl (lv_room (Nat.le_of_ble_eq_true rfl)) ⟨Nat.zero_le _, Nat.zero_le _⟩ dX4_plan_2 ?_
  refine lw_beq (tgt := 17) hx hb dX4_plan_5 (by decide) (fun c_1 => ?_) (fun c_1 => ?_)
  · skip
    refine lv_iconst (v := 1) hx hb dX4_plan_17 (by decide) ?_
    refine lv_goto (tgt := 36) hx hb dX4_plan_18 (by decide) ?_
    refine mp_put F hK hin hN hA hP hS 16 n cm 1 lm rfl (by decide) (by decide +kernel) rfl rfl dX4_plan_36 (fun H locs hP hS => ?_)
    refine lv_aload_n hx hb dX4_plan_39 rfl (lv_at hl 0 rfl) ?_
    refine mg_get F hK hin hP 16 (by decide) (by decide +kernel) rfl dX4_plan_40 ?_
    refine lv_if_ne (tgt := 82) hx hb dX4_plan_43 (by decide) (fun _ => ?_) (fun z9 => absurd z9 (by decide))
    refine lv_aload_n hx hb dX4_plan_82 rfl (lv_at hl 0 rfl) ?_
    refine mg_get F hK hin hP 16 (by decide) (by decide +kernel) rfl dX4_plan_83 ?_
    refine lv_if_le (tgt := 91) hx hb dX4_plan_86 (by decide) (fun z9 => absurd z9 (by decide)) (fun _ => ?_)
    refine lv_iconst (v := 0) hx hb dX4_plan_89 (by decide) ?_
    exact wr_reti F hr hlocks hP hS (by simp [eqQ, mPlan, bI, c_1]) dX4_plan_90
  · skip
    refine lv_iload_n hx hb dX4_plan_8 rfl (lv_at hl 2 rfl) ?_
    refine lv_iconst (v := 0) hx hb dX4_plan_9 (by decide) ?_
    refine lv_iconst (v := 5) hx hb dX4_plan_10 (by decide) ?_
    refine ro_callS F hK [.int r, .int 0, .int 5] (mc_in r 0 5 ) (va_cwS 3 F.2.2.2.2 gX4_plan_X4_in rfl rfl rfl (by decide +kernel) ⟨Nat.le_of_ble_eq_true rfl, Nat.le_of_ble_eq_true rfl⟩) rfl hl.1 rfl (lv_room (Nat.le_of_ble_eq_true rfl)) ⟨Nat.zero_le _, Nat.zero_le _⟩ dX4_plan_11 ?_
    refine lw_bne (tgt := 21) hx hb dX4_plan_14 (by decide) (fun c_2 => ?_) (fun c_2 => ?_)
    · skip
      refine lv_iload_n hx hb dX4_plan_21 rfl (lv_at hl 3 rfl) ?_
      refine lv_iconst (v := 0) hx hb dX4_plan_22 (by decide) ?_
      refine lv_bipush (v := 99) hx hb dX4_plan_23 (by decide) ?_
      refine ro_callS F hK [.int d, .int 0, .int 99] (mc_in d 0 99 ) (va_cwS 3 F.2.2.2.2 gX4_plan_X4_in rfl rfl rfl (by decide +kernel) ⟨Nat.le_of_ble_eq_true rfl, Nat.le_of_ble_eq_true rfl⟩) rfl hl.1 rfl (lv_room (Nat.le_of_ble_eq_true rfl)) ⟨Nat.zero_le _, Nat.zero_le _⟩ dX4_plan_25 ?_
      refine lw_bne (tgt := 35) hx hb dX4_plan_28 (by decide) (fun c_3 => ?_) (fun c_3 => ?_)
      · skip
        refine lv_iconst (v := 0) hx hb dX4_plan_35 (by decide) ?_
        refine mp_put F hK hin hN hA hP hS 16 n cm 0 lm rfl (by decide) (by decide +kernel) rfl rfl dX4_plan_36 (fun H locs hP hS => ?_)
        refine lv_aload_n hx hb dX4_plan_39 rfl (lv_at hl 0 rfl) ?_
        refine mg_get F hK hin hP 16 (by decide) (by decide +kernel) rfl dX4_plan_40 ?_
        refine lv_if_ne (tgt := 82) hx hb dX4_plan_43 (by decide) (fun z9 => absurd z9 (by decide)) (fun _ => ?_)
        refine lv_aload_n hx hb dX4_plan_46 rfl (lv_at hl 0 rfl) ?_
        refine lv_aload_n hx hb dX4_plan_47 rfl (lv_at hl 0 rfl) ?_
        refine lv_iload_n hx hb dX4_plan_48 rfl (lv_at hl 1 rfl) ?_
        refine lv_iload_n hx hb dX4_plan_49 rfl (lv_at hl 2 rfl) ?_
        refine lv_iload_n hx hb dX4_plan_50 rfl (lv_at hl 3 rfl) ?_
        obtain ⟨vf, hvf, evf⟩ := in4 (x := f)  (by first | exact c_3 | exact c_2 | exact c_1)
        have nvf : jn f = vf := by rw [evf]; exact jn_nI (by omega)
        obtain ⟨vr, hvr, evr⟩ := in5 (x := r)  (by first | exact c_3 | exact c_2 | exact c_1)
        have nvr : jn r = vr := by rw [evr]; exact jn_nI (by omega)
        refine ro_callV F hK [.int (nI vf), .int (nI vr), .int d] (mc_isDisliked hP vf vr d (by first | assumption | omega) (by first | assumption | omega) (by first | assumption | omega)) (cwV 3 F.2.2.2.2 gX4_plan_X4_isDisliked rfl rfl rfl (by decide +kernel) ⟨Nat.le_of_ble_eq_true rfl, Nat.le_of_ble_eq_true rfl⟩) (mg_rc hK hP) rfl hl.1 (by first | (rw [evf, evr]; done) | (rw [evf, evr]; rfl)) (lv_room (Nat.le_of_ble_eq_true rfl)) ⟨Nat.zero_le _, Nat.zero_le _⟩ dX4_plan_51 ?_
        refine lw_bne (tgt := 74) hx hb dX4_plan_54 (by decide) (fun c_4 => ?_) (fun c_4 => ?_)
        · skip
          refine lv_iconst (v := 3) hx hb dX4_plan_74 (by decide) ?_
          refine lv_goto (tgt := 79) hx hb dX4_plan_75 (by decide) ?_
          refine mp_put F hK hin hN hA hP hS 16 n cm 3 lm rfl (by decide) (by decide +kernel) rfl rfl dX4_plan_79 (fun H locs hP hS => ?_)
          refine lv_aload_n hx hb dX4_plan_82 rfl (lv_at hl 0 rfl) ?_
          refine mg_get F hK hin hP 16 (by decide) (by decide +kernel) rfl dX4_plan_83 ?_
          refine lv_if_le (tgt := 91) hx hb dX4_plan_86 (by decide) (fun z9 => absurd z9 (by decide)) (fun _ => ?_)
          refine lv_iconst (v := 0) hx hb dX4_plan_89 (by decide) ?_
          exact wr_reti F hr hlocks hP hS (by simp [eqQ, mPlan, bI, c_1, c_2, c_3, nvf, nvr, c_4]) dX4_plan_90
        · skip
          refine lv_aload_n hx hb dX4_plan_57 rfl (lv_at hl 0 rfl) ?_
          refine mg_get F hK hin hP 12 (by decide) (by decide +kernel) rfl dX4_plan_58 ?_
          refine lv_bipush (v := 20) hx hb dX4_plan_61 (by decide) ?_
          refine lw_eq (tgt := 74) hx hb cm 20 (by omega) (by omega) dX4_plan_63 (by decide) (fun c_5 => ?_) (fun c_5 => ?_)
          · skip
            refine lv_iconst (v := 3) hx hb dX4_plan_74 (by decide) ?_
            refine lv_goto (tgt := 79) hx hb dX4_plan_75 (by decide) ?_
            refine mp_put F hK hin hN hA hP hS 16 n cm 3 lm rfl (by decide) (by decide +kernel) rfl rfl dX4_plan_79 (fun H locs hP hS => ?_)
            refine lv_aload_n hx hb dX4_plan_82 rfl (lv_at hl 0 rfl) ?_
            refine mg_get F hK hin hP 16 (by decide) (by decide +kernel) rfl dX4_plan_83 ?_
            refine lv_if_le (tgt := 91) hx hb dX4_plan_86 (by decide) (fun z9 => absurd z9 (by decide)) (fun _ => ?_)
            refine lv_iconst (v := 0) hx hb dX4_plan_89 (by decide) ?_
            exact wr_reti F hr hlocks hP hS (by simp [eqQ, mPlan, bI, c_1, c_2, c_3, nvf, nvr, c_4, c_5]) dX4_plan_90
          · skip
            refine lv_aload_n hx hb dX4_plan_66 rfl (lv_at hl 0 rfl) ?_
            refine lv_iconst (v := 1) hx hb dX4_plan_67 (by decide) ?_
            refine ro_callV F hK [.int 1] (mc_isFull hP 1 (by first | assumption | omega) (by first | assumption | omega)) (cwV 1 F.2.2.2.2 gX4_plan_X4_isFull rfl rfl rfl (by decide +kernel) ⟨Nat.le_of_ble_eq_true rfl, Nat.le_of_ble_eq_true rfl⟩) (mg_rc hK hP) rfl hl.1 rfl (lv_room (Nat.le_of_ble_eq_true rfl)) ⟨Nat.zero_le _, Nat.zero_le _⟩ dX4_plan_68 ?_
            refine lw_beq (tgt := 78) hx hb dX4_plan_71 (by decide) (fun c_6 => ?_) (fun c_6 => ?_)
            · skip
              refine lv_iconst (v := 0) hx hb dX4_plan_78 (by decide) ?_
              refine mp_put F hK hin hN hA hP hS 16 n cm 0 lm rfl (by decide) (by decide +kernel) rfl rfl dX4_plan_79 (fun H locs hP hS => ?_)
              refine lv_aload_n hx hb dX4_plan_82 rfl (lv_at hl 0 rfl) ?_
              refine mg_get F hK hin hP 16 (by decide) (by decide +kernel) rfl dX4_plan_83 ?_
              refine lv_if_le (tgt := 91) hx hb dX4_plan_86 (by decide) (fun _ => ?_) (fun z9 => absurd (by decide) z9)
              refine lv_aload_n hx hb dX4_plan_91 rfl (lv_at hl 0 rfl) ?_
              refine mg_get F hK hin hP 13 (by decide) (by decide +kernel) rfl dX4_plan_92 ?_
              refine lv_aload_n hx hb dX4_plan_95 rfl (lv_at hl 0 rfl) ?_
              refine mg_get F hK hin hP 12 (by decide) (by decide +kernel) rfl dX4_plan_96 ?_
              refine lv_iload_n hx hb dX4_plan_99 rfl (lv_at hl 2 rfl) ?_
              refine mp_ast F hK hN hA hP hS 13 12 20 rfl cm rfl (by omega) (by decide) rfl dX4_plan_100 (fun H locs hP hS => ?_)
              refine lv_aload_n hx hb dX4_plan_101 rfl (lv_at hl 0 rfl) ?_
              refine mg_get F hK hin hP 14 (by decide) (by decide +kernel) rfl dX4_plan_102 ?_
              refine lv_aload_n hx hb dX4_plan_105 rfl (lv_at hl 0 rfl) ?_
              refine mg_get F hK hin hP 12 (by decide) (by decide +kernel) rfl dX4_plan_106 ?_
              refine lv_iload_n hx hb dX4_plan_109 rfl (lv_at hl 3 rfl) ?_
              refine mp_ast F hK hN hA hP hS 14 13 20 rfl cm rfl (by omega) (by decide) rfl dX4_plan_110 (fun H locs hP hS => ?_)
              refine lv_aload_n hx hb dX4_plan_111 rfl (lv_at hl 0 rfl) ?_
              refine mg_get F hK hin hP 15 (by decide) (by decide +kernel) rfl dX4_plan_112 ?_
              refine lv_aload_n hx hb dX4_plan_115 rfl (lv_at hl 0 rfl) ?_
              refine mg_get F hK hin hP 12 (by decide) (by decide +kernel) rfl dX4_plan_116 ?_
              refine lv_aload_n hx hb dX4_plan_119 rfl (lv_at hl 0 rfl) ?_
              refine mg_get F hK hin hP 0 (by decide) (by decide +kernel) rfl dX4_plan_120 ?_
              refine mp_ast F hK hN hA hP hS 15 14 20 rfl cm rfl (by omega) (by decide) rfl dX4_plan_123 (fun H locs hP hS => ?_)
              refine lv_aload_n hx hb dX4_plan_124 rfl (lv_at hl 0 rfl) ?_
              refine lv_iload_n hx hb dX4_plan_125 rfl (lv_at hl 1 rfl) ?_
              refine lv_iconst (v := 3) hx hb dX4_plan_126 (by decide) ?_
              refine lv_aload_n hx hb dX4_plan_127 rfl (lv_at hl 0 rfl) ?_
              refine mg_get F hK hin hP 12 (by decide) (by decide +kernel) rfl dX4_plan_128 ?_
              refine lv_iconst (v := (-1)) hx hb dX4_plan_131 (by decide) ?_
              refine wr_callVi F hK [.int (nI vf), .int 3, .int (nI cm), .int (-1)] (mc_write hN vf 3 (nI cm) (-1) (by first | assumption | omega) (by have z := c_6; simp only [fullB, decide_eq_false_iff_not] at z; omega)) (cwV 4 F.2.2.2.2 gX4_plan_X4_write rfl rfl rfl (by decide +kernel) ⟨Nat.le_of_ble_eq_true rfl, Nat.le_of_ble_eq_true rfl⟩) (mg_rc hK hP) hP hS hA rfl hl.1 (by first | (rw [evf]; done) | (rw [evf]; rfl)) (lv_room (Nat.le_of_ble_eq_true rfl)) ⟨Nat.zero_le _, Nat.zero_le _⟩ dX4_plan_132 (fun r_w_7 n_w_7 cm_w_7 th_w_7 lm_w_7 a_w_7 kn_w_7 H locs hp_w_7 hP hS => ?_)
              obtain ⟨e1_w_7, e2_w_7, e3_w_7, e4_w_7, e5_w_7, e6_w_7, e7_w_7⟩ := hp_w_7
              rw [e2_w_7, e3_w_7, e4_w_7, e5_w_7, e6_w_7, e7_w_7] at hP
              rw [e1_w_7]
              refine lv_istore (lv' := [(4, .int ((upA (upA (upA a 13 cm r) 14 cm d) 15 cm (nI n)) 10 vf + 1)), (0, .ref h), (1, .int f), (2, .int r), (3, .int d)]) hx hb dX4_plan_135 hl (by decide) rfl (fun ls hl => ?_)
              refine lv_aload_n hx hb dX4_plan_137 rfl (lv_at hl 1 rfl) ?_
              refine lv_dup hx hb dX4_plan_138 rfl ?_
              refine mg_get F hK hin hP 12 (by decide) (by decide +kernel) rfl dX4_plan_139 ?_
              refine lv_iconst (v := 1) hx hb dX4_plan_142 (by decide) ?_
              refine lw_add hx hb (i := cm) (j := 1) dX4_plan_143 ?_
              refine mp_put F hK hin hN hA hP hS 12 (n + 1) (cm + 1) 0 lm rfl (by decide) (by decide +kernel) rfl rfl dX4_plan_144 (fun H locs hP hS => ?_)
              refine lv_aload_n hx hb dX4_plan_147 rfl (lv_at hl 1 rfl) ?_
              refine mg_get F hK hin hP 12 (by decide) (by decide +kernel) rfl dX4_plan_148 ?_
              refine lv_iconst (v := 1) hx hb dX4_plan_151 (by decide) ?_
              refine lw_sub hx hb (i := (cm + 1)) (j := 1) (by omega) dX4_plan_152 ?_
              exact wr_reti F hr hlocks hP hS (by simp [eqQ, mPlan, bI, c_1, c_2, c_3, nvf, nvr, c_4, c_5, c_6]) dX4_plan_153
            · skip
              refine lv_iconst (v := 3) hx hb dX4_plan_74 (by decide) ?_
              refine lv_goto (tgt := 79) hx hb dX4_plan_75 (by decide) ?_
              refine mp_put F hK hin hN hA hP hS 16 n cm 3 lm rfl (by decide) (by decide +kernel) rfl rfl dX4_plan_79 (fun H locs hP hS => ?_)
              refine lv_aload_n hx hb dX4_plan_82 rfl (lv_at hl 0 rfl) ?_
              refine mg_get F hK hin hP 16 (by decide) (by decide +kernel) rfl dX4_plan_83 ?_
              refine lv_if_le (tgt := 91) hx hb dX4_plan_86 (by decide) (fun z9 => absurd z9 (by decide)) (fun _ => ?_)
              refine lv_iconst (v := 0) hx hb dX4_plan_89 (by decide) ?_
              exact wr_reti F hr hlocks hP hS (by simp [eqQ, mPlan, bI, c_1, c_2, c_3, nvf, nvr, c_4, c_5, c_6]) dX4_plan_90
      · skip
        refine lv_iconst (v := 2) hx hb dX4_plan_31 (by decide) ?_
        refine lv_goto (tgt := 36) hx hb dX4_plan_32 (by decide) ?_
        refine mp_put F hK hin hN hA hP hS 16 n cm 2 lm rfl (by decide) (by decide +kernel) rfl rfl dX4_plan_36 (fun H locs hP hS => ?_)
        refine lv_aload_n hx hb dX4_plan_39 rfl (lv_at hl 0 rfl) ?_
        refine mg_get F hK hin hP 16 (by decide) (by decide +kernel) rfl dX4_plan_40 ?_
        refine lv_if_ne (tgt := 82) hx hb dX4_plan_43 (by decide) (fun _ => ?_) (fun z9 => absurd z9 (by decide))
        refine lv_aload_n hx hb dX4_plan_82 rfl (lv_at hl 0 rfl) ?_
        refine mg_get F hK hin hP 16 (by decide) (by decide +kernel) rfl dX4_plan_83 ?_
        refine lv_if_le (tgt := 91) hx hb dX4_plan_86 (by decide) (fun z9 => absurd z9 (by decide)) (fun _ => ?_)
        refine lv_iconst (v := 0) hx hb dX4_plan_89 (by decide) ?_
        exact wr_reti F hr hlocks hP hS (by simp [eqQ, mPlan, bI, c_1, c_2, c_3]) dX4_plan_90
    · skip
      refine lv_iconst (v := 1) hx hb dX4_plan_17 (by decide) ?_
      refine lv_goto (tgt := 36) hx hb dX4_plan_18 (by decide) ?_
      refine mp_put F hK hin hN hA hP hS 16 n cm 1 lm rfl (by decide) (by decide +kernel) rfl rfl dX4_plan_36 (fun H locs hP hS => ?_)
      refine lv_aload_n hx hb dX4_plan_39 rfl (lv_at hl 0 rfl) ?_
      refine mg_get F hK hin hP 16 (by decide) (by decide +kernel) rfl dX4_plan_40 ?_
      refine lv_if_ne (tgt := 82) hx hb dX4_plan_43 (by decide) (fun _ => ?_) (fun z9 => absurd z9 (by decide))
      refine lv_aload_n hx hb dX4_plan_82 rfl (lv_at hl 0 rfl) ?_
      refine mg_get F hK hin hP 16 (by decide) (by decide +kernel) rfl dX4_plan_83 ?_
      refine lv_if_le (tgt := 91) hx hb dX4_plan_86 (by decide) (fun z9 => absurd z9 (by decide)) (fun _ => ?_)
      refine lv_iconst (v := 0) hx hb dX4_plan_89 (by decide) ?_
      exact wr_reti F hr hlocks hP hS (by simp [eqQ, mPlan, bI, c_1, c_2]) dX4_plan_90
set_option maxHeartbeats 4000000 in
set_option maxRecDepth 100000 in
theorem mc_known {l : Launch} {D : va_G} {cI cZ : ClassId} {h : Nat} {q : Nat → Nat} (hN : (mAd h q).Nodup) {n cm : Nat} {th : Int32} {lm : Nat} {a : Nat → Nat → Int32} {kn : Nat → Bool} (f : Int32) (I : mI n cm a) : wr_Met l yX4_known wsX4_known 2 42 D h q cI cZ (mW h q cI cZ n cm th lm a kn) [.ref h, .int f] rI (eqQ (mKnown n cm a kn f)) := by
  refine wr_start rfl (by decide +kernel) (Nat.le_of_ble_eq_true rfl) (fun p e s m below meth c F hr hlocks hK H locs hP hS ls hl => ?_)
  have hl : lv_has ls 4 [(0, .ref h), (1, .int f)] := hl
  have hx := F.1
  have hb := F.2.1
  have hA : ∀ x, x ∈ mAd h q → mF h q x := fun _ z => z
  have hin : ∀ w ∈ wsX40, w ∈ wsX4_known := fun _ z => List.mem_cons_of_mem _ (List.mem_append_right _ z)
  have hn := I.1
  have hcm := I.2.1
  refine lv_aload_n hx hb dX4_known_0 rfl (lv_at hl 0 rfl) ?_
  refine lv_iload_n hx hb dX4_known_1 rfl (lv_at hl 1 rfl) ?_
  refine ro_callS F hK [.int f] (mc_isFridge f ) (va_cwS 1 F.2.2.2.2 gX4_known_X4_isFridge rfl rfl rfl (by decide +kernel) ⟨Nat.le_of_ble_eq_true rfl, Nat.le_of_ble_eq_true rfl⟩) rfl hl.1 rfl (lv_room (Nat.le_of_ble_eq_true rfl)) ⟨Nat.zero_le _, Nat.zero_le _⟩ dX4_known_2 ?_
  refine lw_beq (tgt := 12) hx hb dX4_known_5 (by decide) (fun c_1 => ?_) (fun c_1 => ?_)
  · skip
    refine lv_iconst (v := 1) hx hb dX4_known_12 (by decide) ?_
    refine mp_put F hK hin hN hA hP hS 16 n cm 1 lm rfl (by decide) (by decide +kernel) rfl rfl dX4_known_13 (fun H locs hP hS => ?_)
    refine lv_iconst (v := 0) hx hb dX4_known_16 (by decide) ?_
    refine lv_istore_n (lv' := [(2, .int 0), (0, .ref h), (1, .int f)]) hx hb dX4_known_17 rfl hl (by decide) rfl (fun ls hl => ?_)
    refine lv_iconst (v := 0) hx hb dX4_known_18 (by decide) ?_
    refine lv_istore_n (lv' := [(3, .int 0), (2, .int 0), (0, .ref h), (1, .int f)]) hx hb dX4_known_19 rfl hl (by decide) rfl (fun ls hl => ?_)
    refine lv_iload_n hx hb dX4_known_20 rfl (lv_at hl 0 rfl) ?_
    refine lv_aload_n hx hb dX4_known_21 rfl (lv_at hl 2 rfl) ?_
    refine mg_get F hK hin hP 0 (by decide) (by decide +kernel) rfl dX4_known_22 ?_
    refine lw_ge (tgt := 58) hx hb 0 n (by omega) (by omega) dX4_known_25 (by decide) (fun c_2 => ?_) (fun c_2 => ?_)
    · skip
      refine lv_iload_n hx hb dX4_known_58 rfl (lv_at hl 1 rfl) ?_
      exact wr_reti F hr hlocks hP hS (by simp [eqQ, mKnown, bI, c_1, c_2]) dX4_known_59
    · skip
      refine lv_aload_n hx hb dX4_known_28 rfl (lv_at hl 2 rfl) ?_
      refine mg_get F hK hin hP 16 (by decide) (by decide +kernel) rfl dX4_known_29 ?_
      refine lv_if_ne (tgt := 58) hx hb dX4_known_32 (by decide) (fun _ => ?_) (fun z9 => absurd z9 (by decide))
      refine lv_iload_n hx hb dX4_known_58 rfl (lv_at hl 1 rfl) ?_
      exact wr_reti F hr hlocks hP hS (by simp [eqQ, mKnown, bI, c_1, c_2]) dX4_known_59
  · skip
    refine lv_iconst (v := 0) hx hb dX4_known_8 (by decide) ?_
    refine lv_goto (tgt := 13) hx hb dX4_known_9 (by decide) ?_
    refine mp_put F hK hin hN hA hP hS 16 n cm 0 lm rfl (by decide) (by decide +kernel) rfl rfl dX4_known_13 (fun H locs hP hS => ?_)
    refine lv_iconst (v := 0) hx hb dX4_known_16 (by decide) ?_
    refine lv_istore_n (lv' := [(2, .int 0), (0, .ref h), (1, .int f)]) hx hb dX4_known_17 rfl hl (by decide) rfl (fun ls hl => ?_)
    refine lv_iconst (v := 0) hx hb dX4_known_18 (by decide) ?_
    refine lv_istore_n (lv' := [(3, .int 0), (2, .int 0), (0, .ref h), (1, .int f)]) hx hb dX4_known_19 rfl hl (by decide) rfl (fun ls hl => ?_)
    have L20_u_3 : ∀ (k9u_3 : Nat) (i : Nat) (y : Nat) (H : Heap) (locs : List Loc) (ls : Array Slot), n - i < k9u_3 → i ≤ n → y = foldU (knStep kn (jn f)) 0 i → va_P D vwCl (mW h q cI cZ n cm 0 lm a kn) H → va_S (mF h q) s.heap H locs → lv_has ls 4 [(2, .int (nI y)), (3, .int (nI i)), (0, .ref h), (1, .int f)] → wrW p l e 2 42 s m [.ref h, .int f] below meth c H locs D h q cI cZ rI (eqQ (mKnown n cm a kn f)) (F0 m 20 ls []) := by
      intro k9u_3
      induction k9u_3 with
      | zero => intro i y H locs ls hk; exact absurd hk (Nat.not_lt_zero _)
      | succ k9u_3 ihu_3 =>
        intro i y H locs ls hk hi hf hP hS hl
        refine lv_iload_n hx hb dX4_known_20 rfl (lv_at hl 1 rfl) ?_
        refine lv_aload_n hx hb dX4_known_21 rfl (lv_at hl 2 rfl) ?_
        refine mg_get F hK hin hP 0 (by decide) (by decide +kernel) rfl dX4_known_22 ?_
        refine lw_ge (tgt := 58) hx hb i n (by omega) (by omega) dX4_known_25 (by decide) (fun c_4 => ?_) (fun c_4 => ?_)
        · skip
          refine lv_iload_n hx hb dX4_known_58 rfl (lv_at hl 0 rfl) ?_
          exact wr_reti F hr hlocks hP hS (by simp [eqQ, mKnown, bI, c_1, c_4, hf, show i = n by omega]) dX4_known_59
        · skip
          refine lv_aload_n hx hb dX4_known_28 rfl (lv_at hl 2 rfl) ?_
          refine mg_get F hK hin hP 16 (by decide) (by decide +kernel) rfl dX4_known_29 ?_
          refine lv_if_ne (tgt := 58) hx hb dX4_known_32 (by decide) (fun z9 => absurd z9 (by decide)) (fun _ => ?_)
          refine lv_iload_n hx hb dX4_known_35 rfl (lv_at hl 0 rfl) ?_
          refine lv_aload_n hx hb dX4_known_36 rfl (lv_at hl 2 rfl) ?_
          refine lv_iload_n hx hb dX4_known_37 rfl (lv_at hl 3 rfl) ?_
          refine lv_iload_n hx hb dX4_known_38 rfl (lv_at hl 1 rfl) ?_
          obtain ⟨vf, hvf, evf⟩ := in4 (x := f)  (by first | exact c_1)
          have nvf : jn f = vf := by rw [evf]; exact jn_nI (by omega)
          refine ro_callV F hK [.int (nI vf), .int (nI i)] (mc_knows hP vf i (by first | assumption | omega) (by first | assumption | omega)) (cwV 2 F.2.2.2.2 gX4_known_X4_knows rfl rfl rfl (by decide +kernel) ⟨Nat.le_of_ble_eq_true rfl, Nat.le_of_ble_eq_true rfl⟩) (mg_rc hK hP) rfl hl.1 (by first | (rw [evf]; done) | (rw [evf]; rfl)) (lv_room (Nat.le_of_ble_eq_true rfl)) ⟨Nat.zero_le _, Nat.zero_le _⟩ dX4_known_39 ?_
          refine lw_beq (tgt := 49) hx hb dX4_known_42 (by decide) (fun c_5 => ?_) (fun c_5 => ?_)
          · skip
            refine lv_iconst (v := 0) hx hb dX4_known_49 (by decide) ?_
            refine lw_add hx hb (i := y) (j := 0) dX4_known_50 ?_
            refine lv_istore_n (lv' := [(2, .int (nI (y + 0))), (3, .int (nI i)), (0, .ref h), (1, .int f)]) hx hb dX4_known_51 rfl hl (by decide) rfl (fun ls hl => ?_)
            refine lv_iinc (v := nI (i + 1)) (lv' := [(3, .int (nI (i + 1))), (2, .int (nI (y + 0))), (0, .ref h), (1, .int f)]) hx hb dX4_known_52 hl (k := 1) rfl (show nI i + Int32.ofInt 1 = _ from nI_add i 1) (by decide) rfl (fun ls hl => ?_)
            refine lv_goto (tgt := 20) hx hb dX4_known_55 (by decide) ?_
            exact ihu_3  (i + 1) (y + 0) _ _ ls (by omega) (by first | omega | assumption) (by rw [foldU_s, ← hf]; simp [knStep, c_1, c_4, nvf, c_5]) hP hS (lv_sub hl [1, 0, 2, 3] rfl)
          · skip
            refine lv_iconst (v := 1) hx hb dX4_known_45 (by decide) ?_
            refine lv_goto (tgt := 50) hx hb dX4_known_46 (by decide) ?_
            refine lw_add hx hb (i := y) (j := 1) dX4_known_50 ?_
            refine lv_istore_n (lv' := [(2, .int (nI (y + 1))), (3, .int (nI i)), (0, .ref h), (1, .int f)]) hx hb dX4_known_51 rfl hl (by decide) rfl (fun ls hl => ?_)
            refine lv_iinc (v := nI (i + 1)) (lv' := [(3, .int (nI (i + 1))), (2, .int (nI (y + 1))), (0, .ref h), (1, .int f)]) hx hb dX4_known_52 hl (k := 1) rfl (show nI i + Int32.ofInt 1 = _ from nI_add i 1) (by decide) rfl (fun ls hl => ?_)
            refine lv_goto (tgt := 20) hx hb dX4_known_55 (by decide) ?_
            exact ihu_3  (i + 1) (y + 1) _ _ ls (by omega) (by first | omega | assumption) (by rw [foldU_s, ← hf]; simp [knStep, c_1, c_4, nvf, c_5]) hP hS (lv_sub hl [1, 0, 2, 3] rfl)
    exact L20_u_3 _ 0 0 _ _ ls (Nat.lt_succ_self _) (by first | omega | assumption) (rfl) hP hS (lv_sub hl [1, 0, 2, 3] rfl)
set_option maxHeartbeats 4000000 in
set_option maxRecDepth 100000 in
theorem mc_guests {l : Launch} {D : va_G} {cI cZ : ClassId} {h : Nat} {q : Nat → Nat} (hN : (mAd h q).Nodup) {n cm : Nat} {th : Int32} {lm : Nat} {a : Nat → Nat → Int32} {kn : Nat → Bool} (f : Int32) (d : Int32) (I : mI n cm a) : wr_Met l yX4_guests wsX4_guests 2 48 D h q cI cZ (mW h q cI cZ n cm th lm a kn) [.ref h, .int f, .int d] rI (eqQ (mGuests n cm a kn f d)) := by
  refine wr_start rfl (by decide +kernel) (Nat.le_of_ble_eq_true rfl) (fun p e s m below meth c F hr hlocks hK H locs hP hS ls hl => ?_)
  have hl : lv_has ls 5 [(0, .ref h), (1, .int f), (2, .int d)] := hl
  have hx := F.1
  have hb := F.2.1
  have hA : ∀ x, x ∈ mAd h q → mF h q x := fun _ z => z
  have hin : ∀ w ∈ wsX40, w ∈ wsX4_guests := fun _ z => List.mem_cons_of_mem _ (List.mem_append_right _ z)
  have hn := I.1
  have hcm := I.2.1
  refine lv_aload_n hx hb dX4_guests_0 rfl (lv_at hl 0 rfl) ?_
  refine lv_iload_n hx hb dX4_guests_1 rfl (lv_at hl 1 rfl) ?_
  refine ro_callS F hK [.int f] (mc_isFridge f ) (va_cwS 1 F.2.2.2.2 gX4_guests_X4_isFridge rfl rfl rfl (by decide +kernel) ⟨Nat.le_of_ble_eq_true rfl, Nat.le_of_ble_eq_true rfl⟩) rfl hl.1 rfl (lv_room (Nat.le_of_ble_eq_true rfl)) ⟨Nat.zero_le _, Nat.zero_le _⟩ dX4_guests_2 ?_
  refine lw_bne (tgt := 12) hx hb dX4_guests_5 (by decide) (fun c_1 => ?_) (fun c_1 => ?_)
  · skip
    refine lv_iload_n hx hb dX4_guests_12 rfl (lv_at hl 2 rfl) ?_
    refine lv_iconst (v := 0) hx hb dX4_guests_13 (by decide) ?_
    refine lv_bipush (v := 99) hx hb dX4_guests_14 (by decide) ?_
    refine ro_callS F hK [.int d, .int 0, .int 99] (mc_in d 0 99 ) (va_cwS 3 F.2.2.2.2 gX4_guests_X4_in rfl rfl rfl (by decide +kernel) ⟨Nat.le_of_ble_eq_true rfl, Nat.le_of_ble_eq_true rfl⟩) rfl hl.1 rfl (lv_room (Nat.le_of_ble_eq_true rfl)) ⟨Nat.zero_le _, Nat.zero_le _⟩ dX4_guests_16 ?_
    refine lw_bne (tgt := 26) hx hb dX4_guests_19 (by decide) (fun c_2 => ?_) (fun c_2 => ?_)
    · skip
      refine lv_iconst (v := 0) hx hb dX4_guests_26 (by decide) ?_
      refine mp_put F hK hin hN hA hP hS 16 n cm 0 lm rfl (by decide) (by decide +kernel) rfl rfl dX4_guests_27 (fun H locs hP hS => ?_)
      refine lv_iconst (v := 0) hx hb dX4_guests_30 (by decide) ?_
      refine lv_istore_n (lv' := [(3, .int 0), (0, .ref h), (1, .int f), (2, .int d)]) hx hb dX4_guests_31 rfl hl (by decide) rfl (fun ls hl => ?_)
      refine lv_iconst (v := 0) hx hb dX4_guests_32 (by decide) ?_
      refine lv_istore (lv' := [(4, .int 0), (3, .int 0), (0, .ref h), (1, .int f), (2, .int d)]) hx hb dX4_guests_33 hl (by decide) rfl (fun ls hl => ?_)
      have L35_u_3 : ∀ (k9u_3 : Nat) (i : Nat) (y : Int32) (H : Heap) (locs : List Loc) (ls : Array Slot), 8 - i < k9u_3 → i ≤ 8 → y = foldU (guStep a kn n (jn f) d) 0 i → va_P D vwCl (mW h q cI cZ n cm 0 lm a kn) H → va_S (mF h q) s.heap H locs → lv_has ls 5 [(3, .int y), (4, .int (nI i)), (0, .ref h), (1, .int f), (2, .int d)] → wrW p l e 2 48 s m [.ref h, .int f, .int d] below meth c H locs D h q cI cZ rI (eqQ (mGuests n cm a kn f d)) (F0 m 35 ls []) := by
        intro k9u_3
        induction k9u_3 with
        | zero => intro i y H locs ls hk; exact absurd hk (Nat.not_lt_zero _)
        | succ k9u_3 ihu_3 =>
          intro i y H locs ls hk hi hf hP hS hl
          refine lv_iload hx hb dX4_guests_35 (lv_at hl 1 rfl) ?_
          refine lv_bipush (v := 8) hx hb dX4_guests_37 (by decide) ?_
          refine lw_ge (tgt := 78) hx hb i 8 (by omega) (by omega) dX4_guests_39 (by decide) (fun c_4 => ?_) (fun c_4 => ?_)
          · skip
            refine lv_iload_n hx hb dX4_guests_78 rfl (lv_at hl 0 rfl) ?_
            exact wr_reti F hr hlocks hP hS (by simp [eqQ, mGuests, bI, c_1, c_2, c_4, hf, show i = 8 by omega]) dX4_guests_79
          · skip
            refine lv_aload_n hx hb dX4_guests_42 rfl (lv_at hl 2 rfl) ?_
            refine mg_get F hK hin hP 16 (by decide) (by decide +kernel) rfl dX4_guests_43 ?_
            refine lv_if_ne (tgt := 78) hx hb dX4_guests_46 (by decide) (fun z9 => absurd z9 (by decide)) (fun _ => ?_)
            refine lv_iload_n hx hb dX4_guests_49 rfl (lv_at hl 0 rfl) ?_
            refine lv_aload_n hx hb dX4_guests_50 rfl (lv_at hl 2 rfl) ?_
            refine lv_iload_n hx hb dX4_guests_51 rfl (lv_at hl 3 rfl) ?_
            refine lv_iload hx hb dX4_guests_52 (lv_at hl 1 rfl) ?_
            refine lv_iload_n hx hb dX4_guests_54 rfl (lv_at hl 4 rfl) ?_
            obtain ⟨vf, hvf, evf⟩ := in4 (x := f)  (by first | exact c_2 | exact c_1)
            have nvf : jn f = vf := by rw [evf]; exact jn_nI (by omega)
            refine ro_callV F hK [.int (nI vf), .int (nI i), .int d] (mc_coming hP vf (nI i) d (by first | assumption | omega) (by first | assumption | omega)) (cwV 3 F.2.2.2.2 gX4_guests_X4_coming rfl rfl rfl (by decide +kernel) ⟨Nat.le_of_ble_eq_true rfl, Nat.le_of_ble_eq_true rfl⟩) (mg_rc hK hP) rfl hl.1 (by first | (rw [evf]; done) | (rw [evf]; rfl)) (lv_room (Nat.le_of_ble_eq_true rfl)) ⟨Nat.zero_le _, Nat.zero_le _⟩ dX4_guests_55 ?_
            refine lv_iconst (v := (-1)) hx hb dX4_guests_58 (by decide) ?_
            refine lv_icmp_eq (tgt := 69) hx hb dX4_guests_59 (by decide) (fun c_5 => ?_) (fun c_5 => ?_)
            · skip
              refine lv_iconst (v := 0) hx hb dX4_guests_69 (by decide) ?_
              refine lv_ior hx hb dX4_guests_70 ?_
              refine lv_istore_n (lv' := [(3, .int (y ||| 0)), (4, .int (nI i)), (0, .ref h), (1, .int f), (2, .int d)]) hx hb dX4_guests_71 rfl hl (by decide) rfl (fun ls hl => ?_)
              refine lv_iinc (v := nI (i + 1)) (lv' := [(4, .int (nI (i + 1))), (3, .int (y ||| 0)), (0, .ref h), (1, .int f), (2, .int d)]) hx hb dX4_guests_72 hl (k := 1) rfl (show nI i + Int32.ofInt 1 = _ from nI_add i 1) (by decide) rfl (fun ls hl => ?_)
              refine lv_goto (tgt := 35) hx hb dX4_guests_75 (by decide) ?_
              exact ihu_3  (i + 1) (y ||| 0) _ _ ls (by omega) (by first | omega | assumption) (by rw [foldU_s, ← hf]; simp [guStep, c_1, c_2, c_4, nvf, c_5]) hP hS (lv_sub hl [1, 0, 2, 3, 4] rfl)
            · skip
              refine lv_iconst (v := 1) hx hb dX4_guests_62 (by decide) ?_
              refine lv_iload hx hb dX4_guests_63 (lv_at hl 1 rfl) ?_
              refine lv_ishl hx hb dX4_guests_65 ?_
              refine lv_goto (tgt := 70) hx hb dX4_guests_66 (by decide) ?_
              refine lv_ior hx hb dX4_guests_70 ?_
              refine lv_istore_n (lv' := [(3, .int (y ||| (1 <<< (nI i &&& 31)))), (4, .int (nI i)), (0, .ref h), (1, .int f), (2, .int d)]) hx hb dX4_guests_71 rfl hl (by decide) rfl (fun ls hl => ?_)
              refine lv_iinc (v := nI (i + 1)) (lv' := [(4, .int (nI (i + 1))), (3, .int (y ||| (1 <<< (nI i &&& 31)))), (0, .ref h), (1, .int f), (2, .int d)]) hx hb dX4_guests_72 hl (k := 1) rfl (show nI i + Int32.ofInt 1 = _ from nI_add i 1) (by decide) rfl (fun ls hl => ?_)
              refine lv_goto (tgt := 35) hx hb dX4_guests_75 (by decide) ?_
              exact ihu_3  (i + 1) (y ||| (1 <<< (nI i &&& 31))) _ _ ls (by omega) (by first | omega | assumption) (by rw [foldU_s, ← hf]; simp [guStep, c_1, c_2, c_4, nvf, c_5]) hP hS (lv_sub hl [1, 0, 2, 3, 4] rfl)
      exact L35_u_3 _ 0 0 _ _ ls (Nat.lt_succ_self _) (by first | omega | assumption) (rfl) hP hS (lv_sub hl [1, 0, 2, 3, 4] rfl)
    · skip
      refine lv_iconst (v := 2) hx hb dX4_guests_22 (by decide) ?_
      refine lv_goto (tgt := 27) hx hb dX4_guests_23 (by decide) ?_
      refine mp_put F hK hin hN hA hP hS 16 n cm 2 lm rfl (by decide) (by decide +kernel) rfl rfl dX4_guests_27 (fun H locs hP hS => ?_)
      refine lv_iconst (v := 0) hx hb dX4_guests_30 (by decide) ?_
      refine lv_istore_n (lv' := [(3, .int 0), (0, .ref h), (1, .int f), (2, .int d)]) hx hb dX4_guests_31 rfl hl (by decide) rfl (fun ls hl => ?_)
      refine lv_iconst (v := 0) hx hb dX4_guests_32 (by decide) ?_
      refine lv_istore (lv' := [(4, .int 0), (3, .int 0), (0, .ref h), (1, .int f), (2, .int d)]) hx hb dX4_guests_33 hl (by decide) rfl (fun ls hl => ?_)
      refine lv_iload hx hb dX4_guests_35 (lv_at hl 0 rfl) ?_
      refine lv_bipush (v := 8) hx hb dX4_guests_37 (by decide) ?_
      refine lv_icmp_ge (tgt := 78) hx hb dX4_guests_39 (by decide) (fun z9 => absurd z9 (by decide)) (fun _ => ?_)
      refine lv_aload_n hx hb dX4_guests_42 rfl (lv_at hl 2 rfl) ?_
      refine mg_get F hK hin hP 16 (by decide) (by decide +kernel) rfl dX4_guests_43 ?_
      refine lv_if_ne (tgt := 78) hx hb dX4_guests_46 (by decide) (fun _ => ?_) (fun z9 => absurd z9 (by decide))
      refine lv_iload_n hx hb dX4_guests_78 rfl (lv_at hl 1 rfl) ?_
      exact wr_reti F hr hlocks hP hS (by simp [eqQ, mGuests, bI, c_1, c_2]) dX4_guests_79
  · skip
    refine lv_iconst (v := 1) hx hb dX4_guests_8 (by decide) ?_
    refine lv_goto (tgt := 27) hx hb dX4_guests_9 (by decide) ?_
    refine mp_put F hK hin hN hA hP hS 16 n cm 1 lm rfl (by decide) (by decide +kernel) rfl rfl dX4_guests_27 (fun H locs hP hS => ?_)
    refine lv_iconst (v := 0) hx hb dX4_guests_30 (by decide) ?_
    refine lv_istore_n (lv' := [(3, .int 0), (0, .ref h), (1, .int f), (2, .int d)]) hx hb dX4_guests_31 rfl hl (by decide) rfl (fun ls hl => ?_)
    refine lv_iconst (v := 0) hx hb dX4_guests_32 (by decide) ?_
    refine lv_istore (lv' := [(4, .int 0), (3, .int 0), (0, .ref h), (1, .int f), (2, .int d)]) hx hb dX4_guests_33 hl (by decide) rfl (fun ls hl => ?_)
    refine lv_iload hx hb dX4_guests_35 (lv_at hl 0 rfl) ?_
    refine lv_bipush (v := 8) hx hb dX4_guests_37 (by decide) ?_
    refine lv_icmp_ge (tgt := 78) hx hb dX4_guests_39 (by decide) (fun z9 => absurd z9 (by decide)) (fun _ => ?_)
    refine lv_aload_n hx hb dX4_guests_42 rfl (lv_at hl 2 rfl) ?_
    refine mg_get F hK hin hP 16 (by decide) (by decide +kernel) rfl dX4_guests_43 ?_
    refine lv_if_ne (tgt := 78) hx hb dX4_guests_46 (by decide) (fun _ => ?_) (fun z9 => absurd z9 (by decide))
    refine lv_iload_n hx hb dX4_guests_78 rfl (lv_at hl 1 rfl) ?_
    exact wr_reti F hr hlocks hP hS (by simp [eqQ, mGuests, bI, c_1]) dX4_guests_79
set_option maxHeartbeats 4000000 in
set_option maxRecDepth 100000 in
theorem mc_claims {l : Launch} {D : va_G} {cI cZ : ClassId} {h : Nat} {q : Nat → Nat} (hN : (mAd h q).Nodup) {n cm : Nat} {th : Int32} {lm : Nat} {a : Nat → Nat → Int32} {kn : Nat → Bool} (f : Int32) (t : Int32) (I : mI n cm a) : wr_Met l yX4_claims wsX4_claims 3 71 D h q cI cZ (mW h q cI cZ n cm th lm a kn) [.ref h, .int f, .int t] rI (eqQ (mClaims n cm a kn f t)) := by
  refine wr_start rfl (by decide +kernel) (Nat.le_of_ble_eq_true rfl) (fun p e s m below meth c F hr hlocks hK H locs hP hS ls hl => ?_)
  have hl : lv_has ls 7 [(0, .ref h), (1, .int f), (2, .int t)] := hl
  have hx := F.1
  have hb := F.2.1
  have hA : ∀ x, x ∈ mAd h q → mF h q x := fun _ z => z
  have hin : ∀ w ∈ wsX40, w ∈ wsX4_claims := fun _ z => List.mem_cons_of_mem _ (List.mem_append_right _ z)
  have hn := I.1
  have hcm := I.2.1
  refine lv_iconst (v := 0) hx hb dX4_claims_0 (by decide) ?_
  refine lv_istore_n (lv' := [(3, .int 0), (0, .ref h), (1, .int f), (2, .int t)]) hx hb dX4_claims_1 rfl hl (by decide) rfl (fun ls hl => ?_)
  refine lv_aload_n hx hb dX4_claims_2 rfl (lv_at hl 1 rfl) ?_
  refine lv_iload_n hx hb dX4_claims_3 rfl (lv_at hl 2 rfl) ?_
  refine lv_iload_n hx hb dX4_claims_4 rfl (lv_at hl 3 rfl) ?_
  refine wr_callVi F hK [.int f, .int t] (mc_areOne hN f t ) (cwV 2 F.2.2.2.2 gX4_claims_X4_areOne rfl rfl rfl (by decide +kernel) ⟨Nat.le_of_ble_eq_true rfl, Nat.le_of_ble_eq_true rfl⟩) (mg_rc hK hP) hP hS hA rfl hl.1 rfl (lv_room (Nat.le_of_ble_eq_true rfl)) ⟨Nat.zero_le _, Nat.zero_le _⟩ dX4_claims_5 (fun r_w_1 n_w_1 cm_w_1 th_w_1 lm_w_1 a_w_1 kn_w_1 H locs hp_w_1 hP hS => ?_)
  obtain ⟨e1_w_1, e2_w_1, e3_w_1, e4_w_1, e5_w_1, e6_w_1, e7_w_1⟩ := hp_w_1
  rw [e2_w_1, e3_w_1, e4_w_1, e5_w_1, e6_w_1, e7_w_1] at hP
  rw [e1_w_1]
  refine lw_beq (tgt := 78) hx hb dX4_claims_8 (by decide) (fun c_2 => ?_) (fun c_2 => ?_)
  · skip
    refine lv_iload_n hx hb dX4_claims_78 rfl (lv_at hl 0 rfl) ?_
    exact wr_reti F hr hlocks hP hS (by simp [eqQ, mClaims, bI, c_2]) dX4_claims_79
  · skip
    refine lv_aload_n hx hb dX4_claims_11 rfl (lv_at hl 1 rfl) ?_
    refine lv_iload_n hx hb dX4_claims_12 rfl (lv_at hl 2 rfl) ?_
    refine lv_iload_n hx hb dX4_claims_13 rfl (lv_at hl 3 rfl) ?_
    obtain ⟨vf, hvf, evf⟩ := in4 (x := f)  (by first | exact (and_l c_2) | exact (and_r c_2) | exact (and_l (and_l c_2)) | exact (and_r (and_l c_2)))
    have nvf : jn f = vf := by rw [evf]; exact jn_nI (by omega)
    refine ro_callV F hK [.int (nI vf), .int t] (mc_placeOf hP vf t (by first | assumption | omega) (by first | assumption | omega)) (cwV 2 F.2.2.2.2 gX4_claims_X4_placeOf rfl rfl rfl (by decide +kernel) ⟨Nat.le_of_ble_eq_true rfl, Nat.le_of_ble_eq_true rfl⟩) (mg_rc hK hP) rfl hl.1 (by first | (rw [evf]; done) | (rw [evf]; rfl)) (lv_room (Nat.le_of_ble_eq_true rfl)) ⟨Nat.zero_le _, Nat.zero_le _⟩ dX4_claims_14 ?_
    refine lv_istore (lv' := [(4, .int (placeB a kn n vf t)), (3, .int 0), (0, .ref h), (1, .int f), (2, .int t)]) hx hb dX4_claims_17 hl (by decide) rfl (fun ls hl => ?_)
    refine lv_iconst (v := 0) hx hb dX4_claims_19 (by decide) ?_
    refine lv_istore (lv' := [(5, .int 0), (4, .int (placeB a kn n vf t)), (3, .int 0), (0, .ref h), (1, .int f), (2, .int t)]) hx hb dX4_claims_20 hl (by decide) rfl (fun ls hl => ?_)
    have L22_u_3 : ∀ (k9u_3 : Nat) (i : Nat) (y : Int32) (H : Heap) (locs : List Loc) (ls : Array Slot), 5 - i < k9u_3 → i ≤ 5 → y = foldU (clStep a kn n (jn f) t) 0 i → va_P D vwCl (mW h q cI cZ n cm (bI (!(inB f 0 4 && inB t 0 39))) lm a kn) H → va_S (mF h q) s.heap H locs → lv_has ls 7 [(3, .int y), (5, .int (nI i)), (4, .int (placeB a kn n vf t)), (0, .ref h), (1, .int f), (2, .int t)] → wrW p l e 3 71 s m [.ref h, .int f, .int t] below meth c H locs D h q cI cZ rI (eqQ (mClaims n cm a kn f t)) (F0 m 22 ls []) := by
      intro k9u_3
      induction k9u_3 with
      | zero => intro i y H locs ls hk; exact absurd hk (Nat.not_lt_zero _)
      | succ k9u_3 ihu_3 =>
        intro i y H locs ls hk hi hf hP hS hl
        refine lv_iload hx hb dX4_claims_22 (lv_at hl 1 rfl) ?_
        refine lv_iconst (v := 5) hx hb dX4_claims_24 (by decide) ?_
        refine lw_ge (tgt := 78) hx hb i 5 (by omega) (by omega) dX4_claims_25 (by decide) (fun c_4 => ?_) (fun c_4 => ?_)
        · skip
          refine lv_iload_n hx hb dX4_claims_78 rfl (lv_at hl 0 rfl) ?_
          exact wr_reti F hr hlocks hP hS (by simp [eqQ, mClaims, bI, c_2, nvf, c_4, hf, show i = 5 by omega]) dX4_claims_79
        · skip
          refine lv_aload_n hx hb dX4_claims_28 rfl (lv_at hl 3 rfl) ?_
          refine lv_iload_n hx hb dX4_claims_29 rfl (lv_at hl 4 rfl) ?_
          refine lv_iload_n hx hb dX4_claims_30 rfl (lv_at hl 5 rfl) ?_
          refine lv_iload hx hb dX4_claims_31 (lv_at hl 1 rfl) ?_
          refine ro_callV F hK [.int (nI vf), .int t, .int (nI i)] (mc_latestMove hP vf t (nI i) (by first | assumption | omega) (by first | assumption | omega)) (cwV 3 F.2.2.2.2 gX4_claims_X4_latestMove rfl rfl rfl (by decide +kernel) ⟨Nat.le_of_ble_eq_true rfl, Nat.le_of_ble_eq_true rfl⟩) (mg_rc hK hP) rfl hl.1 (by first | (rw [evf]; done) | (rw [evf]; rfl)) (lv_room (Nat.le_of_ble_eq_true rfl)) ⟨Nat.zero_le _, Nat.zero_le _⟩ dX4_claims_33 ?_
          refine lv_istore (lv' := [(6, .int (latestB a kn n vf t (nI i))), (3, .int y), (5, .int (nI i)), (4, .int (placeB a kn n vf t)), (0, .ref h), (1, .int f), (2, .int t)]) hx hb dX4_claims_36 hl (by decide) rfl (fun ls hl => ?_)
          refine lv_iload_n hx hb dX4_claims_38 rfl (lv_at hl 1 rfl) ?_
          refine lv_iload hx hb dX4_claims_39 (lv_at hl 0 rfl) ?_
          refine lv_iconst (v := (-1)) hx hb dX4_claims_41 (by decide) ?_
          refine lv_icmp_eq (tgt := 69) hx hb dX4_claims_42 (by decide) (fun c_5 => ?_) (fun c_5 => ?_)
          · skip
            refine lv_iconst (v := 0) hx hb dX4_claims_69 (by decide) ?_
            refine lv_ior hx hb dX4_claims_70 ?_
            refine lv_istore_n (lv' := [(3, .int (y ||| 0)), (6, .int (latestB a kn n vf t (nI i))), (5, .int (nI i)), (4, .int (placeB a kn n vf t)), (0, .ref h), (1, .int f), (2, .int t)]) hx hb dX4_claims_71 rfl hl (by decide) rfl (fun ls hl => ?_)
            refine lv_iinc (v := nI (i + 1)) (lv' := [(5, .int (nI (i + 1))), (3, .int (y ||| 0)), (6, .int (latestB a kn n vf t (nI i))), (4, .int (placeB a kn n vf t)), (0, .ref h), (1, .int f), (2, .int t)]) hx hb dX4_claims_72 hl (k := 2) rfl (show nI i + Int32.ofInt 1 = _ from nI_add i 1) (by decide) rfl (fun ls hl => ?_)
            refine lv_goto (tgt := 22) hx hb dX4_claims_75 (by decide) ?_
            exact ihu_3  (i + 1) (y ||| 0) _ _ ls (by omega) (by first | omega | assumption) (by rw [foldU_s, ← hf]; simp [clStep, c_2, nvf, c_4, c_5]) hP hS (lv_sub hl [1, 0, 3, 4, 5, 6] rfl)
          · skip
            obtain ⟨j_6, hj_6, ej_6⟩ := (show latestB a kn n vf t (nI i) = -1 ∨ ∃ j, j < n ∧ latestB a kn n vf t (nI i) = nI j from lm_range a kn vf t (nI i) n).resolve_left (by first | assumption | exact c_5)
            have nj_6 : jn (latestB a kn n vf t (nI i)) = j_6 := by rw [ej_6]; exact jn_nI (by omega)
            refine lv_aload_n hx hb dX4_claims_45 rfl (lv_at hl 4 rfl) ?_
            refine mg_get F hK hin hP 1 (by decide) (by decide +kernel) rfl dX4_claims_46 ?_
            refine lv_iload hx hb dX4_claims_49 (lv_at hl 0 rfl) ?_
            refine mg_ald F hK hP 1 1 240 rfl j_6 ej_6 (by omega) (by decide) dX4_claims_51 ?_
            refine lv_if_ne (tgt := 69) hx hb dX4_claims_52 (by decide) (fun c_7 => ?_) (fun c_7 => ?_)
            · skip
              refine lv_iconst (v := 0) hx hb dX4_claims_69 (by decide) ?_
              refine lv_ior hx hb dX4_claims_70 ?_
              refine lv_istore_n (lv' := [(3, .int (y ||| 0)), (6, .int (latestB a kn n vf t (nI i))), (5, .int (nI i)), (4, .int (placeB a kn n vf t)), (0, .ref h), (1, .int f), (2, .int t)]) hx hb dX4_claims_71 rfl hl (by decide) rfl (fun ls hl => ?_)
              refine lv_iinc (v := nI (i + 1)) (lv' := [(5, .int (nI (i + 1))), (3, .int (y ||| 0)), (6, .int (latestB a kn n vf t (nI i))), (4, .int (placeB a kn n vf t)), (0, .ref h), (1, .int f), (2, .int t)]) hx hb dX4_claims_72 hl (k := 2) rfl (show nI i + Int32.ofInt 1 = _ from nI_add i 1) (by decide) rfl (fun ls hl => ?_)
              refine lv_goto (tgt := 22) hx hb dX4_claims_75 (by decide) ?_
              exact ihu_3  (i + 1) (y ||| 0) _ _ ls (by omega) (by first | omega | assumption) (by rw [foldU_s, ← hf]; simp [clStep, c_2, nvf, c_4, c_5, nj_6, c_7]) hP hS (lv_sub hl [1, 0, 3, 4, 5, 6] rfl)
            · skip
              refine lv_iload hx hb dX4_claims_55 (lv_at hl 3 rfl) ?_
              refine lv_iload hx hb dX4_claims_57 (lv_at hl 2 rfl) ?_
              refine lv_icmp_eq (tgt := 69) hx hb dX4_claims_59 (by decide) (fun c_8 => ?_) (fun c_8 => ?_)
              · skip
                refine lv_iconst (v := 0) hx hb dX4_claims_69 (by decide) ?_
                refine lv_ior hx hb dX4_claims_70 ?_
                refine lv_istore_n (lv' := [(3, .int (y ||| 0)), (6, .int (latestB a kn n vf t (nI i))), (5, .int (nI i)), (4, .int (placeB a kn n vf t)), (0, .ref h), (1, .int f), (2, .int t)]) hx hb dX4_claims_71 rfl hl (by decide) rfl (fun ls hl => ?_)
                refine lv_iinc (v := nI (i + 1)) (lv' := [(5, .int (nI (i + 1))), (3, .int (y ||| 0)), (6, .int (latestB a kn n vf t (nI i))), (4, .int (placeB a kn n vf t)), (0, .ref h), (1, .int f), (2, .int t)]) hx hb dX4_claims_72 hl (k := 2) rfl (show nI i + Int32.ofInt 1 = _ from nI_add i 1) (by decide) rfl (fun ls hl => ?_)
                refine lv_goto (tgt := 22) hx hb dX4_claims_75 (by decide) ?_
                exact ihu_3  (i + 1) (y ||| 0) _ _ ls (by omega) (by first | omega | assumption) (by rw [foldU_s, ← hf]; simp [clStep, c_2, nvf, c_4, c_5, nj_6, c_7, c_8]) hP hS (lv_sub hl [1, 0, 3, 4, 5, 6] rfl)
              · skip
                refine lv_iconst (v := 1) hx hb dX4_claims_62 (by decide) ?_
                refine lv_iload hx hb dX4_claims_63 (lv_at hl 2 rfl) ?_
                refine lv_ishl hx hb dX4_claims_65 ?_
                refine lv_goto (tgt := 70) hx hb dX4_claims_66 (by decide) ?_
                refine lv_ior hx hb dX4_claims_70 ?_
                refine lv_istore_n (lv' := [(3, .int (y ||| (1 <<< (nI i &&& 31)))), (6, .int (latestB a kn n vf t (nI i))), (5, .int (nI i)), (4, .int (placeB a kn n vf t)), (0, .ref h), (1, .int f), (2, .int t)]) hx hb dX4_claims_71 rfl hl (by decide) rfl (fun ls hl => ?_)
                refine lv_iinc (v := nI (i + 1)) (lv' := [(5, .int (nI (i + 1))), (3, .int (y ||| (1 <<< (nI i &&& 31)))), (6, .int (latestB a kn n vf t (nI i))), (4, .int (placeB a kn n vf t)), (0, .ref h), (1, .int f), (2, .int t)]) hx hb dX4_claims_72 hl (k := 2) rfl (show nI i + Int32.ofInt 1 = _ from nI_add i 1) (by decide) rfl (fun ls hl => ?_)
                refine lv_goto (tgt := 22) hx hb dX4_claims_75 (by decide) ?_
                exact ihu_3  (i + 1) (y ||| (1 <<< (nI i &&& 31))) _ _ ls (by omega) (by first | omega | assumption) (by rw [foldU_s, ← hf]; simp [clStep, c_2, nvf, c_4, c_5, nj_6, c_7, c_8]) hP hS (lv_sub hl [1, 0, 3, 4, 5, 6] rfl)
    exact L22_u_3 _ 0 0 _ _ ls (Nat.lt_succ_self _) (by first | omega | assumption) (rfl) hP hS (lv_sub hl [2, 0, 1, 3, 4, 5] rfl)
set_option maxHeartbeats 4000000 in
set_option maxRecDepth 100000 in
theorem mc_isUnfit {l : Launch} {D : va_G} {cI cZ : ClassId} {h : Nat} {q : Nat → Nat} (hN : (mAd h q).Nodup) {n cm : Nat} {th : Int32} {lm : Nat} {a : Nat → Nat → Int32} {kn : Nat → Bool} (f : Int32) (k : Int32) (I : mI n cm a) : wr_Met l yX4_isUnfit wsX4_isUnfit 3 75 D h q cI cZ (mW h q cI cZ n cm th lm a kn) [.ref h, .int f, .int k] rI (eqQ (mIsUnfit n cm a kn f k)) := by
  refine wr_start rfl (by decide +kernel) (Nat.le_of_ble_eq_true rfl) (fun p e s m below meth c F hr hlocks hK H locs hP hS ls hl => ?_)
  have hl : lv_has ls 3 [(0, .ref h), (1, .int f), (2, .int k)] := hl
  have hx := F.1
  have hb := F.2.1
  have hA : ∀ x, x ∈ mAd h q → mF h q x := fun _ z => z
  have hin : ∀ w ∈ wsX40, w ∈ wsX4_isUnfit := fun _ z => List.mem_cons_of_mem _ (List.mem_append_right _ z)
  have hn := I.1
  have hcm := I.2.1
  refine lv_aload_n hx hb dX4_isUnfit_0 rfl (lv_at hl 0 rfl) ?_
  refine lv_iload_n hx hb dX4_isUnfit_1 rfl (lv_at hl 1 rfl) ?_
  refine lv_iload_n hx hb dX4_isUnfit_2 rfl (lv_at hl 2 rfl) ?_
  refine wr_callVi F hK [.int f, .int k] (mc_areCake hN f k ) (cwV 2 F.2.2.2.2 gX4_isUnfit_X4_areCake rfl rfl rfl (by decide +kernel) ⟨Nat.le_of_ble_eq_true rfl, Nat.le_of_ble_eq_true rfl⟩) (mg_rc hK hP) hP hS hA rfl hl.1 rfl (lv_room (Nat.le_of_ble_eq_true rfl)) ⟨Nat.zero_le _, Nat.zero_le _⟩ dX4_isUnfit_3 (fun r_w_1 n_w_1 cm_w_1 th_w_1 lm_w_1 a_w_1 kn_w_1 H locs hp_w_1 hP hS => ?_)
  obtain ⟨e1_w_1, e2_w_1, e3_w_1, e4_w_1, e5_w_1, e6_w_1, e7_w_1⟩ := hp_w_1
  rw [e2_w_1, e3_w_1, e4_w_1, e5_w_1, e6_w_1, e7_w_1] at hP
  rw [e1_w_1]
  refine lw_beq (tgt := 43) hx hb dX4_isUnfit_6 (by decide) (fun c_2 => ?_) (fun c_2 => ?_)
  · skip
    refine lv_iconst (v := 0) hx hb dX4_isUnfit_43 (by decide) ?_
    exact wr_retz F hr hlocks hP hS false rfl (by simp [eqQ, mIsUnfit, bI, c_2]) dX4_isUnfit_44
  · skip
    refine lv_aload_n hx hb dX4_isUnfit_9 rfl (lv_at hl 0 rfl) ?_
    refine lv_iload_n hx hb dX4_isUnfit_10 rfl (lv_at hl 1 rfl) ?_
    refine lv_iload_n hx hb dX4_isUnfit_11 rfl (lv_at hl 2 rfl) ?_
    obtain ⟨vf, hvf, evf⟩ := in4 (x := f)  (by first | exact (and_l c_2) | exact (and_r c_2) | exact (and_l (and_l c_2)) | exact (and_r (and_l c_2)))
    have nvf : jn f = vf := by rw [evf]; exact jn_nI (by omega)
    obtain ⟨vk, hvk, evk⟩ := inC (x := k) hcm (by first | exact (and_l c_2) | exact (and_r c_2) | exact (and_l (and_l c_2)) | exact (and_r (and_l c_2)))
    have nvk : jn k = vk := by rw [evk]; exact jn_nI (by omega)
    refine ro_callV F hK [.int (nI vf), .int (nI vk)] (mc_stateOf hP vf vk (by first | assumption | omega) (by first | assumption | omega) (by first | assumption | omega)) (cwV 2 F.2.2.2.2 gX4_isUnfit_X4_stateOf rfl rfl rfl (by decide +kernel) ⟨Nat.le_of_ble_eq_true rfl, Nat.le_of_ble_eq_true rfl⟩) (mg_rc hK hP) rfl hl.1 (by first | (rw [evf, evk]; done) | (rw [evf, evk]; rfl)) (lv_room (Nat.le_of_ble_eq_true rfl)) ⟨Nat.zero_le _, Nat.zero_le _⟩ dX4_isUnfit_12 ?_
    refine lv_iconst (v := 1) hx hb dX4_isUnfit_15 (by decide) ?_
    refine lv_icmp_ne (tgt := 43) hx hb dX4_isUnfit_16 (by decide) (fun c_3 => ?_) (fun c_3 => ?_)
    · skip
      refine lv_iconst (v := 0) hx hb dX4_isUnfit_43 (by decide) ?_
      exact wr_retz F hr hlocks hP hS false rfl (by simp [eqQ, mIsUnfit, bI, c_2, nvf, nvk, c_3]) dX4_isUnfit_44
    · skip
      refine lv_aload_n hx hb dX4_isUnfit_19 rfl (lv_at hl 0 rfl) ?_
      refine lv_iload_n hx hb dX4_isUnfit_20 rfl (lv_at hl 1 rfl) ?_
      refine lv_aload_n hx hb dX4_isUnfit_21 rfl (lv_at hl 0 rfl) ?_
      refine mg_get F hK hin hP 13 (by decide) (by decide +kernel) rfl dX4_isUnfit_22 ?_
      refine lv_iload_n hx hb dX4_isUnfit_25 rfl (lv_at hl 2 rfl) ?_
      refine mg_ald F hK hP 13 12 20 rfl vk evk (by omega) (by decide) dX4_isUnfit_26 ?_
      obtain ⟨j_4, hj_4, ej_4⟩ := I.2.2.2.2 vk hvk
      refine lw_N j_4 ej_4 ?_
      have nj_4 : jn (a 13 vk) = j_4 := by rw [ej_4]; exact jn_nI (by have := I.1; have := I.2.1; omega)
      refine lv_aload_n hx hb dX4_isUnfit_27 rfl (lv_at hl 0 rfl) ?_
      refine mg_get F hK hin hP 14 (by decide) (by decide +kernel) rfl dX4_isUnfit_28 ?_
      refine lv_iload_n hx hb dX4_isUnfit_31 rfl (lv_at hl 2 rfl) ?_
      refine mg_ald F hK hP 14 13 20 rfl vk evk (by omega) (by decide) dX4_isUnfit_32 ?_
      refine ro_callV F hK [.int (nI vf), .int (nI j_4), .int (a 14 vk)] (mc_isDisliked hP vf j_4 (a 14 vk) (by first | assumption | omega) (by first | assumption | omega) (by first | assumption | omega)) (cwV 3 F.2.2.2.2 gX4_isUnfit_X4_isDisliked rfl rfl rfl (by decide +kernel) ⟨Nat.le_of_ble_eq_true rfl, Nat.le_of_ble_eq_true rfl⟩) (mg_rc hK hP) rfl hl.1 (by first | (rw [evf]; done) | (rw [evf]; rfl)) (lv_room (Nat.le_of_ble_eq_true rfl)) ⟨Nat.zero_le _, Nat.zero_le _⟩ dX4_isUnfit_33 ?_
      refine lw_beq (tgt := 43) hx hb dX4_isUnfit_36 (by decide) (fun c_5 => ?_) (fun c_5 => ?_)
      · skip
        refine lv_iconst (v := 0) hx hb dX4_isUnfit_43 (by decide) ?_
        exact wr_retz F hr hlocks hP hS false rfl (by simp [eqQ, mIsUnfit, bI, c_2, nvf, nvk, c_3, nj_4, c_5]) dX4_isUnfit_44
      · skip
        refine lv_iconst (v := 1) hx hb dX4_isUnfit_39 (by decide) ?_
        refine lv_goto (tgt := 44) hx hb dX4_isUnfit_40 (by decide) ?_
        exact wr_retz F hr hlocks hP hS true rfl (by simp [eqQ, mIsUnfit, bI, c_2, nvf, nvk, c_3, nj_4, c_5]) dX4_isUnfit_44
set_option maxHeartbeats 4000000 in
set_option maxRecDepth 100000 in
theorem mc_isSpoilt {l : Launch} {D : va_G} {cI cZ : ClassId} {h : Nat} {q : Nat → Nat} (hN : (mAd h q).Nodup) {n cm : Nat} {th : Int32} {lm : Nat} {a : Nat → Nat → Int32} {kn : Nat → Bool} (f : Int32) (k : Int32) (I : mI n cm a) : wr_Met l yX4_isSpoilt wsX4_isSpoilt 3 65 D h q cI cZ (mW h q cI cZ n cm th lm a kn) [.ref h, .int f, .int k] rI (eqQ (mIsSpoilt n cm a kn f k)) := by
  refine wr_start rfl (by decide +kernel) (Nat.le_of_ble_eq_true rfl) (fun p e s m below meth c F hr hlocks hK H locs hP hS ls hl => ?_)
  have hl : lv_has ls 5 [(0, .ref h), (1, .int f), (2, .int k)] := hl
  have hx := F.1
  have hb := F.2.1
  have hA : ∀ x, x ∈ mAd h q → mF h q x := fun _ z => z
  have hin : ∀ w ∈ wsX40, w ∈ wsX4_isSpoilt := fun _ z => List.mem_cons_of_mem _ (List.mem_append_right _ z)
  have hn := I.1
  have hcm := I.2.1
  refine lv_iconst (v := 0) hx hb dX4_isSpoilt_0 (by decide) ?_
  refine lv_istore_n (lv' := [(3, .int 0), (0, .ref h), (1, .int f), (2, .int k)]) hx hb dX4_isSpoilt_1 rfl hl (by decide) rfl (fun ls hl => ?_)
  refine lv_aload_n hx hb dX4_isSpoilt_2 rfl (lv_at hl 1 rfl) ?_
  refine lv_iload_n hx hb dX4_isSpoilt_3 rfl (lv_at hl 2 rfl) ?_
  refine lv_iload_n hx hb dX4_isSpoilt_4 rfl (lv_at hl 3 rfl) ?_
  refine wr_callVi F hK [.int f, .int k] (mc_areCake hN f k ) (cwV 2 F.2.2.2.2 gX4_isSpoilt_X4_areCake rfl rfl rfl (by decide +kernel) ⟨Nat.le_of_ble_eq_true rfl, Nat.le_of_ble_eq_true rfl⟩) (mg_rc hK hP) hP hS hA rfl hl.1 rfl (lv_room (Nat.le_of_ble_eq_true rfl)) ⟨Nat.zero_le _, Nat.zero_le _⟩ dX4_isSpoilt_5 (fun r_w_1 n_w_1 cm_w_1 th_w_1 lm_w_1 a_w_1 kn_w_1 H locs hp_w_1 hP hS => ?_)
  obtain ⟨e1_w_1, e2_w_1, e3_w_1, e4_w_1, e5_w_1, e6_w_1, e7_w_1⟩ := hp_w_1
  rw [e2_w_1, e3_w_1, e4_w_1, e5_w_1, e6_w_1, e7_w_1] at hP
  rw [e1_w_1]
  refine lw_beq (tgt := 91) hx hb dX4_isSpoilt_8 (by decide) (fun c_2 => ?_) (fun c_2 => ?_)
  · skip
    refine lv_iload_n hx hb dX4_isSpoilt_91 rfl (lv_at hl 0 rfl) ?_
    exact wr_retz F hr hlocks hP hS false rfl (by simp [eqQ, mIsSpoilt, bI, c_2]) dX4_isSpoilt_92
  · skip
    refine lv_aload_n hx hb dX4_isSpoilt_11 rfl (lv_at hl 1 rfl) ?_
    refine lv_iload_n hx hb dX4_isSpoilt_12 rfl (lv_at hl 2 rfl) ?_
    refine lv_iload_n hx hb dX4_isSpoilt_13 rfl (lv_at hl 3 rfl) ?_
    obtain ⟨vf, hvf, evf⟩ := in4 (x := f)  (by first | exact (and_l c_2) | exact (and_r c_2) | exact (and_l (and_l c_2)) | exact (and_r (and_l c_2)))
    have nvf : jn f = vf := by rw [evf]; exact jn_nI (by omega)
    obtain ⟨vk, hvk, evk⟩ := inC (x := k) hcm (by first | exact (and_l c_2) | exact (and_r c_2) | exact (and_l (and_l c_2)) | exact (and_r (and_l c_2)))
    have nvk : jn k = vk := by rw [evk]; exact jn_nI (by omega)
    refine ro_callV F hK [.int (nI vf), .int (nI vk)] (mc_stateOf hP vf vk (by first | assumption | omega) (by first | assumption | omega) (by first | assumption | omega)) (cwV 2 F.2.2.2.2 gX4_isSpoilt_X4_stateOf rfl rfl rfl (by decide +kernel) ⟨Nat.le_of_ble_eq_true rfl, Nat.le_of_ble_eq_true rfl⟩) (mg_rc hK hP) rfl hl.1 (by first | (rw [evf, evk]; done) | (rw [evf, evk]; rfl)) (lv_room (Nat.le_of_ble_eq_true rfl)) ⟨Nat.zero_le _, Nat.zero_le _⟩ dX4_isSpoilt_14 ?_
    refine lv_iconst (v := 3) hx hb dX4_isSpoilt_17 (by decide) ?_
    refine lv_icmp_ne (tgt := 91) hx hb dX4_isSpoilt_18 (by decide) (fun c_3 => ?_) (fun c_3 => ?_)
    · skip
      refine lv_iload_n hx hb dX4_isSpoilt_91 rfl (lv_at hl 0 rfl) ?_
      exact wr_retz F hr hlocks hP hS false rfl (by simp [eqQ, mIsSpoilt, bI, c_2, nvf, nvk, c_3]) dX4_isSpoilt_92
    · skip
      refine lv_iconst (v := 0) hx hb dX4_isSpoilt_21 (by decide) ?_
      refine lv_istore (lv' := [(4, .int 0), (3, .int 0), (0, .ref h), (1, .int f), (2, .int k)]) hx hb dX4_isSpoilt_22 hl (by decide) rfl (fun ls hl => ?_)
      have L24_u_4 : ∀ (k9u_4 : Nat) (i : Nat) (y : Bool) (H : Heap) (locs : List Loc) (ls : Array Slot), n - i < k9u_4 → i ≤ n → y = foldU (spStep a kn n (jn f) k) false i → va_P D vwCl (mW h q cI cZ n cm (bI (!(inB f 0 4 && inB k 0 (nI cm - 1)))) lm a kn) H → va_S (mF h q) s.heap H locs → lv_has ls 5 [(3, .int (bI y)), (4, .int (nI i)), (0, .ref h), (1, .int f), (2, .int k)] → wrW p l e 3 65 s m [.ref h, .int f, .int k] below meth c H locs D h q cI cZ rI (eqQ (mIsSpoilt n cm a kn f k)) (F0 m 24 ls []) := by
        intro k9u_4
        induction k9u_4 with
        | zero => intro i y H locs ls hk; exact absurd hk (Nat.not_lt_zero _)
        | succ k9u_4 ihu_4 =>
          intro i y H locs ls hk hi hf hP hS hl
          refine lv_iload hx hb dX4_isSpoilt_24 (lv_at hl 1 rfl) ?_
          refine lv_aload_n hx hb dX4_isSpoilt_26 rfl (lv_at hl 2 rfl) ?_
          refine mg_get F hK hin hP 0 (by decide) (by decide +kernel) rfl dX4_isSpoilt_27 ?_
          refine lw_ge (tgt := 91) hx hb i n (by omega) (by omega) dX4_isSpoilt_30 (by decide) (fun c_5 => ?_) (fun c_5 => ?_)
          · skip
            refine lv_iload_n hx hb dX4_isSpoilt_91 rfl (lv_at hl 0 rfl) ?_
            exact wr_retz F hr hlocks hP hS y rfl (by simp [eqQ, mIsSpoilt, bI, c_2, nvf, nvk, c_3, c_5, hf, show i = n by omega]) dX4_isSpoilt_92
          · skip
            refine lv_iload_n hx hb dX4_isSpoilt_33 rfl (lv_at hl 0 rfl) ?_
            refine lw_bne (tgt := 79) hx hb dX4_isSpoilt_34 (by decide) (fun c_6 => ?_) (fun c_6 => ?_)
            · skip
              refine lv_iconst (v := 1) hx hb dX4_isSpoilt_79 (by decide) ?_
              refine lv_goto (tgt := 84) hx hb dX4_isSpoilt_80 (by decide) ?_
              refine lv_istore_n (lv' := [(3, .int 1), (4, .int (nI i)), (0, .ref h), (1, .int f), (2, .int k)]) hx hb dX4_isSpoilt_84 rfl hl (by decide) rfl (fun ls hl => ?_)
              refine lv_iinc (v := nI (i + 1)) (lv' := [(4, .int (nI (i + 1))), (3, .int 1), (0, .ref h), (1, .int f), (2, .int k)]) hx hb dX4_isSpoilt_85 hl (k := 1) rfl (show nI i + Int32.ofInt 1 = _ from nI_add i 1) (by decide) rfl (fun ls hl => ?_)
              refine lv_goto (tgt := 24) hx hb dX4_isSpoilt_88 (by decide) ?_
              exact ihu_4  (i + 1) true _ _ ls (by omega) (by first | omega | assumption) (by rw [foldU_s, ← hf]; simp [spStep, c_2, nvf, nvk, c_3, c_5, c_6]) hP hS (lv_sub hl [1, 0, 2, 3, 4] rfl)
            · skip
              refine lv_aload_n hx hb dX4_isSpoilt_37 rfl (lv_at hl 2 rfl) ?_
              refine lv_iload_n hx hb dX4_isSpoilt_38 rfl (lv_at hl 3 rfl) ?_
              refine lv_iload hx hb dX4_isSpoilt_39 (lv_at hl 1 rfl) ?_
              refine ro_callV F hK [.int (nI vf), .int (nI i)] (mc_knows hP vf i (by first | assumption | omega) (by first | assumption | omega)) (cwV 2 F.2.2.2.2 gX4_isSpoilt_X4_knows rfl rfl rfl (by decide +kernel) ⟨Nat.le_of_ble_eq_true rfl, Nat.le_of_ble_eq_true rfl⟩) (mg_rc hK hP) rfl hl.1 (by first | (rw [evf]; done) | (rw [evf]; rfl)) (lv_room (Nat.le_of_ble_eq_true rfl)) ⟨Nat.zero_le _, Nat.zero_le _⟩ dX4_isSpoilt_41 ?_
              refine lw_beq (tgt := 83) hx hb dX4_isSpoilt_44 (by decide) (fun c_7 => ?_) (fun c_7 => ?_)
              · skip
                refine lv_iconst (v := 0) hx hb dX4_isSpoilt_83 (by decide) ?_
                refine lv_istore_n (lv' := [(3, .int 0), (4, .int (nI i)), (0, .ref h), (1, .int f), (2, .int k)]) hx hb dX4_isSpoilt_84 rfl hl (by decide) rfl (fun ls hl => ?_)
                refine lv_iinc (v := nI (i + 1)) (lv' := [(4, .int (nI (i + 1))), (3, .int 0), (0, .ref h), (1, .int f), (2, .int k)]) hx hb dX4_isSpoilt_85 hl (k := 1) rfl (show nI i + Int32.ofInt 1 = _ from nI_add i 1) (by decide) rfl (fun ls hl => ?_)
                refine lv_goto (tgt := 24) hx hb dX4_isSpoilt_88 (by decide) ?_
                exact ihu_4  (i + 1) false _ _ ls (by omega) (by first | omega | assumption) (by rw [foldU_s, ← hf]; simp [spStep, c_2, nvf, nvk, c_3, c_5, c_6, c_7]) hP hS (lv_sub hl [1, 0, 2, 3, 4] rfl)
              · skip
                refine lv_aload_n hx hb dX4_isSpoilt_47 rfl (lv_at hl 2 rfl) ?_
                refine mg_get F hK hin hP 1 (by decide) (by decide +kernel) rfl dX4_isSpoilt_48 ?_
                refine lv_iload hx hb dX4_isSpoilt_51 (lv_at hl 1 rfl) ?_
                refine mg_ald F hK hP 1 1 240 rfl i rfl (by omega) (by decide) dX4_isSpoilt_53 ?_
                refine lv_iconst (v := 1) hx hb dX4_isSpoilt_54 (by decide) ?_
                refine lv_icmp_ne (tgt := 83) hx hb dX4_isSpoilt_55 (by decide) (fun c_8 => ?_) (fun c_8 => ?_)
                · skip
                  refine lv_iconst (v := 0) hx hb dX4_isSpoilt_83 (by decide) ?_
                  refine lv_istore_n (lv' := [(3, .int 0), (4, .int (nI i)), (0, .ref h), (1, .int f), (2, .int k)]) hx hb dX4_isSpoilt_84 rfl hl (by decide) rfl (fun ls hl => ?_)
                  refine lv_iinc (v := nI (i + 1)) (lv' := [(4, .int (nI (i + 1))), (3, .int 0), (0, .ref h), (1, .int f), (2, .int k)]) hx hb dX4_isSpoilt_85 hl (k := 1) rfl (show nI i + Int32.ofInt 1 = _ from nI_add i 1) (by decide) rfl (fun ls hl => ?_)
                  refine lv_goto (tgt := 24) hx hb dX4_isSpoilt_88 (by decide) ?_
                  exact ihu_4  (i + 1) false _ _ ls (by omega) (by first | omega | assumption) (by rw [foldU_s, ← hf]; simp [spStep, c_2, nvf, nvk, c_3, c_5, c_6, c_7, c_8]) hP hS (lv_sub hl [1, 0, 2, 3, 4] rfl)
                · skip
                  refine lv_aload_n hx hb dX4_isSpoilt_58 rfl (lv_at hl 2 rfl) ?_
                  refine mg_get F hK hin hP 5 (by decide) (by decide +kernel) rfl dX4_isSpoilt_59 ?_
                  refine lv_iload hx hb dX4_isSpoilt_62 (lv_at hl 1 rfl) ?_
                  refine mg_ald F hK hP 5 5 240 rfl i rfl (by omega) (by decide) dX4_isSpoilt_64 ?_
                  refine lv_iload_n hx hb dX4_isSpoilt_65 rfl (lv_at hl 4 rfl) ?_
                  refine lv_icmp_ne (tgt := 83) hx hb dX4_isSpoilt_66 (by decide) (fun c_9 => ?_) (fun c_9 => ?_)
                  · skip
                    refine lv_iconst (v := 0) hx hb dX4_isSpoilt_83 (by decide) ?_
                    refine lv_istore_n (lv' := [(3, .int 0), (4, .int (nI i)), (0, .ref h), (1, .int f), (2, .int k)]) hx hb dX4_isSpoilt_84 rfl hl (by decide) rfl (fun ls hl => ?_)
                    refine lv_iinc (v := nI (i + 1)) (lv' := [(4, .int (nI (i + 1))), (3, .int 0), (0, .ref h), (1, .int f), (2, .int k)]) hx hb dX4_isSpoilt_85 hl (k := 1) rfl (show nI i + Int32.ofInt 1 = _ from nI_add i 1) (by decide) rfl (fun ls hl => ?_)
                    refine lv_goto (tgt := 24) hx hb dX4_isSpoilt_88 (by decide) ?_
                    exact ihu_4  (i + 1) false _ _ ls (by omega) (by first | omega | assumption) (by rw [foldU_s, ← hf]; simp [spStep, c_2, nvf, nvk, c_3, c_5, c_6, c_7, c_8, c_9]) hP hS (lv_sub hl [1, 0, 2, 3, 4] rfl)
                  · skip
                    refine lv_aload_n hx hb dX4_isSpoilt_69 rfl (lv_at hl 2 rfl) ?_
                    refine lv_iload_n hx hb dX4_isSpoilt_70 rfl (lv_at hl 3 rfl) ?_
                    refine lv_iload hx hb dX4_isSpoilt_71 (lv_at hl 1 rfl) ?_
                    refine ro_callV F hK [.int (nI vf), .int (nI i)] (mc_isVain hP vf i (by first | assumption | omega) (by first | assumption | omega) (by first | assumption | omega)) (cwV 2 F.2.2.2.2 gX4_isSpoilt_X4_isVain rfl rfl rfl (by decide +kernel) ⟨Nat.le_of_ble_eq_true rfl, Nat.le_of_ble_eq_true rfl⟩) (mg_rc hK hP) rfl hl.1 (by first | (rw [evf]; done) | (rw [evf]; rfl)) (lv_room (Nat.le_of_ble_eq_true rfl)) ⟨Nat.zero_le _, Nat.zero_le _⟩ dX4_isSpoilt_73 ?_
                    refine lw_beq (tgt := 83) hx hb dX4_isSpoilt_76 (by decide) (fun c_10 => ?_) (fun c_10 => ?_)
                    · skip
                      refine lv_iconst (v := 0) hx hb dX4_isSpoilt_83 (by decide) ?_
                      refine lv_istore_n (lv' := [(3, .int 0), (4, .int (nI i)), (0, .ref h), (1, .int f), (2, .int k)]) hx hb dX4_isSpoilt_84 rfl hl (by decide) rfl (fun ls hl => ?_)
                      refine lv_iinc (v := nI (i + 1)) (lv' := [(4, .int (nI (i + 1))), (3, .int 0), (0, .ref h), (1, .int f), (2, .int k)]) hx hb dX4_isSpoilt_85 hl (k := 1) rfl (show nI i + Int32.ofInt 1 = _ from nI_add i 1) (by decide) rfl (fun ls hl => ?_)
                      refine lv_goto (tgt := 24) hx hb dX4_isSpoilt_88 (by decide) ?_
                      exact ihu_4  (i + 1) false _ _ ls (by omega) (by first | omega | assumption) (by rw [foldU_s, ← hf]; simp [spStep, c_2, nvf, nvk, c_3, c_5, c_6, c_7, c_8, c_9, c_10]) hP hS (lv_sub hl [1, 0, 2, 3, 4] rfl)
                    · skip
                      refine lv_iconst (v := 1) hx hb dX4_isSpoilt_79 (by decide) ?_
                      refine lv_goto (tgt := 84) hx hb dX4_isSpoilt_80 (by decide) ?_
                      refine lv_istore_n (lv' := [(3, .int 1), (4, .int (nI i)), (0, .ref h), (1, .int f), (2, .int k)]) hx hb dX4_isSpoilt_84 rfl hl (by decide) rfl (fun ls hl => ?_)
                      refine lv_iinc (v := nI (i + 1)) (lv' := [(4, .int (nI (i + 1))), (3, .int 1), (0, .ref h), (1, .int f), (2, .int k)]) hx hb dX4_isSpoilt_85 hl (k := 1) rfl (show nI i + Int32.ofInt 1 = _ from nI_add i 1) (by decide) rfl (fun ls hl => ?_)
                      refine lv_goto (tgt := 24) hx hb dX4_isSpoilt_88 (by decide) ?_
                      exact ihu_4  (i + 1) true _ _ ls (by omega) (by first | omega | assumption) (by rw [foldU_s, ← hf]; simp [spStep, c_2, nvf, nvk, c_3, c_5, c_6, c_7, c_8, c_9, c_10]) hP hS (lv_sub hl [1, 0, 2, 3, 4] rfl)
      exact L24_u_4 _ 0 false _ _ ls (Nat.lt_succ_self _) (by first | omega | assumption) (rfl) hP hS (lv_sub hl [1, 0, 2, 3, 4] rfl)
set_option maxHeartbeats 4000000 in
set_option maxRecDepth 100000 in
theorem mc_missing {l : Launch} {D : va_G} {cI cZ : ClassId} {h : Nat} {q : Nat → Nat} (hN : (mAd h q).Nodup) {n cm : Nat} {th : Int32} {lm : Nat} {a : Nat → Nat → Int32} {kn : Nat → Bool} (f : Int32) (fo : Int32) (I : mI n cm a) : wr_Met l yX4_missing wsX4_missing 4 95 D h q cI cZ (mW h q cI cZ n cm th lm a kn) [.ref h, .int f, .int fo] rI (eqQ (mMissing n cm a kn f fo)) := by
  refine wr_start rfl (by decide +kernel) (Nat.le_of_ble_eq_true rfl) (fun p e s m below meth c F hr hlocks hK H locs hP hS ls hl => ?_)
  have hl : lv_has ls 5 [(0, .ref h), (1, .int f), (2, .int fo)] := hl
  have hx := F.1
  have hb := F.2.1
  have hA : ∀ x, x ∈ mAd h q → mF h q x := fun _ z => z
  have hin : ∀ w ∈ wsX40, w ∈ wsX4_missing := fun _ z => List.mem_cons_of_mem _ (List.mem_append_right _ z)
  have hn := I.1
  have hcm := I.2.1
  refine lv_aload_n hx hb dX4_missing_0 rfl (lv_at hl 0 rfl) ?_
  refine lv_iload_n hx hb dX4_missing_1 rfl (lv_at hl 1 rfl) ?_
  refine ro_callS F hK [.int f] (mc_isFridge f ) (va_cwS 1 F.2.2.2.2 gX4_missing_X4_isFridge rfl rfl rfl (by decide +kernel) ⟨Nat.le_of_ble_eq_true rfl, Nat.le_of_ble_eq_true rfl⟩) rfl hl.1 rfl (lv_room (Nat.le_of_ble_eq_true rfl)) ⟨Nat.zero_le _, Nat.zero_le _⟩ dX4_missing_2 ?_
  refine lw_beq (tgt := 19) hx hb dX4_missing_5 (by decide) (fun c_1 => ?_) (fun c_1 => ?_)
  · skip
    refine lv_iconst (v := 1) hx hb dX4_missing_19 (by decide) ?_
    refine mp_put F hK hin hN hA hP hS 16 n cm 1 lm rfl (by decide) (by decide +kernel) rfl rfl dX4_missing_20 (fun H locs hP hS => ?_)
    refine lv_aload_n hx hb dX4_missing_23 rfl (lv_at hl 0 rfl) ?_
    refine mg_get F hK hin hP 16 (by decide) (by decide +kernel) rfl dX4_missing_24 ?_
    refine lv_if_le (tgt := 32) hx hb dX4_missing_27 (by decide) (fun z9 => absurd z9 (by decide)) (fun _ => ?_)
    refine lv_iconst (v := 0) hx hb dX4_missing_30 (by decide) ?_
    exact wr_reti F hr hlocks hP hS (by simp [eqQ, mMissing, bI, c_1]) dX4_missing_31
  · skip
    refine lv_iload_n hx hb dX4_missing_8 rfl (lv_at hl 2 rfl) ?_
    refine ro_callS F hK [.int fo] (mc_isFood fo ) (va_cwS 1 F.2.2.2.2 gX4_missing_X4_isFood rfl rfl rfl (by decide +kernel) ⟨Nat.le_of_ble_eq_true rfl, Nat.le_of_ble_eq_true rfl⟩) rfl hl.1 rfl (lv_room (Nat.le_of_ble_eq_true rfl)) ⟨Nat.zero_le _, Nat.zero_le _⟩ dX4_missing_9 ?_
    refine lw_beq (tgt := 19) hx hb dX4_missing_12 (by decide) (fun c_2 => ?_) (fun c_2 => ?_)
    · skip
      refine lv_iconst (v := 1) hx hb dX4_missing_19 (by decide) ?_
      refine mp_put F hK hin hN hA hP hS 16 n cm 1 lm rfl (by decide) (by decide +kernel) rfl rfl dX4_missing_20 (fun H locs hP hS => ?_)
      refine lv_aload_n hx hb dX4_missing_23 rfl (lv_at hl 0 rfl) ?_
      refine mg_get F hK hin hP 16 (by decide) (by decide +kernel) rfl dX4_missing_24 ?_
      refine lv_if_le (tgt := 32) hx hb dX4_missing_27 (by decide) (fun z9 => absurd z9 (by decide)) (fun _ => ?_)
      refine lv_iconst (v := 0) hx hb dX4_missing_30 (by decide) ?_
      exact wr_reti F hr hlocks hP hS (by simp [eqQ, mMissing, bI, c_1, c_2]) dX4_missing_31
    · skip
      refine lv_iconst (v := 0) hx hb dX4_missing_15 (by decide) ?_
      refine lv_goto (tgt := 20) hx hb dX4_missing_16 (by decide) ?_
      refine mp_put F hK hin hN hA hP hS 16 n cm 0 lm rfl (by decide) (by decide +kernel) rfl rfl dX4_missing_20 (fun H locs hP hS => ?_)
      refine lv_aload_n hx hb dX4_missing_23 rfl (lv_at hl 0 rfl) ?_
      refine mg_get F hK hin hP 16 (by decide) (by decide +kernel) rfl dX4_missing_24 ?_
      refine lv_if_le (tgt := 32) hx hb dX4_missing_27 (by decide) (fun _ => ?_) (fun z9 => absurd (by decide) z9)
      refine lv_iconst (v := 0) hx hb dX4_missing_32 (by decide) ?_
      refine lv_istore_n (lv' := [(3, .int 0), (0, .ref h), (1, .int f), (2, .int fo)]) hx hb dX4_missing_33 rfl hl (by decide) rfl (fun ls hl => ?_)
      refine lv_iconst (v := 0) hx hb dX4_missing_34 (by decide) ?_
      refine lv_istore (lv' := [(4, .int 0), (3, .int 0), (0, .ref h), (1, .int f), (2, .int fo)]) hx hb dX4_missing_35 hl (by decide) rfl (fun ls hl => ?_)
      have L37_u_3 : ∀ (k9u_3 : Nat) (i : Nat) (y : Int32) (H : Heap) (locs : List Loc) (ls : Array Slot), cm - i < k9u_3 → i ≤ cm → y = foldU (msStep a kn n (jn f) (jn fo)) 0 i → va_P D vwCl (mW h q cI cZ n cm 0 lm a kn) H → va_S (mF h q) s.heap H locs → lv_has ls 5 [(3, .int y), (4, .int (nI i)), (0, .ref h), (1, .int f), (2, .int fo)] → wrW p l e 4 95 s m [.ref h, .int f, .int fo] below meth c H locs D h q cI cZ rI (eqQ (mMissing n cm a kn f fo)) (F0 m 37 ls []) := by
        intro k9u_3
        induction k9u_3 with
        | zero => intro i y H locs ls hk; exact absurd hk (Nat.not_lt_zero _)
        | succ k9u_3 ihu_3 =>
          intro i y H locs ls hk hi hf hP hS hl
          refine lv_iload hx hb dX4_missing_37 (lv_at hl 1 rfl) ?_
          refine lv_aload_n hx hb dX4_missing_39 rfl (lv_at hl 2 rfl) ?_
          refine mg_get F hK hin hP 12 (by decide) (by decide +kernel) rfl dX4_missing_40 ?_
          refine lw_ge (tgt := 87) hx hb i cm (by omega) (by omega) dX4_missing_43 (by decide) (fun c_4 => ?_) (fun c_4 => ?_)
          · skip
            obtain ⟨vfo, hvfo, evfo⟩ := in7 (x := fo)  (by first | exact c_2 | exact c_1)
            have nvfo : jn fo = vfo := by rw [evfo]; exact jn_nI (by omega)
            obtain ⟨vf, hvf, evf⟩ := in4 (x := f)  (by first | exact c_2 | exact c_1)
            have nvf : jn f = vf := by rw [evf]; exact jn_nI (by omega)
            have hY : foldU (msStep a kn n vf vfo) 0 cm = y := by rw [hf, show cm = i by omega, nvf, nvfo]
            refine lv_iload_n hx hb dX4_missing_87 rfl (lv_at hl 0 rfl) ?_
            refine lv_aload_n hx hb dX4_missing_88 rfl (lv_at hl 2 rfl) ?_
            refine lv_iload_n hx hb dX4_missing_89 rfl (lv_at hl 3 rfl) ?_
            refine lv_iload_n hx hb dX4_missing_90 rfl (lv_at hl 4 rfl) ?_
            refine ro_callV F hK [.int (nI vf), .int (nI vfo)] (mc_countOf hP vf vfo (by first | assumption | omega) (by first | assumption | omega) (by first | assumption | omega)) (cwV 2 F.2.2.2.2 gX4_missing_X4_countOf rfl rfl rfl (by decide +kernel) ⟨Nat.le_of_ble_eq_true rfl, Nat.le_of_ble_eq_true rfl⟩) (mg_rc hK hP) rfl hl.1 (by first | (rw [evf, evfo]; done) | (rw [evf, evfo]; rfl)) (lv_room (Nat.le_of_ble_eq_true rfl)) ⟨Nat.zero_le _, Nat.zero_le _⟩ dX4_missing_91 ?_
            refine lv_isub hx hb dX4_missing_94 ?_
            refine lv_istore_n (lv' := [(3, .int (y - nI (countB a kn n vf vfo))), (4, .int (nI i)), (0, .ref h), (1, .int f), (2, .int fo)]) hx hb dX4_missing_95 rfl hl (by decide) rfl (fun ls hl => ?_)
            refine lv_iload_n hx hb dX4_missing_96 rfl (lv_at hl 0 rfl) ?_
            refine lv_if_ge (tgt := 104) hx hb dX4_missing_97 (by decide) (fun c_5 => ?_) (fun c_5 => ?_)
            · skip
              refine lv_iload_n hx hb dX4_missing_104 rfl (lv_at hl 0 rfl) ?_
              exact wr_reti F hr hlocks hP hS (by simp [eqQ, mMissing, missB, bI, c_1, c_2, c_4, nvfo, nvf, hY, c_5]) dX4_missing_105
            · skip
              refine lv_iconst (v := 0) hx hb dX4_missing_100 (by decide) ?_
              refine lv_goto (tgt := 105) hx hb dX4_missing_101 (by decide) ?_
              exact wr_reti F hr hlocks hP hS (by simp [eqQ, mMissing, missB, bI, c_1, c_2, c_4, nvfo, nvf, hY, c_5]) dX4_missing_105
          · skip
            obtain ⟨vfo, hvfo, evfo⟩ := in7 (x := fo)  (by first | exact c_2 | exact c_1)
            have nvfo : jn fo = vfo := by rw [evfo]; exact jn_nI (by omega)
            obtain ⟨vf, hvf, evf⟩ := in4 (x := f)  (by first | exact c_2 | exact c_1)
            have nvf : jn f = vf := by rw [evf]; exact jn_nI (by omega)
            refine lv_iload_n hx hb dX4_missing_46 rfl (lv_at hl 0 rfl) ?_
            refine lv_aload_n hx hb dX4_missing_47 rfl (lv_at hl 2 rfl) ?_
            refine lv_iload_n hx hb dX4_missing_48 rfl (lv_at hl 3 rfl) ?_
            refine lv_iload hx hb dX4_missing_49 (lv_at hl 1 rfl) ?_
            refine ro_callV F hK [.int (nI vf), .int (nI i)] (mc_stateOf hP vf i (by first | assumption | omega) (by first | assumption | omega) (by first | assumption | omega)) (cwV 2 F.2.2.2.2 gX4_missing_X4_stateOf rfl rfl rfl (by decide +kernel) ⟨Nat.le_of_ble_eq_true rfl, Nat.le_of_ble_eq_true rfl⟩) (mg_rc hK hP) rfl hl.1 (by first | (rw [evf]; done) | (rw [evf]; rfl)) (lv_room (Nat.le_of_ble_eq_true rfl)) ⟨Nat.zero_le _, Nat.zero_le _⟩ dX4_missing_51 ?_
            refine lv_iconst (v := 1) hx hb dX4_missing_54 (by decide) ?_
            refine lv_icmp_ne (tgt := 78) hx hb dX4_missing_55 (by decide) (fun c_6 => ?_) (fun c_6 => ?_)
            · skip
              refine lv_iconst (v := 0) hx hb dX4_missing_78 (by decide) ?_
              refine lv_iadd hx hb dX4_missing_79 ?_
              refine lv_istore_n (lv' := [(3, .int (y + 0)), (4, .int (nI i)), (0, .ref h), (1, .int f), (2, .int fo)]) hx hb dX4_missing_80 rfl hl (by decide) rfl (fun ls hl => ?_)
              refine lv_iinc (v := nI (i + 1)) (lv' := [(4, .int (nI (i + 1))), (3, .int (y + 0)), (0, .ref h), (1, .int f), (2, .int fo)]) hx hb dX4_missing_81 hl (k := 1) rfl (show nI i + Int32.ofInt 1 = _ from nI_add i 1) (by decide) rfl (fun ls hl => ?_)
              refine lv_goto (tgt := 37) hx hb dX4_missing_84 (by decide) ?_
              exact ihu_3  (i + 1) (y + 0) _ _ ls (by omega) (by first | omega | assumption) (by rw [foldU_s, ← hf]; simp [msStep, c_1, c_2, c_4, nvfo, nvf, c_6]) hP hS (lv_sub hl [1, 0, 2, 3, 4] rfl)
            · skip
              refine lv_aload_n hx hb dX4_missing_58 rfl (lv_at hl 2 rfl) ?_
              refine mg_get F hK hin hP 11 (by decide) (by decide +kernel) rfl dX4_missing_59 ?_
              refine lv_bipush (v := 8) hx hb dX4_missing_62 (by decide) ?_
              refine lv_aload_n hx hb dX4_missing_64 rfl (lv_at hl 2 rfl) ?_
              refine mg_get F hK hin hP 13 (by decide) (by decide +kernel) rfl dX4_missing_65 ?_
              refine lv_iload hx hb dX4_missing_68 (lv_at hl 1 rfl) ?_
              refine mg_ald F hK hP 13 12 20 rfl i rfl (by omega) (by decide) dX4_missing_70 ?_
              obtain ⟨j_7, hj_7, ej_7⟩ := I.2.2.2.2 i (by omega)
              refine lw_N j_7 ej_7 ?_
              have nj_7 : jn (a 13 i) = j_7 := by rw [ej_7]; exact jn_nI (by have := I.1; have := I.2.1; omega)
              refine lw_mul hx hb (i := 8) (j := j_7) dX4_missing_71 ?_
              refine lv_iload_n hx hb dX4_missing_72 rfl (lv_at hl 4 rfl) ?_
              refine lw_N vfo evfo ?_
              refine lw_add hx hb (i := (8 * j_7)) (j := vfo) dX4_missing_73 ?_
              refine mg_ald F hK hP 11 11 48 rfl ((8 * j_7) + vfo) rfl (by omega) (by decide) dX4_missing_74 ?_
              refine lv_goto (tgt := 79) hx hb dX4_missing_75 (by decide) ?_
              refine lv_iadd hx hb dX4_missing_79 ?_
              refine lv_istore_n (lv' := [(3, .int (y + a 11 ((8 * j_7) + vfo))), (4, .int (nI i)), (0, .ref h), (1, .int f), (2, .int fo)]) hx hb dX4_missing_80 rfl hl (by decide) rfl (fun ls hl => ?_)
              refine lv_iinc (v := nI (i + 1)) (lv' := [(4, .int (nI (i + 1))), (3, .int (y + a 11 ((8 * j_7) + vfo))), (0, .ref h), (1, .int f), (2, .int fo)]) hx hb dX4_missing_81 hl (k := 1) rfl (show nI i + Int32.ofInt 1 = _ from nI_add i 1) (by decide) rfl (fun ls hl => ?_)
              refine lv_goto (tgt := 37) hx hb dX4_missing_84 (by decide) ?_
              exact ihu_3  (i + 1) (y + a 11 ((8 * j_7) + vfo)) _ _ ls (by omega) (by first | omega | assumption) (by rw [foldU_s, ← hf]; simp [msStep, c_1, c_2, c_4, nvfo, nvf, c_6, nj_7]) hP hS (lv_sub hl [1, 0, 2, 3, 4] rfl)
      exact L37_u_3 _ 0 0 _ _ ls (Nat.lt_succ_self _) (by first | omega | assumption) (rfl) hP hS (lv_sub hl [1, 0, 2, 3, 4] rfl)
set_option maxHeartbeats 4000000 in
set_option maxRecDepth 100000 in
theorem mc_meet {l : Launch} {D : va_G} {cI cZ : ClassId} {h : Nat} {q : Nat → Nat} (hN : (mAd h q).Nodup) {n cm : Nat} {th : Int32} {lm : Nat} {a : Nat → Nat → Int32} {kn : Nat → Bool} (f : Int32) (o : Int32) (I : mI n cm a) : wr_Met l yX4_meet wsX4_meet 2 42 D h q cI cZ (mW h q cI cZ n cm th lm a kn) [.ref h, .int f, .int o] rI (eqQ (mMeet n cm a kn f o)) := by
  refine wr_start rfl (by decide +kernel) (Nat.le_of_ble_eq_true rfl) (fun p e s m below meth c F hr hlocks hK H locs hP hS ls hl => ?_)
  have hl : lv_has ls 7 [(0, .ref h), (1, .int f), (2, .int o)] := hl
  have hx := F.1
  have hb := F.2.1
  have hA : ∀ x, x ∈ mAd h q → mF h q x := fun _ z => z
  have hin : ∀ w ∈ wsX40, w ∈ wsX4_meet := fun _ z => List.mem_cons_of_mem _ (List.mem_append_right _ z)
  have hn := I.1
  have hcm := I.2.1
  refine lv_aload_n hx hb dX4_meet_0 rfl (lv_at hl 0 rfl) ?_
  refine lv_iload_n hx hb dX4_meet_1 rfl (lv_at hl 1 rfl) ?_
  refine ro_callS F hK [.int f] (mc_isFridge f ) (va_cwS 1 F.2.2.2.2 gX4_meet_X4_isFridge rfl rfl rfl (by decide +kernel) ⟨Nat.le_of_ble_eq_true rfl, Nat.le_of_ble_eq_true rfl⟩) rfl hl.1 rfl (lv_room (Nat.le_of_ble_eq_true rfl)) ⟨Nat.zero_le _, Nat.zero_le _⟩ dX4_meet_2 ?_
  refine lw_beq (tgt := 15) hx hb dX4_meet_5 (by decide) (fun c_1 => ?_) (fun c_1 => ?_)
  · skip
    refine lv_iconst (v := 1) hx hb dX4_meet_15 (by decide) ?_
    refine lv_goto (tgt := 29) hx hb dX4_meet_16 (by decide) ?_
    refine mp_put F hK hin hN hA hP hS 16 n cm 1 lm rfl (by decide) (by decide +kernel) rfl rfl dX4_meet_29 (fun H locs hP hS => ?_)
    refine lv_aload_n hx hb dX4_meet_32 rfl (lv_at hl 0 rfl) ?_
    refine mg_get F hK hin hP 16 (by decide) (by decide +kernel) rfl dX4_meet_33 ?_
    refine lv_if_le (tgt := 41) hx hb dX4_meet_36 (by decide) (fun z9 => absurd z9 (by decide)) (fun _ => ?_)
    refine lv_iconst (v := 0) hx hb dX4_meet_39 (by decide) ?_
    exact wr_reti F hr hlocks hP hS (by simp [eqQ, mMeet, meC, bI, c_1]) dX4_meet_40
  · skip
    refine lv_iload_n hx hb dX4_meet_8 rfl (lv_at hl 2 rfl) ?_
    refine ro_callS F hK [.int o] (mc_isFridge o ) (va_cwS 1 F.2.2.2.2 gX4_meet_X4_isFridge rfl rfl rfl (by decide +kernel) ⟨Nat.le_of_ble_eq_true rfl, Nat.le_of_ble_eq_true rfl⟩) rfl hl.1 rfl (lv_room (Nat.le_of_ble_eq_true rfl)) ⟨Nat.zero_le _, Nat.zero_le _⟩ dX4_meet_9 ?_
    refine lw_bne (tgt := 19) hx hb dX4_meet_12 (by decide) (fun c_2 => ?_) (fun c_2 => ?_)
    · skip
      refine lv_iload_n hx hb dX4_meet_19 rfl (lv_at hl 1 rfl) ?_
      refine lv_iload_n hx hb dX4_meet_20 rfl (lv_at hl 2 rfl) ?_
      refine lv_icmp_ne (tgt := 28) hx hb dX4_meet_21 (by decide) (fun c_3 => ?_) (fun c_3 => ?_)
      · skip
        refine lv_iconst (v := 0) hx hb dX4_meet_28 (by decide) ?_
        refine mp_put F hK hin hN hA hP hS 16 n cm 0 lm rfl (by decide) (by decide +kernel) rfl rfl dX4_meet_29 (fun H locs hP hS => ?_)
        refine lv_aload_n hx hb dX4_meet_32 rfl (lv_at hl 0 rfl) ?_
        refine mg_get F hK hin hP 16 (by decide) (by decide +kernel) rfl dX4_meet_33 ?_
        refine lv_if_le (tgt := 41) hx hb dX4_meet_36 (by decide) (fun _ => ?_) (fun z9 => absurd (by decide) z9)
        refine lv_iconst (v := 0) hx hb dX4_meet_41 (by decide) ?_
        refine lv_istore_n (lv' := [(3, .int 0), (0, .ref h), (1, .int f), (2, .int o)]) hx hb dX4_meet_42 rfl hl (by decide) rfl (fun ls hl => ?_)
        refine lv_iconst (v := 0) hx hb dX4_meet_43 (by decide) ?_
        refine lv_istore (lv' := [(4, .int 0), (3, .int 0), (0, .ref h), (1, .int f), (2, .int o)]) hx hb dX4_meet_44 hl (by decide) rfl (fun ls hl => ?_)
        have L46_u_4 : ∀ (k9u_4 : Nat) (i : Nat) (y : Nat) (k2 : Nat → Bool) (H : Heap) (locs : List Loc) (ls : Array Slot), n - i < k9u_4 → i ≤ n → (y, k2) = foldU (meStep (jn f) (jn o)) (0, kn) i → va_P D vwCl (mW h q cI cZ n cm 0 lm a k2) H → va_S (mF h q) s.heap H locs → lv_has ls 7 [(3, .int (nI y)), (4, .int (nI i)), (0, .ref h), (1, .int f), (2, .int o)] → wrW p l e 2 42 s m [.ref h, .int f, .int o] below meth c H locs D h q cI cZ rI (eqQ (mMeet n cm a kn f o)) (F0 m 46 ls []) := by
          intro k9u_4
          induction k9u_4 with
          | zero => intro i y k2 H locs ls hk; exact absurd hk (Nat.not_lt_zero _)
          | succ k9u_4 ihu_4 =>
            intro i y k2 H locs ls hk hi hf hP hS hl
            refine lv_iload hx hb dX4_meet_46 (lv_at hl 1 rfl) ?_
            refine lv_aload_n hx hb dX4_meet_48 rfl (lv_at hl 2 rfl) ?_
            refine mg_get F hK hin hP 0 (by decide) (by decide +kernel) rfl dX4_meet_49 ?_
            refine lw_ge (tgt := 148) hx hb i n (by omega) (by omega) dX4_meet_52 (by decide) (fun c_5 => ?_) (fun c_5 => ?_)
            · skip
              obtain ⟨vf, hvf, evf⟩ := in4 (x := f)  (by first | exact c_2 | exact c_1)
              have nvf : jn f = vf := by rw [evf]; exact jn_nI (by omega)
              obtain ⟨vo, hvo, evo⟩ := in4 (x := o)  (by first | exact c_2 | exact c_1)
              have nvo : jn o = vo := by rw [evo]; exact jn_nI (by omega)
              have hE : foldU (meStep vf vo) (0, kn) n = (y, k2) := by rw [hf, show n = i by omega, nvf, nvo]
              refine lv_aload_n hx hb dX4_meet_148 rfl (lv_at hl 2 rfl) ?_
              refine mg_get F hK hin hP 10 (by decide) (by decide +kernel) rfl dX4_meet_149 ?_
              refine lv_iload_n hx hb dX4_meet_152 rfl (lv_at hl 3 rfl) ?_
              refine mg_ald F hK hP 10 10 5 rfl vf evf (by omega) (by decide) dX4_meet_153 ?_
              refine lv_aload_n hx hb dX4_meet_154 rfl (lv_at hl 2 rfl) ?_
              refine mg_get F hK hin hP 10 (by decide) (by decide +kernel) rfl dX4_meet_155 ?_
              refine lv_iload_n hx hb dX4_meet_158 rfl (lv_at hl 4 rfl) ?_
              refine mg_ald F hK hP 10 10 5 rfl vo evo (by omega) (by decide) dX4_meet_159 ?_
              refine lv_icmp_le (tgt := 172) hx hb dX4_meet_160 (by decide) (fun c_6 => ?_) (fun c_6 => ?_)
              · skip
                refine lv_aload_n hx hb dX4_meet_172 rfl (lv_at hl 2 rfl) ?_
                refine mg_get F hK hin hP 10 (by decide) (by decide +kernel) rfl dX4_meet_173 ?_
                refine lv_iload_n hx hb dX4_meet_176 rfl (lv_at hl 4 rfl) ?_
                refine mg_ald F hK hP 10 10 5 rfl vo evo (by omega) (by decide) dX4_meet_177 ?_
                refine lv_istore (lv' := [(4, .int (a 10 vo)), (3, .int (nI y)), (0, .ref h), (1, .int f), (2, .int o)]) hx hb dX4_meet_178 hl (by decide) rfl (fun ls hl => ?_)
                refine lv_aload_n hx hb dX4_meet_180 rfl (lv_at hl 2 rfl) ?_
                refine mg_get F hK hin hP 10 (by decide) (by decide +kernel) rfl dX4_meet_181 ?_
                refine lv_iload_n hx hb dX4_meet_184 rfl (lv_at hl 3 rfl) ?_
                refine lv_iload hx hb dX4_meet_185 (lv_at hl 0 rfl) ?_
                refine mp_ast F hK hN hA hP hS 10 10 5 rfl vf evf (by omega) (by decide) rfl dX4_meet_187 (fun H locs hP hS => ?_)
                refine lv_aload_n hx hb dX4_meet_188 rfl (lv_at hl 2 rfl) ?_
                refine mg_get F hK hin hP 10 (by decide) (by decide +kernel) rfl dX4_meet_189 ?_
                refine lv_iload_n hx hb dX4_meet_192 rfl (lv_at hl 4 rfl) ?_
                refine lv_iload hx hb dX4_meet_193 (lv_at hl 0 rfl) ?_
                refine mp_ast F hK hN hA hP hS 10 10 5 rfl vo evo (by omega) (by decide) rfl dX4_meet_195 (fun H locs hP hS => ?_)
                refine lv_iload_n hx hb dX4_meet_196 rfl (lv_at hl 1 rfl) ?_
                exact wr_reti F hr hlocks hP hS (by simp [eqQ, mMeet, meC, bI, c_1, c_2, c_3, c_5, nvf, nvo, hE, c_6]) dX4_meet_197
              · skip
                refine lv_aload_n hx hb dX4_meet_163 rfl (lv_at hl 2 rfl) ?_
                refine mg_get F hK hin hP 10 (by decide) (by decide +kernel) rfl dX4_meet_164 ?_
                refine lv_iload_n hx hb dX4_meet_167 rfl (lv_at hl 3 rfl) ?_
                refine mg_ald F hK hP 10 10 5 rfl vf evf (by omega) (by decide) dX4_meet_168 ?_
                refine lv_goto (tgt := 178) hx hb dX4_meet_169 (by decide) ?_
                refine lv_istore (lv' := [(4, .int (a 10 vf)), (3, .int (nI y)), (0, .ref h), (1, .int f), (2, .int o)]) hx hb dX4_meet_178 hl (by decide) rfl (fun ls hl => ?_)
                refine lv_aload_n hx hb dX4_meet_180 rfl (lv_at hl 2 rfl) ?_
                refine mg_get F hK hin hP 10 (by decide) (by decide +kernel) rfl dX4_meet_181 ?_
                refine lv_iload_n hx hb dX4_meet_184 rfl (lv_at hl 3 rfl) ?_
                refine lv_iload hx hb dX4_meet_185 (lv_at hl 0 rfl) ?_
                refine mp_ast F hK hN hA hP hS 10 10 5 rfl vf evf (by omega) (by decide) rfl dX4_meet_187 (fun H locs hP hS => ?_)
                refine lv_aload_n hx hb dX4_meet_188 rfl (lv_at hl 2 rfl) ?_
                refine mg_get F hK hin hP 10 (by decide) (by decide +kernel) rfl dX4_meet_189 ?_
                refine lv_iload_n hx hb dX4_meet_192 rfl (lv_at hl 4 rfl) ?_
                refine lv_iload hx hb dX4_meet_193 (lv_at hl 0 rfl) ?_
                refine mp_ast F hK hN hA hP hS 10 10 5 rfl vo evo (by omega) (by decide) rfl dX4_meet_195 (fun H locs hP hS => ?_)
                refine lv_iload_n hx hb dX4_meet_196 rfl (lv_at hl 1 rfl) ?_
                exact wr_reti F hr hlocks hP hS (by simp [eqQ, mMeet, meC, bI, c_1, c_2, c_3, c_5, nvf, nvo, hE, c_6]) dX4_meet_197
            · skip
              refine lv_aload_n hx hb dX4_meet_55 rfl (lv_at hl 2 rfl) ?_
              refine lv_iload_n hx hb dX4_meet_56 rfl (lv_at hl 3 rfl) ?_
              refine lv_iload hx hb dX4_meet_57 (lv_at hl 1 rfl) ?_
              obtain ⟨vf, hvf, evf⟩ := in4 (x := f)  (by first | exact c_2 | exact c_1)
              have nvf : jn f = vf := by rw [evf]; exact jn_nI (by omega)
              refine ro_callV F hK [.int (nI vf), .int (nI i)] (mc_knows hP vf i (by first | assumption | omega) (by first | assumption | omega)) (cwV 2 F.2.2.2.2 gX4_meet_X4_knows rfl rfl rfl (by decide +kernel) ⟨Nat.le_of_ble_eq_true rfl, Nat.le_of_ble_eq_true rfl⟩) (mg_rc hK hP) rfl hl.1 (by first | (rw [evf]; done) | (rw [evf]; rfl)) (lv_room (Nat.le_of_ble_eq_true rfl)) ⟨Nat.zero_le _, Nat.zero_le _⟩ dX4_meet_59 ?_
              refine lv_istore (lv' := [(5, .int (bI (k2 (6 * i + vf)))), (3, .int (nI y)), (4, .int (nI i)), (0, .ref h), (1, .int f), (2, .int o)]) hx hb dX4_meet_62 hl (by decide) rfl (fun ls hl => ?_)
              refine lv_aload_n hx hb dX4_meet_64 rfl (lv_at hl 3 rfl) ?_
              refine lv_iload_n hx hb dX4_meet_65 rfl (lv_at hl 5 rfl) ?_
              refine lv_iload hx hb dX4_meet_66 (lv_at hl 2 rfl) ?_
              obtain ⟨vo, hvo, evo⟩ := in4 (x := o)  (by first | exact c_2 | exact c_1)
              have nvo : jn o = vo := by rw [evo]; exact jn_nI (by omega)
              refine ro_callV F hK [.int (nI vo), .int (nI i)] (mc_knows hP vo i (by first | assumption | omega) (by first | assumption | omega)) (cwV 2 F.2.2.2.2 gX4_meet_X4_knows rfl rfl rfl (by decide +kernel) ⟨Nat.le_of_ble_eq_true rfl, Nat.le_of_ble_eq_true rfl⟩) (mg_rc hK hP) rfl hl.1 (by first | (rw [evo]; done) | (rw [evo]; rfl)) (lv_room (Nat.le_of_ble_eq_true rfl)) ⟨Nat.zero_le _, Nat.zero_le _⟩ dX4_meet_68 ?_
              refine lv_istore (lv' := [(6, .int (bI (k2 (6 * i + vo)))), (5, .int (bI (k2 (6 * i + vf)))), (3, .int (nI y)), (4, .int (nI i)), (0, .ref h), (1, .int f), (2, .int o)]) hx hb dX4_meet_71 hl (by decide) rfl (fun ls hl => ?_)
              refine lv_iload_n hx hb dX4_meet_73 rfl (lv_at hl 2 rfl) ?_
              refine lv_iload hx hb dX4_meet_74 (lv_at hl 1 rfl) ?_
              refine lv_iload hx hb dX4_meet_76 (lv_at hl 0 rfl) ?_
              refine lw_bbeq (tgt := 85) hx hb dX4_meet_78 (by decide) (fun c_7 => ?_) (fun c_7 => ?_)
              · skip
                refine lv_iconst (v := 0) hx hb dX4_meet_85 (by decide) ?_
                refine lw_add hx hb (i := y) (j := 0) dX4_meet_86 ?_
                refine lv_istore_n (lv' := [(3, .int (nI (y + 0))), (6, .int (bI (k2 (6 * i + vo)))), (5, .int (bI (k2 (6 * i + vf)))), (4, .int (nI i)), (0, .ref h), (1, .int f), (2, .int o)]) hx hb dX4_meet_87 rfl hl (by decide) rfl (fun ls hl => ?_)
                refine lv_aload_n hx hb dX4_meet_88 rfl (lv_at hl 4 rfl) ?_
                refine mg_get F hK hin hP 9 (by decide) (by decide +kernel) rfl dX4_meet_89 ?_
                refine lv_bipush (v := 6) hx hb dX4_meet_92 (by decide) ?_
                refine lv_iload hx hb dX4_meet_94 (lv_at hl 3 rfl) ?_
                refine lw_mul hx hb (i := 6) (j := i) dX4_meet_96 ?_
                refine lv_iload_n hx hb dX4_meet_97 rfl (lv_at hl 5 rfl) ?_
                refine lw_N vf evf ?_
                refine lw_add hx hb (i := (6 * i)) (j := vf) dX4_meet_98 ?_
                refine lv_iload hx hb dX4_meet_99 (lv_at hl 2 rfl) ?_
                refine lw_bne (tgt := 109) hx hb dX4_meet_101 (by decide) (fun c_8 => ?_) (fun c_8 => ?_)
                · skip
                  refine lv_iconst (v := 1) hx hb dX4_meet_109 (by decide) ?_
                  refine lv_goto (tgt := 114) hx hb dX4_meet_110 (by decide) ?_
                  refine mp_zst F hK hN hA hP hS ((6 * i) + vf) true rfl (by omega) rfl dX4_meet_114 (fun H locs hP hS => ?_)
                  refine lv_aload_n hx hb dX4_meet_115 rfl (lv_at hl 4 rfl) ?_
                  refine mg_get F hK hin hP 9 (by decide) (by decide +kernel) rfl dX4_meet_116 ?_
                  refine lv_bipush (v := 6) hx hb dX4_meet_119 (by decide) ?_
                  refine lv_iload hx hb dX4_meet_121 (lv_at hl 3 rfl) ?_
                  refine lw_mul hx hb (i := 6) (j := i) dX4_meet_123 ?_
                  refine lv_iload_n hx hb dX4_meet_124 rfl (lv_at hl 6 rfl) ?_
                  refine lw_N vo evo ?_
                  refine lw_add hx hb (i := (6 * i)) (j := vo) dX4_meet_125 ?_
                  refine lv_iload hx hb dX4_meet_126 (lv_at hl 2 rfl) ?_
                  refine lw_bne (tgt := 136) hx hb dX4_meet_128 (by decide) (fun _ => ?_) (fun z9 => Bool.noConfusion (c_8.symm.trans z9))
                  refine lv_iconst (v := 1) hx hb dX4_meet_136 (by decide) ?_
                  refine lv_goto (tgt := 141) hx hb dX4_meet_137 (by decide) ?_
                  refine mp_zst F hK hN hA hP hS ((6 * i) + vo) true rfl (by omega) rfl dX4_meet_141 (fun H locs hP hS => ?_)
                  refine lv_iinc (v := nI (i + 1)) (lv' := [(4, .int (nI (i + 1))), (3, .int (nI (y + 0))), (6, .int (bI (k2 (6 * i + vo)))), (5, .int (bI (k2 (6 * i + vf)))), (0, .ref h), (1, .int f), (2, .int o)]) hx hb dX4_meet_142 hl (k := 3) rfl (show nI i + Int32.ofInt 1 = _ from nI_add i 1) (by decide) rfl (fun ls hl => ?_)
                  refine lv_goto (tgt := 46) hx hb dX4_meet_145 (by decide) ?_
                  exact ihu_4  (i + 1) (y + 0) (upK (upK k2 ((6 * i) + vf) true) ((6 * i) + vo) true) _ _ ls (by omega) (by first | omega | assumption) (by rw [foldU_s, ← hf]; simp only [meStep, nvf, nvo]; cases e1 : k2 (6 * i + vf) <;> cases e2 : k2 (6 * i + vo) <;> simp [e1, e2] at c_1 c_2 c_3 c_5 c_7 c_8 ⊢) hP hS (lv_sub hl [1, 0, 4, 5, 6] rfl)
                · skip
                  refine lv_iload hx hb dX4_meet_104 (lv_at hl 1 rfl) ?_
                  refine lw_beq (tgt := 113) hx hb dX4_meet_106 (by decide) (fun c_9 => ?_) (fun c_9 => ?_)
                  · skip
                    refine lv_iconst (v := 0) hx hb dX4_meet_113 (by decide) ?_
                    refine mp_zst F hK hN hA hP hS ((6 * i) + vf) false rfl (by omega) rfl dX4_meet_114 (fun H locs hP hS => ?_)
                    refine lv_aload_n hx hb dX4_meet_115 rfl (lv_at hl 4 rfl) ?_
                    refine mg_get F hK hin hP 9 (by decide) (by decide +kernel) rfl dX4_meet_116 ?_
                    refine lv_bipush (v := 6) hx hb dX4_meet_119 (by decide) ?_
                    refine lv_iload hx hb dX4_meet_121 (lv_at hl 3 rfl) ?_
                    refine lw_mul hx hb (i := 6) (j := i) dX4_meet_123 ?_
                    refine lv_iload_n hx hb dX4_meet_124 rfl (lv_at hl 6 rfl) ?_
                    refine lw_N vo evo ?_
                    refine lw_add hx hb (i := (6 * i)) (j := vo) dX4_meet_125 ?_
                    refine lv_iload hx hb dX4_meet_126 (lv_at hl 2 rfl) ?_
                    refine lw_bne (tgt := 136) hx hb dX4_meet_128 (by decide) (fun z9 => Bool.noConfusion (c_8.symm.trans z9)) (fun _ => ?_)
                    refine lv_iload hx hb dX4_meet_131 (lv_at hl 1 rfl) ?_
                    refine lw_beq (tgt := 140) hx hb dX4_meet_133 (by decide) (fun _ => ?_) (fun z9 => Bool.noConfusion (c_9.symm.trans z9))
                    refine lv_iconst (v := 0) hx hb dX4_meet_140 (by decide) ?_
                    refine mp_zst F hK hN hA hP hS ((6 * i) + vo) false rfl (by omega) rfl dX4_meet_141 (fun H locs hP hS => ?_)
                    refine lv_iinc (v := nI (i + 1)) (lv' := [(4, .int (nI (i + 1))), (3, .int (nI (y + 0))), (6, .int (bI (k2 (6 * i + vo)))), (5, .int (bI (k2 (6 * i + vf)))), (0, .ref h), (1, .int f), (2, .int o)]) hx hb dX4_meet_142 hl (k := 3) rfl (show nI i + Int32.ofInt 1 = _ from nI_add i 1) (by decide) rfl (fun ls hl => ?_)
                    refine lv_goto (tgt := 46) hx hb dX4_meet_145 (by decide) ?_
                    exact ihu_4  (i + 1) (y + 0) (upK (upK k2 ((6 * i) + vf) false) ((6 * i) + vo) false) _ _ ls (by omega) (by first | omega | assumption) (by rw [foldU_s, ← hf]; simp only [meStep, nvf, nvo]; cases e1 : k2 (6 * i + vf) <;> cases e2 : k2 (6 * i + vo) <;> simp [e1, e2] at c_1 c_2 c_3 c_5 c_7 c_8 c_9 ⊢) hP hS (lv_sub hl [1, 0, 4, 5, 6] rfl)
                  · skip
                    refine lv_iconst (v := 1) hx hb dX4_meet_109 (by decide) ?_
                    refine lv_goto (tgt := 114) hx hb dX4_meet_110 (by decide) ?_
                    refine mp_zst F hK hN hA hP hS ((6 * i) + vf) true rfl (by omega) rfl dX4_meet_114 (fun H locs hP hS => ?_)
                    refine lv_aload_n hx hb dX4_meet_115 rfl (lv_at hl 4 rfl) ?_
                    refine mg_get F hK hin hP 9 (by decide) (by decide +kernel) rfl dX4_meet_116 ?_
                    refine lv_bipush (v := 6) hx hb dX4_meet_119 (by decide) ?_
                    refine lv_iload hx hb dX4_meet_121 (lv_at hl 3 rfl) ?_
                    refine lw_mul hx hb (i := 6) (j := i) dX4_meet_123 ?_
                    refine lv_iload_n hx hb dX4_meet_124 rfl (lv_at hl 6 rfl) ?_
                    refine lw_N vo evo ?_
                    refine lw_add hx hb (i := (6 * i)) (j := vo) dX4_meet_125 ?_
                    refine lv_iload hx hb dX4_meet_126 (lv_at hl 2 rfl) ?_
                    refine lw_bne (tgt := 136) hx hb dX4_meet_128 (by decide) (fun z9 => Bool.noConfusion (c_8.symm.trans z9)) (fun _ => ?_)
                    refine lv_iload hx hb dX4_meet_131 (lv_at hl 1 rfl) ?_
                    refine lw_beq (tgt := 140) hx hb dX4_meet_133 (by decide) (fun z9 => Bool.noConfusion (c_9.symm.trans z9)) (fun _ => ?_)
                    refine lv_iconst (v := 1) hx hb dX4_meet_136 (by decide) ?_
                    refine lv_goto (tgt := 141) hx hb dX4_meet_137 (by decide) ?_
                    refine mp_zst F hK hN hA hP hS ((6 * i) + vo) true rfl (by omega) rfl dX4_meet_141 (fun H locs hP hS => ?_)
                    refine lv_iinc (v := nI (i + 1)) (lv' := [(4, .int (nI (i + 1))), (3, .int (nI (y + 0))), (6, .int (bI (k2 (6 * i + vo)))), (5, .int (bI (k2 (6 * i + vf)))), (0, .ref h), (1, .int f), (2, .int o)]) hx hb dX4_meet_142 hl (k := 3) rfl (show nI i + Int32.ofInt 1 = _ from nI_add i 1) (by decide) rfl (fun ls hl => ?_)
                    refine lv_goto (tgt := 46) hx hb dX4_meet_145 (by decide) ?_
                    exact ihu_4  (i + 1) (y + 0) (upK (upK k2 ((6 * i) + vf) true) ((6 * i) + vo) true) _ _ ls (by omega) (by first | omega | assumption) (by rw [foldU_s, ← hf]; simp only [meStep, nvf, nvo]; cases e1 : k2 (6 * i + vf) <;> cases e2 : k2 (6 * i + vo) <;> simp [e1, e2] at c_1 c_2 c_3 c_5 c_7 c_8 c_9 ⊢) hP hS (lv_sub hl [1, 0, 4, 5, 6] rfl)
              · skip
                refine lv_iconst (v := 1) hx hb dX4_meet_81 (by decide) ?_
                refine lv_goto (tgt := 86) hx hb dX4_meet_82 (by decide) ?_
                refine lw_add hx hb (i := y) (j := 1) dX4_meet_86 ?_
                refine lv_istore_n (lv' := [(3, .int (nI (y + 1))), (6, .int (bI (k2 (6 * i + vo)))), (5, .int (bI (k2 (6 * i + vf)))), (4, .int (nI i)), (0, .ref h), (1, .int f), (2, .int o)]) hx hb dX4_meet_87 rfl hl (by decide) rfl (fun ls hl => ?_)
                refine lv_aload_n hx hb dX4_meet_88 rfl (lv_at hl 4 rfl) ?_
                refine mg_get F hK hin hP 9 (by decide) (by decide +kernel) rfl dX4_meet_89 ?_
                refine lv_bipush (v := 6) hx hb dX4_meet_92 (by decide) ?_
                refine lv_iload hx hb dX4_meet_94 (lv_at hl 3 rfl) ?_
                refine lw_mul hx hb (i := 6) (j := i) dX4_meet_96 ?_
                refine lv_iload_n hx hb dX4_meet_97 rfl (lv_at hl 5 rfl) ?_
                refine lw_N vf evf ?_
                refine lw_add hx hb (i := (6 * i)) (j := vf) dX4_meet_98 ?_
                refine lv_iload hx hb dX4_meet_99 (lv_at hl 2 rfl) ?_
                refine lw_bne (tgt := 109) hx hb dX4_meet_101 (by decide) (fun c_10 => ?_) (fun c_10 => ?_)
                · skip
                  refine lv_iconst (v := 1) hx hb dX4_meet_109 (by decide) ?_
                  refine lv_goto (tgt := 114) hx hb dX4_meet_110 (by decide) ?_
                  refine mp_zst F hK hN hA hP hS ((6 * i) + vf) true rfl (by omega) rfl dX4_meet_114 (fun H locs hP hS => ?_)
                  refine lv_aload_n hx hb dX4_meet_115 rfl (lv_at hl 4 rfl) ?_
                  refine mg_get F hK hin hP 9 (by decide) (by decide +kernel) rfl dX4_meet_116 ?_
                  refine lv_bipush (v := 6) hx hb dX4_meet_119 (by decide) ?_
                  refine lv_iload hx hb dX4_meet_121 (lv_at hl 3 rfl) ?_
                  refine lw_mul hx hb (i := 6) (j := i) dX4_meet_123 ?_
                  refine lv_iload_n hx hb dX4_meet_124 rfl (lv_at hl 6 rfl) ?_
                  refine lw_N vo evo ?_
                  refine lw_add hx hb (i := (6 * i)) (j := vo) dX4_meet_125 ?_
                  refine lv_iload hx hb dX4_meet_126 (lv_at hl 2 rfl) ?_
                  refine lw_bne (tgt := 136) hx hb dX4_meet_128 (by decide) (fun _ => ?_) (fun z9 => Bool.noConfusion (c_10.symm.trans z9))
                  refine lv_iconst (v := 1) hx hb dX4_meet_136 (by decide) ?_
                  refine lv_goto (tgt := 141) hx hb dX4_meet_137 (by decide) ?_
                  refine mp_zst F hK hN hA hP hS ((6 * i) + vo) true rfl (by omega) rfl dX4_meet_141 (fun H locs hP hS => ?_)
                  refine lv_iinc (v := nI (i + 1)) (lv' := [(4, .int (nI (i + 1))), (3, .int (nI (y + 1))), (6, .int (bI (k2 (6 * i + vo)))), (5, .int (bI (k2 (6 * i + vf)))), (0, .ref h), (1, .int f), (2, .int o)]) hx hb dX4_meet_142 hl (k := 3) rfl (show nI i + Int32.ofInt 1 = _ from nI_add i 1) (by decide) rfl (fun ls hl => ?_)
                  refine lv_goto (tgt := 46) hx hb dX4_meet_145 (by decide) ?_
                  exact ihu_4  (i + 1) (y + 1) (upK (upK k2 ((6 * i) + vf) true) ((6 * i) + vo) true) _ _ ls (by omega) (by first | omega | assumption) (by rw [foldU_s, ← hf]; simp only [meStep, nvf, nvo]; cases e1 : k2 (6 * i + vf) <;> cases e2 : k2 (6 * i + vo) <;> simp [e1, e2] at c_1 c_2 c_3 c_5 c_7 c_10 ⊢) hP hS (lv_sub hl [1, 0, 4, 5, 6] rfl)
                · skip
                  refine lv_iload hx hb dX4_meet_104 (lv_at hl 1 rfl) ?_
                  refine lw_beq (tgt := 113) hx hb dX4_meet_106 (by decide) (fun c_11 => ?_) (fun c_11 => ?_)
                  · skip
                    refine lv_iconst (v := 0) hx hb dX4_meet_113 (by decide) ?_
                    refine mp_zst F hK hN hA hP hS ((6 * i) + vf) false rfl (by omega) rfl dX4_meet_114 (fun H locs hP hS => ?_)
                    refine lv_aload_n hx hb dX4_meet_115 rfl (lv_at hl 4 rfl) ?_
                    refine mg_get F hK hin hP 9 (by decide) (by decide +kernel) rfl dX4_meet_116 ?_
                    refine lv_bipush (v := 6) hx hb dX4_meet_119 (by decide) ?_
                    refine lv_iload hx hb dX4_meet_121 (lv_at hl 3 rfl) ?_
                    refine lw_mul hx hb (i := 6) (j := i) dX4_meet_123 ?_
                    refine lv_iload_n hx hb dX4_meet_124 rfl (lv_at hl 6 rfl) ?_
                    refine lw_N vo evo ?_
                    refine lw_add hx hb (i := (6 * i)) (j := vo) dX4_meet_125 ?_
                    refine lv_iload hx hb dX4_meet_126 (lv_at hl 2 rfl) ?_
                    refine lw_bne (tgt := 136) hx hb dX4_meet_128 (by decide) (fun z9 => Bool.noConfusion (c_10.symm.trans z9)) (fun _ => ?_)
                    refine lv_iload hx hb dX4_meet_131 (lv_at hl 1 rfl) ?_
                    refine lw_beq (tgt := 140) hx hb dX4_meet_133 (by decide) (fun _ => ?_) (fun z9 => Bool.noConfusion (c_11.symm.trans z9))
                    refine lv_iconst (v := 0) hx hb dX4_meet_140 (by decide) ?_
                    refine mp_zst F hK hN hA hP hS ((6 * i) + vo) false rfl (by omega) rfl dX4_meet_141 (fun H locs hP hS => ?_)
                    refine lv_iinc (v := nI (i + 1)) (lv' := [(4, .int (nI (i + 1))), (3, .int (nI (y + 1))), (6, .int (bI (k2 (6 * i + vo)))), (5, .int (bI (k2 (6 * i + vf)))), (0, .ref h), (1, .int f), (2, .int o)]) hx hb dX4_meet_142 hl (k := 3) rfl (show nI i + Int32.ofInt 1 = _ from nI_add i 1) (by decide) rfl (fun ls hl => ?_)
                    refine lv_goto (tgt := 46) hx hb dX4_meet_145 (by decide) ?_
                    exact ihu_4  (i + 1) (y + 1) (upK (upK k2 ((6 * i) + vf) false) ((6 * i) + vo) false) _ _ ls (by omega) (by first | omega | assumption) (by rw [foldU_s, ← hf]; simp only [meStep, nvf, nvo]; cases e1 : k2 (6 * i + vf) <;> cases e2 : k2 (6 * i + vo) <;> simp [e1, e2] at c_1 c_2 c_3 c_5 c_7 c_10 c_11 ⊢) hP hS (lv_sub hl [1, 0, 4, 5, 6] rfl)
                  · skip
                    refine lv_iconst (v := 1) hx hb dX4_meet_109 (by decide) ?_
                    refine lv_goto (tgt := 114) hx hb dX4_meet_110 (by decide) ?_
                    refine mp_zst F hK hN hA hP hS ((6 * i) + vf) true rfl (by omega) rfl dX4_meet_114 (fun H locs hP hS => ?_)
                    refine lv_aload_n hx hb dX4_meet_115 rfl (lv_at hl 4 rfl) ?_
                    refine mg_get F hK hin hP 9 (by decide) (by decide +kernel) rfl dX4_meet_116 ?_
                    refine lv_bipush (v := 6) hx hb dX4_meet_119 (by decide) ?_
                    refine lv_iload hx hb dX4_meet_121 (lv_at hl 3 rfl) ?_
                    refine lw_mul hx hb (i := 6) (j := i) dX4_meet_123 ?_
                    refine lv_iload_n hx hb dX4_meet_124 rfl (lv_at hl 6 rfl) ?_
                    refine lw_N vo evo ?_
                    refine lw_add hx hb (i := (6 * i)) (j := vo) dX4_meet_125 ?_
                    refine lv_iload hx hb dX4_meet_126 (lv_at hl 2 rfl) ?_
                    refine lw_bne (tgt := 136) hx hb dX4_meet_128 (by decide) (fun z9 => Bool.noConfusion (c_10.symm.trans z9)) (fun _ => ?_)
                    refine lv_iload hx hb dX4_meet_131 (lv_at hl 1 rfl) ?_
                    refine lw_beq (tgt := 140) hx hb dX4_meet_133 (by decide) (fun z9 => Bool.noConfusion (c_11.symm.trans z9)) (fun _ => ?_)
                    refine lv_iconst (v := 1) hx hb dX4_meet_136 (by decide) ?_
                    refine lv_goto (tgt := 141) hx hb dX4_meet_137 (by decide) ?_
                    refine mp_zst F hK hN hA hP hS ((6 * i) + vo) true rfl (by omega) rfl dX4_meet_141 (fun H locs hP hS => ?_)
                    refine lv_iinc (v := nI (i + 1)) (lv' := [(4, .int (nI (i + 1))), (3, .int (nI (y + 1))), (6, .int (bI (k2 (6 * i + vo)))), (5, .int (bI (k2 (6 * i + vf)))), (0, .ref h), (1, .int f), (2, .int o)]) hx hb dX4_meet_142 hl (k := 3) rfl (show nI i + Int32.ofInt 1 = _ from nI_add i 1) (by decide) rfl (fun ls hl => ?_)
                    refine lv_goto (tgt := 46) hx hb dX4_meet_145 (by decide) ?_
                    exact ihu_4  (i + 1) (y + 1) (upK (upK k2 ((6 * i) + vf) true) ((6 * i) + vo) true) _ _ ls (by omega) (by first | omega | assumption) (by rw [foldU_s, ← hf]; simp only [meStep, nvf, nvo]; cases e1 : k2 (6 * i + vf) <;> cases e2 : k2 (6 * i + vo) <;> simp [e1, e2] at c_1 c_2 c_3 c_5 c_7 c_10 c_11 ⊢) hP hS (lv_sub hl [1, 0, 4, 5, 6] rfl)
        exact L46_u_4 _ 0 0 kn _ _ ls (Nat.lt_succ_self _) (by first | omega | assumption) (rfl) hP hS (lv_sub hl [1, 0, 2, 3, 4] rfl)
      · skip
        refine lv_iconst (v := 2) hx hb dX4_meet_24 (by decide) ?_
        refine lv_goto (tgt := 29) hx hb dX4_meet_25 (by decide) ?_
        refine mp_put F hK hin hN hA hP hS 16 n cm 2 lm rfl (by decide) (by decide +kernel) rfl rfl dX4_meet_29 (fun H locs hP hS => ?_)
        refine lv_aload_n hx hb dX4_meet_32 rfl (lv_at hl 0 rfl) ?_
        refine mg_get F hK hin hP 16 (by decide) (by decide +kernel) rfl dX4_meet_33 ?_
        refine lv_if_le (tgt := 41) hx hb dX4_meet_36 (by decide) (fun z9 => absurd z9 (by decide)) (fun _ => ?_)
        refine lv_iconst (v := 0) hx hb dX4_meet_39 (by decide) ?_
        exact wr_reti F hr hlocks hP hS (by simp [eqQ, mMeet, meC, bI, c_1, c_2, c_3]) dX4_meet_40
    · skip
      refine lv_iconst (v := 1) hx hb dX4_meet_15 (by decide) ?_
      refine lv_goto (tgt := 29) hx hb dX4_meet_16 (by decide) ?_
      refine mp_put F hK hin hN hA hP hS 16 n cm 1 lm rfl (by decide) (by decide +kernel) rfl rfl dX4_meet_29 (fun H locs hP hS => ?_)
      refine lv_aload_n hx hb dX4_meet_32 rfl (lv_at hl 0 rfl) ?_
      refine mg_get F hK hin hP 16 (by decide) (by decide +kernel) rfl dX4_meet_33 ?_
      refine lv_if_le (tgt := 41) hx hb dX4_meet_36 (by decide) (fun z9 => absurd z9 (by decide)) (fun _ => ?_)
      refine lv_iconst (v := 0) hx hb dX4_meet_39 (by decide) ?_
      exact wr_reti F hr hlocks hP hS (by simp [eqQ, mMeet, meC, bI, c_1, c_2]) dX4_meet_40
