/-! the reference's questions, as functions of its rows: v a view (a fridge, or 5 for all) -/
def inB (x lo hi : Int32) : Bool := !decide (x < lo) && !decide (hi < x)
def isLaterB (a : Nat → Nat → Int32) (w t : Nat) : Bool := decide (a 3 t < a 3 w) || (decide (a 3 w = a 3 t) && decide (a 2 t < a 2 w))
def isMoveB (a : Nat → Nat → Int32) (w : Nat) (x : Int32) : Bool := (decide (a 1 w = 0) || decide (a 1 w = 1)) && decide (a 4 w = x)
def lmStep (a : Nat → Nat → Int32) (kn : Nat → Bool) (v : Nat) (x au : Int32) (i : Nat) (f : Int32) : Int32 := if (kn (6 * i + v) && isMoveB a i x && (decide (au = -1) || decide (a 2 i = au))) && (decide (f = -1) || isLaterB a i (jn f)) then nI i else f
def latestB (a : Nat → Nat → Int32) (kn : Nat → Bool) (n v : Nat) (x au : Int32) : Int32 := foldU (lmStep a kn v x au) (-1) n
def placeB (a : Nat → Nat → Int32) (kn : Nat → Bool) (n v : Nat) (x : Int32) : Int32 := if latestB a kn n v x (-1) = -1 then -1 else if a 1 (jn (latestB a kn n v x (-1))) = 0 then a 2 (jn (latestB a kn n v x (-1))) else -1
def coStep (a : Nat → Nat → Int32) (kn : Nat → Bool) (v : Nat) (x : Int32) (i : Nat) (f : Int32) : Int32 := if (kn (6 * i + v) && decide (a 1 i = 2) && decide (a 4 i = x)) && (decide (f = -1) || isLaterB a i (jn f)) then nI i else f
def comF (a : Nat → Nat → Int32) (kn : Nat → Bool) (n v : Nat) (x : Int32) : Int32 := foldU (coStep a kn v x) (-1) n
def comingB (a : Nat → Nat → Int32) (kn : Nat → Bool) (n v : Nat) (x day : Int32) : Int32 := if comF a kn n v x = -1 then -1 else if inB day (a 6 (jn (comF a kn n v x))) (a 7 (jn (comF a kn n v x))) then comF a kn n v x else -1
def gmStep (a : Nat → Nat → Int32) (kn : Nat → Bool) (n v : Nat) (day : Int32) (i : Nat) (x : Nat) : Nat := if comingB a kn n v (nI i) day = -1 then x + 0 else x + 1
def guestManyB (a : Nat → Nat → Int32) (kn : Nat → Bool) (n v : Nat) (day : Int32) : Nat := foldU (gmStep a kn n v day) 0 8
def diStep (a : Nat → Nat → Int32) (r w : Nat) (f : Nat) (b : Bool) : Bool := b || (!decide (a 11 (8 * r + f) ≤ 0) && decide ((a 8 w >>> (nI f &&& 31)) &&& 1 = 1))
def dgStep (a : Nat → Nat → Int32) (kn : Nat → Bool) (n v r : Nat) (day : Int32) (i : Nat) (b : Bool) : Bool := if comingB a kn n v (nI i) day = -1 then b else foldU (diStep a r (jn (comingB a kn n v (nI i) day))) b 8
def dislikedB (a : Nat → Nat → Int32) (kn : Nat → Bool) (n v r : Nat) (day : Int32) : Bool := foldU (dgStep a kn n v r day) false 8
def stStep (a : Nat → Nat → Int32) (kn : Nat → Bool) (v k : Nat) (i : Nat) (x : Int32) : Int32 := if (kn (6 * i + v) && decide (a 4 i = nI k)) && decide (a 1 i = 6) then 3 else if (kn (6 * i + v) && decide (a 4 i = nI k)) && decide (a 1 i = 5) && decide (x = 1) then 2 else x
def stateB (a : Nat → Nat → Int32) (kn : Nat → Bool) (n v k : Nat) : Int32 := if kn (6 * jn (a 15 k) + v) then foldU (stStep a kn v k) 1 n else 0
def aheadB (a : Nat → Nat → Int32) (kn : Nat → Bool) (n v k o : Nat) : Bool := if nI (guestManyB a kn n v (a 14 k)) - nI (guestManyB a kn n v (a 14 o)) = 0 then decide (a 14 k < a 14 o) || (decide (a 14 k = a 14 o) && isLaterB a (jn (a 15 o)) (jn (a 15 k))) else decide (0 < nI (guestManyB a kn n v (a 14 k)) - nI (guestManyB a kn n v (a 14 o)))
def keStep (a : Nat → Nat → Int32) (kn : Nat → Bool) (n v : Nat) (x : Int32) (i : Nat) (f : Int32) : Int32 := if kn (6 * i + v) && decide (a 1 i = 4) && decide (a 4 i = x) && decide (stateB a kn n v (jn (a 5 i)) = 1) then (if decide (f = -1) || (!decide (f = a 5 i) && aheadB a kn n v (jn (a 5 i)) (jn f)) then a 5 i else f) else f
def keeperB (a : Nat → Nat → Int32) (kn : Nat → Bool) (n v : Nat) (x : Int32) : Int32 := if placeB a kn n v x = -1 then -1 else foldU (keStep a kn n v x) (-1) n
def koStep (a : Nat → Nat → Int32) (kn : Nat → Bool) (n v : Nat) (cake : Int32) (fo : Nat) (j : Nat) (x : Nat) : Nat := if keeperB a kn n v (nI (fo + 8 * j)) = cake then x + 1 else x + 0
def keptOfB (a : Nat → Nat → Int32) (kn : Nat → Bool) (n v : Nat) (cake : Int32) (fo : Nat) : Nat := foldU (koStep a kn n v cake fo) 0 5
def lackB (a : Nat → Nat → Int32) (kn : Nat → Bool) (n v k fo : Nat) : Int32 := if 0 ≤ a 11 (8 * jn (a 13 k) + fo) - nI (keptOfB a kn n v (nI k) fo) then a 11 (8 * jn (a 13 k) + fo) - nI (keptOfB a kn n v (nI k) fo) else 0
def vaStep (a : Nat → Nat → Int32) (kn : Nat → Bool) (v t : Nat) (i : Nat) (f : Int32) : Int32 := if (kn (6 * i + v) && isMoveB a i (a 4 t) && isLaterB a t i) && (decide (f = -1) || isLaterB a i (jn f)) then nI i else f
def vainF (a : Nat → Nat → Int32) (kn : Nat → Bool) (n v t : Nat) : Int32 := foldU (vaStep a kn v t) (-1) n
def vainB (a : Nat → Nat → Int32) (kn : Nat → Bool) (n v t : Nat) : Bool := decide (vainF a kn n v t = -1) || decide (a 1 (jn (vainF a kn n v t)) = 1)
def cnStep (a : Nat → Nat → Int32) (kn : Nat → Bool) (n v fo : Nat) (j : Nat) (x : Nat) : Nat := if placeB a kn n v (nI (fo + 8 * j)) = -1 then x + 0 else x + 1
def countB (a : Nat → Nat → Int32) (kn : Nat → Bool) (n v fo : Nat) : Nat := foldU (cnStep a kn n v fo) 0 5
def fullB (n k : Nat) : Bool := decide (240 < n + k)
theorem foldU_range (st : Nat → Int32 → Int32) (h : ∀ i f, st i f = nI i ∨ st i f = f) : ∀ i, foldU st (-1) i = -1 ∨ ∃ j, j < i ∧ foldU st (-1) i = nI j
  | 0 => Or.inl rfl
  | i + 1 => by
    rw [foldU_s]
    rcases h i (foldU st (-1) i) with q | q
    · exact Or.inr ⟨i, Nat.lt_succ_self i, q⟩
    · rw [q]
      rcases foldU_range st h i with z | ⟨j, hj, z⟩
      · exact Or.inl z
      · exact Or.inr ⟨j, Nat.lt_succ_of_lt hj, z⟩
theorem lm_range (a : Nat → Nat → Int32) (kn : Nat → Bool) (v : Nat) (x au : Int32) (i : Nat) : foldU (lmStep a kn v x au) (-1) i = -1 ∨ ∃ j, j < i ∧ foldU (lmStep a kn v x au) (-1) i = nI j :=
  foldU_range _ (fun i f => by unfold lmStep; split; exact Or.inl rfl; exact Or.inr rfl) i
theorem co_range (a : Nat → Nat → Int32) (kn : Nat → Bool) (v : Nat) (x : Int32) (i : Nat) : foldU (coStep a kn v x) (-1) i = -1 ∨ ∃ j, j < i ∧ foldU (coStep a kn v x) (-1) i = nI j :=
  foldU_range _ (fun i f => by unfold coStep; split; exact Or.inl rfl; exact Or.inr rfl) i
theorem va_range (a : Nat → Nat → Int32) (kn : Nat → Bool) (v t : Nat) (i : Nat) : foldU (vaStep a kn v t) (-1) i = -1 ∨ ∃ j, j < i ∧ foldU (vaStep a kn v t) (-1) i = nI j :=
  foldU_range _ (fun i f => by unfold vaStep; split; exact Or.inl rfl; exact Or.inr rfl) i
theorem comingB_range (a : Nat → Nat → Int32) (kn : Nat → Bool) (n v : Nat) (x day : Int32) : comingB a kn n v x day = -1 ∨ ∃ j, j < n ∧ comingB a kn n v x day = nI j := by
  unfold comingB
  rcases co_range a kn v x n with q | ⟨j, hj, q⟩
  · rw [if_pos (show comF a kn n v x = -1 from q)]; exact Or.inl rfl
  · split
    · exact Or.inl rfl
    · split
      · exact Or.inr ⟨j, hj, q⟩
      · exact Or.inl rfl
theorem foldU_le (st : Nat → Nat → Nat) (h : ∀ i x, st i x ≤ x + 1) : ∀ i, foldU st 0 i ≤ i
  | 0 => Nat.le_refl _
  | i + 1 => by
    rw [foldU_s]
    have h1 := h i (foldU st 0 i)
    have h2 := foldU_le st h i
    omega
theorem gm_le (a : Nat → Nat → Int32) (kn : Nat → Bool) (n v : Nat) (day : Int32) (i : Nat) : foldU (gmStep a kn n v day) 0 i ≤ i := foldU_le _ (fun i x => by unfold gmStep; split <;> omega) i
theorem ko_le (a : Nat → Nat → Int32) (kn : Nat → Bool) (n v : Nat) (cake : Int32) (fo : Nat) (i : Nat) : foldU (koStep a kn n v cake fo) 0 i ≤ i := foldU_le _ (fun i x => by unfold koStep; split <;> omega) i
theorem cn_le (a : Nat → Nat → Int32) (kn : Nat → Bool) (n v fo : Nat) (i : Nat) : foldU (cnStep a kn n v fo) 0 i ≤ i := foldU_le _ (fun i x => by unfold cnStep; split <;> omega) i
theorem ke_range {n cm : Nat} {a : Nat → Nat → Int32} (I : mI n cm a) (kn : Nat → Bool) (v : Nat) (x : Int32) : ∀ i, i ≤ n → foldU (keStep a kn n v x) (-1) i = -1 ∨ ∃ k, k < cm ∧ foldU (keStep a kn n v x) (-1) i = nI k
  | 0, _ => Or.inl rfl
  | i + 1, hi => by
    rw [foldU_s]
    have ih := ke_range I kn v x i (by omega)
    generalize foldU (keStep a kn n v x) (-1) i = f at ih ⊢
    unfold keStep
    split
    · rename_i hc
      simp only [Bool.and_eq_true, decide_eq_true_eq] at hc
      obtain ⟨k, hk, ek⟩ := I.2.2.2.1 i (by omega) hc.1.1.2
      split
      · exact Or.inr ⟨k, hk, ek⟩
      · exact ih
    · exact ih
set_option maxHeartbeats 4000000 in
set_option maxRecDepth 100000 in
theorem mc_in {l : Launch} {D : va_G} {cI cZ : ClassId} {H : Heap} (x : Int32) (lo : Int32) (hi : Int32)  : ro_Met l yX4_in wsX4_in 0 0 D (mT cI cZ) H [.int x, .int lo, .int hi] (bI (inB x lo hi)) := by
  refine ro_start rfl (by decide +kernel) (Nat.le_of_ble_eq_true rfl) (fun p e s m below meth c F hr hlocks hK ls hl => ?_)
  have hl : lv_has ls 3 [(0, .int x), (1, .int lo), (2, .int hi)] := hl
  have hx := F.1
  have hb := F.2.1
  refine lv_iload_n hx hb dX4_in_0 rfl (lv_at hl 0 rfl) ?_
  refine lv_iload_n hx hb dX4_in_1 rfl (lv_at hl 1 rfl) ?_
  refine lv_icmp_lt (tgt := 14) hx hb dX4_in_2 (by decide) (fun c_1 => ?_) (fun c_1 => ?_)
  · skip
    refine lv_iconst (v := 0) hx hb dX4_in_14 (by decide) ?_
    exact ro_retz F hr hlocks (by simp [inB, bI, c_1]) dX4_in_15
  · skip
    refine lv_iload_n hx hb dX4_in_5 rfl (lv_at hl 0 rfl) ?_
    refine lv_iload_n hx hb dX4_in_6 rfl (lv_at hl 2 rfl) ?_
    refine lv_icmp_gt (tgt := 14) hx hb dX4_in_7 (by decide) (fun c_2 => ?_) (fun c_2 => ?_)
    · skip
      refine lv_iconst (v := 0) hx hb dX4_in_14 (by decide) ?_
      exact ro_retz F hr hlocks (by simp [inB, bI, c_1, c_2]) dX4_in_15
    · skip
      refine lv_iconst (v := 1) hx hb dX4_in_10 (by decide) ?_
      refine lv_goto (tgt := 15) hx hb dX4_in_11 (by decide) ?_
      exact ro_retz F hr hlocks (by simp [inB, bI, c_1, c_2]) dX4_in_15
set_option maxHeartbeats 4000000 in
set_option maxRecDepth 100000 in
theorem mc_isFridge {l : Launch} {D : va_G} {cI cZ : ClassId} {H : Heap} (x : Int32)  : ro_Met l yX4_isFridge wsX4_isFridge 1 22 D (mT cI cZ) H [.int x] (bI (inB x 0 4)) := by
  refine ro_start rfl (by decide +kernel) (Nat.le_of_ble_eq_true rfl) (fun p e s m below meth c F hr hlocks hK ls hl => ?_)
  have hl : lv_has ls 1 [(0, .int x)] := hl
  have hx := F.1
  have hb := F.2.1
  refine lv_iload_n hx hb dX4_isFridge_0 rfl (lv_at hl 0 rfl) ?_
  refine lv_iconst (v := 0) hx hb dX4_isFridge_1 (by decide) ?_
  refine lv_iconst (v := 4) hx hb dX4_isFridge_2 (by decide) ?_
  refine ro_callS F hK [.int x, .int 0, .int 4] (mc_in x 0 4 ) (va_cwS 3 F.2.2.2.2 gX4_isFridge_X4_in rfl rfl rfl (by decide +kernel) ⟨Nat.le_of_ble_eq_true rfl, Nat.le_of_ble_eq_true rfl⟩) rfl hl.1 rfl (lv_room (Nat.le_of_ble_eq_true rfl)) ⟨Nat.zero_le _, Nat.zero_le _⟩ dX4_isFridge_3 ?_
  exact ro_retz F hr hlocks (rfl) dX4_isFridge_6
set_option maxHeartbeats 4000000 in
set_option maxRecDepth 100000 in
theorem mc_isThing {l : Launch} {D : va_G} {cI cZ : ClassId} {H : Heap} (x : Int32)  : ro_Met l yX4_isThing wsX4_isThing 1 22 D (mT cI cZ) H [.int x] (bI (inB x 0 39)) := by
  refine ro_start rfl (by decide +kernel) (Nat.le_of_ble_eq_true rfl) (fun p e s m below meth c F hr hlocks hK ls hl => ?_)
  have hl : lv_has ls 1 [(0, .int x)] := hl
  have hx := F.1
  have hb := F.2.1
  refine lv_iload_n hx hb dX4_isThing_0 rfl (lv_at hl 0 rfl) ?_
  refine lv_iconst (v := 0) hx hb dX4_isThing_1 (by decide) ?_
  refine lv_bipush (v := 39) hx hb dX4_isThing_2 (by decide) ?_
  refine ro_callS F hK [.int x, .int 0, .int 39] (mc_in x 0 39 ) (va_cwS 3 F.2.2.2.2 gX4_isThing_X4_in rfl rfl rfl (by decide +kernel) ⟨Nat.le_of_ble_eq_true rfl, Nat.le_of_ble_eq_true rfl⟩) rfl hl.1 rfl (lv_room (Nat.le_of_ble_eq_true rfl)) ⟨Nat.zero_le _, Nat.zero_le _⟩ dX4_isThing_4 ?_
  exact ro_retz F hr hlocks (rfl) dX4_isThing_7
set_option maxHeartbeats 4000000 in
set_option maxRecDepth 100000 in
theorem mc_isFood {l : Launch} {D : va_G} {cI cZ : ClassId} {H : Heap} (x : Int32)  : ro_Met l yX4_isFood wsX4_isFood 1 22 D (mT cI cZ) H [.int x] (bI (inB x 0 7)) := by
  refine ro_start rfl (by decide +kernel) (Nat.le_of_ble_eq_true rfl) (fun p e s m below meth c F hr hlocks hK ls hl => ?_)
  have hl : lv_has ls 1 [(0, .int x)] := hl
  have hx := F.1
  have hb := F.2.1
  refine lv_iload_n hx hb dX4_isFood_0 rfl (lv_at hl 0 rfl) ?_
  refine lv_iconst (v := 0) hx hb dX4_isFood_1 (by decide) ?_
  refine lv_bipush (v := 7) hx hb dX4_isFood_2 (by decide) ?_
  refine ro_callS F hK [.int x, .int 0, .int 7] (mc_in x 0 7 ) (va_cwS 3 F.2.2.2.2 gX4_isFood_X4_in rfl rfl rfl (by decide +kernel) ⟨Nat.le_of_ble_eq_true rfl, Nat.le_of_ble_eq_true rfl⟩) rfl hl.1 rfl (lv_room (Nat.le_of_ble_eq_true rfl)) ⟨Nat.zero_le _, Nat.zero_le _⟩ dX4_isFood_4 ?_
  exact ro_retz F hr hlocks (rfl) dX4_isFood_7
set_option maxHeartbeats 4000000 in
set_option maxRecDepth 100000 in
theorem mc_isCake {l : Launch} {D : va_G} {cI cZ : ClassId} {h : Nat} {q : Nat → Nat} {n cm : Nat} {th : Int32} {lm : Nat} {a : Nat → Nat → Int32} {kn : Nat → Bool} {H : Heap} (hP : va_P D vwCl (mW h q cI cZ n cm th lm a kn) H) (x : Int32)  : ro_Met l yX4_isCake wsX4_isCake 1 22 D (mT cI cZ) H [.ref h, .int x] (bI (inB x 0 (nI cm - 1))) := by
  refine ro_start rfl (by decide +kernel) (Nat.le_of_ble_eq_true rfl) (fun p e s m below meth c F hr hlocks hK ls hl => ?_)
  have hl : lv_has ls 2 [(0, .ref h), (1, .int x)] := hl
  have hx := F.1
  have hb := F.2.1
  have hin : ∀ w ∈ wsX40, w ∈ wsX4_isCake := fun _ z => List.mem_cons_of_mem _ (List.mem_append_right _ z)
  refine lv_iload_n hx hb dX4_isCake_0 rfl (lv_at hl 1 rfl) ?_
  refine lv_iconst (v := 0) hx hb dX4_isCake_1 (by decide) ?_
  refine lv_aload_n hx hb dX4_isCake_2 rfl (lv_at hl 0 rfl) ?_
  refine mg_get F hK hin hP 12 (by decide) (by decide +kernel) rfl dX4_isCake_3 ?_
  refine lv_iconst (v := 1) hx hb dX4_isCake_6 (by decide) ?_
  refine lv_isub hx hb dX4_isCake_7 ?_
  refine ro_callS F hK [.int x, .int 0, .int (nI cm - 1)] (mc_in x 0 (nI cm - 1) ) (va_cwS 3 F.2.2.2.2 gX4_isCake_X4_in rfl rfl rfl (by decide +kernel) ⟨Nat.le_of_ble_eq_true rfl, Nat.le_of_ble_eq_true rfl⟩) rfl hl.1 rfl (lv_room (Nat.le_of_ble_eq_true rfl)) ⟨Nat.zero_le _, Nat.zero_le _⟩ dX4_isCake_8 ?_
  exact ro_retz F hr hlocks (rfl) dX4_isCake_11
set_option maxHeartbeats 4000000 in
set_option maxRecDepth 100000 in
theorem mc_knows {l : Launch} {D : va_G} {cI cZ : ClassId} {h : Nat} {q : Nat → Nat} {n cm : Nat} {th : Int32} {lm : Nat} {a : Nat → Nat → Int32} {kn : Nat → Bool} {H : Heap} (hP : va_P D vwCl (mW h q cI cZ n cm th lm a kn) H) (v : Nat) (w : Nat) (hv : v ≤ 5) (hw : w < 240) : ro_Met l yX4_knows wsX4_knows 0 0 D (mT cI cZ) H [.ref h, .int (nI v), .int (nI w)] (bI (kn (6 * w + v))) := by
  refine ro_start rfl (by decide +kernel) (Nat.le_of_ble_eq_true rfl) (fun p e s m below meth c F hr hlocks hK ls hl => ?_)
  have hl : lv_has ls 3 [(0, .ref h), (1, .int (nI v)), (2, .int (nI w))] := hl
  have hx := F.1
  have hb := F.2.1
  have hin : ∀ w ∈ wsX40, w ∈ wsX4_knows := fun _ z => List.mem_cons_of_mem _ (List.mem_append_right _ z)
  refine lv_aload_n hx hb dX4_knows_0 rfl (lv_at hl 0 rfl) ?_
  refine mg_get F hK hin hP 9 (by decide) (by decide +kernel) rfl dX4_knows_1 ?_
  refine lv_bipush (v := 6) hx hb dX4_knows_4 (by decide) ?_
  refine lv_iload_n hx hb dX4_knows_6 rfl (lv_at hl 2 rfl) ?_
  refine lw_mul hx hb (i := 6) (j := w) dX4_knows_7 ?_
  refine lv_iload_n hx hb dX4_knows_8 rfl (lv_at hl 1 rfl) ?_
  refine lw_add hx hb (i := (6 * w)) (j := v) dX4_knows_9 ?_
  refine mg_zld F hK hP ((6 * w) + v) rfl (by omega) dX4_knows_10 ?_
  exact ro_retz F hr hlocks (rfl) dX4_knows_11
set_option maxHeartbeats 4000000 in
set_option maxRecDepth 100000 in
theorem mc_isLater {l : Launch} {D : va_G} {cI cZ : ClassId} {h : Nat} {q : Nat → Nat} {n cm : Nat} {th : Int32} {lm : Nat} {a : Nat → Nat → Int32} {kn : Nat → Bool} {H : Heap} (hP : va_P D vwCl (mW h q cI cZ n cm th lm a kn) H) (w : Nat) (t : Nat) (hw : w < 240) (ht : t < 240) : ro_Met l yX4_isLater wsX4_isLater 0 0 D (mT cI cZ) H [.ref h, .int (nI w), .int (nI t)] (bI (isLaterB a w t)) := by
  refine ro_start rfl (by decide +kernel) (Nat.le_of_ble_eq_true rfl) (fun p e s m below meth c F hr hlocks hK ls hl => ?_)
  have hl : lv_has ls 3 [(0, .ref h), (1, .int (nI w)), (2, .int (nI t))] := hl
  have hx := F.1
  have hb := F.2.1
  have hin : ∀ w ∈ wsX40, w ∈ wsX4_isLater := fun _ z => List.mem_cons_of_mem _ (List.mem_append_right _ z)
  refine lv_aload_n hx hb dX4_isLater_0 rfl (lv_at hl 0 rfl) ?_
  refine mg_get F hK hin hP 3 (by decide) (by decide +kernel) rfl dX4_isLater_1 ?_
  refine lv_iload_n hx hb dX4_isLater_4 rfl (lv_at hl 1 rfl) ?_
  refine mg_ald F hK hP 3 3 240 rfl w rfl (by omega) (by decide) dX4_isLater_5 ?_
  refine lv_aload_n hx hb dX4_isLater_6 rfl (lv_at hl 0 rfl) ?_
  refine mg_get F hK hin hP 3 (by decide) (by decide +kernel) rfl dX4_isLater_7 ?_
  refine lv_iload_n hx hb dX4_isLater_10 rfl (lv_at hl 2 rfl) ?_
  refine mg_ald F hK hP 3 3 240 rfl t rfl (by omega) (by decide) dX4_isLater_11 ?_
  refine lv_icmp_gt (tgt := 45) hx hb dX4_isLater_12 (by decide) (fun c_1 => ?_) (fun c_1 => ?_)
  · skip
    refine lv_iconst (v := 1) hx hb dX4_isLater_45 (by decide) ?_
    refine lv_goto (tgt := 50) hx hb dX4_isLater_46 (by decide) ?_
    exact ro_retz F hr hlocks (by simp [isLaterB, bI, c_1]) dX4_isLater_50
  · skip
    refine lv_aload_n hx hb dX4_isLater_15 rfl (lv_at hl 0 rfl) ?_
    refine mg_get F hK hin hP 3 (by decide) (by decide +kernel) rfl dX4_isLater_16 ?_
    refine lv_iload_n hx hb dX4_isLater_19 rfl (lv_at hl 1 rfl) ?_
    refine mg_ald F hK hP 3 3 240 rfl w rfl (by omega) (by decide) dX4_isLater_20 ?_
    refine lv_aload_n hx hb dX4_isLater_21 rfl (lv_at hl 0 rfl) ?_
    refine mg_get F hK hin hP 3 (by decide) (by decide +kernel) rfl dX4_isLater_22 ?_
    refine lv_iload_n hx hb dX4_isLater_25 rfl (lv_at hl 2 rfl) ?_
    refine mg_ald F hK hP 3 3 240 rfl t rfl (by omega) (by decide) dX4_isLater_26 ?_
    refine lv_icmp_ne (tgt := 49) hx hb dX4_isLater_27 (by decide) (fun c_2 => ?_) (fun c_2 => ?_)
    · skip
      refine lv_iconst (v := 0) hx hb dX4_isLater_49 (by decide) ?_
      exact ro_retz F hr hlocks (by simp [isLaterB, bI, c_1, c_2]) dX4_isLater_50
    · skip
      refine lv_aload_n hx hb dX4_isLater_30 rfl (lv_at hl 0 rfl) ?_
      refine mg_get F hK hin hP 2 (by decide) (by decide +kernel) rfl dX4_isLater_31 ?_
      refine lv_iload_n hx hb dX4_isLater_34 rfl (lv_at hl 1 rfl) ?_
      refine mg_ald F hK hP 2 2 240 rfl w rfl (by omega) (by decide) dX4_isLater_35 ?_
      refine lv_aload_n hx hb dX4_isLater_36 rfl (lv_at hl 0 rfl) ?_
      refine mg_get F hK hin hP 2 (by decide) (by decide +kernel) rfl dX4_isLater_37 ?_
      refine lv_iload_n hx hb dX4_isLater_40 rfl (lv_at hl 2 rfl) ?_
      refine mg_ald F hK hP 2 2 240 rfl t rfl (by omega) (by decide) dX4_isLater_41 ?_
      refine lv_icmp_le (tgt := 49) hx hb dX4_isLater_42 (by decide) (fun c_3 => ?_) (fun c_3 => ?_)
      · skip
        refine lv_iconst (v := 0) hx hb dX4_isLater_49 (by decide) ?_
        exact ro_retz F hr hlocks (by simp [isLaterB, bI, c_1, c_2, c_3]) dX4_isLater_50
      · skip
        refine lv_iconst (v := 1) hx hb dX4_isLater_45 (by decide) ?_
        refine lv_goto (tgt := 50) hx hb dX4_isLater_46 (by decide) ?_
        exact ro_retz F hr hlocks (by simp [isLaterB, bI, c_1, c_2, c_3]) dX4_isLater_50
set_option maxHeartbeats 4000000 in
set_option maxRecDepth 100000 in
theorem mc_isMove {l : Launch} {D : va_G} {cI cZ : ClassId} {h : Nat} {q : Nat → Nat} {n cm : Nat} {th : Int32} {lm : Nat} {a : Nat → Nat → Int32} {kn : Nat → Bool} {H : Heap} (hP : va_P D vwCl (mW h q cI cZ n cm th lm a kn) H) (w : Nat) (x : Int32) (hw : w < 240) : ro_Met l yX4_isMove wsX4_isMove 0 0 D (mT cI cZ) H [.ref h, .int (nI w), .int x] (bI (isMoveB a w x)) := by
  refine ro_start rfl (by decide +kernel) (Nat.le_of_ble_eq_true rfl) (fun p e s m below meth c F hr hlocks hK ls hl => ?_)
  have hl : lv_has ls 3 [(0, .ref h), (1, .int (nI w)), (2, .int x)] := hl
  have hx := F.1
  have hb := F.2.1
  have hin : ∀ w ∈ wsX40, w ∈ wsX4_isMove := fun _ z => List.mem_cons_of_mem _ (List.mem_append_right _ z)
  refine lv_aload_n hx hb dX4_isMove_0 rfl (lv_at hl 0 rfl) ?_
  refine mg_get F hK hin hP 1 (by decide) (by decide +kernel) rfl dX4_isMove_1 ?_
  refine lv_iload_n hx hb dX4_isMove_4 rfl (lv_at hl 1 rfl) ?_
  refine mg_ald F hK hP 1 1 240 rfl w rfl (by omega) (by decide) dX4_isMove_5 ?_
  refine lv_if_eq (tgt := 19) hx hb dX4_isMove_6 (by decide) (fun c_1 => ?_) (fun c_1 => ?_)
  · skip
    refine lv_aload_n hx hb dX4_isMove_19 rfl (lv_at hl 0 rfl) ?_
    refine mg_get F hK hin hP 4 (by decide) (by decide +kernel) rfl dX4_isMove_20 ?_
    refine lv_iload_n hx hb dX4_isMove_23 rfl (lv_at hl 1 rfl) ?_
    refine mg_ald F hK hP 4 4 240 rfl w rfl (by omega) (by decide) dX4_isMove_24 ?_
    refine lv_iload_n hx hb dX4_isMove_25 rfl (lv_at hl 2 rfl) ?_
    refine lv_icmp_ne (tgt := 33) hx hb dX4_isMove_26 (by decide) (fun c_2 => ?_) (fun c_2 => ?_)
    · skip
      refine lv_iconst (v := 0) hx hb dX4_isMove_33 (by decide) ?_
      exact ro_retz F hr hlocks (by simp [isMoveB, bI, c_1, c_2]) dX4_isMove_34
    · skip
      refine lv_iconst (v := 1) hx hb dX4_isMove_29 (by decide) ?_
      refine lv_goto (tgt := 34) hx hb dX4_isMove_30 (by decide) ?_
      exact ro_retz F hr hlocks (by simp [isMoveB, bI, c_1, c_2]) dX4_isMove_34
  · skip
    refine lv_aload_n hx hb dX4_isMove_9 rfl (lv_at hl 0 rfl) ?_
    refine mg_get F hK hin hP 1 (by decide) (by decide +kernel) rfl dX4_isMove_10 ?_
    refine lv_iload_n hx hb dX4_isMove_13 rfl (lv_at hl 1 rfl) ?_
    refine mg_ald F hK hP 1 1 240 rfl w rfl (by omega) (by decide) dX4_isMove_14 ?_
    refine lv_iconst (v := 1) hx hb dX4_isMove_15 (by decide) ?_
    refine lv_icmp_ne (tgt := 33) hx hb dX4_isMove_16 (by decide) (fun c_3 => ?_) (fun c_3 => ?_)
    · skip
      refine lv_iconst (v := 0) hx hb dX4_isMove_33 (by decide) ?_
      exact ro_retz F hr hlocks (by simp [isMoveB, bI, c_1, c_3]) dX4_isMove_34
    · skip
      refine lv_aload_n hx hb dX4_isMove_19 rfl (lv_at hl 0 rfl) ?_
      refine mg_get F hK hin hP 4 (by decide) (by decide +kernel) rfl dX4_isMove_20 ?_
      refine lv_iload_n hx hb dX4_isMove_23 rfl (lv_at hl 1 rfl) ?_
      refine mg_ald F hK hP 4 4 240 rfl w rfl (by omega) (by decide) dX4_isMove_24 ?_
      refine lv_iload_n hx hb dX4_isMove_25 rfl (lv_at hl 2 rfl) ?_
      refine lv_icmp_ne (tgt := 33) hx hb dX4_isMove_26 (by decide) (fun c_4 => ?_) (fun c_4 => ?_)
      · skip
        refine lv_iconst (v := 0) hx hb dX4_isMove_33 (by decide) ?_
        exact ro_retz F hr hlocks (by simp [isMoveB, bI, c_1, c_3, c_4]) dX4_isMove_34
      · skip
        refine lv_iconst (v := 1) hx hb dX4_isMove_29 (by decide) ?_
        refine lv_goto (tgt := 34) hx hb dX4_isMove_30 (by decide) ?_
        exact ro_retz F hr hlocks (by simp [isMoveB, bI, c_1, c_3, c_4]) dX4_isMove_34
set_option maxHeartbeats 4000000 in
set_option maxRecDepth 100000 in
theorem mc_latestMove {l : Launch} {D : va_G} {cI cZ : ClassId} {h : Nat} {q : Nat → Nat} {n cm : Nat} {th : Int32} {lm : Nat} {a : Nat → Nat → Int32} {kn : Nat → Bool} {H : Heap} (hP : va_P D vwCl (mW h q cI cZ n cm th lm a kn) H) (v : Nat) (x : Int32) (au : Int32) (hv : v ≤ 5) (hn : n ≤ 240) : ro_Met l yX4_latestMove wsX4_latestMove 1 22 D (mT cI cZ) H [.ref h, .int (nI v), .int x, .int au] (latestB a kn n v x au) := by
  refine ro_start rfl (by decide +kernel) (Nat.le_of_ble_eq_true rfl) (fun p e s m below meth c F hr hlocks hK ls hl => ?_)
  have hl : lv_has ls 7 [(0, .ref h), (1, .int (nI v)), (2, .int x), (3, .int au)] := hl
  have hx := F.1
  have hb := F.2.1
  have hin : ∀ w ∈ wsX40, w ∈ wsX4_latestMove := fun _ z => List.mem_cons_of_mem _ (List.mem_append_right _ z)
  refine lv_iconst (v := (-1)) hx hb dX4_latestMove_0 (by decide) ?_
  refine lv_istore (lv' := [(4, .int (-1)), (0, .ref h), (1, .int (nI v)), (2, .int x), (3, .int au)]) hx hb dX4_latestMove_1 hl (by decide) rfl (fun ls hl => ?_)
  refine lv_iconst (v := 0) hx hb dX4_latestMove_3 (by decide) ?_
  refine lv_istore (lv' := [(5, .int 0), (4, .int (-1)), (0, .ref h), (1, .int (nI v)), (2, .int x), (3, .int au)]) hx hb dX4_latestMove_4 hl (by decide) rfl (fun ls hl => ?_)
  have L6_u_1 : ∀ (k9u_1 : Nat) (i : Nat) (f : Int32) (ls : Array Slot), n - i < k9u_1 → i ≤ n → f = foldU (lmStep a kn v x au) (-1) i → lv_has ls 7 [(4, .int f), (5, .int (nI i)), (0, .ref h), (1, .int (nI v)), (2, .int x), (3, .int au)] → roW p l e 1 22 s m [.ref h, .int (nI v), .int x, .int au] below meth c H (latestB a kn n v x au) (F0 m 6 ls []) := by
    intro k9u_1
    induction k9u_1 with
    | zero => intro i f ls hk; exact absurd hk (Nat.not_lt_zero _)
    | succ k9u_1 ihu_1 =>
      intro i f ls hk hi hf  hl
      refine lv_iload hx hb dX4_latestMove_6 (lv_at hl 1 rfl) ?_
      refine lv_aload_n hx hb dX4_latestMove_8 rfl (lv_at hl 2 rfl) ?_
      refine mg_get F hK hin hP 0 (by decide) (by decide +kernel) rfl dX4_latestMove_9 ?_
      refine lw_ge (tgt := 95) hx hb i n (by omega) (by omega) dX4_latestMove_12 (by decide) (fun c_2 => ?_) (fun c_2 => ?_)
      · skip
        refine lv_iload hx hb dX4_latestMove_95 (lv_at hl 0 rfl) ?_
        exact ro_reti F hr hlocks (by rw [hf, show i = n by omega]; rfl) dX4_latestMove_97
      · skip
        refine lv_aload_n hx hb dX4_latestMove_15 rfl (lv_at hl 2 rfl) ?_
        refine lv_iload_n hx hb dX4_latestMove_16 rfl (lv_at hl 3 rfl) ?_
        refine lv_iload hx hb dX4_latestMove_17 (lv_at hl 1 rfl) ?_
        refine ro_callV F hK [.int (nI v), .int (nI i)] (mc_knows hP v i (by first | assumption | omega) (by first | assumption | omega)) (cwV 2 F.2.2.2.2 gX4_latestMove_X4_knows rfl rfl rfl (by decide +kernel) ⟨Nat.le_of_ble_eq_true rfl, Nat.le_of_ble_eq_true rfl⟩) (mg_rc hK hP) rfl hl.1 rfl (lv_room (Nat.le_of_ble_eq_true rfl)) ⟨Nat.zero_le _, Nat.zero_le _⟩ dX4_latestMove_19 ?_
        refine lw_beq (tgt := 55) hx hb dX4_latestMove_22 (by decide) (fun c_3 => ?_) (fun c_3 => ?_)
        · skip
          refine lv_iconst (v := 0) hx hb dX4_latestMove_55 (by decide) ?_
          refine lv_istore (lv' := [(6, .int 0), (4, .int f), (5, .int (nI i)), (0, .ref h), (1, .int (nI v)), (2, .int x), (3, .int au)]) hx hb dX4_latestMove_56 hl (by decide) rfl (fun ls hl => ?_)
          refine lv_iload hx hb dX4_latestMove_58 (lv_at hl 0 rfl) ?_
          refine lv_if_eq (tgt := 85) hx hb dX4_latestMove_60 (by decide) (fun _ => ?_) (fun z9 => absurd (by decide) z9)
          refine lv_iload hx hb dX4_latestMove_85 (lv_at hl 1 rfl) ?_
          refine lv_istore (lv' := [(4, .int f), (6, .int 0), (5, .int (nI i)), (0, .ref h), (1, .int (nI v)), (2, .int x), (3, .int au)]) hx hb dX4_latestMove_87 hl (by decide) rfl (fun ls hl => ?_)
          refine lv_iinc (v := nI (i + 1)) (lv' := [(5, .int (nI (i + 1))), (4, .int f), (6, .int 0), (0, .ref h), (1, .int (nI v)), (2, .int x), (3, .int au)]) hx hb dX4_latestMove_89 hl (k := 2) rfl (show nI i + Int32.ofInt 1 = _ from nI_add i 1) (by decide) rfl (fun ls hl => ?_)
          refine lv_goto (tgt := 6) hx hb dX4_latestMove_92 (by decide) ?_
          exact ihu_1  (i + 1) f  ls (by omega) (by first | omega | assumption) (by rw [foldU_s, ← hf]; simp [lmStep, c_2, c_3])  (lv_sub hl [1, 0, 3, 4, 5, 6] rfl)
        · skip
          refine lv_aload_n hx hb dX4_latestMove_25 rfl (lv_at hl 2 rfl) ?_
          refine lv_iload hx hb dX4_latestMove_26 (lv_at hl 1 rfl) ?_
          refine lv_iload_n hx hb dX4_latestMove_28 rfl (lv_at hl 4 rfl) ?_
          refine ro_callV F hK [.int (nI i), .int x] (mc_isMove hP i x (by first | assumption | omega)) (cwV 2 F.2.2.2.2 gX4_latestMove_X4_isMove rfl rfl rfl (by decide +kernel) ⟨Nat.le_of_ble_eq_true rfl, Nat.le_of_ble_eq_true rfl⟩) (mg_rc hK hP) rfl hl.1 rfl (lv_room (Nat.le_of_ble_eq_true rfl)) ⟨Nat.zero_le _, Nat.zero_le _⟩ dX4_latestMove_29 ?_
          refine lw_beq (tgt := 55) hx hb dX4_latestMove_32 (by decide) (fun c_4 => ?_) (fun c_4 => ?_)
          · skip
            refine lv_iconst (v := 0) hx hb dX4_latestMove_55 (by decide) ?_
            refine lv_istore (lv' := [(6, .int 0), (4, .int f), (5, .int (nI i)), (0, .ref h), (1, .int (nI v)), (2, .int x), (3, .int au)]) hx hb dX4_latestMove_56 hl (by decide) rfl (fun ls hl => ?_)
            refine lv_iload hx hb dX4_latestMove_58 (lv_at hl 0 rfl) ?_
            refine lv_if_eq (tgt := 85) hx hb dX4_latestMove_60 (by decide) (fun _ => ?_) (fun z9 => absurd (by decide) z9)
            refine lv_iload hx hb dX4_latestMove_85 (lv_at hl 1 rfl) ?_
            refine lv_istore (lv' := [(4, .int f), (6, .int 0), (5, .int (nI i)), (0, .ref h), (1, .int (nI v)), (2, .int x), (3, .int au)]) hx hb dX4_latestMove_87 hl (by decide) rfl (fun ls hl => ?_)
            refine lv_iinc (v := nI (i + 1)) (lv' := [(5, .int (nI (i + 1))), (4, .int f), (6, .int 0), (0, .ref h), (1, .int (nI v)), (2, .int x), (3, .int au)]) hx hb dX4_latestMove_89 hl (k := 2) rfl (show nI i + Int32.ofInt 1 = _ from nI_add i 1) (by decide) rfl (fun ls hl => ?_)
            refine lv_goto (tgt := 6) hx hb dX4_latestMove_92 (by decide) ?_
            exact ihu_1  (i + 1) f  ls (by omega) (by first | omega | assumption) (by rw [foldU_s, ← hf]; simp [lmStep, c_2, c_3, c_4])  (lv_sub hl [1, 0, 3, 4, 5, 6] rfl)
          · skip
            refine lv_iload_n hx hb dX4_latestMove_35 rfl (lv_at hl 5 rfl) ?_
            refine lv_iconst (v := (-1)) hx hb dX4_latestMove_36 (by decide) ?_
            refine lv_icmp_eq (tgt := 51) hx hb dX4_latestMove_37 (by decide) (fun c_5 => ?_) (fun c_5 => ?_)
            · skip
              refine lv_iconst (v := 1) hx hb dX4_latestMove_51 (by decide) ?_
              refine lv_goto (tgt := 56) hx hb dX4_latestMove_52 (by decide) ?_
              refine lv_istore (lv' := [(6, .int 1), (4, .int f), (5, .int (nI i)), (0, .ref h), (1, .int (nI v)), (2, .int x), (3, .int au)]) hx hb dX4_latestMove_56 hl (by decide) rfl (fun ls hl => ?_)
              refine lv_iload hx hb dX4_latestMove_58 (lv_at hl 0 rfl) ?_
              refine lv_if_eq (tgt := 85) hx hb dX4_latestMove_60 (by decide) (fun z9 => absurd z9 (by decide)) (fun _ => ?_)
              refine lv_iload hx hb dX4_latestMove_63 (lv_at hl 1 rfl) ?_
              refine lv_iconst (v := (-1)) hx hb dX4_latestMove_65 (by decide) ?_
              refine lv_icmp_eq (tgt := 80) hx hb dX4_latestMove_66 (by decide) (fun c_6 => ?_) (fun c_6 => ?_)
              · skip
                refine lv_iload hx hb dX4_latestMove_80 (lv_at hl 2 rfl) ?_
                refine lv_goto (tgt := 87) hx hb dX4_latestMove_82 (by decide) ?_
                refine lv_istore (lv' := [(4, .int (nI i)), (6, .int 1), (5, .int (nI i)), (0, .ref h), (1, .int (nI v)), (2, .int x), (3, .int au)]) hx hb dX4_latestMove_87 hl (by decide) rfl (fun ls hl => ?_)
                refine lv_iinc (v := nI (i + 1)) (lv' := [(5, .int (nI (i + 1))), (4, .int (nI i)), (6, .int 1), (0, .ref h), (1, .int (nI v)), (2, .int x), (3, .int au)]) hx hb dX4_latestMove_89 hl (k := 2) rfl (show nI i + Int32.ofInt 1 = _ from nI_add i 1) (by decide) rfl (fun ls hl => ?_)
                refine lv_goto (tgt := 6) hx hb dX4_latestMove_92 (by decide) ?_
                exact ihu_1  (i + 1) (nI i)  ls (by omega) (by first | omega | assumption) (by rw [foldU_s, ← hf]; simp [lmStep, c_2, c_3, c_4, c_5, c_6])  (lv_sub hl [1, 0, 3, 4, 5, 6] rfl)
              · skip
                obtain ⟨j_7, hj_7, ej_7⟩ := (show f = -1 ∨ ∃ j, j < i ∧ f = nI j from by rw [hf]; exact lm_range a kn v x au i).resolve_left (by first | assumption | exact c_6)
                have nj_7 : jn f = j_7 := by rw [ej_7]; exact jn_nI (by omega)
                refine lv_aload_n hx hb dX4_latestMove_69 rfl (lv_at hl 3 rfl) ?_
                refine lv_iload hx hb dX4_latestMove_70 (lv_at hl 2 rfl) ?_
                refine lv_iload hx hb dX4_latestMove_72 (lv_at hl 1 rfl) ?_
                refine ro_callV F hK [.int (nI i), .int (nI j_7)] (mc_isLater hP i j_7 (by first | assumption | omega) (by first | assumption | omega)) (cwV 2 F.2.2.2.2 gX4_latestMove_X4_isLater rfl rfl rfl (by decide +kernel) ⟨Nat.le_of_ble_eq_true rfl, Nat.le_of_ble_eq_true rfl⟩) (mg_rc hK hP) rfl hl.1 (by first | (rw [ej_7]; done) | (rw [ej_7]; rfl)) (lv_room (Nat.le_of_ble_eq_true rfl)) ⟨Nat.zero_le _, Nat.zero_le _⟩ dX4_latestMove_74 ?_
                refine lw_beq (tgt := 85) hx hb dX4_latestMove_77 (by decide) (fun c_8 => ?_) (fun c_8 => ?_)
                · skip
                  refine lv_iload hx hb dX4_latestMove_85 (lv_at hl 1 rfl) ?_
                  refine lv_istore (lv' := [(4, .int f), (6, .int 1), (5, .int (nI i)), (0, .ref h), (1, .int (nI v)), (2, .int x), (3, .int au)]) hx hb dX4_latestMove_87 hl (by decide) rfl (fun ls hl => ?_)
                  refine lv_iinc (v := nI (i + 1)) (lv' := [(5, .int (nI (i + 1))), (4, .int f), (6, .int 1), (0, .ref h), (1, .int (nI v)), (2, .int x), (3, .int au)]) hx hb dX4_latestMove_89 hl (k := 2) rfl (show nI i + Int32.ofInt 1 = _ from nI_add i 1) (by decide) rfl (fun ls hl => ?_)
                  refine lv_goto (tgt := 6) hx hb dX4_latestMove_92 (by decide) ?_
                  exact ihu_1  (i + 1) f  ls (by omega) (by first | omega | assumption) (by rw [foldU_s, ← hf]; simp [lmStep, c_2, c_3, c_4, c_5, c_6, nj_7, c_8])  (lv_sub hl [1, 0, 3, 4, 5, 6] rfl)
                · skip
                  refine lv_iload hx hb dX4_latestMove_80 (lv_at hl 2 rfl) ?_
                  refine lv_goto (tgt := 87) hx hb dX4_latestMove_82 (by decide) ?_
                  refine lv_istore (lv' := [(4, .int (nI i)), (6, .int 1), (5, .int (nI i)), (0, .ref h), (1, .int (nI v)), (2, .int x), (3, .int au)]) hx hb dX4_latestMove_87 hl (by decide) rfl (fun ls hl => ?_)
                  refine lv_iinc (v := nI (i + 1)) (lv' := [(5, .int (nI (i + 1))), (4, .int (nI i)), (6, .int 1), (0, .ref h), (1, .int (nI v)), (2, .int x), (3, .int au)]) hx hb dX4_latestMove_89 hl (k := 2) rfl (show nI i + Int32.ofInt 1 = _ from nI_add i 1) (by decide) rfl (fun ls hl => ?_)
                  refine lv_goto (tgt := 6) hx hb dX4_latestMove_92 (by decide) ?_
                  exact ihu_1  (i + 1) (nI i)  ls (by omega) (by first | omega | assumption) (by rw [foldU_s, ← hf]; simp [lmStep, c_2, c_3, c_4, c_5, c_6, nj_7, c_8])  (lv_sub hl [1, 0, 3, 4, 5, 6] rfl)
            · skip
              refine lv_aload_n hx hb dX4_latestMove_40 rfl (lv_at hl 2 rfl) ?_
              refine mg_get F hK hin hP 2 (by decide) (by decide +kernel) rfl dX4_latestMove_41 ?_
              refine lv_iload hx hb dX4_latestMove_44 (lv_at hl 1 rfl) ?_
              refine mg_ald F hK hP 2 2 240 rfl i rfl (by omega) (by decide) dX4_latestMove_46 ?_
              refine lv_iload_n hx hb dX4_latestMove_47 rfl (lv_at hl 5 rfl) ?_
              refine lv_icmp_ne (tgt := 55) hx hb dX4_latestMove_48 (by decide) (fun c_9 => ?_) (fun c_9 => ?_)
              · skip
                refine lv_iconst (v := 0) hx hb dX4_latestMove_55 (by decide) ?_
                refine lv_istore (lv' := [(6, .int 0), (4, .int f), (5, .int (nI i)), (0, .ref h), (1, .int (nI v)), (2, .int x), (3, .int au)]) hx hb dX4_latestMove_56 hl (by decide) rfl (fun ls hl => ?_)
                refine lv_iload hx hb dX4_latestMove_58 (lv_at hl 0 rfl) ?_
                refine lv_if_eq (tgt := 85) hx hb dX4_latestMove_60 (by decide) (fun _ => ?_) (fun z9 => absurd (by decide) z9)
                refine lv_iload hx hb dX4_latestMove_85 (lv_at hl 1 rfl) ?_
                refine lv_istore (lv' := [(4, .int f), (6, .int 0), (5, .int (nI i)), (0, .ref h), (1, .int (nI v)), (2, .int x), (3, .int au)]) hx hb dX4_latestMove_87 hl (by decide) rfl (fun ls hl => ?_)
                refine lv_iinc (v := nI (i + 1)) (lv' := [(5, .int (nI (i + 1))), (4, .int f), (6, .int 0), (0, .ref h), (1, .int (nI v)), (2, .int x), (3, .int au)]) hx hb dX4_latestMove_89 hl (k := 2) rfl (show nI i + Int32.ofInt 1 = _ from nI_add i 1) (by decide) rfl (fun ls hl => ?_)
                refine lv_goto (tgt := 6) hx hb dX4_latestMove_92 (by decide) ?_
                exact ihu_1  (i + 1) f  ls (by omega) (by first | omega | assumption) (by rw [foldU_s, ← hf]; simp [lmStep, c_2, c_3, c_4, c_5, c_9])  (lv_sub hl [1, 0, 3, 4, 5, 6] rfl)
              · skip
                refine lv_iconst (v := 1) hx hb dX4_latestMove_51 (by decide) ?_
                refine lv_goto (tgt := 56) hx hb dX4_latestMove_52 (by decide) ?_
                refine lv_istore (lv' := [(6, .int 1), (4, .int f), (5, .int (nI i)), (0, .ref h), (1, .int (nI v)), (2, .int x), (3, .int au)]) hx hb dX4_latestMove_56 hl (by decide) rfl (fun ls hl => ?_)
                refine lv_iload hx hb dX4_latestMove_58 (lv_at hl 0 rfl) ?_
                refine lv_if_eq (tgt := 85) hx hb dX4_latestMove_60 (by decide) (fun z9 => absurd z9 (by decide)) (fun _ => ?_)
                refine lv_iload hx hb dX4_latestMove_63 (lv_at hl 1 rfl) ?_
                refine lv_iconst (v := (-1)) hx hb dX4_latestMove_65 (by decide) ?_
                refine lv_icmp_eq (tgt := 80) hx hb dX4_latestMove_66 (by decide) (fun c_10 => ?_) (fun c_10 => ?_)
                · skip
                  refine lv_iload hx hb dX4_latestMove_80 (lv_at hl 2 rfl) ?_
                  refine lv_goto (tgt := 87) hx hb dX4_latestMove_82 (by decide) ?_
                  refine lv_istore (lv' := [(4, .int (nI i)), (6, .int 1), (5, .int (nI i)), (0, .ref h), (1, .int (nI v)), (2, .int x), (3, .int au)]) hx hb dX4_latestMove_87 hl (by decide) rfl (fun ls hl => ?_)
                  refine lv_iinc (v := nI (i + 1)) (lv' := [(5, .int (nI (i + 1))), (4, .int (nI i)), (6, .int 1), (0, .ref h), (1, .int (nI v)), (2, .int x), (3, .int au)]) hx hb dX4_latestMove_89 hl (k := 2) rfl (show nI i + Int32.ofInt 1 = _ from nI_add i 1) (by decide) rfl (fun ls hl => ?_)
                  refine lv_goto (tgt := 6) hx hb dX4_latestMove_92 (by decide) ?_
                  exact ihu_1  (i + 1) (nI i)  ls (by omega) (by first | omega | assumption) (by rw [foldU_s, ← hf]; simp [lmStep, c_2, c_3, c_4, c_5, c_9, c_10])  (lv_sub hl [1, 0, 3, 4, 5, 6] rfl)
                · skip
                  obtain ⟨j_11, hj_11, ej_11⟩ := (show f = -1 ∨ ∃ j, j < i ∧ f = nI j from by rw [hf]; exact lm_range a kn v x au i).resolve_left (by first | assumption | exact c_10)
                  have nj_11 : jn f = j_11 := by rw [ej_11]; exact jn_nI (by omega)
                  refine lv_aload_n hx hb dX4_latestMove_69 rfl (lv_at hl 3 rfl) ?_
                  refine lv_iload hx hb dX4_latestMove_70 (lv_at hl 2 rfl) ?_
                  refine lv_iload hx hb dX4_latestMove_72 (lv_at hl 1 rfl) ?_
                  refine ro_callV F hK [.int (nI i), .int (nI j_11)] (mc_isLater hP i j_11 (by first | assumption | omega) (by first | assumption | omega)) (cwV 2 F.2.2.2.2 gX4_latestMove_X4_isLater rfl rfl rfl (by decide +kernel) ⟨Nat.le_of_ble_eq_true rfl, Nat.le_of_ble_eq_true rfl⟩) (mg_rc hK hP) rfl hl.1 (by first | (rw [ej_11]; done) | (rw [ej_11]; rfl)) (lv_room (Nat.le_of_ble_eq_true rfl)) ⟨Nat.zero_le _, Nat.zero_le _⟩ dX4_latestMove_74 ?_
                  refine lw_beq (tgt := 85) hx hb dX4_latestMove_77 (by decide) (fun c_12 => ?_) (fun c_12 => ?_)
                  · skip
                    refine lv_iload hx hb dX4_latestMove_85 (lv_at hl 1 rfl) ?_
                    refine lv_istore (lv' := [(4, .int f), (6, .int 1), (5, .int (nI i)), (0, .ref h), (1, .int (nI v)), (2, .int x), (3, .int au)]) hx hb dX4_latestMove_87 hl (by decide) rfl (fun ls hl => ?_)
                    refine lv_iinc (v := nI (i + 1)) (lv' := [(5, .int (nI (i + 1))), (4, .int f), (6, .int 1), (0, .ref h), (1, .int (nI v)), (2, .int x), (3, .int au)]) hx hb dX4_latestMove_89 hl (k := 2) rfl (show nI i + Int32.ofInt 1 = _ from nI_add i 1) (by decide) rfl (fun ls hl => ?_)
                    refine lv_goto (tgt := 6) hx hb dX4_latestMove_92 (by decide) ?_
                    exact ihu_1  (i + 1) f  ls (by omega) (by first | omega | assumption) (by rw [foldU_s, ← hf]; simp [lmStep, c_2, c_3, c_4, c_5, c_9, c_10, nj_11, c_12])  (lv_sub hl [1, 0, 3, 4, 5, 6] rfl)
                  · skip
                    refine lv_iload hx hb dX4_latestMove_80 (lv_at hl 2 rfl) ?_
                    refine lv_goto (tgt := 87) hx hb dX4_latestMove_82 (by decide) ?_
                    refine lv_istore (lv' := [(4, .int (nI i)), (6, .int 1), (5, .int (nI i)), (0, .ref h), (1, .int (nI v)), (2, .int x), (3, .int au)]) hx hb dX4_latestMove_87 hl (by decide) rfl (fun ls hl => ?_)
                    refine lv_iinc (v := nI (i + 1)) (lv' := [(5, .int (nI (i + 1))), (4, .int (nI i)), (6, .int 1), (0, .ref h), (1, .int (nI v)), (2, .int x), (3, .int au)]) hx hb dX4_latestMove_89 hl (k := 2) rfl (show nI i + Int32.ofInt 1 = _ from nI_add i 1) (by decide) rfl (fun ls hl => ?_)
                    refine lv_goto (tgt := 6) hx hb dX4_latestMove_92 (by decide) ?_
                    exact ihu_1  (i + 1) (nI i)  ls (by omega) (by first | omega | assumption) (by rw [foldU_s, ← hf]; simp [lmStep, c_2, c_3, c_4, c_5, c_9, c_10, nj_11, c_12])  (lv_sub hl [1, 0, 3, 4, 5, 6] rfl)
  exact L6_u_1 _ 0 (-1)  ls (Nat.lt_succ_self _) (by first | omega | assumption) (rfl)  (lv_sub hl [1, 0, 2, 3, 4, 5] rfl)
set_option maxHeartbeats 4000000 in
set_option maxRecDepth 100000 in
theorem mc_placeOf {l : Launch} {D : va_G} {cI cZ : ClassId} {h : Nat} {q : Nat → Nat} {n cm : Nat} {th : Int32} {lm : Nat} {a : Nat → Nat → Int32} {kn : Nat → Bool} {H : Heap} (hP : va_P D vwCl (mW h q cI cZ n cm th lm a kn) H) (v : Nat) (x : Int32) (hv : v ≤ 5) (hn : n ≤ 240) : ro_Met l yX4_placeOf wsX4_placeOf 2 48 D (mT cI cZ) H [.ref h, .int (nI v), .int x] (placeB a kn n v x) := by
  refine ro_start rfl (by decide +kernel) (Nat.le_of_ble_eq_true rfl) (fun p e s m below meth c F hr hlocks hK ls hl => ?_)
  have hl : lv_has ls 4 [(0, .ref h), (1, .int (nI v)), (2, .int x)] := hl
  have hx := F.1
  have hb := F.2.1
  have hin : ∀ w ∈ wsX40, w ∈ wsX4_placeOf := fun _ z => List.mem_cons_of_mem _ (List.mem_append_right _ z)
  refine lv_aload_n hx hb dX4_placeOf_0 rfl (lv_at hl 0 rfl) ?_
  refine lv_iload_n hx hb dX4_placeOf_1 rfl (lv_at hl 1 rfl) ?_
  refine lv_iload_n hx hb dX4_placeOf_2 rfl (lv_at hl 2 rfl) ?_
  refine lv_iconst (v := (-1)) hx hb dX4_placeOf_3 (by decide) ?_
  refine ro_callV F hK [.int (nI v), .int x, .int (-1)] (mc_latestMove hP v x (-1) (by first | assumption | omega) (by first | assumption | omega)) (cwV 3 F.2.2.2.2 gX4_placeOf_X4_latestMove rfl rfl rfl (by decide +kernel) ⟨Nat.le_of_ble_eq_true rfl, Nat.le_of_ble_eq_true rfl⟩) (mg_rc hK hP) rfl hl.1 rfl (lv_room (Nat.le_of_ble_eq_true rfl)) ⟨Nat.zero_le _, Nat.zero_le _⟩ dX4_placeOf_4 ?_
  refine lv_istore_n (lv' := [(3, .int (latestB a kn n v x (-1))), (0, .ref h), (1, .int (nI v)), (2, .int x)]) hx hb dX4_placeOf_7 rfl hl (by decide) rfl (fun ls hl => ?_)
  refine lv_iload_n hx hb dX4_placeOf_8 rfl (lv_at hl 0 rfl) ?_
  refine lv_iconst (v := (-1)) hx hb dX4_placeOf_9 (by decide) ?_
  refine lv_icmp_eq (tgt := 31) hx hb dX4_placeOf_10 (by decide) (fun c_1 => ?_) (fun c_1 => ?_)
  · skip
    refine lv_iconst (v := (-1)) hx hb dX4_placeOf_31 (by decide) ?_
    exact ro_reti F hr hlocks (by simp [placeB, c_1]) dX4_placeOf_32
  · skip
    obtain ⟨j_2, hj_2, ej_2⟩ := (show latestB a kn n v x (-1) = -1 ∨ ∃ j, j < n ∧ latestB a kn n v x (-1) = nI j from lm_range a kn v x (-1) n).resolve_left (by first | assumption | exact c_1)
    have nj_2 : jn (latestB a kn n v x (-1)) = j_2 := by rw [ej_2]; exact jn_nI (by omega)
    refine lv_aload_n hx hb dX4_placeOf_13 rfl (lv_at hl 1 rfl) ?_
    refine mg_get F hK hin hP 1 (by decide) (by decide +kernel) rfl dX4_placeOf_14 ?_
    refine lv_iload_n hx hb dX4_placeOf_17 rfl (lv_at hl 0 rfl) ?_
    refine mg_ald F hK hP 1 1 240 rfl j_2 ej_2 (by omega) (by decide) dX4_placeOf_18 ?_
    refine lv_if_ne (tgt := 31) hx hb dX4_placeOf_19 (by decide) (fun c_3 => ?_) (fun c_3 => ?_)
    · skip
      refine lv_iconst (v := (-1)) hx hb dX4_placeOf_31 (by decide) ?_
      exact ro_reti F hr hlocks (by simp [placeB, c_1, nj_2, c_3]) dX4_placeOf_32
    · skip
      refine lv_aload_n hx hb dX4_placeOf_22 rfl (lv_at hl 1 rfl) ?_
      refine mg_get F hK hin hP 2 (by decide) (by decide +kernel) rfl dX4_placeOf_23 ?_
      refine lv_iload_n hx hb dX4_placeOf_26 rfl (lv_at hl 0 rfl) ?_
      refine mg_ald F hK hP 2 2 240 rfl j_2 ej_2 (by omega) (by decide) dX4_placeOf_27 ?_
      refine lv_goto (tgt := 32) hx hb dX4_placeOf_28 (by decide) ?_
      exact ro_reti F hr hlocks (by simp [placeB, c_1, nj_2, c_3]) dX4_placeOf_32
set_option maxHeartbeats 4000000 in
set_option maxRecDepth 100000 in
theorem mc_coming {l : Launch} {D : va_G} {cI cZ : ClassId} {h : Nat} {q : Nat → Nat} {n cm : Nat} {th : Int32} {lm : Nat} {a : Nat → Nat → Int32} {kn : Nat → Bool} {H : Heap} (hP : va_P D vwCl (mW h q cI cZ n cm th lm a kn) H) (v : Nat) (x : Int32) (day : Int32) (hv : v ≤ 5) (hn : n ≤ 240) : ro_Met l yX4_coming wsX4_coming 1 22 D (mT cI cZ) H [.ref h, .int (nI v), .int x, .int day] (comingB a kn n v x day) := by
  refine ro_start rfl (by decide +kernel) (Nat.le_of_ble_eq_true rfl) (fun p e s m below meth c F hr hlocks hK ls hl => ?_)
  have hl : lv_has ls 7 [(0, .ref h), (1, .int (nI v)), (2, .int x), (3, .int day)] := hl
  have hx := F.1
  have hb := F.2.1
  have hin : ∀ w ∈ wsX40, w ∈ wsX4_coming := fun _ z => List.mem_cons_of_mem _ (List.mem_append_right _ z)
  refine lv_iconst (v := (-1)) hx hb dX4_coming_0 (by decide) ?_
  refine lv_istore (lv' := [(4, .int (-1)), (0, .ref h), (1, .int (nI v)), (2, .int x), (3, .int day)]) hx hb dX4_coming_1 hl (by decide) rfl (fun ls hl => ?_)
  refine lv_iconst (v := 0) hx hb dX4_coming_3 (by decide) ?_
  refine lv_istore (lv' := [(5, .int 0), (4, .int (-1)), (0, .ref h), (1, .int (nI v)), (2, .int x), (3, .int day)]) hx hb dX4_coming_4 hl (by decide) rfl (fun ls hl => ?_)
  have L6_u_1 : ∀ (k9u_1 : Nat) (i : Nat) (f : Int32) (ls : Array Slot), n - i < k9u_1 → i ≤ n → f = foldU (coStep a kn v x) (-1) i → lv_has ls 7 [(4, .int f), (5, .int (nI i)), (0, .ref h), (1, .int (nI v)), (2, .int x), (3, .int day)] → roW p l e 1 22 s m [.ref h, .int (nI v), .int x, .int day] below meth c H (comingB a kn n v x day) (F0 m 6 ls []) := by
    intro k9u_1
    induction k9u_1 with
    | zero => intro i f ls hk; exact absurd hk (Nat.not_lt_zero _)
    | succ k9u_1 ihu_1 =>
      intro i f ls hk hi hf  hl
      refine lv_iload hx hb dX4_coming_6 (lv_at hl 1 rfl) ?_
      refine lv_aload_n hx hb dX4_coming_8 rfl (lv_at hl 2 rfl) ?_
      refine mg_get F hK hin hP 0 (by decide) (by decide +kernel) rfl dX4_coming_9 ?_
      refine lw_ge (tgt := 91) hx hb i n (by omega) (by omega) dX4_coming_12 (by decide) (fun c_2 => ?_) (fun c_2 => ?_)
      · skip
        have hF : comF a kn n v x = f := by rw [hf, show i = n by omega]; rfl
        refine lv_iload hx hb dX4_coming_91 (lv_at hl 0 rfl) ?_
        refine lv_iconst (v := (-1)) hx hb dX4_coming_93 (by decide) ?_
        refine lv_icmp_eq (tgt := 123) hx hb dX4_coming_94 (by decide) (fun c_3 => ?_) (fun c_3 => ?_)
        · skip
          refine lv_iconst (v := (-1)) hx hb dX4_coming_123 (by decide) ?_
          exact ro_reti F hr hlocks (by simp [comingB, c_2, hF, c_3]) dX4_coming_124
        · skip
          obtain ⟨j_4, hj_4, ej_4⟩ := (show f = -1 ∨ ∃ j, j < i ∧ f = nI j from by rw [hf]; exact co_range a kn v x i).resolve_left (by first | assumption | exact c_3)
          have nj_4 : jn f = j_4 := by rw [ej_4]; exact jn_nI (by omega)
          refine lv_iload_n hx hb dX4_coming_97 rfl (lv_at hl 5 rfl) ?_
          refine lv_aload_n hx hb dX4_coming_98 rfl (lv_at hl 2 rfl) ?_
          refine mg_get F hK hin hP 6 (by decide) (by decide +kernel) rfl dX4_coming_99 ?_
          refine lv_iload hx hb dX4_coming_102 (lv_at hl 0 rfl) ?_
          refine mg_ald F hK hP 6 6 240 rfl j_4 ej_4 (by omega) (by decide) dX4_coming_104 ?_
          refine lv_aload_n hx hb dX4_coming_105 rfl (lv_at hl 2 rfl) ?_
          refine mg_get F hK hin hP 7 (by decide) (by decide +kernel) rfl dX4_coming_106 ?_
          refine lv_iload hx hb dX4_coming_109 (lv_at hl 0 rfl) ?_
          refine mg_ald F hK hP 7 7 240 rfl j_4 ej_4 (by omega) (by decide) dX4_coming_111 ?_
          refine ro_callS F hK [.int day, .int (a 6 j_4), .int (a 7 j_4)] (mc_in day (a 6 j_4) (a 7 j_4) ) (va_cwS 3 F.2.2.2.2 gX4_coming_X4_in rfl rfl rfl (by decide +kernel) ⟨Nat.le_of_ble_eq_true rfl, Nat.le_of_ble_eq_true rfl⟩) rfl hl.1 rfl (lv_room (Nat.le_of_ble_eq_true rfl)) ⟨Nat.zero_le _, Nat.zero_le _⟩ dX4_coming_112 ?_
          refine lw_beq (tgt := 123) hx hb dX4_coming_115 (by decide) (fun c_5 => ?_) (fun c_5 => ?_)
          · skip
            refine lv_iconst (v := (-1)) hx hb dX4_coming_123 (by decide) ?_
            exact ro_reti F hr hlocks (by simp [comingB, c_2, hF, c_3, nj_4, c_5]) dX4_coming_124
          · skip
            refine lv_iload hx hb dX4_coming_118 (lv_at hl 0 rfl) ?_
            refine lv_goto (tgt := 124) hx hb dX4_coming_120 (by decide) ?_
            exact ro_reti F hr hlocks (by simp [comingB, c_2, hF, c_3, nj_4, c_5]) dX4_coming_124
      · skip
        refine lv_aload_n hx hb dX4_coming_15 rfl (lv_at hl 2 rfl) ?_
        refine lv_iload_n hx hb dX4_coming_16 rfl (lv_at hl 3 rfl) ?_
        refine lv_iload hx hb dX4_coming_17 (lv_at hl 1 rfl) ?_
        refine ro_callV F hK [.int (nI v), .int (nI i)] (mc_knows hP v i (by first | assumption | omega) (by first | assumption | omega)) (cwV 2 F.2.2.2.2 gX4_coming_X4_knows rfl rfl rfl (by decide +kernel) ⟨Nat.le_of_ble_eq_true rfl, Nat.le_of_ble_eq_true rfl⟩) (mg_rc hK hP) rfl hl.1 rfl (lv_room (Nat.le_of_ble_eq_true rfl)) ⟨Nat.zero_le _, Nat.zero_le _⟩ dX4_coming_19 ?_
        refine lw_beq (tgt := 51) hx hb dX4_coming_22 (by decide) (fun c_6 => ?_) (fun c_6 => ?_)
        · skip
          refine lv_iconst (v := 0) hx hb dX4_coming_51 (by decide) ?_
          refine lv_istore (lv' := [(6, .int 0), (4, .int f), (5, .int (nI i)), (0, .ref h), (1, .int (nI v)), (2, .int x), (3, .int day)]) hx hb dX4_coming_52 hl (by decide) rfl (fun ls hl => ?_)
          refine lv_iload hx hb dX4_coming_54 (lv_at hl 0 rfl) ?_
          refine lv_if_eq (tgt := 81) hx hb dX4_coming_56 (by decide) (fun _ => ?_) (fun z9 => absurd (by decide) z9)
          refine lv_iload hx hb dX4_coming_81 (lv_at hl 1 rfl) ?_
          refine lv_istore (lv' := [(4, .int f), (6, .int 0), (5, .int (nI i)), (0, .ref h), (1, .int (nI v)), (2, .int x), (3, .int day)]) hx hb dX4_coming_83 hl (by decide) rfl (fun ls hl => ?_)
          refine lv_iinc (v := nI (i + 1)) (lv' := [(5, .int (nI (i + 1))), (4, .int f), (6, .int 0), (0, .ref h), (1, .int (nI v)), (2, .int x), (3, .int day)]) hx hb dX4_coming_85 hl (k := 2) rfl (show nI i + Int32.ofInt 1 = _ from nI_add i 1) (by decide) rfl (fun ls hl => ?_)
          refine lv_goto (tgt := 6) hx hb dX4_coming_88 (by decide) ?_
          exact ihu_1  (i + 1) f  ls (by omega) (by first | omega | assumption) (by rw [foldU_s, ← hf]; simp [coStep, c_2, c_6])  (lv_sub hl [1, 0, 3, 4, 5, 6] rfl)
        · skip
          refine lv_aload_n hx hb dX4_coming_25 rfl (lv_at hl 2 rfl) ?_
          refine mg_get F hK hin hP 1 (by decide) (by decide +kernel) rfl dX4_coming_26 ?_
          refine lv_iload hx hb dX4_coming_29 (lv_at hl 1 rfl) ?_
          refine mg_ald F hK hP 1 1 240 rfl i rfl (by omega) (by decide) dX4_coming_31 ?_
          refine lv_iconst (v := 2) hx hb dX4_coming_32 (by decide) ?_
          refine lv_icmp_ne (tgt := 51) hx hb dX4_coming_33 (by decide) (fun c_7 => ?_) (fun c_7 => ?_)
          · skip
            refine lv_iconst (v := 0) hx hb dX4_coming_51 (by decide) ?_
            refine lv_istore (lv' := [(6, .int 0), (4, .int f), (5, .int (nI i)), (0, .ref h), (1, .int (nI v)), (2, .int x), (3, .int day)]) hx hb dX4_coming_52 hl (by decide) rfl (fun ls hl => ?_)
            refine lv_iload hx hb dX4_coming_54 (lv_at hl 0 rfl) ?_
            refine lv_if_eq (tgt := 81) hx hb dX4_coming_56 (by decide) (fun _ => ?_) (fun z9 => absurd (by decide) z9)
            refine lv_iload hx hb dX4_coming_81 (lv_at hl 1 rfl) ?_
            refine lv_istore (lv' := [(4, .int f), (6, .int 0), (5, .int (nI i)), (0, .ref h), (1, .int (nI v)), (2, .int x), (3, .int day)]) hx hb dX4_coming_83 hl (by decide) rfl (fun ls hl => ?_)
            refine lv_iinc (v := nI (i + 1)) (lv' := [(5, .int (nI (i + 1))), (4, .int f), (6, .int 0), (0, .ref h), (1, .int (nI v)), (2, .int x), (3, .int day)]) hx hb dX4_coming_85 hl (k := 2) rfl (show nI i + Int32.ofInt 1 = _ from nI_add i 1) (by decide) rfl (fun ls hl => ?_)
            refine lv_goto (tgt := 6) hx hb dX4_coming_88 (by decide) ?_
            exact ihu_1  (i + 1) f  ls (by omega) (by first | omega | assumption) (by rw [foldU_s, ← hf]; simp [coStep, c_2, c_6, c_7])  (lv_sub hl [1, 0, 3, 4, 5, 6] rfl)
          · skip
            refine lv_aload_n hx hb dX4_coming_36 rfl (lv_at hl 2 rfl) ?_
            refine mg_get F hK hin hP 4 (by decide) (by decide +kernel) rfl dX4_coming_37 ?_
            refine lv_iload hx hb dX4_coming_40 (lv_at hl 1 rfl) ?_
            refine mg_ald F hK hP 4 4 240 rfl i rfl (by omega) (by decide) dX4_coming_42 ?_
            refine lv_iload_n hx hb dX4_coming_43 rfl (lv_at hl 4 rfl) ?_
            refine lv_icmp_ne (tgt := 51) hx hb dX4_coming_44 (by decide) (fun c_8 => ?_) (fun c_8 => ?_)
            · skip
              refine lv_iconst (v := 0) hx hb dX4_coming_51 (by decide) ?_
              refine lv_istore (lv' := [(6, .int 0), (4, .int f), (5, .int (nI i)), (0, .ref h), (1, .int (nI v)), (2, .int x), (3, .int day)]) hx hb dX4_coming_52 hl (by decide) rfl (fun ls hl => ?_)
              refine lv_iload hx hb dX4_coming_54 (lv_at hl 0 rfl) ?_
              refine lv_if_eq (tgt := 81) hx hb dX4_coming_56 (by decide) (fun _ => ?_) (fun z9 => absurd (by decide) z9)
              refine lv_iload hx hb dX4_coming_81 (lv_at hl 1 rfl) ?_
              refine lv_istore (lv' := [(4, .int f), (6, .int 0), (5, .int (nI i)), (0, .ref h), (1, .int (nI v)), (2, .int x), (3, .int day)]) hx hb dX4_coming_83 hl (by decide) rfl (fun ls hl => ?_)
              refine lv_iinc (v := nI (i + 1)) (lv' := [(5, .int (nI (i + 1))), (4, .int f), (6, .int 0), (0, .ref h), (1, .int (nI v)), (2, .int x), (3, .int day)]) hx hb dX4_coming_85 hl (k := 2) rfl (show nI i + Int32.ofInt 1 = _ from nI_add i 1) (by decide) rfl (fun ls hl => ?_)
              refine lv_goto (tgt := 6) hx hb dX4_coming_88 (by decide) ?_
              exact ihu_1  (i + 1) f  ls (by omega) (by first | omega | assumption) (by rw [foldU_s, ← hf]; simp [coStep, c_2, c_6, c_7, c_8])  (lv_sub hl [1, 0, 3, 4, 5, 6] rfl)
            · skip
              refine lv_iconst (v := 1) hx hb dX4_coming_47 (by decide) ?_
              refine lv_goto (tgt := 52) hx hb dX4_coming_48 (by decide) ?_
              refine lv_istore (lv' := [(6, .int 1), (4, .int f), (5, .int (nI i)), (0, .ref h), (1, .int (nI v)), (2, .int x), (3, .int day)]) hx hb dX4_coming_52 hl (by decide) rfl (fun ls hl => ?_)
              refine lv_iload hx hb dX4_coming_54 (lv_at hl 0 rfl) ?_
              refine lv_if_eq (tgt := 81) hx hb dX4_coming_56 (by decide) (fun z9 => absurd z9 (by decide)) (fun _ => ?_)
              refine lv_iload hx hb dX4_coming_59 (lv_at hl 1 rfl) ?_
              refine lv_iconst (v := (-1)) hx hb dX4_coming_61 (by decide) ?_
              refine lv_icmp_eq (tgt := 76) hx hb dX4_coming_62 (by decide) (fun c_9 => ?_) (fun c_9 => ?_)
              · skip
                refine lv_iload hx hb dX4_coming_76 (lv_at hl 2 rfl) ?_
                refine lv_goto (tgt := 83) hx hb dX4_coming_78 (by decide) ?_
                refine lv_istore (lv' := [(4, .int (nI i)), (6, .int 1), (5, .int (nI i)), (0, .ref h), (1, .int (nI v)), (2, .int x), (3, .int day)]) hx hb dX4_coming_83 hl (by decide) rfl (fun ls hl => ?_)
                refine lv_iinc (v := nI (i + 1)) (lv' := [(5, .int (nI (i + 1))), (4, .int (nI i)), (6, .int 1), (0, .ref h), (1, .int (nI v)), (2, .int x), (3, .int day)]) hx hb dX4_coming_85 hl (k := 2) rfl (show nI i + Int32.ofInt 1 = _ from nI_add i 1) (by decide) rfl (fun ls hl => ?_)
                refine lv_goto (tgt := 6) hx hb dX4_coming_88 (by decide) ?_
                exact ihu_1  (i + 1) (nI i)  ls (by omega) (by first | omega | assumption) (by rw [foldU_s, ← hf]; simp [coStep, c_2, c_6, c_7, c_8, c_9])  (lv_sub hl [1, 0, 3, 4, 5, 6] rfl)
              · skip
                obtain ⟨j_10, hj_10, ej_10⟩ := (show f = -1 ∨ ∃ j, j < i ∧ f = nI j from by rw [hf]; exact co_range a kn v x i).resolve_left (by first | assumption | exact c_9)
                have nj_10 : jn f = j_10 := by rw [ej_10]; exact jn_nI (by omega)
                refine lv_aload_n hx hb dX4_coming_65 rfl (lv_at hl 3 rfl) ?_
                refine lv_iload hx hb dX4_coming_66 (lv_at hl 2 rfl) ?_
                refine lv_iload hx hb dX4_coming_68 (lv_at hl 1 rfl) ?_
                refine ro_callV F hK [.int (nI i), .int (nI j_10)] (mc_isLater hP i j_10 (by first | assumption | omega) (by first | assumption | omega)) (cwV 2 F.2.2.2.2 gX4_coming_X4_isLater rfl rfl rfl (by decide +kernel) ⟨Nat.le_of_ble_eq_true rfl, Nat.le_of_ble_eq_true rfl⟩) (mg_rc hK hP) rfl hl.1 (by first | (rw [ej_10]; done) | (rw [ej_10]; rfl)) (lv_room (Nat.le_of_ble_eq_true rfl)) ⟨Nat.zero_le _, Nat.zero_le _⟩ dX4_coming_70 ?_
                refine lw_beq (tgt := 81) hx hb dX4_coming_73 (by decide) (fun c_11 => ?_) (fun c_11 => ?_)
                · skip
                  refine lv_iload hx hb dX4_coming_81 (lv_at hl 1 rfl) ?_
                  refine lv_istore (lv' := [(4, .int f), (6, .int 1), (5, .int (nI i)), (0, .ref h), (1, .int (nI v)), (2, .int x), (3, .int day)]) hx hb dX4_coming_83 hl (by decide) rfl (fun ls hl => ?_)
                  refine lv_iinc (v := nI (i + 1)) (lv' := [(5, .int (nI (i + 1))), (4, .int f), (6, .int 1), (0, .ref h), (1, .int (nI v)), (2, .int x), (3, .int day)]) hx hb dX4_coming_85 hl (k := 2) rfl (show nI i + Int32.ofInt 1 = _ from nI_add i 1) (by decide) rfl (fun ls hl => ?_)
                  refine lv_goto (tgt := 6) hx hb dX4_coming_88 (by decide) ?_
                  exact ihu_1  (i + 1) f  ls (by omega) (by first | omega | assumption) (by rw [foldU_s, ← hf]; simp [coStep, c_2, c_6, c_7, c_8, c_9, nj_10, c_11])  (lv_sub hl [1, 0, 3, 4, 5, 6] rfl)
                · skip
                  refine lv_iload hx hb dX4_coming_76 (lv_at hl 2 rfl) ?_
                  refine lv_goto (tgt := 83) hx hb dX4_coming_78 (by decide) ?_
                  refine lv_istore (lv' := [(4, .int (nI i)), (6, .int 1), (5, .int (nI i)), (0, .ref h), (1, .int (nI v)), (2, .int x), (3, .int day)]) hx hb dX4_coming_83 hl (by decide) rfl (fun ls hl => ?_)
                  refine lv_iinc (v := nI (i + 1)) (lv' := [(5, .int (nI (i + 1))), (4, .int (nI i)), (6, .int 1), (0, .ref h), (1, .int (nI v)), (2, .int x), (3, .int day)]) hx hb dX4_coming_85 hl (k := 2) rfl (show nI i + Int32.ofInt 1 = _ from nI_add i 1) (by decide) rfl (fun ls hl => ?_)
                  refine lv_goto (tgt := 6) hx hb dX4_coming_88 (by decide) ?_
                  exact ihu_1  (i + 1) (nI i)  ls (by omega) (by first | omega | assumption) (by rw [foldU_s, ← hf]; simp [coStep, c_2, c_6, c_7, c_8, c_9, nj_10, c_11])  (lv_sub hl [1, 0, 3, 4, 5, 6] rfl)
  exact L6_u_1 _ 0 (-1)  ls (Nat.lt_succ_self _) (by first | omega | assumption) (rfl)  (lv_sub hl [1, 0, 2, 3, 4, 5] rfl)
set_option maxHeartbeats 4000000 in
set_option maxRecDepth 100000 in
theorem mc_guestMany {l : Launch} {D : va_G} {cI cZ : ClassId} {h : Nat} {q : Nat → Nat} {n cm : Nat} {th : Int32} {lm : Nat} {a : Nat → Nat → Int32} {kn : Nat → Bool} {H : Heap} (hP : va_P D vwCl (mW h q cI cZ n cm th lm a kn) H) (v : Nat) (day : Int32) (hv : v ≤ 5) (hn : n ≤ 240) : ro_Met l yX4_guestMany wsX4_guestMany 2 48 D (mT cI cZ) H [.ref h, .int (nI v), .int day] (nI (guestManyB a kn n v day)) := by
  refine ro_start rfl (by decide +kernel) (Nat.le_of_ble_eq_true rfl) (fun p e s m below meth c F hr hlocks hK ls hl => ?_)
  have hl : lv_has ls 5 [(0, .ref h), (1, .int (nI v)), (2, .int day)] := hl
  have hx := F.1
  have hb := F.2.1
  have hin : ∀ w ∈ wsX40, w ∈ wsX4_guestMany := fun _ z => List.mem_cons_of_mem _ (List.mem_append_right _ z)
  refine lv_iconst (v := 0) hx hb dX4_guestMany_0 (by decide) ?_
  refine lv_istore_n (lv' := [(3, .int 0), (0, .ref h), (1, .int (nI v)), (2, .int day)]) hx hb dX4_guestMany_1 rfl hl (by decide) rfl (fun ls hl => ?_)
  refine lv_iconst (v := 0) hx hb dX4_guestMany_2 (by decide) ?_
  refine lv_istore (lv' := [(4, .int 0), (3, .int 0), (0, .ref h), (1, .int (nI v)), (2, .int day)]) hx hb dX4_guestMany_3 hl (by decide) rfl (fun ls hl => ?_)
  have L5_u_1 : ∀ (k9u_1 : Nat) (i : Nat) (y : Nat) (ls : Array Slot), 8 - i < k9u_1 → i ≤ 8 → y = foldU (gmStep a kn n v day) 0 i → lv_has ls 5 [(3, .int (nI y)), (4, .int (nI i)), (0, .ref h), (1, .int (nI v)), (2, .int day)] → roW p l e 2 48 s m [.ref h, .int (nI v), .int day] below meth c H (nI (guestManyB a kn n v day)) (F0 m 5 ls []) := by
    intro k9u_1
    induction k9u_1 with
    | zero => intro i y ls hk; exact absurd hk (Nat.not_lt_zero _)
    | succ k9u_1 ihu_1 =>
      intro i y ls hk hi hf  hl
      refine lv_iload hx hb dX4_guestMany_5 (lv_at hl 1 rfl) ?_
      refine lv_bipush (v := 8) hx hb dX4_guestMany_7 (by decide) ?_
      refine lw_ge (tgt := 38) hx hb i 8 (by omega) (by omega) dX4_guestMany_9 (by decide) (fun c_2 => ?_) (fun c_2 => ?_)
      · skip
        refine lv_iload_n hx hb dX4_guestMany_38 rfl (lv_at hl 0 rfl) ?_
        exact ro_reti F hr hlocks (by rw [hf, show i = 8 by omega]; rfl) dX4_guestMany_39
      · skip
        refine lv_iload_n hx hb dX4_guestMany_12 rfl (lv_at hl 0 rfl) ?_
        refine lv_aload_n hx hb dX4_guestMany_13 rfl (lv_at hl 2 rfl) ?_
        refine lv_iload_n hx hb dX4_guestMany_14 rfl (lv_at hl 3 rfl) ?_
        refine lv_iload hx hb dX4_guestMany_15 (lv_at hl 1 rfl) ?_
        refine lv_iload_n hx hb dX4_guestMany_17 rfl (lv_at hl 4 rfl) ?_
        refine ro_callV F hK [.int (nI v), .int (nI i), .int day] (mc_coming hP v (nI i) day (by first | assumption | omega) (by first | assumption | omega)) (cwV 3 F.2.2.2.2 gX4_guestMany_X4_coming rfl rfl rfl (by decide +kernel) ⟨Nat.le_of_ble_eq_true rfl, Nat.le_of_ble_eq_true rfl⟩) (mg_rc hK hP) rfl hl.1 rfl (lv_room (Nat.le_of_ble_eq_true rfl)) ⟨Nat.zero_le _, Nat.zero_le _⟩ dX4_guestMany_18 ?_
        refine lv_iconst (v := (-1)) hx hb dX4_guestMany_21 (by decide) ?_
        refine lv_icmp_eq (tgt := 29) hx hb dX4_guestMany_22 (by decide) (fun c_3 => ?_) (fun c_3 => ?_)
        · skip
          refine lv_iconst (v := 0) hx hb dX4_guestMany_29 (by decide) ?_
          refine lw_add hx hb (i := y) (j := 0) dX4_guestMany_30 ?_
          refine lv_istore_n (lv' := [(3, .int (nI (y + 0))), (4, .int (nI i)), (0, .ref h), (1, .int (nI v)), (2, .int day)]) hx hb dX4_guestMany_31 rfl hl (by decide) rfl (fun ls hl => ?_)
          refine lv_iinc (v := nI (i + 1)) (lv' := [(4, .int (nI (i + 1))), (3, .int (nI (y + 0))), (0, .ref h), (1, .int (nI v)), (2, .int day)]) hx hb dX4_guestMany_32 hl (k := 1) rfl (show nI i + Int32.ofInt 1 = _ from nI_add i 1) (by decide) rfl (fun ls hl => ?_)
          refine lv_goto (tgt := 5) hx hb dX4_guestMany_35 (by decide) ?_
          exact ihu_1  (i + 1) (y + 0)  ls (by omega) (by first | omega | assumption) (by rw [foldU_s, ← hf]; simp [gmStep, c_2, c_3])  (lv_sub hl [1, 0, 2, 3, 4] rfl)
        · skip
          refine lv_iconst (v := 1) hx hb dX4_guestMany_25 (by decide) ?_
          refine lv_goto (tgt := 30) hx hb dX4_guestMany_26 (by decide) ?_
          refine lw_add hx hb (i := y) (j := 1) dX4_guestMany_30 ?_
          refine lv_istore_n (lv' := [(3, .int (nI (y + 1))), (4, .int (nI i)), (0, .ref h), (1, .int (nI v)), (2, .int day)]) hx hb dX4_guestMany_31 rfl hl (by decide) rfl (fun ls hl => ?_)
          refine lv_iinc (v := nI (i + 1)) (lv' := [(4, .int (nI (i + 1))), (3, .int (nI (y + 1))), (0, .ref h), (1, .int (nI v)), (2, .int day)]) hx hb dX4_guestMany_32 hl (k := 1) rfl (show nI i + Int32.ofInt 1 = _ from nI_add i 1) (by decide) rfl (fun ls hl => ?_)
          refine lv_goto (tgt := 5) hx hb dX4_guestMany_35 (by decide) ?_
          exact ihu_1  (i + 1) (y + 1)  ls (by omega) (by first | omega | assumption) (by rw [foldU_s, ← hf]; simp [gmStep, c_2, c_3])  (lv_sub hl [1, 0, 2, 3, 4] rfl)
  exact L5_u_1 _ 0 0  ls (Nat.lt_succ_self _) (by first | omega | assumption) (rfl)  (lv_sub hl [1, 0, 2, 3, 4] rfl)
set_option maxHeartbeats 4000000 in
set_option maxRecDepth 100000 in
theorem mc_isDisliked {l : Launch} {D : va_G} {cI cZ : ClassId} {h : Nat} {q : Nat → Nat} {n cm : Nat} {th : Int32} {lm : Nat} {a : Nat → Nat → Int32} {kn : Nat → Bool} {H : Heap} (hP : va_P D vwCl (mW h q cI cZ n cm th lm a kn) H) (v : Nat) (r : Nat) (day : Int32) (hv : v ≤ 5) (hn : n ≤ 240) (hr6 : r < 6) : ro_Met l yX4_isDisliked wsX4_isDisliked 2 48 D (mT cI cZ) H [.ref h, .int (nI v), .int (nI r), .int day] (bI (dislikedB a kn n v r day)) := by
  refine ro_start rfl (by decide +kernel) (Nat.le_of_ble_eq_true rfl) (fun p e s m below meth c F hr hlocks hK ls hl => ?_)
  have hl : lv_has ls 8 [(0, .ref h), (1, .int (nI v)), (2, .int (nI r)), (3, .int day)] := hl
  have hx := F.1
  have hb := F.2.1
  have hin : ∀ w ∈ wsX40, w ∈ wsX4_isDisliked := fun _ z => List.mem_cons_of_mem _ (List.mem_append_right _ z)
  refine lv_iconst (v := 0) hx hb dX4_isDisliked_0 (by decide) ?_
  refine lv_istore (lv' := [(4, .int 0), (0, .ref h), (1, .int (nI v)), (2, .int (nI r)), (3, .int day)]) hx hb dX4_isDisliked_1 hl (by decide) rfl (fun ls hl => ?_)
  refine lv_iconst (v := 0) hx hb dX4_isDisliked_3 (by decide) ?_
  refine lv_istore (lv' := [(5, .int 0), (4, .int 0), (0, .ref h), (1, .int (nI v)), (2, .int (nI r)), (3, .int day)]) hx hb dX4_isDisliked_4 hl (by decide) rfl (fun ls hl => ?_)
  have L6_u_1 : ∀ (k9u_1 : Nat) (i : Nat) (b : Bool) (ls : Array Slot), 8 - i < k9u_1 → i ≤ 8 → b = foldU (dgStep a kn n v r day) false i → lv_has ls 8 [(4, .int (bI b)), (5, .int (nI i)), (0, .ref h), (1, .int (nI v)), (2, .int (nI r)), (3, .int day)] → roW p l e 2 48 s m [.ref h, .int (nI v), .int (nI r), .int day] below meth c H (bI (dislikedB a kn n v r day)) (F0 m 6 ls []) := by
    intro k9u_1
    induction k9u_1 with
    | zero => intro i b ls hk; exact absurd hk (Nat.not_lt_zero _)
    | succ k9u_1 ihu_1 =>
      intro i b ls hk hi hf  hl
      refine lv_iload hx hb dX4_isDisliked_6 (lv_at hl 1 rfl) ?_
      refine lv_bipush (v := 8) hx hb dX4_isDisliked_8 (by decide) ?_
      refine lw_ge (tgt := 94) hx hb i 8 (by omega) (by omega) dX4_isDisliked_10 (by decide) (fun c_2 => ?_) (fun c_2 => ?_)
      · skip
        refine lv_iload hx hb dX4_isDisliked_94 (lv_at hl 0 rfl) ?_
        exact ro_retz F hr hlocks (by rw [hf, show i = 8 by omega]; rfl) dX4_isDisliked_96
      · skip
        refine lv_aload_n hx hb dX4_isDisliked_13 rfl (lv_at hl 2 rfl) ?_
        refine lv_iload_n hx hb dX4_isDisliked_14 rfl (lv_at hl 3 rfl) ?_
        refine lv_iload hx hb dX4_isDisliked_15 (lv_at hl 1 rfl) ?_
        refine lv_iload_n hx hb dX4_isDisliked_17 rfl (lv_at hl 5 rfl) ?_
        refine ro_callV F hK [.int (nI v), .int (nI i), .int day] (mc_coming hP v (nI i) day (by first | assumption | omega) (by first | assumption | omega)) (cwV 3 F.2.2.2.2 gX4_isDisliked_X4_coming rfl rfl rfl (by decide +kernel) ⟨Nat.le_of_ble_eq_true rfl, Nat.le_of_ble_eq_true rfl⟩) (mg_rc hK hP) rfl hl.1 rfl (lv_room (Nat.le_of_ble_eq_true rfl)) ⟨Nat.zero_le _, Nat.zero_le _⟩ dX4_isDisliked_18 ?_
        refine lv_istore (lv' := [(6, .int (comingB a kn n v (nI i) day)), (4, .int (bI b)), (5, .int (nI i)), (0, .ref h), (1, .int (nI v)), (2, .int (nI r)), (3, .int day)]) hx hb dX4_isDisliked_21 hl (by decide) rfl (fun ls hl => ?_)
        refine lv_iconst (v := 0) hx hb dX4_isDisliked_23 (by decide) ?_
        refine lv_istore (lv' := [(7, .int 0), (6, .int (comingB a kn n v (nI i) day)), (4, .int (bI b)), (5, .int (nI i)), (0, .ref h), (1, .int (nI v)), (2, .int (nI r)), (3, .int day)]) hx hb dX4_isDisliked_24 hl (by decide) rfl (fun ls hl => ?_)
        have L26_u_3 : ∀ (k9u_3 : Nat) (k : Nat) (b2 : Bool) (ls : Array Slot), 8 - k < k9u_3 → k ≤ 8 → (comingB a kn n v (nI i) day = -1 → b2 = b) → (¬ comingB a kn n v (nI i) day = -1 → b2 = foldU (diStep a r (jn (comingB a kn n v (nI i) day))) b k) → lv_has ls 8 [(4, .int (bI b2)), (7, .int (nI k)), (6, .int (comingB a kn n v (nI i) day)), (5, .int (nI i)), (0, .ref h), (1, .int (nI v)), (2, .int (nI r)), (3, .int day)] → roW p l e 2 48 s m [.ref h, .int (nI v), .int (nI r), .int day] below meth c H (bI (dislikedB a kn n v r day)) (F0 m 26 ls []) := by
          intro k9u_3
          induction k9u_3 with
          | zero => intro k b2 ls hk; exact absurd hk (Nat.not_lt_zero _)
          | succ k9u_3 ihu_3 =>
            intro k b2 ls hk hk8 hg1 hg2  hl
            refine lv_iload hx hb dX4_isDisliked_26 (lv_at hl 1 rfl) ?_
            refine lv_bipush (v := 8) hx hb dX4_isDisliked_28 (by decide) ?_
            refine lw_ge (tgt := 88) hx hb k 8 (by omega) (by omega) dX4_isDisliked_30 (by decide) (fun c_4 => ?_) (fun c_4 => ?_)
            · skip
              refine lv_iinc (v := nI (i + 1)) (lv' := [(5, .int (nI (i + 1))), (4, .int (bI b2)), (7, .int (nI k)), (6, .int (comingB a kn n v (nI i) day)), (0, .ref h), (1, .int (nI v)), (2, .int (nI r)), (3, .int day)]) hx hb dX4_isDisliked_88 hl (k := 3) rfl (show nI i + Int32.ofInt 1 = _ from nI_add i 1) (by decide) rfl (fun ls hl => ?_)
              refine lv_goto (tgt := 6) hx hb dX4_isDisliked_91 (by decide) ?_
              exact ihu_1  (i + 1) b2  ls (by omega) (by first | omega | assumption) (by rw [foldU_s, ← hf]; unfold dgStep; split <;> rename_i z; exact hg1 z; first | (rw [hg2 z, show k = 8 by omega]) | (exact absurd (by assumption) z))  (lv_sub hl [1, 0, 4, 5, 6, 7] rfl)
            · skip
              refine lv_iload hx hb dX4_isDisliked_33 (lv_at hl 2 rfl) ?_
              refine lv_iconst (v := (-1)) hx hb dX4_isDisliked_35 (by decide) ?_
              refine lv_icmp_eq (tgt := 88) hx hb dX4_isDisliked_36 (by decide) (fun c_5 => ?_) (fun c_5 => ?_)
              · skip
                refine lv_iinc (v := nI (i + 1)) (lv' := [(5, .int (nI (i + 1))), (4, .int (bI b2)), (7, .int (nI k)), (6, .int (comingB a kn n v (nI i) day)), (0, .ref h), (1, .int (nI v)), (2, .int (nI r)), (3, .int day)]) hx hb dX4_isDisliked_88 hl (k := 3) rfl (show nI i + Int32.ofInt 1 = _ from nI_add i 1) (by decide) rfl (fun ls hl => ?_)
                refine lv_goto (tgt := 6) hx hb dX4_isDisliked_91 (by decide) ?_
                exact ihu_1  (i + 1) b2  ls (by omega) (by first | omega | assumption) (by rw [foldU_s, ← hf]; unfold dgStep; split <;> rename_i z; exact hg1 z; first | (rw [hg2 z, show k = 8 by omega]) | (exact absurd (by assumption) z))  (lv_sub hl [1, 0, 4, 5, 6, 7] rfl)
              · skip
                obtain ⟨j_6, hj_6, ej_6⟩ := (show comingB a kn n v (nI i) day = -1 ∨ ∃ j, j < n ∧ comingB a kn n v (nI i) day = nI j from comingB_range a kn n v (nI i) day).resolve_left (by first | assumption | exact c_5)
                have nj_6 : jn (comingB a kn n v (nI i) day) = j_6 := by rw [ej_6]; exact jn_nI (by omega)
                refine lv_iload hx hb dX4_isDisliked_39 (lv_at hl 0 rfl) ?_
                refine lw_bne (tgt := 75) hx hb dX4_isDisliked_41 (by decide) (fun c_7 => ?_) (fun c_7 => ?_)
                · skip
                  refine lv_iconst (v := 1) hx hb dX4_isDisliked_75 (by decide) ?_
                  refine lv_goto (tgt := 80) hx hb dX4_isDisliked_76 (by decide) ?_
                  refine lv_istore (lv' := [(4, .int 1), (7, .int (nI k)), (6, .int (comingB a kn n v (nI i) day)), (5, .int (nI i)), (0, .ref h), (1, .int (nI v)), (2, .int (nI r)), (3, .int day)]) hx hb dX4_isDisliked_80 hl (by decide) rfl (fun ls hl => ?_)
                  refine lv_iinc (v := nI (k + 1)) (lv' := [(7, .int (nI (k + 1))), (4, .int 1), (6, .int (comingB a kn n v (nI i) day)), (5, .int (nI i)), (0, .ref h), (1, .int (nI v)), (2, .int (nI r)), (3, .int day)]) hx hb dX4_isDisliked_82 hl (k := 1) rfl (show nI k + Int32.ofInt 1 = _ from nI_add k 1) (by decide) rfl (fun ls hl => ?_)
                  refine lv_goto (tgt := 26) hx hb dX4_isDisliked_85 (by decide) ?_
                  exact ihu_3  (k + 1) true  ls (by omega) (by first | omega | assumption) (fun z => absurd z c_5) (fun z => by rw [foldU_s, ← hg2 z]; simp [diStep, c_2, c_4, c_5, nj_6, c_7])  (lv_sub hl [1, 0, 2, 3, 4, 5, 6, 7] rfl)
                · skip
                  refine lv_aload_n hx hb dX4_isDisliked_44 rfl (lv_at hl 4 rfl) ?_
                  refine mg_get F hK hin hP 11 (by decide) (by decide +kernel) rfl dX4_isDisliked_45 ?_
                  refine lv_bipush (v := 8) hx hb dX4_isDisliked_48 (by decide) ?_
                  refine lv_iload_n hx hb dX4_isDisliked_50 rfl (lv_at hl 6 rfl) ?_
                  refine lw_mul hx hb (i := 8) (j := r) dX4_isDisliked_51 ?_
                  refine lv_iload hx hb dX4_isDisliked_52 (lv_at hl 1 rfl) ?_
                  refine lw_add hx hb (i := (8 * r)) (j := k) dX4_isDisliked_54 ?_
                  refine mg_ald F hK hP 11 11 48 rfl ((8 * r) + k) rfl (by omega) (by decide) dX4_isDisliked_55 ?_
                  refine lv_if_le (tgt := 79) hx hb dX4_isDisliked_56 (by decide) (fun c_8 => ?_) (fun c_8 => ?_)
                  · skip
                    refine lv_iconst (v := 0) hx hb dX4_isDisliked_79 (by decide) ?_
                    refine lv_istore (lv' := [(4, .int 0), (7, .int (nI k)), (6, .int (comingB a kn n v (nI i) day)), (5, .int (nI i)), (0, .ref h), (1, .int (nI v)), (2, .int (nI r)), (3, .int day)]) hx hb dX4_isDisliked_80 hl (by decide) rfl (fun ls hl => ?_)
                    refine lv_iinc (v := nI (k + 1)) (lv' := [(7, .int (nI (k + 1))), (4, .int 0), (6, .int (comingB a kn n v (nI i) day)), (5, .int (nI i)), (0, .ref h), (1, .int (nI v)), (2, .int (nI r)), (3, .int day)]) hx hb dX4_isDisliked_82 hl (k := 1) rfl (show nI k + Int32.ofInt 1 = _ from nI_add k 1) (by decide) rfl (fun ls hl => ?_)
                    refine lv_goto (tgt := 26) hx hb dX4_isDisliked_85 (by decide) ?_
                    exact ihu_3  (k + 1) false  ls (by omega) (by first | omega | assumption) (fun z => absurd z c_5) (fun z => by rw [foldU_s, ← hg2 z]; simp [diStep, c_2, c_4, c_5, nj_6, c_7, c_8])  (lv_sub hl [1, 0, 2, 3, 4, 5, 6, 7] rfl)
                  · skip
                    refine lv_aload_n hx hb dX4_isDisliked_59 rfl (lv_at hl 4 rfl) ?_
                    refine mg_get F hK hin hP 8 (by decide) (by decide +kernel) rfl dX4_isDisliked_60 ?_
                    refine lv_iload hx hb dX4_isDisliked_63 (lv_at hl 2 rfl) ?_
                    refine mg_ald F hK hP 8 8 240 rfl j_6 ej_6 (by omega) (by decide) dX4_isDisliked_65 ?_
                    refine lv_iload hx hb dX4_isDisliked_66 (lv_at hl 1 rfl) ?_
                    refine lv_ishr hx hb dX4_isDisliked_68 ?_
                    refine lv_iconst (v := 1) hx hb dX4_isDisliked_69 (by decide) ?_
                    refine lv_iand hx hb dX4_isDisliked_70 ?_
                    refine lv_iconst (v := 1) hx hb dX4_isDisliked_71 (by decide) ?_
                    refine lv_icmp_ne (tgt := 79) hx hb dX4_isDisliked_72 (by decide) (fun c_9 => ?_) (fun c_9 => ?_)
                    · skip
                      refine lv_iconst (v := 0) hx hb dX4_isDisliked_79 (by decide) ?_
                      refine lv_istore (lv' := [(4, .int 0), (7, .int (nI k)), (6, .int (comingB a kn n v (nI i) day)), (5, .int (nI i)), (0, .ref h), (1, .int (nI v)), (2, .int (nI r)), (3, .int day)]) hx hb dX4_isDisliked_80 hl (by decide) rfl (fun ls hl => ?_)
                      refine lv_iinc (v := nI (k + 1)) (lv' := [(7, .int (nI (k + 1))), (4, .int 0), (6, .int (comingB a kn n v (nI i) day)), (5, .int (nI i)), (0, .ref h), (1, .int (nI v)), (2, .int (nI r)), (3, .int day)]) hx hb dX4_isDisliked_82 hl (k := 1) rfl (show nI k + Int32.ofInt 1 = _ from nI_add k 1) (by decide) rfl (fun ls hl => ?_)
                      refine lv_goto (tgt := 26) hx hb dX4_isDisliked_85 (by decide) ?_
                      exact ihu_3  (k + 1) false  ls (by omega) (by first | omega | assumption) (fun z => absurd z c_5) (fun z => by rw [foldU_s, ← hg2 z]; simp [diStep, c_2, c_4, c_5, nj_6, c_7, c_8, c_9])  (lv_sub hl [1, 0, 2, 3, 4, 5, 6, 7] rfl)
                    · skip
                      refine lv_iconst (v := 1) hx hb dX4_isDisliked_75 (by decide) ?_
                      refine lv_goto (tgt := 80) hx hb dX4_isDisliked_76 (by decide) ?_
                      refine lv_istore (lv' := [(4, .int 1), (7, .int (nI k)), (6, .int (comingB a kn n v (nI i) day)), (5, .int (nI i)), (0, .ref h), (1, .int (nI v)), (2, .int (nI r)), (3, .int day)]) hx hb dX4_isDisliked_80 hl (by decide) rfl (fun ls hl => ?_)
                      refine lv_iinc (v := nI (k + 1)) (lv' := [(7, .int (nI (k + 1))), (4, .int 1), (6, .int (comingB a kn n v (nI i) day)), (5, .int (nI i)), (0, .ref h), (1, .int (nI v)), (2, .int (nI r)), (3, .int day)]) hx hb dX4_isDisliked_82 hl (k := 1) rfl (show nI k + Int32.ofInt 1 = _ from nI_add k 1) (by decide) rfl (fun ls hl => ?_)
                      refine lv_goto (tgt := 26) hx hb dX4_isDisliked_85 (by decide) ?_
                      exact ihu_3  (k + 1) true  ls (by omega) (by first | omega | assumption) (fun z => absurd z c_5) (fun z => by rw [foldU_s, ← hg2 z]; simp [diStep, c_2, c_4, c_5, nj_6, c_7, c_8, c_9])  (lv_sub hl [1, 0, 2, 3, 4, 5, 6, 7] rfl)
        exact L26_u_3 _ 0 b  ls (Nat.lt_succ_self _) (by first | omega | assumption) (fun _ => rfl) (fun _ => rfl)  (lv_sub hl [2, 0, 1, 3, 4, 5, 6, 7] rfl)
  exact L6_u_1 _ 0 false  ls (Nat.lt_succ_self _) (by first | omega | assumption) (rfl)  (lv_sub hl [1, 0, 2, 3, 4, 5] rfl)
set_option maxHeartbeats 4000000 in
set_option maxRecDepth 100000 in
theorem mc_stateOf {l : Launch} {D : va_G} {cI cZ : ClassId} {h : Nat} {q : Nat → Nat} {n cm : Nat} {th : Int32} {lm : Nat} {a : Nat → Nat → Int32} {kn : Nat → Bool} {H : Heap} (hP : va_P D vwCl (mW h q cI cZ n cm th lm a kn) H) (v : Nat) (k : Nat) (hv : v ≤ 5) (I : mI n cm a) (hk : k < cm) : ro_Met l yX4_stateOf wsX4_stateOf 1 22 D (mT cI cZ) H [.ref h, .int (nI v), .int (nI k)] (stateB a kn n v k) := by
  refine ro_start rfl (by decide +kernel) (Nat.le_of_ble_eq_true rfl) (fun p e s m below meth c F hr hlocks hK ls hl => ?_)
  have hl : lv_has ls 6 [(0, .ref h), (1, .int (nI v)), (2, .int (nI k))] := hl
  have hx := F.1
  have hb := F.2.1
  have hin : ∀ w ∈ wsX40, w ∈ wsX4_stateOf := fun _ z => List.mem_cons_of_mem _ (List.mem_append_right _ z)
  have hn := I.1
  have hcm := I.2.1
  refine lv_aload_n hx hb dX4_stateOf_0 rfl (lv_at hl 0 rfl) ?_
  refine lv_iload_n hx hb dX4_stateOf_1 rfl (lv_at hl 1 rfl) ?_
  refine lv_aload_n hx hb dX4_stateOf_2 rfl (lv_at hl 0 rfl) ?_
  refine mg_get F hK hin hP 15 (by decide) (by decide +kernel) rfl dX4_stateOf_3 ?_
  refine lv_iload_n hx hb dX4_stateOf_6 rfl (lv_at hl 2 rfl) ?_
  refine mg_ald F hK hP 15 14 20 rfl k rfl (by omega) (by decide) dX4_stateOf_7 ?_
  obtain ⟨j_1, hj_1, ej_1⟩ := I.2.2.1 k hk
  refine lw_N j_1 ej_1 ?_
  have nj_1 : jn (a 15 k) = j_1 := by rw [ej_1]; exact jn_nI (by have := I.1; have := I.2.1; omega)
  refine ro_callV F hK [.int (nI v), .int (nI j_1)] (mc_knows hP v j_1 (by first | assumption | omega) (by omega)) (cwV 2 F.2.2.2.2 gX4_stateOf_X4_knows rfl rfl rfl (by decide +kernel) ⟨Nat.le_of_ble_eq_true rfl, Nat.le_of_ble_eq_true rfl⟩) (mg_rc hK hP) rfl hl.1 rfl (lv_room (Nat.le_of_ble_eq_true rfl)) ⟨Nat.zero_le _, Nat.zero_le _⟩ dX4_stateOf_8 ?_
  refine lw_bne (tgt := 16) hx hb dX4_stateOf_11 (by decide) (fun c_2 => ?_) (fun c_2 => ?_)
  · skip
    refine lv_iconst (v := 1) hx hb dX4_stateOf_16 (by decide) ?_
    refine lv_istore_n (lv' := [(3, .int 1), (0, .ref h), (1, .int (nI v)), (2, .int (nI k))]) hx hb dX4_stateOf_17 rfl hl (by decide) rfl (fun ls hl => ?_)
    refine lv_iconst (v := 0) hx hb dX4_stateOf_18 (by decide) ?_
    refine lv_istore (lv' := [(4, .int 0), (3, .int 1), (0, .ref h), (1, .int (nI v)), (2, .int (nI k))]) hx hb dX4_stateOf_19 hl (by decide) rfl (fun ls hl => ?_)
    have L21_u_3 : ∀ (k9u_3 : Nat) (i : Nat) (f : Int32) (ls : Array Slot), n - i < k9u_3 → i ≤ n → f = foldU (stStep a kn v k) 1 i → lv_has ls 6 [(3, .int f), (4, .int (nI i)), (0, .ref h), (1, .int (nI v)), (2, .int (nI k))] → roW p l e 1 22 s m [.ref h, .int (nI v), .int (nI k)] below meth c H (stateB a kn n v k) (F0 m 21 ls []) := by
      intro k9u_3
      induction k9u_3 with
      | zero => intro i f ls hk; exact absurd hk (Nat.not_lt_zero _)
      | succ k9u_3 ihu_3 =>
        intro i f ls hk hi hf  hl
        refine lv_iload hx hb dX4_stateOf_21 (lv_at hl 1 rfl) ?_
        refine lv_aload_n hx hb dX4_stateOf_23 rfl (lv_at hl 2 rfl) ?_
        refine mg_get F hK hin hP 0 (by decide) (by decide +kernel) rfl dX4_stateOf_24 ?_
        refine lw_ge (tgt := 112) hx hb i n (by omega) (by omega) dX4_stateOf_27 (by decide) (fun c_4 => ?_) (fun c_4 => ?_)
        · skip
          refine lv_iload_n hx hb dX4_stateOf_112 rfl (lv_at hl 0 rfl) ?_
          exact ro_reti F hr hlocks (by rw [hf, show i = n by omega]; simp [stateB, nj_1, c_2, c_4]) dX4_stateOf_113
        · skip
          refine lv_aload_n hx hb dX4_stateOf_30 rfl (lv_at hl 2 rfl) ?_
          refine lv_iload_n hx hb dX4_stateOf_31 rfl (lv_at hl 3 rfl) ?_
          refine lv_iload hx hb dX4_stateOf_32 (lv_at hl 1 rfl) ?_
          refine ro_callV F hK [.int (nI v), .int (nI i)] (mc_knows hP v i (by first | assumption | omega) (by omega)) (cwV 2 F.2.2.2.2 gX4_stateOf_X4_knows rfl rfl rfl (by decide +kernel) ⟨Nat.le_of_ble_eq_true rfl, Nat.le_of_ble_eq_true rfl⟩) (mg_rc hK hP) rfl hl.1 rfl (lv_room (Nat.le_of_ble_eq_true rfl)) ⟨Nat.zero_le _, Nat.zero_le _⟩ dX4_stateOf_34 ?_
          refine lw_beq (tgt := 55) hx hb dX4_stateOf_37 (by decide) (fun c_5 => ?_) (fun c_5 => ?_)
          · skip
            refine lv_iconst (v := 0) hx hb dX4_stateOf_55 (by decide) ?_
            refine lv_istore (lv' := [(5, .int 0), (3, .int f), (4, .int (nI i)), (0, .ref h), (1, .int (nI v)), (2, .int (nI k))]) hx hb dX4_stateOf_56 hl (by decide) rfl (fun ls hl => ?_)
            refine lv_iload hx hb dX4_stateOf_58 (lv_at hl 0 rfl) ?_
            refine lv_if_eq (tgt := 79) hx hb dX4_stateOf_60 (by decide) (fun _ => ?_) (fun z9 => absurd (by decide) z9)
            refine lv_iload hx hb dX4_stateOf_79 (lv_at hl 0 rfl) ?_
            refine lv_if_eq (tgt := 104) hx hb dX4_stateOf_81 (by decide) (fun _ => ?_) (fun z9 => absurd (by decide) z9)
            refine lv_iload_n hx hb dX4_stateOf_104 rfl (lv_at hl 1 rfl) ?_
            refine lv_istore_n (lv' := [(3, .int f), (5, .int 0), (4, .int (nI i)), (0, .ref h), (1, .int (nI v)), (2, .int (nI k))]) hx hb dX4_stateOf_105 rfl hl (by decide) rfl (fun ls hl => ?_)
            refine lv_iinc (v := nI (i + 1)) (lv' := [(4, .int (nI (i + 1))), (3, .int f), (5, .int 0), (0, .ref h), (1, .int (nI v)), (2, .int (nI k))]) hx hb dX4_stateOf_106 hl (k := 2) rfl (show nI i + Int32.ofInt 1 = _ from nI_add i 1) (by decide) rfl (fun ls hl => ?_)
            refine lv_goto (tgt := 21) hx hb dX4_stateOf_109 (by decide) ?_
            exact ihu_3  (i + 1) f  ls (by omega) (by first | omega | assumption) (by rw [foldU_s, ← hf]; simp [stStep, nj_1, c_2, c_4, c_5])  (lv_sub hl [1, 0, 3, 4, 5] rfl)
          · skip
            refine lv_aload_n hx hb dX4_stateOf_40 rfl (lv_at hl 2 rfl) ?_
            refine mg_get F hK hin hP 4 (by decide) (by decide +kernel) rfl dX4_stateOf_41 ?_
            refine lv_iload hx hb dX4_stateOf_44 (lv_at hl 1 rfl) ?_
            refine mg_ald F hK hP 4 4 240 rfl i rfl (by omega) (by decide) dX4_stateOf_46 ?_
            refine lv_iload_n hx hb dX4_stateOf_47 rfl (lv_at hl 4 rfl) ?_
            refine lv_icmp_ne (tgt := 55) hx hb dX4_stateOf_48 (by decide) (fun c_6 => ?_) (fun c_6 => ?_)
            · skip
              refine lv_iconst (v := 0) hx hb dX4_stateOf_55 (by decide) ?_
              refine lv_istore (lv' := [(5, .int 0), (3, .int f), (4, .int (nI i)), (0, .ref h), (1, .int (nI v)), (2, .int (nI k))]) hx hb dX4_stateOf_56 hl (by decide) rfl (fun ls hl => ?_)
              refine lv_iload hx hb dX4_stateOf_58 (lv_at hl 0 rfl) ?_
              refine lv_if_eq (tgt := 79) hx hb dX4_stateOf_60 (by decide) (fun _ => ?_) (fun z9 => absurd (by decide) z9)
              refine lv_iload hx hb dX4_stateOf_79 (lv_at hl 0 rfl) ?_
              refine lv_if_eq (tgt := 104) hx hb dX4_stateOf_81 (by decide) (fun _ => ?_) (fun z9 => absurd (by decide) z9)
              refine lv_iload_n hx hb dX4_stateOf_104 rfl (lv_at hl 1 rfl) ?_
              refine lv_istore_n (lv' := [(3, .int f), (5, .int 0), (4, .int (nI i)), (0, .ref h), (1, .int (nI v)), (2, .int (nI k))]) hx hb dX4_stateOf_105 rfl hl (by decide) rfl (fun ls hl => ?_)
              refine lv_iinc (v := nI (i + 1)) (lv' := [(4, .int (nI (i + 1))), (3, .int f), (5, .int 0), (0, .ref h), (1, .int (nI v)), (2, .int (nI k))]) hx hb dX4_stateOf_106 hl (k := 2) rfl (show nI i + Int32.ofInt 1 = _ from nI_add i 1) (by decide) rfl (fun ls hl => ?_)
              refine lv_goto (tgt := 21) hx hb dX4_stateOf_109 (by decide) ?_
              exact ihu_3  (i + 1) f  ls (by omega) (by first | omega | assumption) (by rw [foldU_s, ← hf]; simp [stStep, nj_1, c_2, c_4, c_5, c_6])  (lv_sub hl [1, 0, 3, 4, 5] rfl)
            · skip
              refine lv_iconst (v := 1) hx hb dX4_stateOf_51 (by decide) ?_
              refine lv_goto (tgt := 56) hx hb dX4_stateOf_52 (by decide) ?_
              refine lv_istore (lv' := [(5, .int 1), (3, .int f), (4, .int (nI i)), (0, .ref h), (1, .int (nI v)), (2, .int (nI k))]) hx hb dX4_stateOf_56 hl (by decide) rfl (fun ls hl => ?_)
              refine lv_iload hx hb dX4_stateOf_58 (lv_at hl 0 rfl) ?_
              refine lv_if_eq (tgt := 79) hx hb dX4_stateOf_60 (by decide) (fun z9 => absurd z9 (by decide)) (fun _ => ?_)
              refine lv_aload_n hx hb dX4_stateOf_63 rfl (lv_at hl 3 rfl) ?_
              refine mg_get F hK hin hP 1 (by decide) (by decide +kernel) rfl dX4_stateOf_64 ?_
              refine lv_iload hx hb dX4_stateOf_67 (lv_at hl 2 rfl) ?_
              refine mg_ald F hK hP 1 1 240 rfl i rfl (by omega) (by decide) dX4_stateOf_69 ?_
              refine lv_bipush (v := 6) hx hb dX4_stateOf_70 (by decide) ?_
              refine lv_icmp_ne (tgt := 79) hx hb dX4_stateOf_72 (by decide) (fun c_7 => ?_) (fun c_7 => ?_)
              · skip
                refine lv_iload hx hb dX4_stateOf_79 (lv_at hl 0 rfl) ?_
                refine lv_if_eq (tgt := 104) hx hb dX4_stateOf_81 (by decide) (fun z9 => absurd z9 (by decide)) (fun _ => ?_)
                refine lv_aload_n hx hb dX4_stateOf_84 rfl (lv_at hl 3 rfl) ?_
                refine mg_get F hK hin hP 1 (by decide) (by decide +kernel) rfl dX4_stateOf_85 ?_
                refine lv_iload hx hb dX4_stateOf_88 (lv_at hl 2 rfl) ?_
                refine mg_ald F hK hP 1 1 240 rfl i rfl (by omega) (by decide) dX4_stateOf_90 ?_
                refine lv_iconst (v := 5) hx hb dX4_stateOf_91 (by decide) ?_
                refine lv_icmp_ne (tgt := 104) hx hb dX4_stateOf_92 (by decide) (fun c_8 => ?_) (fun c_8 => ?_)
                · skip
                  refine lv_iload_n hx hb dX4_stateOf_104 rfl (lv_at hl 1 rfl) ?_
                  refine lv_istore_n (lv' := [(3, .int f), (5, .int 1), (4, .int (nI i)), (0, .ref h), (1, .int (nI v)), (2, .int (nI k))]) hx hb dX4_stateOf_105 rfl hl (by decide) rfl (fun ls hl => ?_)
                  refine lv_iinc (v := nI (i + 1)) (lv' := [(4, .int (nI (i + 1))), (3, .int f), (5, .int 1), (0, .ref h), (1, .int (nI v)), (2, .int (nI k))]) hx hb dX4_stateOf_106 hl (k := 2) rfl (show nI i + Int32.ofInt 1 = _ from nI_add i 1) (by decide) rfl (fun ls hl => ?_)
                  refine lv_goto (tgt := 21) hx hb dX4_stateOf_109 (by decide) ?_
                  exact ihu_3  (i + 1) f  ls (by omega) (by first | omega | assumption) (by rw [foldU_s, ← hf]; simp [stStep, nj_1, c_2, c_4, c_5, c_6, c_7, c_8])  (lv_sub hl [1, 0, 3, 4, 5] rfl)
                · skip
                  refine lv_iload_n hx hb dX4_stateOf_95 rfl (lv_at hl 1 rfl) ?_
                  refine lv_iconst (v := 1) hx hb dX4_stateOf_96 (by decide) ?_
                  refine lv_icmp_ne (tgt := 104) hx hb dX4_stateOf_97 (by decide) (fun c_9 => ?_) (fun c_9 => ?_)
                  · skip
                    refine lv_iload_n hx hb dX4_stateOf_104 rfl (lv_at hl 1 rfl) ?_
                    refine lv_istore_n (lv' := [(3, .int f), (5, .int 1), (4, .int (nI i)), (0, .ref h), (1, .int (nI v)), (2, .int (nI k))]) hx hb dX4_stateOf_105 rfl hl (by decide) rfl (fun ls hl => ?_)
                    refine lv_iinc (v := nI (i + 1)) (lv' := [(4, .int (nI (i + 1))), (3, .int f), (5, .int 1), (0, .ref h), (1, .int (nI v)), (2, .int (nI k))]) hx hb dX4_stateOf_106 hl (k := 2) rfl (show nI i + Int32.ofInt 1 = _ from nI_add i 1) (by decide) rfl (fun ls hl => ?_)
                    refine lv_goto (tgt := 21) hx hb dX4_stateOf_109 (by decide) ?_
                    exact ihu_3  (i + 1) f  ls (by omega) (by first | omega | assumption) (by rw [foldU_s, ← hf]; simp [stStep, nj_1, c_2, c_4, c_5, c_6, c_7, c_8, c_9])  (lv_sub hl [1, 0, 3, 4, 5] rfl)
                  · skip
                    refine lv_iconst (v := 2) hx hb dX4_stateOf_100 (by decide) ?_
                    refine lv_goto (tgt := 105) hx hb dX4_stateOf_101 (by decide) ?_
                    refine lv_istore_n (lv' := [(3, .int 2), (5, .int 1), (4, .int (nI i)), (0, .ref h), (1, .int (nI v)), (2, .int (nI k))]) hx hb dX4_stateOf_105 rfl hl (by decide) rfl (fun ls hl => ?_)
                    refine lv_iinc (v := nI (i + 1)) (lv' := [(4, .int (nI (i + 1))), (3, .int 2), (5, .int 1), (0, .ref h), (1, .int (nI v)), (2, .int (nI k))]) hx hb dX4_stateOf_106 hl (k := 2) rfl (show nI i + Int32.ofInt 1 = _ from nI_add i 1) (by decide) rfl (fun ls hl => ?_)
                    refine lv_goto (tgt := 21) hx hb dX4_stateOf_109 (by decide) ?_
                    exact ihu_3  (i + 1) 2  ls (by omega) (by first | omega | assumption) (by rw [foldU_s, ← hf]; simp [stStep, nj_1, c_2, c_4, c_5, c_6, c_7, c_8, c_9])  (lv_sub hl [1, 0, 3, 4, 5] rfl)
              · skip
                refine lv_iconst (v := 3) hx hb dX4_stateOf_75 (by decide) ?_
                refine lv_goto (tgt := 105) hx hb dX4_stateOf_76 (by decide) ?_
                refine lv_istore_n (lv' := [(3, .int 3), (5, .int 1), (4, .int (nI i)), (0, .ref h), (1, .int (nI v)), (2, .int (nI k))]) hx hb dX4_stateOf_105 rfl hl (by decide) rfl (fun ls hl => ?_)
                refine lv_iinc (v := nI (i + 1)) (lv' := [(4, .int (nI (i + 1))), (3, .int 3), (5, .int 1), (0, .ref h), (1, .int (nI v)), (2, .int (nI k))]) hx hb dX4_stateOf_106 hl (k := 2) rfl (show nI i + Int32.ofInt 1 = _ from nI_add i 1) (by decide) rfl (fun ls hl => ?_)
                refine lv_goto (tgt := 21) hx hb dX4_stateOf_109 (by decide) ?_
                exact ihu_3  (i + 1) 3  ls (by omega) (by first | omega | assumption) (by rw [foldU_s, ← hf]; simp [stStep, nj_1, c_2, c_4, c_5, c_6, c_7])  (lv_sub hl [1, 0, 3, 4, 5] rfl)
    exact L21_u_3 _ 0 1  ls (Nat.lt_succ_self _) (by first | omega | assumption) (rfl)  (lv_sub hl [1, 0, 2, 3, 4] rfl)
  · skip
    refine lv_iconst (v := 0) hx hb dX4_stateOf_14 (by decide) ?_
    exact ro_reti F hr hlocks (by simp [stateB, nj_1, c_2]) dX4_stateOf_15
set_option maxHeartbeats 4000000 in
set_option maxRecDepth 100000 in
theorem mc_isAhead {l : Launch} {D : va_G} {cI cZ : ClassId} {h : Nat} {q : Nat → Nat} {n cm : Nat} {th : Int32} {lm : Nat} {a : Nat → Nat → Int32} {kn : Nat → Bool} {H : Heap} (hP : va_P D vwCl (mW h q cI cZ n cm th lm a kn) H) (v : Nat) (k : Nat) (o : Nat) (hv : v ≤ 5) (I : mI n cm a) (hk : k < cm) (ho : o < cm) : ro_Met l yX4_isAhead wsX4_isAhead 3 72 D (mT cI cZ) H [.ref h, .int (nI v), .int (nI k), .int (nI o)] (bI (aheadB a kn n v k o)) := by
  refine ro_start rfl (by decide +kernel) (Nat.le_of_ble_eq_true rfl) (fun p e s m below meth c F hr hlocks hK ls hl => ?_)
  have hl : lv_has ls 5 [(0, .ref h), (1, .int (nI v)), (2, .int (nI k)), (3, .int (nI o))] := hl
  have hx := F.1
  have hb := F.2.1
  have hin : ∀ w ∈ wsX40, w ∈ wsX4_isAhead := fun _ z => List.mem_cons_of_mem _ (List.mem_append_right _ z)
  have hn := I.1
  have hcm := I.2.1
  refine lv_aload_n hx hb dX4_isAhead_0 rfl (lv_at hl 0 rfl) ?_
  refine lv_iload_n hx hb dX4_isAhead_1 rfl (lv_at hl 1 rfl) ?_
  refine lv_aload_n hx hb dX4_isAhead_2 rfl (lv_at hl 0 rfl) ?_
  refine mg_get F hK hin hP 14 (by decide) (by decide +kernel) rfl dX4_isAhead_3 ?_
  refine lv_iload_n hx hb dX4_isAhead_6 rfl (lv_at hl 2 rfl) ?_
  refine mg_ald F hK hP 14 13 20 rfl k rfl (by omega) (by decide) dX4_isAhead_7 ?_
  refine ro_callV F hK [.int (nI v), .int (a 14 k)] (mc_guestMany hP v (a 14 k) (by first | assumption | omega) (by first | assumption | omega)) (cwV 2 F.2.2.2.2 gX4_isAhead_X4_guestMany rfl rfl rfl (by decide +kernel) ⟨Nat.le_of_ble_eq_true rfl, Nat.le_of_ble_eq_true rfl⟩) (mg_rc hK hP) rfl hl.1 rfl (lv_room (Nat.le_of_ble_eq_true rfl)) ⟨Nat.zero_le _, Nat.zero_le _⟩ dX4_isAhead_8 ?_
  refine lv_aload_n hx hb dX4_isAhead_11 rfl (lv_at hl 0 rfl) ?_
  refine lv_iload_n hx hb dX4_isAhead_12 rfl (lv_at hl 1 rfl) ?_
  refine lv_aload_n hx hb dX4_isAhead_13 rfl (lv_at hl 0 rfl) ?_
  refine mg_get F hK hin hP 14 (by decide) (by decide +kernel) rfl dX4_isAhead_14 ?_
  refine lv_iload_n hx hb dX4_isAhead_17 rfl (lv_at hl 3 rfl) ?_
  refine mg_ald F hK hP 14 13 20 rfl o rfl (by omega) (by decide) dX4_isAhead_18 ?_
  refine ro_callV F hK [.int (nI v), .int (a 14 o)] (mc_guestMany hP v (a 14 o) (by first | assumption | omega) (by first | assumption | omega)) (cwV 2 F.2.2.2.2 gX4_isAhead_X4_guestMany rfl rfl rfl (by decide +kernel) ⟨Nat.le_of_ble_eq_true rfl, Nat.le_of_ble_eq_true rfl⟩) (mg_rc hK hP) rfl hl.1 rfl (lv_room (Nat.le_of_ble_eq_true rfl)) ⟨Nat.zero_le _, Nat.zero_le _⟩ dX4_isAhead_19 ?_
  refine lv_isub hx hb dX4_isAhead_22 ?_
  refine lv_istore (lv' := [(4, .int (nI (guestManyB a kn n v (a 14 k)) - nI (guestManyB a kn n v (a 14 o)))), (0, .ref h), (1, .int (nI v)), (2, .int (nI k)), (3, .int (nI o))]) hx hb dX4_isAhead_23 hl (by decide) rfl (fun ls hl => ?_)
  refine lv_iload hx hb dX4_isAhead_25 (lv_at hl 0 rfl) ?_
  refine lv_if_eq (tgt := 41) hx hb dX4_isAhead_27 (by decide) (fun c_1 => ?_) (fun c_1 => ?_)
  · skip
    refine lv_aload_n hx hb dX4_isAhead_41 rfl (lv_at hl 1 rfl) ?_
    refine mg_get F hK hin hP 14 (by decide) (by decide +kernel) rfl dX4_isAhead_42 ?_
    refine lv_iload_n hx hb dX4_isAhead_45 rfl (lv_at hl 3 rfl) ?_
    refine mg_ald F hK hP 14 13 20 rfl k rfl (by omega) (by decide) dX4_isAhead_46 ?_
    refine lv_aload_n hx hb dX4_isAhead_47 rfl (lv_at hl 1 rfl) ?_
    refine mg_get F hK hin hP 14 (by decide) (by decide +kernel) rfl dX4_isAhead_48 ?_
    refine lv_iload_n hx hb dX4_isAhead_51 rfl (lv_at hl 4 rfl) ?_
    refine mg_ald F hK hP 14 13 20 rfl o rfl (by omega) (by decide) dX4_isAhead_52 ?_
    refine lv_icmp_lt (tgt := 90) hx hb dX4_isAhead_53 (by decide) (fun c_2 => ?_) (fun c_2 => ?_)
    · skip
      refine lv_iconst (v := 1) hx hb dX4_isAhead_90 (by decide) ?_
      refine lv_goto (tgt := 95) hx hb dX4_isAhead_91 (by decide) ?_
      exact ro_retz F hr hlocks (by simp [aheadB, bI, c_1, c_2]) dX4_isAhead_95
    · skip
      refine lv_aload_n hx hb dX4_isAhead_56 rfl (lv_at hl 1 rfl) ?_
      refine mg_get F hK hin hP 14 (by decide) (by decide +kernel) rfl dX4_isAhead_57 ?_
      refine lv_iload_n hx hb dX4_isAhead_60 rfl (lv_at hl 3 rfl) ?_
      refine mg_ald F hK hP 14 13 20 rfl k rfl (by omega) (by decide) dX4_isAhead_61 ?_
      refine lv_aload_n hx hb dX4_isAhead_62 rfl (lv_at hl 1 rfl) ?_
      refine mg_get F hK hin hP 14 (by decide) (by decide +kernel) rfl dX4_isAhead_63 ?_
      refine lv_iload_n hx hb dX4_isAhead_66 rfl (lv_at hl 4 rfl) ?_
      refine mg_ald F hK hP 14 13 20 rfl o rfl (by omega) (by decide) dX4_isAhead_67 ?_
      refine lv_icmp_ne (tgt := 94) hx hb dX4_isAhead_68 (by decide) (fun c_3 => ?_) (fun c_3 => ?_)
      · skip
        refine lv_iconst (v := 0) hx hb dX4_isAhead_94 (by decide) ?_
        exact ro_retz F hr hlocks (by simp [aheadB, bI, c_1, c_2, c_3]) dX4_isAhead_95
      · skip
        refine lv_aload_n hx hb dX4_isAhead_71 rfl (lv_at hl 1 rfl) ?_
        refine lv_aload_n hx hb dX4_isAhead_72 rfl (lv_at hl 1 rfl) ?_
        refine mg_get F hK hin hP 15 (by decide) (by decide +kernel) rfl dX4_isAhead_73 ?_
        refine lv_iload_n hx hb dX4_isAhead_76 rfl (lv_at hl 4 rfl) ?_
        refine mg_ald F hK hP 15 14 20 rfl o rfl (by omega) (by decide) dX4_isAhead_77 ?_
        obtain ⟨j_4, hj_4, ej_4⟩ := I.2.2.1 o ho
        refine lw_N j_4 ej_4 ?_
        have nj_4 : jn (a 15 o) = j_4 := by rw [ej_4]; exact jn_nI (by have := I.1; have := I.2.1; omega)
        refine lv_aload_n hx hb dX4_isAhead_78 rfl (lv_at hl 1 rfl) ?_
        refine mg_get F hK hin hP 15 (by decide) (by decide +kernel) rfl dX4_isAhead_79 ?_
        refine lv_iload_n hx hb dX4_isAhead_82 rfl (lv_at hl 3 rfl) ?_
        refine mg_ald F hK hP 15 14 20 rfl k rfl (by omega) (by decide) dX4_isAhead_83 ?_
        obtain ⟨j_5, hj_5, ej_5⟩ := I.2.2.1 k hk
        refine lw_N j_5 ej_5 ?_
        have nj_5 : jn (a 15 k) = j_5 := by rw [ej_5]; exact jn_nI (by have := I.1; have := I.2.1; omega)
        refine ro_callV F hK [.int (nI j_4), .int (nI j_5)] (mc_isLater hP j_4 j_5 (by first | assumption | omega) (by first | assumption | omega)) (cwV 2 F.2.2.2.2 gX4_isAhead_X4_isLater rfl rfl rfl (by decide +kernel) ⟨Nat.le_of_ble_eq_true rfl, Nat.le_of_ble_eq_true rfl⟩) (mg_rc hK hP) rfl hl.1 rfl (lv_room (Nat.le_of_ble_eq_true rfl)) ⟨Nat.zero_le _, Nat.zero_le _⟩ dX4_isAhead_84 ?_
        refine lw_beq (tgt := 94) hx hb dX4_isAhead_87 (by decide) (fun c_6 => ?_) (fun c_6 => ?_)
        · skip
          refine lv_iconst (v := 0) hx hb dX4_isAhead_94 (by decide) ?_
          exact ro_retz F hr hlocks (by simp [aheadB, bI, c_1, c_2, c_3, nj_4, nj_5, c_6]) dX4_isAhead_95
        · skip
          refine lv_iconst (v := 1) hx hb dX4_isAhead_90 (by decide) ?_
          refine lv_goto (tgt := 95) hx hb dX4_isAhead_91 (by decide) ?_
          exact ro_retz F hr hlocks (by simp [aheadB, bI, c_1, c_2, c_3, nj_4, nj_5, c_6]) dX4_isAhead_95
  · skip
    refine lv_iload hx hb dX4_isAhead_30 (lv_at hl 0 rfl) ?_
    refine lv_if_le (tgt := 39) hx hb dX4_isAhead_32 (by decide) (fun c_7 => ?_) (fun c_7 => ?_)
    · skip
      refine lv_iconst (v := 0) hx hb dX4_isAhead_39 (by decide) ?_
      exact ro_retz F hr hlocks (by simp [aheadB, bI, c_1, c_7]) dX4_isAhead_40
    · skip
      refine lv_iconst (v := 1) hx hb dX4_isAhead_35 (by decide) ?_
      refine lv_goto (tgt := 40) hx hb dX4_isAhead_36 (by decide) ?_
      exact ro_retz F hr hlocks (by simp [aheadB, bI, c_1, c_7]) dX4_isAhead_40
set_option maxHeartbeats 4000000 in
set_option maxRecDepth 100000 in
theorem mc_keeper {l : Launch} {D : va_G} {cI cZ : ClassId} {h : Nat} {q : Nat → Nat} {n cm : Nat} {th : Int32} {lm : Nat} {a : Nat → Nat → Int32} {kn : Nat → Bool} {H : Heap} (hP : va_P D vwCl (mW h q cI cZ n cm th lm a kn) H) (v : Nat) (x : Int32) (hv : v ≤ 5) (I : mI n cm a) : ro_Met l yX4_keeper wsX4_keeper 4 96 D (mT cI cZ) H [.ref h, .int (nI v), .int x] (keeperB a kn n v x) := by
  refine ro_start rfl (by decide +kernel) (Nat.le_of_ble_eq_true rfl) (fun p e s m below meth c F hr hlocks hK ls hl => ?_)
  have hl : lv_has ls 5 [(0, .ref h), (1, .int (nI v)), (2, .int x)] := hl
  have hx := F.1
  have hb := F.2.1
  have hin : ∀ w ∈ wsX40, w ∈ wsX4_keeper := fun _ z => List.mem_cons_of_mem _ (List.mem_append_right _ z)
  have hn := I.1
  have hcm := I.2.1
  refine lv_iconst (v := (-1)) hx hb dX4_keeper_0 (by decide) ?_
  refine lv_istore_n (lv' := [(3, .int (-1)), (0, .ref h), (1, .int (nI v)), (2, .int x)]) hx hb dX4_keeper_1 rfl hl (by decide) rfl (fun ls hl => ?_)
  refine lv_aload_n hx hb dX4_keeper_2 rfl (lv_at hl 1 rfl) ?_
  refine lv_iload_n hx hb dX4_keeper_3 rfl (lv_at hl 2 rfl) ?_
  refine lv_iload_n hx hb dX4_keeper_4 rfl (lv_at hl 3 rfl) ?_
  refine ro_callV F hK [.int (nI v), .int x] (mc_placeOf hP v x (by first | assumption | omega) (by first | assumption | omega)) (cwV 2 F.2.2.2.2 gX4_keeper_X4_placeOf rfl rfl rfl (by decide +kernel) ⟨Nat.le_of_ble_eq_true rfl, Nat.le_of_ble_eq_true rfl⟩) (mg_rc hK hP) rfl hl.1 rfl (lv_room (Nat.le_of_ble_eq_true rfl)) ⟨Nat.zero_le _, Nat.zero_le _⟩ dX4_keeper_5 ?_
  refine lv_iconst (v := (-1)) hx hb dX4_keeper_8 (by decide) ?_
  refine lv_icmp_ne (tgt := 14) hx hb dX4_keeper_9 (by decide) (fun c_1 => ?_) (fun c_1 => ?_)
  · skip
    refine lv_iconst (v := 0) hx hb dX4_keeper_14 (by decide) ?_
    refine lv_istore (lv' := [(4, .int 0), (3, .int (-1)), (0, .ref h), (1, .int (nI v)), (2, .int x)]) hx hb dX4_keeper_15 hl (by decide) rfl (fun ls hl => ?_)
    have L17_u_2 : ∀ (k9u_2 : Nat) (i : Nat) (f : Int32) (ls : Array Slot), n - i < k9u_2 → i ≤ n → f = foldU (keStep a kn n v x) (-1) i → lv_has ls 5 [(3, .int f), (4, .int (nI i)), (0, .ref h), (1, .int (nI v)), (2, .int x)] → roW p l e 4 96 s m [.ref h, .int (nI v), .int x] below meth c H (keeperB a kn n v x) (F0 m 17 ls []) := by
      intro k9u_2
      induction k9u_2 with
      | zero => intro i f ls hk; exact absurd hk (Nat.not_lt_zero _)
      | succ k9u_2 ihu_2 =>
        intro i f ls hk hi hf  hl
        refine lv_iload hx hb dX4_keeper_17 (lv_at hl 1 rfl) ?_
        refine lv_aload_n hx hb dX4_keeper_19 rfl (lv_at hl 2 rfl) ?_
        refine mg_get F hK hin hP 0 (by decide) (by decide +kernel) rfl dX4_keeper_20 ?_
        refine lw_ge (tgt := 124) hx hb i n (by omega) (by omega) dX4_keeper_23 (by decide) (fun c_3 => ?_) (fun c_3 => ?_)
        · skip
          refine lv_iload_n hx hb dX4_keeper_124 rfl (lv_at hl 0 rfl) ?_
          exact ro_reti F hr hlocks (by rw [hf, show i = n by omega]; simp [keeperB, c_1, c_3]) dX4_keeper_125
        · skip
          refine lv_aload_n hx hb dX4_keeper_26 rfl (lv_at hl 2 rfl) ?_
          refine lv_iload_n hx hb dX4_keeper_27 rfl (lv_at hl 3 rfl) ?_
          refine lv_iload hx hb dX4_keeper_28 (lv_at hl 1 rfl) ?_
          refine ro_callV F hK [.int (nI v), .int (nI i)] (mc_knows hP v i (by first | assumption | omega) (by first | assumption | omega)) (cwV 2 F.2.2.2.2 gX4_keeper_X4_knows rfl rfl rfl (by decide +kernel) ⟨Nat.le_of_ble_eq_true rfl, Nat.le_of_ble_eq_true rfl⟩) (mg_rc hK hP) rfl hl.1 rfl (lv_room (Nat.le_of_ble_eq_true rfl)) ⟨Nat.zero_le _, Nat.zero_le _⟩ dX4_keeper_30 ?_
          refine lw_beq (tgt := 118) hx hb dX4_keeper_33 (by decide) (fun c_4 => ?_) (fun c_4 => ?_)
          · skip
            refine lv_iinc (v := nI (i + 1)) (lv' := [(4, .int (nI (i + 1))), (3, .int f), (0, .ref h), (1, .int (nI v)), (2, .int x)]) hx hb dX4_keeper_118 hl (k := 1) rfl (show nI i + Int32.ofInt 1 = _ from nI_add i 1) (by decide) rfl (fun ls hl => ?_)
            refine lv_goto (tgt := 17) hx hb dX4_keeper_121 (by decide) ?_
            exact ihu_2  (i + 1) f  ls (by omega) (by first | omega | assumption) (by rw [foldU_s, ← hf]; simp [keStep, c_1, c_3, c_4])  (lv_sub hl [1, 0, 2, 3, 4] rfl)
          · skip
            refine lv_aload_n hx hb dX4_keeper_36 rfl (lv_at hl 2 rfl) ?_
            refine mg_get F hK hin hP 1 (by decide) (by decide +kernel) rfl dX4_keeper_37 ?_
            refine lv_iload hx hb dX4_keeper_40 (lv_at hl 1 rfl) ?_
            refine mg_ald F hK hP 1 1 240 rfl i rfl (by omega) (by decide) dX4_keeper_42 ?_
            refine lv_iconst (v := 4) hx hb dX4_keeper_43 (by decide) ?_
            refine lv_icmp_ne (tgt := 118) hx hb dX4_keeper_44 (by decide) (fun c_5 => ?_) (fun c_5 => ?_)
            · skip
              refine lv_iinc (v := nI (i + 1)) (lv' := [(4, .int (nI (i + 1))), (3, .int f), (0, .ref h), (1, .int (nI v)), (2, .int x)]) hx hb dX4_keeper_118 hl (k := 1) rfl (show nI i + Int32.ofInt 1 = _ from nI_add i 1) (by decide) rfl (fun ls hl => ?_)
              refine lv_goto (tgt := 17) hx hb dX4_keeper_121 (by decide) ?_
              exact ihu_2  (i + 1) f  ls (by omega) (by first | omega | assumption) (by rw [foldU_s, ← hf]; simp [keStep, c_1, c_3, c_4, c_5])  (lv_sub hl [1, 0, 2, 3, 4] rfl)
            · skip
              refine lv_aload_n hx hb dX4_keeper_47 rfl (lv_at hl 2 rfl) ?_
              refine mg_get F hK hin hP 4 (by decide) (by decide +kernel) rfl dX4_keeper_48 ?_
              refine lv_iload hx hb dX4_keeper_51 (lv_at hl 1 rfl) ?_
              refine mg_ald F hK hP 4 4 240 rfl i rfl (by omega) (by decide) dX4_keeper_53 ?_
              refine lv_iload_n hx hb dX4_keeper_54 rfl (lv_at hl 4 rfl) ?_
              refine lv_icmp_ne (tgt := 118) hx hb dX4_keeper_55 (by decide) (fun c_6 => ?_) (fun c_6 => ?_)
              · skip
                refine lv_iinc (v := nI (i + 1)) (lv' := [(4, .int (nI (i + 1))), (3, .int f), (0, .ref h), (1, .int (nI v)), (2, .int x)]) hx hb dX4_keeper_118 hl (k := 1) rfl (show nI i + Int32.ofInt 1 = _ from nI_add i 1) (by decide) rfl (fun ls hl => ?_)
                refine lv_goto (tgt := 17) hx hb dX4_keeper_121 (by decide) ?_
                exact ihu_2  (i + 1) f  ls (by omega) (by first | omega | assumption) (by rw [foldU_s, ← hf]; simp [keStep, c_1, c_3, c_4, c_5, c_6])  (lv_sub hl [1, 0, 2, 3, 4] rfl)
              · skip
                refine lv_aload_n hx hb dX4_keeper_58 rfl (lv_at hl 2 rfl) ?_
                refine lv_iload_n hx hb dX4_keeper_59 rfl (lv_at hl 3 rfl) ?_
                refine lv_aload_n hx hb dX4_keeper_60 rfl (lv_at hl 2 rfl) ?_
                refine mg_get F hK hin hP 5 (by decide) (by decide +kernel) rfl dX4_keeper_61 ?_
                refine lv_iload hx hb dX4_keeper_64 (lv_at hl 1 rfl) ?_
                refine mg_ald F hK hP 5 5 240 rfl i rfl (by omega) (by decide) dX4_keeper_66 ?_
                obtain ⟨j_7, hj_7, ej_7⟩ := I.2.2.2.1 i (by omega) c_5
                refine lw_N j_7 ej_7 ?_
                have nj_7 : jn (a 5 i) = j_7 := by rw [ej_7]; exact jn_nI (by have := I.1; have := I.2.1; omega)
                refine ro_callV F hK [.int (nI v), .int (nI j_7)] (mc_stateOf hP v j_7 (by first | assumption | omega) (by first | assumption | omega) (by first | assumption | omega)) (cwV 2 F.2.2.2.2 gX4_keeper_X4_stateOf rfl rfl rfl (by decide +kernel) ⟨Nat.le_of_ble_eq_true rfl, Nat.le_of_ble_eq_true rfl⟩) (mg_rc hK hP) rfl hl.1 rfl (lv_room (Nat.le_of_ble_eq_true rfl)) ⟨Nat.zero_le _, Nat.zero_le _⟩ dX4_keeper_67 ?_
                refine lv_iconst (v := 1) hx hb dX4_keeper_70 (by decide) ?_
                refine lv_icmp_ne (tgt := 118) hx hb dX4_keeper_71 (by decide) (fun c_8 => ?_) (fun c_8 => ?_)
                · skip
                  refine lv_iinc (v := nI (i + 1)) (lv' := [(4, .int (nI (i + 1))), (3, .int f), (0, .ref h), (1, .int (nI v)), (2, .int x)]) hx hb dX4_keeper_118 hl (k := 1) rfl (show nI i + Int32.ofInt 1 = _ from nI_add i 1) (by decide) rfl (fun ls hl => ?_)
                  refine lv_goto (tgt := 17) hx hb dX4_keeper_121 (by decide) ?_
                  exact ihu_2  (i + 1) f  ls (by omega) (by first | omega | assumption) (by rw [foldU_s, ← hf]; simp [keStep, c_1, c_3, c_4, c_5, c_6, nj_7, c_8])  (lv_sub hl [1, 0, 2, 3, 4] rfl)
                · skip
                  refine lv_iload_n hx hb dX4_keeper_74 rfl (lv_at hl 0 rfl) ?_
                  refine lv_iconst (v := (-1)) hx hb dX4_keeper_75 (by decide) ?_
                  refine lv_icmp_eq (tgt := 106) hx hb dX4_keeper_76 (by decide) (fun c_9 => ?_) (fun c_9 => ?_)
                  · skip
                    refine lv_aload_n hx hb dX4_keeper_106 rfl (lv_at hl 2 rfl) ?_
                    refine mg_get F hK hin hP 5 (by decide) (by decide +kernel) rfl dX4_keeper_107 ?_
                    refine lv_iload hx hb dX4_keeper_110 (lv_at hl 1 rfl) ?_
                    refine mg_ald F hK hP 5 5 240 rfl i rfl (by omega) (by decide) dX4_keeper_112 ?_
                    refine lv_goto (tgt := 117) hx hb dX4_keeper_113 (by decide) ?_
                    refine lv_istore_n (lv' := [(3, .int (a 5 i)), (4, .int (nI i)), (0, .ref h), (1, .int (nI v)), (2, .int x)]) hx hb dX4_keeper_117 rfl hl (by decide) rfl (fun ls hl => ?_)
                    refine lv_iinc (v := nI (i + 1)) (lv' := [(4, .int (nI (i + 1))), (3, .int (a 5 i)), (0, .ref h), (1, .int (nI v)), (2, .int x)]) hx hb dX4_keeper_118 hl (k := 1) rfl (show nI i + Int32.ofInt 1 = _ from nI_add i 1) (by decide) rfl (fun ls hl => ?_)
                    refine lv_goto (tgt := 17) hx hb dX4_keeper_121 (by decide) ?_
                    exact ihu_2  (i + 1) (a 5 i)  ls (by omega) (by first | omega | assumption) (by rw [foldU_s, ← hf]; simp [keStep, c_1, c_3, c_4, c_5, c_6, nj_7, c_8, c_9])  (lv_sub hl [1, 0, 2, 3, 4] rfl)
                  · skip
                    refine lv_iload_n hx hb dX4_keeper_79 rfl (lv_at hl 0 rfl) ?_
                    refine lv_aload_n hx hb dX4_keeper_80 rfl (lv_at hl 2 rfl) ?_
                    refine mg_get F hK hin hP 5 (by decide) (by decide +kernel) rfl dX4_keeper_81 ?_
                    refine lv_iload hx hb dX4_keeper_84 (lv_at hl 1 rfl) ?_
                    refine mg_ald F hK hP 5 5 240 rfl i rfl (by omega) (by decide) dX4_keeper_86 ?_
                    refine lv_icmp_eq (tgt := 116) hx hb dX4_keeper_87 (by decide) (fun c_10 => ?_) (fun c_10 => ?_)
                    · skip
                      refine lv_iload_n hx hb dX4_keeper_116 rfl (lv_at hl 0 rfl) ?_
                      refine lv_istore_n (lv' := [(3, .int f), (4, .int (nI i)), (0, .ref h), (1, .int (nI v)), (2, .int x)]) hx hb dX4_keeper_117 rfl hl (by decide) rfl (fun ls hl => ?_)
                      refine lv_iinc (v := nI (i + 1)) (lv' := [(4, .int (nI (i + 1))), (3, .int f), (0, .ref h), (1, .int (nI v)), (2, .int x)]) hx hb dX4_keeper_118 hl (k := 1) rfl (show nI i + Int32.ofInt 1 = _ from nI_add i 1) (by decide) rfl (fun ls hl => ?_)
                      refine lv_goto (tgt := 17) hx hb dX4_keeper_121 (by decide) ?_
                      exact ihu_2  (i + 1) f  ls (by omega) (by first | omega | assumption) (by rw [foldU_s, ← hf]; simp [keStep, c_1, c_3, c_4, c_5, c_6, nj_7, c_8, c_9, c_10])  (lv_sub hl [1, 0, 2, 3, 4] rfl)
                    · skip
                      obtain ⟨j_11, hj_11, ej_11⟩ := (show f = -1 ∨ ∃ j, j < cm ∧ f = nI j from by rw [hf]; exact ke_range I kn v x i (by omega)).resolve_left (by first | assumption | exact c_10)
                      have nj_11 : jn f = j_11 := by rw [ej_11]; exact jn_nI (by omega)
                      refine lv_aload_n hx hb dX4_keeper_90 rfl (lv_at hl 2 rfl) ?_
                      refine lv_iload_n hx hb dX4_keeper_91 rfl (lv_at hl 3 rfl) ?_
                      refine lv_aload_n hx hb dX4_keeper_92 rfl (lv_at hl 2 rfl) ?_
                      refine mg_get F hK hin hP 5 (by decide) (by decide +kernel) rfl dX4_keeper_93 ?_
                      refine lv_iload hx hb dX4_keeper_96 (lv_at hl 1 rfl) ?_
                      refine mg_ald F hK hP 5 5 240 rfl i rfl (by omega) (by decide) dX4_keeper_98 ?_
                      refine lw_N j_7 ej_7 ?_
                      refine lv_iload_n hx hb dX4_keeper_99 rfl (lv_at hl 0 rfl) ?_
                      refine ro_callV F hK [.int (nI v), .int (nI j_7), .int (nI j_11)] (mc_isAhead hP v j_7 j_11 (by first | assumption | omega) (by first | assumption | omega) (by first | assumption | omega) (by first | assumption | omega)) (cwV 3 F.2.2.2.2 gX4_keeper_X4_isAhead rfl rfl rfl (by decide +kernel) ⟨Nat.le_of_ble_eq_true rfl, Nat.le_of_ble_eq_true rfl⟩) (mg_rc hK hP) rfl hl.1 (by first | (rw [ej_11]; done) | (rw [ej_11]; rfl)) (lv_room (Nat.le_of_ble_eq_true rfl)) ⟨Nat.zero_le _, Nat.zero_le _⟩ dX4_keeper_100 ?_
                      refine lw_beq (tgt := 116) hx hb dX4_keeper_103 (by decide) (fun c_13 => ?_) (fun c_13 => ?_)
                      · skip
                        refine lv_iload_n hx hb dX4_keeper_116 rfl (lv_at hl 0 rfl) ?_
                        refine lv_istore_n (lv' := [(3, .int f), (4, .int (nI i)), (0, .ref h), (1, .int (nI v)), (2, .int x)]) hx hb dX4_keeper_117 rfl hl (by decide) rfl (fun ls hl => ?_)
                        refine lv_iinc (v := nI (i + 1)) (lv' := [(4, .int (nI (i + 1))), (3, .int f), (0, .ref h), (1, .int (nI v)), (2, .int x)]) hx hb dX4_keeper_118 hl (k := 1) rfl (show nI i + Int32.ofInt 1 = _ from nI_add i 1) (by decide) rfl (fun ls hl => ?_)
                        refine lv_goto (tgt := 17) hx hb dX4_keeper_121 (by decide) ?_
                        exact ihu_2  (i + 1) f  ls (by omega) (by first | omega | assumption) (by rw [foldU_s, ← hf]; simp [keStep, c_1, c_3, c_4, c_5, c_6, nj_7, c_8, c_9, c_10, nj_11, c_13])  (lv_sub hl [1, 0, 2, 3, 4] rfl)
                      · skip
                        refine lv_aload_n hx hb dX4_keeper_106 rfl (lv_at hl 2 rfl) ?_
                        refine mg_get F hK hin hP 5 (by decide) (by decide +kernel) rfl dX4_keeper_107 ?_
                        refine lv_iload hx hb dX4_keeper_110 (lv_at hl 1 rfl) ?_
                        refine mg_ald F hK hP 5 5 240 rfl i rfl (by omega) (by decide) dX4_keeper_112 ?_
                        refine lv_goto (tgt := 117) hx hb dX4_keeper_113 (by decide) ?_
                        refine lv_istore_n (lv' := [(3, .int (a 5 i)), (4, .int (nI i)), (0, .ref h), (1, .int (nI v)), (2, .int x)]) hx hb dX4_keeper_117 rfl hl (by decide) rfl (fun ls hl => ?_)
                        refine lv_iinc (v := nI (i + 1)) (lv' := [(4, .int (nI (i + 1))), (3, .int (a 5 i)), (0, .ref h), (1, .int (nI v)), (2, .int x)]) hx hb dX4_keeper_118 hl (k := 1) rfl (show nI i + Int32.ofInt 1 = _ from nI_add i 1) (by decide) rfl (fun ls hl => ?_)
                        refine lv_goto (tgt := 17) hx hb dX4_keeper_121 (by decide) ?_
                        exact ihu_2  (i + 1) (a 5 i)  ls (by omega) (by first | omega | assumption) (by rw [foldU_s, ← hf]; simp [keStep, c_1, c_3, c_4, c_5, c_6, nj_7, c_8, c_9, c_10, nj_11, c_13])  (lv_sub hl [1, 0, 2, 3, 4] rfl)
    exact L17_u_2 _ 0 (-1)  ls (Nat.lt_succ_self _) (by first | omega | assumption) (rfl)  (lv_sub hl [1, 0, 2, 3, 4] rfl)
  · skip
    refine lv_iconst (v := (-1)) hx hb dX4_keeper_12 (by decide) ?_
    exact ro_reti F hr hlocks (by simp [keeperB, c_1]) dX4_keeper_13
set_option maxHeartbeats 4000000 in
set_option maxRecDepth 100000 in
theorem mc_keptOf {l : Launch} {D : va_G} {cI cZ : ClassId} {h : Nat} {q : Nat → Nat} {n cm : Nat} {th : Int32} {lm : Nat} {a : Nat → Nat → Int32} {kn : Nat → Bool} {H : Heap} (hP : va_P D vwCl (mW h q cI cZ n cm th lm a kn) H) (v : Nat) (cake : Int32) (fo : Nat) (hv : v ≤ 5) (I : mI n cm a) (hfo : fo < 8) : ro_Met l yX4_keptOf wsX4_keptOf 5 120 D (mT cI cZ) H [.ref h, .int (nI v), .int cake, .int (nI fo)] (nI (keptOfB a kn n v cake fo)) := by
  refine ro_start rfl (by decide +kernel) (Nat.le_of_ble_eq_true rfl) (fun p e s m below meth c F hr hlocks hK ls hl => ?_)
  have hl : lv_has ls 6 [(0, .ref h), (1, .int (nI v)), (2, .int cake), (3, .int (nI fo))] := hl
  have hx := F.1
  have hb := F.2.1
  have hin : ∀ w ∈ wsX40, w ∈ wsX4_keptOf := fun _ z => List.mem_cons_of_mem _ (List.mem_append_right _ z)
  have hn := I.1
  have hcm := I.2.1
  refine lv_iconst (v := 0) hx hb dX4_keptOf_0 (by decide) ?_
  refine lv_istore (lv' := [(4, .int 0), (0, .ref h), (1, .int (nI v)), (2, .int cake), (3, .int (nI fo))]) hx hb dX4_keptOf_1 hl (by decide) rfl (fun ls hl => ?_)
  refine lv_iload_n hx hb dX4_keptOf_3 rfl (lv_at hl 4 rfl) ?_
  refine lv_istore (lv' := [(5, .int (nI fo)), (4, .int 0), (0, .ref h), (1, .int (nI v)), (2, .int cake), (3, .int (nI fo))]) hx hb dX4_keptOf_4 hl (by decide) rfl (fun ls hl => ?_)
  have L6_u_1 : ∀ (k9u_1 : Nat) (t : Nat) (y : Nat) (i : Nat) (ls : Array Slot), 5 - i < k9u_1 → i ≤ 5 → t = fo + 8 * i → y = foldU (koStep a kn n v cake fo) 0 i → lv_has ls 6 [(4, .int (nI y)), (5, .int (nI t)), (0, .ref h), (1, .int (nI v)), (2, .int cake), (3, .int (nI fo))] → roW p l e 5 120 s m [.ref h, .int (nI v), .int cake, .int (nI fo)] below meth c H (nI (keptOfB a kn n v cake fo)) (F0 m 6 ls []) := by
    intro k9u_1
    induction k9u_1 with
    | zero => intro t y i ls hk; exact absurd hk (Nat.not_lt_zero _)
    | succ k9u_1 ihu_1 =>
      intro t y i ls hk hi ht hf  hl
      refine lv_iload hx hb dX4_keptOf_6 (lv_at hl 1 rfl) ?_
      refine lv_bipush (v := 40) hx hb dX4_keptOf_8 (by decide) ?_
      refine lw_ge (tgt := 40) hx hb t 40 (by omega) (by omega) dX4_keptOf_10 (by decide) (fun c_2 => ?_) (fun c_2 => ?_)
      · skip
        refine lv_iload hx hb dX4_keptOf_40 (lv_at hl 0 rfl) ?_
        exact ro_reti F hr hlocks (by rw [hf, show i = 5 by omega]; rfl) dX4_keptOf_42
      · skip
        refine lv_iload hx hb dX4_keptOf_13 (lv_at hl 0 rfl) ?_
        refine lv_aload_n hx hb dX4_keptOf_15 rfl (lv_at hl 2 rfl) ?_
        refine lv_iload_n hx hb dX4_keptOf_16 rfl (lv_at hl 3 rfl) ?_
        refine lv_iload hx hb dX4_keptOf_17 (lv_at hl 1 rfl) ?_
        refine ro_callV F hK [.int (nI v), .int (nI t)] (mc_keeper hP v (nI t) (by first | assumption | omega) (by first | assumption | omega)) (cwV 2 F.2.2.2.2 gX4_keptOf_X4_keeper rfl rfl rfl (by decide +kernel) ⟨Nat.le_of_ble_eq_true rfl, Nat.le_of_ble_eq_true rfl⟩) (mg_rc hK hP) rfl hl.1 rfl (lv_room (Nat.le_of_ble_eq_true rfl)) ⟨Nat.zero_le _, Nat.zero_le _⟩ dX4_keptOf_19 ?_
        refine lv_iload_n hx hb dX4_keptOf_22 rfl (lv_at hl 4 rfl) ?_
        refine lv_icmp_ne (tgt := 30) hx hb dX4_keptOf_23 (by decide) (fun c_3 => ?_) (fun c_3 => ?_)
        · skip
          refine lv_iconst (v := 0) hx hb dX4_keptOf_30 (by decide) ?_
          refine lw_add hx hb (i := y) (j := 0) dX4_keptOf_31 ?_
          refine lv_istore (lv' := [(4, .int (nI (y + 0))), (5, .int (nI t)), (0, .ref h), (1, .int (nI v)), (2, .int cake), (3, .int (nI fo))]) hx hb dX4_keptOf_32 hl (by decide) rfl (fun ls hl => ?_)
          refine lv_iinc (v := nI (t + 8)) (lv' := [(5, .int (nI (t + 8))), (4, .int (nI (y + 0))), (0, .ref h), (1, .int (nI v)), (2, .int cake), (3, .int (nI fo))]) hx hb dX4_keptOf_34 hl (k := 1) rfl (show nI t + Int32.ofInt 8 = _ from nI_add t 8) (by decide) rfl (fun ls hl => ?_)
          refine lv_goto (tgt := 6) hx hb dX4_keptOf_37 (by decide) ?_
          exact ihu_1  (t + 8) (y + 0) (i + 1)  ls (by omega) (by first | omega | assumption) (by first | omega | assumption) (by rw [foldU_s, ← hf]; subst ht; simp [koStep, c_2, c_3])  (lv_sub hl [1, 0, 2, 3, 4, 5] rfl)
        · skip
          refine lv_iconst (v := 1) hx hb dX4_keptOf_26 (by decide) ?_
          refine lv_goto (tgt := 31) hx hb dX4_keptOf_27 (by decide) ?_
          refine lw_add hx hb (i := y) (j := 1) dX4_keptOf_31 ?_
          refine lv_istore (lv' := [(4, .int (nI (y + 1))), (5, .int (nI t)), (0, .ref h), (1, .int (nI v)), (2, .int cake), (3, .int (nI fo))]) hx hb dX4_keptOf_32 hl (by decide) rfl (fun ls hl => ?_)
          refine lv_iinc (v := nI (t + 8)) (lv' := [(5, .int (nI (t + 8))), (4, .int (nI (y + 1))), (0, .ref h), (1, .int (nI v)), (2, .int cake), (3, .int (nI fo))]) hx hb dX4_keptOf_34 hl (k := 1) rfl (show nI t + Int32.ofInt 8 = _ from nI_add t 8) (by decide) rfl (fun ls hl => ?_)
          refine lv_goto (tgt := 6) hx hb dX4_keptOf_37 (by decide) ?_
          exact ihu_1  (t + 8) (y + 1) (i + 1)  ls (by omega) (by first | omega | assumption) (by first | omega | assumption) (by rw [foldU_s, ← hf]; subst ht; simp [koStep, c_2, c_3])  (lv_sub hl [1, 0, 2, 3, 4, 5] rfl)
  exact L6_u_1 _ fo 0 0  ls (Nat.lt_succ_self _) (by first | omega | assumption) (by first | omega | assumption) (rfl)  (lv_sub hl [1, 0, 2, 3, 4, 5] rfl)
set_option maxHeartbeats 4000000 in
set_option maxRecDepth 100000 in
theorem mc_lackOf {l : Launch} {D : va_G} {cI cZ : ClassId} {h : Nat} {q : Nat → Nat} {n cm : Nat} {th : Int32} {lm : Nat} {a : Nat → Nat → Int32} {kn : Nat → Bool} {H : Heap} (hP : va_P D vwCl (mW h q cI cZ n cm th lm a kn) H) (v : Nat) (k : Nat) (fo : Nat) (hv : v ≤ 5) (I : mI n cm a) (hk : k < cm) (hfo : fo < 8) : ro_Met l yX4_lackOf wsX4_lackOf 6 145 D (mT cI cZ) H [.ref h, .int (nI v), .int (nI k), .int (nI fo)] (lackB a kn n v k fo) := by
  refine ro_start rfl (by decide +kernel) (Nat.le_of_ble_eq_true rfl) (fun p e s m below meth c F hr hlocks hK ls hl => ?_)
  have hl : lv_has ls 5 [(0, .ref h), (1, .int (nI v)), (2, .int (nI k)), (3, .int (nI fo))] := hl
  have hx := F.1
  have hb := F.2.1
  have hin : ∀ w ∈ wsX40, w ∈ wsX4_lackOf := fun _ z => List.mem_cons_of_mem _ (List.mem_append_right _ z)
  have hn := I.1
  have hcm := I.2.1
  refine lv_aload_n hx hb dX4_lackOf_0 rfl (lv_at hl 0 rfl) ?_
  refine mg_get F hK hin hP 11 (by decide) (by decide +kernel) rfl dX4_lackOf_1 ?_
  refine lv_bipush (v := 8) hx hb dX4_lackOf_4 (by decide) ?_
  refine lv_aload_n hx hb dX4_lackOf_6 rfl (lv_at hl 0 rfl) ?_
  refine mg_get F hK hin hP 13 (by decide) (by decide +kernel) rfl dX4_lackOf_7 ?_
  refine lv_iload_n hx hb dX4_lackOf_10 rfl (lv_at hl 2 rfl) ?_
  refine mg_ald F hK hP 13 12 20 rfl k rfl (by omega) (by decide) dX4_lackOf_11 ?_
  obtain ⟨j_1, hj_1, ej_1⟩ := I.2.2.2.2 k hk
  refine lw_N j_1 ej_1 ?_
  have nj_1 : jn (a 13 k) = j_1 := by rw [ej_1]; exact jn_nI (by have := I.1; have := I.2.1; omega)
  refine lw_mul hx hb (i := 8) (j := j_1) dX4_lackOf_12 ?_
  refine lv_iload_n hx hb dX4_lackOf_13 rfl (lv_at hl 3 rfl) ?_
  refine lw_add hx hb (i := (8 * j_1)) (j := fo) dX4_lackOf_14 ?_
  refine mg_ald F hK hP 11 11 48 rfl ((8 * j_1) + fo) rfl (by omega) (by decide) dX4_lackOf_15 ?_
  refine lv_aload_n hx hb dX4_lackOf_16 rfl (lv_at hl 0 rfl) ?_
  refine lv_iload_n hx hb dX4_lackOf_17 rfl (lv_at hl 1 rfl) ?_
  refine lv_iload_n hx hb dX4_lackOf_18 rfl (lv_at hl 2 rfl) ?_
  refine lv_iload_n hx hb dX4_lackOf_19 rfl (lv_at hl 3 rfl) ?_
  refine ro_callV F hK [.int (nI v), .int (nI k), .int (nI fo)] (mc_keptOf hP v (nI k) fo (by first | assumption | omega) (by first | assumption | omega) (by first | assumption | omega)) (cwV 3 F.2.2.2.2 gX4_lackOf_X4_keptOf rfl rfl rfl (by decide +kernel) ⟨Nat.le_of_ble_eq_true rfl, Nat.le_of_ble_eq_true rfl⟩) (mg_rc hK hP) rfl hl.1 rfl (lv_room (Nat.le_of_ble_eq_true rfl)) ⟨Nat.zero_le _, Nat.zero_le _⟩ dX4_lackOf_20 ?_
  refine lv_isub hx hb dX4_lackOf_23 ?_
  refine lv_istore (lv' := [(4, .int (a 11 ((8 * j_1) + fo) - nI (keptOfB a kn n v (nI k) fo))), (0, .ref h), (1, .int (nI v)), (2, .int (nI k)), (3, .int (nI fo))]) hx hb dX4_lackOf_24 hl (by decide) rfl (fun ls hl => ?_)
  refine lv_iload hx hb dX4_lackOf_26 (lv_at hl 0 rfl) ?_
  refine lv_if_ge (tgt := 35) hx hb dX4_lackOf_28 (by decide) (fun c_2 => ?_) (fun c_2 => ?_)
  · skip
    refine lv_iload hx hb dX4_lackOf_35 (lv_at hl 0 rfl) ?_
    exact ro_reti F hr hlocks (by simp [lackB, nj_1, c_2]) dX4_lackOf_37
  · skip
    refine lv_iconst (v := 0) hx hb dX4_lackOf_31 (by decide) ?_
    refine lv_goto (tgt := 37) hx hb dX4_lackOf_32 (by decide) ?_
    exact ro_reti F hr hlocks (by simp [lackB, nj_1, c_2]) dX4_lackOf_37
set_option maxHeartbeats 4000000 in
set_option maxRecDepth 100000 in
theorem mc_isVain {l : Launch} {D : va_G} {cI cZ : ClassId} {h : Nat} {q : Nat → Nat} {n cm : Nat} {th : Int32} {lm : Nat} {a : Nat → Nat → Int32} {kn : Nat → Bool} {H : Heap} (hP : va_P D vwCl (mW h q cI cZ n cm th lm a kn) H) (v : Nat) (t : Nat) (hv : v ≤ 5) (hn : n ≤ 240) (ht : t < 240) : ro_Met l yX4_isVain wsX4_isVain 1 22 D (mT cI cZ) H [.ref h, .int (nI v), .int (nI t)] (bI (vainB a kn n v t)) := by
  refine ro_start rfl (by decide +kernel) (Nat.le_of_ble_eq_true rfl) (fun p e s m below meth c F hr hlocks hK ls hl => ?_)
  have hl : lv_has ls 6 [(0, .ref h), (1, .int (nI v)), (2, .int (nI t))] := hl
  have hx := F.1
  have hb := F.2.1
  have hin : ∀ w ∈ wsX40, w ∈ wsX4_isVain := fun _ z => List.mem_cons_of_mem _ (List.mem_append_right _ z)
  refine lv_iconst (v := (-1)) hx hb dX4_isVain_0 (by decide) ?_
  refine lv_istore_n (lv' := [(3, .int (-1)), (0, .ref h), (1, .int (nI v)), (2, .int (nI t))]) hx hb dX4_isVain_1 rfl hl (by decide) rfl (fun ls hl => ?_)
  refine lv_iconst (v := 0) hx hb dX4_isVain_2 (by decide) ?_
  refine lv_istore (lv' := [(4, .int 0), (3, .int (-1)), (0, .ref h), (1, .int (nI v)), (2, .int (nI t))]) hx hb dX4_isVain_3 hl (by decide) rfl (fun ls hl => ?_)
  have L5_u_1 : ∀ (k9u_1 : Nat) (i : Nat) (f : Int32) (ls : Array Slot), n - i < k9u_1 → i ≤ n → f = foldU (vaStep a kn v t) (-1) i → lv_has ls 6 [(3, .int f), (4, .int (nI i)), (0, .ref h), (1, .int (nI v)), (2, .int (nI t))] → roW p l e 1 22 s m [.ref h, .int (nI v), .int (nI t)] below meth c H (bI (vainB a kn n v t)) (F0 m 5 ls []) := by
    intro k9u_1
    induction k9u_1 with
    | zero => intro i f ls hk; exact absurd hk (Nat.not_lt_zero _)
    | succ k9u_1 ihu_1 =>
      intro i f ls hk hi hf  hl
      refine lv_iload hx hb dX4_isVain_5 (lv_at hl 1 rfl) ?_
      refine lv_aload_n hx hb dX4_isVain_7 rfl (lv_at hl 2 rfl) ?_
      refine mg_get F hK hin hP 0 (by decide) (by decide +kernel) rfl dX4_isVain_8 ?_
      refine lw_ge (tgt := 89) hx hb i n (by omega) (by omega) dX4_isVain_11 (by decide) (fun c_2 => ?_) (fun c_2 => ?_)
      · skip
        have hF : vainF a kn n v t = f := by rw [hf, show i = n by omega]; rfl
        refine lv_iload_n hx hb dX4_isVain_89 rfl (lv_at hl 0 rfl) ?_
        refine lv_iconst (v := (-1)) hx hb dX4_isVain_90 (by decide) ?_
        refine lv_icmp_eq (tgt := 104) hx hb dX4_isVain_91 (by decide) (fun c_3 => ?_) (fun c_3 => ?_)
        · skip
          refine lv_iconst (v := 1) hx hb dX4_isVain_104 (by decide) ?_
          refine lv_goto (tgt := 109) hx hb dX4_isVain_105 (by decide) ?_
          exact ro_retz F hr hlocks (by simp [vainB, bI, c_2, hF, c_3]) dX4_isVain_109
        · skip
          obtain ⟨j_4, hj_4, ej_4⟩ := (show f = -1 ∨ ∃ j, j < i ∧ f = nI j from by rw [hf]; exact va_range a kn v t i).resolve_left (by first | assumption | exact c_3)
          have nj_4 : jn f = j_4 := by rw [ej_4]; exact jn_nI (by omega)
          refine lv_aload_n hx hb dX4_isVain_94 rfl (lv_at hl 2 rfl) ?_
          refine mg_get F hK hin hP 1 (by decide) (by decide +kernel) rfl dX4_isVain_95 ?_
          refine lv_iload_n hx hb dX4_isVain_98 rfl (lv_at hl 0 rfl) ?_
          refine mg_ald F hK hP 1 1 240 rfl j_4 ej_4 (by omega) (by decide) dX4_isVain_99 ?_
          refine lv_iconst (v := 1) hx hb dX4_isVain_100 (by decide) ?_
          refine lv_icmp_ne (tgt := 108) hx hb dX4_isVain_101 (by decide) (fun c_5 => ?_) (fun c_5 => ?_)
          · skip
            refine lv_iconst (v := 0) hx hb dX4_isVain_108 (by decide) ?_
            exact ro_retz F hr hlocks (by simp [vainB, bI, c_2, hF, c_3, nj_4, c_5]) dX4_isVain_109
          · skip
            refine lv_iconst (v := 1) hx hb dX4_isVain_104 (by decide) ?_
            refine lv_goto (tgt := 109) hx hb dX4_isVain_105 (by decide) ?_
            exact ro_retz F hr hlocks (by simp [vainB, bI, c_2, hF, c_3, nj_4, c_5]) dX4_isVain_109
      · skip
        refine lv_aload_n hx hb dX4_isVain_14 rfl (lv_at hl 2 rfl) ?_
        refine lv_iload_n hx hb dX4_isVain_15 rfl (lv_at hl 3 rfl) ?_
        refine lv_iload hx hb dX4_isVain_16 (lv_at hl 1 rfl) ?_
        refine ro_callV F hK [.int (nI v), .int (nI i)] (mc_knows hP v i (by first | assumption | omega) (by first | assumption | omega)) (cwV 2 F.2.2.2.2 gX4_isVain_X4_knows rfl rfl rfl (by decide +kernel) ⟨Nat.le_of_ble_eq_true rfl, Nat.le_of_ble_eq_true rfl⟩) (mg_rc hK hP) rfl hl.1 rfl (lv_room (Nat.le_of_ble_eq_true rfl)) ⟨Nat.zero_le _, Nat.zero_le _⟩ dX4_isVain_18 ?_
        refine lw_beq (tgt := 53) hx hb dX4_isVain_21 (by decide) (fun c_6 => ?_) (fun c_6 => ?_)
        · skip
          refine lv_iconst (v := 0) hx hb dX4_isVain_53 (by decide) ?_
          refine lv_istore (lv' := [(5, .int 0), (3, .int f), (4, .int (nI i)), (0, .ref h), (1, .int (nI v)), (2, .int (nI t))]) hx hb dX4_isVain_54 hl (by decide) rfl (fun ls hl => ?_)
          refine lv_iload hx hb dX4_isVain_56 (lv_at hl 0 rfl) ?_
          refine lv_if_eq (tgt := 81) hx hb dX4_isVain_58 (by decide) (fun _ => ?_) (fun z9 => absurd (by decide) z9)
          refine lv_iload_n hx hb dX4_isVain_81 rfl (lv_at hl 1 rfl) ?_
          refine lv_istore_n (lv' := [(3, .int f), (5, .int 0), (4, .int (nI i)), (0, .ref h), (1, .int (nI v)), (2, .int (nI t))]) hx hb dX4_isVain_82 rfl hl (by decide) rfl (fun ls hl => ?_)
          refine lv_iinc (v := nI (i + 1)) (lv' := [(4, .int (nI (i + 1))), (3, .int f), (5, .int 0), (0, .ref h), (1, .int (nI v)), (2, .int (nI t))]) hx hb dX4_isVain_83 hl (k := 2) rfl (show nI i + Int32.ofInt 1 = _ from nI_add i 1) (by decide) rfl (fun ls hl => ?_)
          refine lv_goto (tgt := 5) hx hb dX4_isVain_86 (by decide) ?_
          exact ihu_1  (i + 1) f  ls (by omega) (by first | omega | assumption) (by rw [foldU_s, ← hf]; simp [vaStep, c_2, c_6])  (lv_sub hl [1, 0, 3, 4, 5] rfl)
        · skip
          refine lv_aload_n hx hb dX4_isVain_24 rfl (lv_at hl 2 rfl) ?_
          refine lv_iload hx hb dX4_isVain_25 (lv_at hl 1 rfl) ?_
          refine lv_aload_n hx hb dX4_isVain_27 rfl (lv_at hl 2 rfl) ?_
          refine mg_get F hK hin hP 4 (by decide) (by decide +kernel) rfl dX4_isVain_28 ?_
          refine lv_iload_n hx hb dX4_isVain_31 rfl (lv_at hl 4 rfl) ?_
          refine mg_ald F hK hP 4 4 240 rfl t rfl (by omega) (by decide) dX4_isVain_32 ?_
          refine ro_callV F hK [.int (nI i), .int (a 4 t)] (mc_isMove hP i (a 4 t) (by first | assumption | omega)) (cwV 2 F.2.2.2.2 gX4_isVain_X4_isMove rfl rfl rfl (by decide +kernel) ⟨Nat.le_of_ble_eq_true rfl, Nat.le_of_ble_eq_true rfl⟩) (mg_rc hK hP) rfl hl.1 rfl (lv_room (Nat.le_of_ble_eq_true rfl)) ⟨Nat.zero_le _, Nat.zero_le _⟩ dX4_isVain_33 ?_
          refine lw_beq (tgt := 53) hx hb dX4_isVain_36 (by decide) (fun c_7 => ?_) (fun c_7 => ?_)
          · skip
            refine lv_iconst (v := 0) hx hb dX4_isVain_53 (by decide) ?_
            refine lv_istore (lv' := [(5, .int 0), (3, .int f), (4, .int (nI i)), (0, .ref h), (1, .int (nI v)), (2, .int (nI t))]) hx hb dX4_isVain_54 hl (by decide) rfl (fun ls hl => ?_)
            refine lv_iload hx hb dX4_isVain_56 (lv_at hl 0 rfl) ?_
            refine lv_if_eq (tgt := 81) hx hb dX4_isVain_58 (by decide) (fun _ => ?_) (fun z9 => absurd (by decide) z9)
            refine lv_iload_n hx hb dX4_isVain_81 rfl (lv_at hl 1 rfl) ?_
            refine lv_istore_n (lv' := [(3, .int f), (5, .int 0), (4, .int (nI i)), (0, .ref h), (1, .int (nI v)), (2, .int (nI t))]) hx hb dX4_isVain_82 rfl hl (by decide) rfl (fun ls hl => ?_)
            refine lv_iinc (v := nI (i + 1)) (lv' := [(4, .int (nI (i + 1))), (3, .int f), (5, .int 0), (0, .ref h), (1, .int (nI v)), (2, .int (nI t))]) hx hb dX4_isVain_83 hl (k := 2) rfl (show nI i + Int32.ofInt 1 = _ from nI_add i 1) (by decide) rfl (fun ls hl => ?_)
            refine lv_goto (tgt := 5) hx hb dX4_isVain_86 (by decide) ?_
            exact ihu_1  (i + 1) f  ls (by omega) (by first | omega | assumption) (by rw [foldU_s, ← hf]; simp [vaStep, c_2, c_6, c_7])  (lv_sub hl [1, 0, 3, 4, 5] rfl)
          · skip
            refine lv_aload_n hx hb dX4_isVain_39 rfl (lv_at hl 2 rfl) ?_
            refine lv_iload_n hx hb dX4_isVain_40 rfl (lv_at hl 4 rfl) ?_
            refine lv_iload hx hb dX4_isVain_41 (lv_at hl 1 rfl) ?_
            refine ro_callV F hK [.int (nI t), .int (nI i)] (mc_isLater hP t i (by first | assumption | omega) (by first | assumption | omega)) (cwV 2 F.2.2.2.2 gX4_isVain_X4_isLater rfl rfl rfl (by decide +kernel) ⟨Nat.le_of_ble_eq_true rfl, Nat.le_of_ble_eq_true rfl⟩) (mg_rc hK hP) rfl hl.1 rfl (lv_room (Nat.le_of_ble_eq_true rfl)) ⟨Nat.zero_le _, Nat.zero_le _⟩ dX4_isVain_43 ?_
            refine lw_beq (tgt := 53) hx hb dX4_isVain_46 (by decide) (fun c_8 => ?_) (fun c_8 => ?_)
            · skip
              refine lv_iconst (v := 0) hx hb dX4_isVain_53 (by decide) ?_
              refine lv_istore (lv' := [(5, .int 0), (3, .int f), (4, .int (nI i)), (0, .ref h), (1, .int (nI v)), (2, .int (nI t))]) hx hb dX4_isVain_54 hl (by decide) rfl (fun ls hl => ?_)
              refine lv_iload hx hb dX4_isVain_56 (lv_at hl 0 rfl) ?_
              refine lv_if_eq (tgt := 81) hx hb dX4_isVain_58 (by decide) (fun _ => ?_) (fun z9 => absurd (by decide) z9)
              refine lv_iload_n hx hb dX4_isVain_81 rfl (lv_at hl 1 rfl) ?_
              refine lv_istore_n (lv' := [(3, .int f), (5, .int 0), (4, .int (nI i)), (0, .ref h), (1, .int (nI v)), (2, .int (nI t))]) hx hb dX4_isVain_82 rfl hl (by decide) rfl (fun ls hl => ?_)
              refine lv_iinc (v := nI (i + 1)) (lv' := [(4, .int (nI (i + 1))), (3, .int f), (5, .int 0), (0, .ref h), (1, .int (nI v)), (2, .int (nI t))]) hx hb dX4_isVain_83 hl (k := 2) rfl (show nI i + Int32.ofInt 1 = _ from nI_add i 1) (by decide) rfl (fun ls hl => ?_)
              refine lv_goto (tgt := 5) hx hb dX4_isVain_86 (by decide) ?_
              exact ihu_1  (i + 1) f  ls (by omega) (by first | omega | assumption) (by rw [foldU_s, ← hf]; simp [vaStep, c_2, c_6, c_7, c_8])  (lv_sub hl [1, 0, 3, 4, 5] rfl)
            · skip
              refine lv_iconst (v := 1) hx hb dX4_isVain_49 (by decide) ?_
              refine lv_goto (tgt := 54) hx hb dX4_isVain_50 (by decide) ?_
              refine lv_istore (lv' := [(5, .int 1), (3, .int f), (4, .int (nI i)), (0, .ref h), (1, .int (nI v)), (2, .int (nI t))]) hx hb dX4_isVain_54 hl (by decide) rfl (fun ls hl => ?_)
              refine lv_iload hx hb dX4_isVain_56 (lv_at hl 0 rfl) ?_
              refine lv_if_eq (tgt := 81) hx hb dX4_isVain_58 (by decide) (fun z9 => absurd z9 (by decide)) (fun _ => ?_)
              refine lv_iload_n hx hb dX4_isVain_61 rfl (lv_at hl 1 rfl) ?_
              refine lv_iconst (v := (-1)) hx hb dX4_isVain_62 (by decide) ?_
              refine lv_icmp_eq (tgt := 76) hx hb dX4_isVain_63 (by decide) (fun c_9 => ?_) (fun c_9 => ?_)
              · skip
                refine lv_iload hx hb dX4_isVain_76 (lv_at hl 2 rfl) ?_
                refine lv_goto (tgt := 82) hx hb dX4_isVain_78 (by decide) ?_
                refine lv_istore_n (lv' := [(3, .int (nI i)), (5, .int 1), (4, .int (nI i)), (0, .ref h), (1, .int (nI v)), (2, .int (nI t))]) hx hb dX4_isVain_82 rfl hl (by decide) rfl (fun ls hl => ?_)
                refine lv_iinc (v := nI (i + 1)) (lv' := [(4, .int (nI (i + 1))), (3, .int (nI i)), (5, .int 1), (0, .ref h), (1, .int (nI v)), (2, .int (nI t))]) hx hb dX4_isVain_83 hl (k := 2) rfl (show nI i + Int32.ofInt 1 = _ from nI_add i 1) (by decide) rfl (fun ls hl => ?_)
                refine lv_goto (tgt := 5) hx hb dX4_isVain_86 (by decide) ?_
                exact ihu_1  (i + 1) (nI i)  ls (by omega) (by first | omega | assumption) (by rw [foldU_s, ← hf]; simp [vaStep, c_2, c_6, c_7, c_8, c_9])  (lv_sub hl [1, 0, 3, 4, 5] rfl)
              · skip
                obtain ⟨j_10, hj_10, ej_10⟩ := (show f = -1 ∨ ∃ j, j < i ∧ f = nI j from by rw [hf]; exact va_range a kn v t i).resolve_left (by first | assumption | exact c_9)
                have nj_10 : jn f = j_10 := by rw [ej_10]; exact jn_nI (by omega)
                refine lv_aload_n hx hb dX4_isVain_66 rfl (lv_at hl 3 rfl) ?_
                refine lv_iload hx hb dX4_isVain_67 (lv_at hl 2 rfl) ?_
                refine lv_iload_n hx hb dX4_isVain_69 rfl (lv_at hl 1 rfl) ?_
                refine ro_callV F hK [.int (nI i), .int (nI j_10)] (mc_isLater hP i j_10 (by first | assumption | omega) (by first | assumption | omega)) (cwV 2 F.2.2.2.2 gX4_isVain_X4_isLater rfl rfl rfl (by decide +kernel) ⟨Nat.le_of_ble_eq_true rfl, Nat.le_of_ble_eq_true rfl⟩) (mg_rc hK hP) rfl hl.1 (by first | (rw [ej_10]; done) | (rw [ej_10]; rfl)) (lv_room (Nat.le_of_ble_eq_true rfl)) ⟨Nat.zero_le _, Nat.zero_le _⟩ dX4_isVain_70 ?_
                refine lw_beq (tgt := 81) hx hb dX4_isVain_73 (by decide) (fun c_11 => ?_) (fun c_11 => ?_)
                · skip
                  refine lv_iload_n hx hb dX4_isVain_81 rfl (lv_at hl 1 rfl) ?_
                  refine lv_istore_n (lv' := [(3, .int f), (5, .int 1), (4, .int (nI i)), (0, .ref h), (1, .int (nI v)), (2, .int (nI t))]) hx hb dX4_isVain_82 rfl hl (by decide) rfl (fun ls hl => ?_)
                  refine lv_iinc (v := nI (i + 1)) (lv' := [(4, .int (nI (i + 1))), (3, .int f), (5, .int 1), (0, .ref h), (1, .int (nI v)), (2, .int (nI t))]) hx hb dX4_isVain_83 hl (k := 2) rfl (show nI i + Int32.ofInt 1 = _ from nI_add i 1) (by decide) rfl (fun ls hl => ?_)
                  refine lv_goto (tgt := 5) hx hb dX4_isVain_86 (by decide) ?_
                  exact ihu_1  (i + 1) f  ls (by omega) (by first | omega | assumption) (by rw [foldU_s, ← hf]; simp [vaStep, c_2, c_6, c_7, c_8, c_9, nj_10, c_11])  (lv_sub hl [1, 0, 3, 4, 5] rfl)
                · skip
                  refine lv_iload hx hb dX4_isVain_76 (lv_at hl 2 rfl) ?_
                  refine lv_goto (tgt := 82) hx hb dX4_isVain_78 (by decide) ?_
                  refine lv_istore_n (lv' := [(3, .int (nI i)), (5, .int 1), (4, .int (nI i)), (0, .ref h), (1, .int (nI v)), (2, .int (nI t))]) hx hb dX4_isVain_82 rfl hl (by decide) rfl (fun ls hl => ?_)
                  refine lv_iinc (v := nI (i + 1)) (lv' := [(4, .int (nI (i + 1))), (3, .int (nI i)), (5, .int 1), (0, .ref h), (1, .int (nI v)), (2, .int (nI t))]) hx hb dX4_isVain_83 hl (k := 2) rfl (show nI i + Int32.ofInt 1 = _ from nI_add i 1) (by decide) rfl (fun ls hl => ?_)
                  refine lv_goto (tgt := 5) hx hb dX4_isVain_86 (by decide) ?_
                  exact ihu_1  (i + 1) (nI i)  ls (by omega) (by first | omega | assumption) (by rw [foldU_s, ← hf]; simp [vaStep, c_2, c_6, c_7, c_8, c_9, nj_10, c_11])  (lv_sub hl [1, 0, 3, 4, 5] rfl)
  exact L5_u_1 _ 0 (-1)  ls (Nat.lt_succ_self _) (by first | omega | assumption) (rfl)  (lv_sub hl [1, 0, 2, 3, 4] rfl)
set_option maxHeartbeats 4000000 in
set_option maxRecDepth 100000 in
theorem mc_countOf {l : Launch} {D : va_G} {cI cZ : ClassId} {h : Nat} {q : Nat → Nat} {n cm : Nat} {th : Int32} {lm : Nat} {a : Nat → Nat → Int32} {kn : Nat → Bool} {H : Heap} (hP : va_P D vwCl (mW h q cI cZ n cm th lm a kn) H) (v : Nat) (fo : Nat) (hv : v ≤ 5) (hn : n ≤ 240) (hfo : fo < 8) : ro_Met l yX4_countOf wsX4_countOf 3 71 D (mT cI cZ) H [.ref h, .int (nI v), .int (nI fo)] (nI (countB a kn n v fo)) := by
  refine ro_start rfl (by decide +kernel) (Nat.le_of_ble_eq_true rfl) (fun p e s m below meth c F hr hlocks hK ls hl => ?_)
  have hl : lv_has ls 5 [(0, .ref h), (1, .int (nI v)), (2, .int (nI fo))] := hl
  have hx := F.1
  have hb := F.2.1
  have hin : ∀ w ∈ wsX40, w ∈ wsX4_countOf := fun _ z => List.mem_cons_of_mem _ (List.mem_append_right _ z)
  refine lv_iconst (v := 0) hx hb dX4_countOf_0 (by decide) ?_
  refine lv_istore_n (lv' := [(3, .int 0), (0, .ref h), (1, .int (nI v)), (2, .int (nI fo))]) hx hb dX4_countOf_1 rfl hl (by decide) rfl (fun ls hl => ?_)
  refine lv_iload_n hx hb dX4_countOf_2 rfl (lv_at hl 3 rfl) ?_
  refine lv_istore (lv' := [(4, .int (nI fo)), (3, .int 0), (0, .ref h), (1, .int (nI v)), (2, .int (nI fo))]) hx hb dX4_countOf_3 hl (by decide) rfl (fun ls hl => ?_)
  have L5_u_1 : ∀ (k9u_1 : Nat) (t : Nat) (y : Nat) (i : Nat) (ls : Array Slot), 5 - i < k9u_1 → i ≤ 5 → t = fo + 8 * i → y = foldU (cnStep a kn n v fo) 0 i → lv_has ls 5 [(3, .int (nI y)), (4, .int (nI t)), (0, .ref h), (1, .int (nI v)), (2, .int (nI fo))] → roW p l e 3 71 s m [.ref h, .int (nI v), .int (nI fo)] below meth c H (nI (countB a kn n v fo)) (F0 m 5 ls []) := by
    intro k9u_1
    induction k9u_1 with
    | zero => intro t y i ls hk; exact absurd hk (Nat.not_lt_zero _)
    | succ k9u_1 ihu_1 =>
      intro t y i ls hk hi ht hf  hl
      refine lv_iload hx hb dX4_countOf_5 (lv_at hl 1 rfl) ?_
      refine lv_bipush (v := 40) hx hb dX4_countOf_7 (by decide) ?_
      refine lw_ge (tgt := 37) hx hb t 40 (by omega) (by omega) dX4_countOf_9 (by decide) (fun c_2 => ?_) (fun c_2 => ?_)
      · skip
        refine lv_iload_n hx hb dX4_countOf_37 rfl (lv_at hl 0 rfl) ?_
        exact ro_reti F hr hlocks (by rw [hf, show i = 5 by omega]; rfl) dX4_countOf_38
      · skip
        refine lv_iload_n hx hb dX4_countOf_12 rfl (lv_at hl 0 rfl) ?_
        refine lv_aload_n hx hb dX4_countOf_13 rfl (lv_at hl 2 rfl) ?_
        refine lv_iload_n hx hb dX4_countOf_14 rfl (lv_at hl 3 rfl) ?_
        refine lv_iload hx hb dX4_countOf_15 (lv_at hl 1 rfl) ?_
        refine ro_callV F hK [.int (nI v), .int (nI t)] (mc_placeOf hP v (nI t) (by first | assumption | omega) (by first | assumption | omega)) (cwV 2 F.2.2.2.2 gX4_countOf_X4_placeOf rfl rfl rfl (by decide +kernel) ⟨Nat.le_of_ble_eq_true rfl, Nat.le_of_ble_eq_true rfl⟩) (mg_rc hK hP) rfl hl.1 rfl (lv_room (Nat.le_of_ble_eq_true rfl)) ⟨Nat.zero_le _, Nat.zero_le _⟩ dX4_countOf_17 ?_
        refine lv_iconst (v := (-1)) hx hb dX4_countOf_20 (by decide) ?_
        refine lv_icmp_eq (tgt := 28) hx hb dX4_countOf_21 (by decide) (fun c_3 => ?_) (fun c_3 => ?_)
        · skip
          refine lv_iconst (v := 0) hx hb dX4_countOf_28 (by decide) ?_
          refine lw_add hx hb (i := y) (j := 0) dX4_countOf_29 ?_
          refine lv_istore_n (lv' := [(3, .int (nI (y + 0))), (4, .int (nI t)), (0, .ref h), (1, .int (nI v)), (2, .int (nI fo))]) hx hb dX4_countOf_30 rfl hl (by decide) rfl (fun ls hl => ?_)
          refine lv_iinc (v := nI (t + 8)) (lv' := [(4, .int (nI (t + 8))), (3, .int (nI (y + 0))), (0, .ref h), (1, .int (nI v)), (2, .int (nI fo))]) hx hb dX4_countOf_31 hl (k := 1) rfl (show nI t + Int32.ofInt 8 = _ from nI_add t 8) (by decide) rfl (fun ls hl => ?_)
          refine lv_goto (tgt := 5) hx hb dX4_countOf_34 (by decide) ?_
          exact ihu_1  (t + 8) (y + 0) (i + 1)  ls (by omega) (by first | omega | assumption) (by first | omega | assumption) (by rw [foldU_s, ← hf]; subst ht; simp [cnStep, c_2, c_3])  (lv_sub hl [1, 0, 2, 3, 4] rfl)
        · skip
          refine lv_iconst (v := 1) hx hb dX4_countOf_24 (by decide) ?_
          refine lv_goto (tgt := 29) hx hb dX4_countOf_25 (by decide) ?_
          refine lw_add hx hb (i := y) (j := 1) dX4_countOf_29 ?_
          refine lv_istore_n (lv' := [(3, .int (nI (y + 1))), (4, .int (nI t)), (0, .ref h), (1, .int (nI v)), (2, .int (nI fo))]) hx hb dX4_countOf_30 rfl hl (by decide) rfl (fun ls hl => ?_)
          refine lv_iinc (v := nI (t + 8)) (lv' := [(4, .int (nI (t + 8))), (3, .int (nI (y + 1))), (0, .ref h), (1, .int (nI v)), (2, .int (nI fo))]) hx hb dX4_countOf_31 hl (k := 1) rfl (show nI t + Int32.ofInt 8 = _ from nI_add t 8) (by decide) rfl (fun ls hl => ?_)
          refine lv_goto (tgt := 5) hx hb dX4_countOf_34 (by decide) ?_
          exact ihu_1  (t + 8) (y + 1) (i + 1)  ls (by omega) (by first | omega | assumption) (by first | omega | assumption) (by rw [foldU_s, ← hf]; subst ht; simp [cnStep, c_2, c_3])  (lv_sub hl [1, 0, 2, 3, 4] rfl)
  exact L5_u_1 _ fo 0 0  ls (Nat.lt_succ_self _) (by first | omega | assumption) (by first | omega | assumption) (rfl)  (lv_sub hl [1, 0, 2, 3, 4] rfl)
set_option maxHeartbeats 4000000 in
set_option maxRecDepth 100000 in
theorem mc_isFull {l : Launch} {D : va_G} {cI cZ : ClassId} {h : Nat} {q : Nat → Nat} {n cm : Nat} {th : Int32} {lm : Nat} {a : Nat → Nat → Int32} {kn : Nat → Bool} {H : Heap} (hP : va_P D vwCl (mW h q cI cZ n cm th lm a kn) H) (k : Nat) (hn : n ≤ 240) (hk : k ≤ 1000) : ro_Met l yX4_isFull wsX4_isFull 0 0 D (mT cI cZ) H [.ref h, .int (nI k)] (bI (fullB n k)) := by
  refine ro_start rfl (by decide +kernel) (Nat.le_of_ble_eq_true rfl) (fun p e s m below meth c F hr hlocks hK ls hl => ?_)
  have hl : lv_has ls 2 [(0, .ref h), (1, .int (nI k))] := hl
  have hx := F.1
  have hb := F.2.1
  have hin : ∀ w ∈ wsX40, w ∈ wsX4_isFull := fun _ z => List.mem_cons_of_mem _ (List.mem_append_right _ z)
  refine lv_aload_n hx hb dX4_isFull_0 rfl (lv_at hl 0 rfl) ?_
  refine mg_get F hK hin hP 0 (by decide) (by decide +kernel) rfl dX4_isFull_1 ?_
  refine lv_iload_n hx hb dX4_isFull_4 rfl (lv_at hl 1 rfl) ?_
  refine lw_add hx hb (i := n) (j := k) dX4_isFull_5 ?_
  refine lv_sipush (v := 240) hx hb dX4_isFull_6 (by decide) ?_
  refine lw_le (tgt := 16) hx hb (n + k) 240 (by omega) (by omega) dX4_isFull_9 (by decide) (fun c_1 => ?_) (fun c_1 => ?_)
  · skip
    refine lv_iconst (v := 0) hx hb dX4_isFull_16 (by decide) ?_
    exact ro_retz F hr hlocks (by simp [fullB, bI]; omega) dX4_isFull_17
  · skip
    refine lv_iconst (v := 1) hx hb dX4_isFull_12 (by decide) ?_
    refine lv_goto (tgt := 17) hx hb dX4_isFull_13 (by decide) ?_
    exact ro_retz F hr hlocks (by simp [fullB, bI]; omega) dX4_isFull_17
