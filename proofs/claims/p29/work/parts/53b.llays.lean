/-! no machine: what lays writes, word by word -/
section LLAYS
variable {n cm : Nat} {a : Nat → Nat → Int32} {kn : Nat → Bool} {os : List Nat} {v : Nat} {F : FF}
def lst (F : FF) (kn : Nat → Bool) (v : Nat) (z : FF × Nat) (i : Nat) : FF × Nat := if kn (6 * i + v) then lyS F z i else z
theorem ly_os (F : FF) (kn : Nat → Bool) (v : Nat) (os : List Nat) (z : FF × Nat) : (knL kn v os).foldl (lyS F) z = os.foldl (lst F kn v) z := by
  unfold knL lst
  rw [List.foldl_filter]
theorem x1_sub (x : Int32) : x + 1 - 1 = x := by
  rw [Int32.sub_eq_add_neg, Int32.add_assoc, Int32.add_right_neg, Int32.add_zero]
theorem pl1_0 (x : Int32) : x + 1 = 0 ↔ x = -1 := by
  constructor
  · intro h
    have := x1_sub x
    rw [h] at this
    rw [← this]; decide
  · intro h; rw [h]; decide

theorem lp_8 (T : tInv n cm a kn) (E : lT n cm a kn F) (z : FF × Nat) {i : Nat} (hi : i < n) {t : Nat} (ht : t < 40) : (lst F kn v z i).1 8 t = if pmv a kn v t i then (if a 1 i = 0 then a 2 i + 1 else 0) else z.1 8 t := by
  have hcm := E.cm10
  obtain ⟨d1, d2, d3, d4, d5⟩ := lw_dec T E hi
  unfold lst
  cases hk : kn (6 * i + v) with
  | false => simp [pmv, hk]
  | true =>
    rw [if_pos rfl]
    rcases T.kind i hi with ⟨h, q', hq', e⟩ | ⟨h, ⟨q', hq', e⟩, e5⟩ | ⟨h, q', hq', e⟩ | ⟨h, q', hq', e, -⟩ | ⟨h, ⟨q', hq', e⟩, e5⟩ | ⟨h, q', hq', e⟩ | ⟨h, q', hq', e⟩
    · have k9 : kd F i = 0 := by rw [d4, h]; rfl
      have i9 : it F i = q' := by rw [d5, e]; exact jn_nI (by omega)
      unfold lyS
      rw [k9, i9]
      have j2 : nI q' = nI t ↔ q' = t := nI_eq (by omega) (by omega)
      by_cases q : t = q'
      · subst q; simp [upA_at, pmv, isMoveB, hk, h, e, d3]
      · have q2 : ¬ q' = t := fun z => q z.symm
        simp [upA_at, pmv, isMoveB, hk, h, e, j2, q, q2, d3]
    · have k9 : kd F i = 1 := by rw [d4, h]; rfl
      have i9 : it F i = q' := by rw [d5, e]; exact jn_nI (by omega)
      unfold lyS
      rw [k9, i9]
      have j2 : nI q' = nI t ↔ q' = t := nI_eq (by omega) (by omega)
      by_cases q : t = q'
      · subst q; simp [upA_at, pmv, isMoveB, hk, h, e, d3]
      · have q2 : ¬ q' = t := fun z => q z.symm
        simp [upA_at, pmv, isMoveB, hk, h, e, j2, q, q2, d3]
    · have k9 : kd F i = 2 := by rw [d4, h]; rfl
      have i9 : it F i = q' := by rw [d5, e]; exact jn_nI (by omega)
      unfold lyS
      rw [k9, i9]
      simp [upA_at, h, hk, pmv, isMoveB]
    · have k9 : kd F i = 3 := by rw [d4, h]; rfl
      have i9 : it F i = q' := by rw [d5, e]; exact jn_nI (by omega)
      unfold lyS
      rw [k9, i9]
      simp [upA_at, h, hk, pmv, isMoveB]
    · have k9 : kd F i = 4 := by rw [d4, h]; rfl
      have i9 : it F i = q' := by rw [d5, e]; exact jn_nI (by omega)
      unfold lyS
      rw [k9, i9]
      simp [upA_at, h, hk, pmv, isMoveB]
    · have k9 : kd F i = 5 := by rw [d4, h]; rfl
      have i9 : it F i = q' := by rw [d5, e]; exact jn_nI (by omega)
      unfold lyS
      rw [k9, i9]
      simp [upA_at, h, hk, pmv, isMoveB]
    · have k9 : kd F i = 6 := by rw [d4, h]; rfl
      have i9 : it F i = q' := by rw [d5, e]; exact jn_nI (by omega)
      unfold lyS
      rw [k9, i9]
      simp [upA_at, h, hk, pmv, isMoveB]
theorem lp_pl (T : tInv n cm a kn) (E : lT n cm a kn F) (z : FF × Nat) {i : Nat} (hi : i < n)  : (lst F kn v z i).2 = if kn (6 * i + v) && decide (a 1 i = 3) then z.2 + 1 else z.2 := by
  have hcm := E.cm10
  obtain ⟨d1, d2, d3, d4, d5⟩ := lw_dec T E hi
  unfold lst
  cases hk : kn (6 * i + v) with
  | false => simp [pmv, hk]
  | true =>
    rw [if_pos rfl]
    rcases T.kind i hi with ⟨h, q', hq', e⟩ | ⟨h, ⟨q', hq', e⟩, e5⟩ | ⟨h, q', hq', e⟩ | ⟨h, q', hq', e, -⟩ | ⟨h, ⟨q', hq', e⟩, e5⟩ | ⟨h, q', hq', e⟩ | ⟨h, q', hq', e⟩
    · have k9 : kd F i = 0 := by rw [d4, h]; rfl
      have i9 : it F i = q' := by rw [d5, e]; exact jn_nI (by omega)
      unfold lyS
      rw [k9, i9]
      simp [upA_at, h, hk, pmv, isMoveB]
    · have k9 : kd F i = 1 := by rw [d4, h]; rfl
      have i9 : it F i = q' := by rw [d5, e]; exact jn_nI (by omega)
      unfold lyS
      rw [k9, i9]
      simp [upA_at, h, hk, pmv, isMoveB]
    · have k9 : kd F i = 2 := by rw [d4, h]; rfl
      have i9 : it F i = q' := by rw [d5, e]; exact jn_nI (by omega)
      unfold lyS
      rw [k9, i9]
      simp [upA_at, h, hk, pmv, isMoveB]
    · have k9 : kd F i = 3 := by rw [d4, h]; rfl
      have i9 : it F i = q' := by rw [d5, e]; exact jn_nI (by omega)
      unfold lyS
      rw [k9, i9]
      simp [upA_at, h, hk, pmv, isMoveB]
    · have k9 : kd F i = 4 := by rw [d4, h]; rfl
      have i9 : it F i = q' := by rw [d5, e]; exact jn_nI (by omega)
      unfold lyS
      rw [k9, i9]
      simp [upA_at, h, hk, pmv, isMoveB]
    · have k9 : kd F i = 5 := by rw [d4, h]; rfl
      have i9 : it F i = q' := by rw [d5, e]; exact jn_nI (by omega)
      unfold lyS
      rw [k9, i9]
      simp [upA_at, h, hk, pmv, isMoveB]
    · have k9 : kd F i = 6 := by rw [d4, h]; rfl
      have i9 : it F i = q' := by rw [d5, e]; exact jn_nI (by omega)
      unfold lyS
      rw [k9, i9]
      simp [upA_at, h, hk, pmv, isMoveB]
theorem lp_12 (T : tInv n cm a kn) (E : lT n cm a kn F) (z : FF × Nat) {i : Nat} (hi : i < n) {k : Nat} (hkc : k < cm) : (lst F kn v z i).1 10 (12 + k) = if kn (6 * i + v) && decide (a 1 i = 3) && decide (a 4 i = nI k) then nI z.2 else z.1 10 (12 + k) := by
  have hcm := E.cm10
  obtain ⟨d1, d2, d3, d4, d5⟩ := lw_dec T E hi
  unfold lst
  cases hk : kn (6 * i + v) with
  | false => simp [pmv, hk]
  | true =>
    rw [if_pos rfl]
    rcases T.kind i hi with ⟨h, q', hq', e⟩ | ⟨h, ⟨q', hq', e⟩, e5⟩ | ⟨h, q', hq', e⟩ | ⟨h, q', hq', e, -⟩ | ⟨h, ⟨q', hq', e⟩, e5⟩ | ⟨h, q', hq', e⟩ | ⟨h, q', hq', e⟩
    · have k9 : kd F i = 0 := by rw [d4, h]; rfl
      have i9 : it F i = q' := by rw [d5, e]; exact jn_nI (by omega)
      unfold lyS
      rw [k9, i9]
      simp [upA_at, h, hk, pmv, isMoveB]
    · have k9 : kd F i = 1 := by rw [d4, h]; rfl
      have i9 : it F i = q' := by rw [d5, e]; exact jn_nI (by omega)
      unfold lyS
      rw [k9, i9]
      have g0 : ¬ 12 + k = 11 := by omega
      simp [upA_at, h, g0]
    · have k9 : kd F i = 2 := by rw [d4, h]; rfl
      have i9 : it F i = q' := by rw [d5, e]; exact jn_nI (by omega)
      unfold lyS
      rw [k9, i9]
      have g0 : ¬ 12 + k = q' := by omega
      simp [upA_at, h, g0]
    · have k9 : kd F i = 3 := by rw [d4, h]; rfl
      have i9 : it F i = q' := by rw [d5, e]; exact jn_nI (by omega)
      unfold lyS
      rw [k9, i9]
      have j2 : nI q' = nI k ↔ q' = k := nI_eq (by omega) (by omega)
      have g0 : ¬ 12 + k = 8 := by omega
      by_cases q : k = q'
      · subst q; simp [upA_at, hk, h, e]
      · have q2 : ¬ q' = k := fun z => q z.symm
        simp [upA_at, hk, h, e, j2, q, q2, g0]
    · have k9 : kd F i = 4 := by rw [d4, h]; rfl
      have i9 : it F i = q' := by rw [d5, e]; exact jn_nI (by omega)
      unfold lyS
      rw [k9, i9]
      simp [upA_at, h, hk, pmv, isMoveB]
    · have k9 : kd F i = 5 := by rw [d4, h]; rfl
      have i9 : it F i = q' := by rw [d5, e]; exact jn_nI (by omega)
      unfold lyS
      rw [k9, i9]
      have g0 : ¬ 12 + k = 9 := by omega
      simp [upA_at, h, g0]
    · have k9 : kd F i = 6 := by rw [d4, h]; rfl
      have i9 : it F i = q' := by rw [d5, e]; exact jn_nI (by omega)
      unfold lyS
      rw [k9, i9]
      have g0 : ¬ 12 + k = 10 := by omega
      simp [upA_at, h, g0]
theorem lp_g (T : tInv n cm a kn) (E : lT n cm a kn F) (z : FF × Nat) {i : Nat} (hi : i < n) {g : Nat} (hg : g < 8) : (lst F kn v z i).1 10 g = if kn (6 * i + v) && decide (a 1 i = 2) && decide (a 4 i = nI g) then nI (i + 1) else z.1 10 g := by
  have hcm := E.cm10
  obtain ⟨d1, d2, d3, d4, d5⟩ := lw_dec T E hi
  unfold lst
  cases hk : kn (6 * i + v) with
  | false => simp [pmv, hk]
  | true =>
    rw [if_pos rfl]
    rcases T.kind i hi with ⟨h, q', hq', e⟩ | ⟨h, ⟨q', hq', e⟩, e5⟩ | ⟨h, q', hq', e⟩ | ⟨h, q', hq', e, -⟩ | ⟨h, ⟨q', hq', e⟩, e5⟩ | ⟨h, q', hq', e⟩ | ⟨h, q', hq', e⟩
    · have k9 : kd F i = 0 := by rw [d4, h]; rfl
      have i9 : it F i = q' := by rw [d5, e]; exact jn_nI (by omega)
      unfold lyS
      rw [k9, i9]
      simp [upA_at, h, hk, pmv, isMoveB]
    · have k9 : kd F i = 1 := by rw [d4, h]; rfl
      have i9 : it F i = q' := by rw [d5, e]; exact jn_nI (by omega)
      unfold lyS
      rw [k9, i9]
      have g0 : ¬ g = 11 := by omega
      simp [upA_at, h, g0]
    · have k9 : kd F i = 2 := by rw [d4, h]; rfl
      have i9 : it F i = q' := by rw [d5, e]; exact jn_nI (by omega)
      unfold lyS
      rw [k9, i9]
      have j2 : nI q' = nI g ↔ q' = g := nI_eq (by omega) (by omega)
      by_cases q : g = q'
      · subst q; simp [upA_at, pmv, isMoveB, hk, h, e, d3]
      · have q2 : ¬ q' = g := fun z => q z.symm
        simp [upA_at, pmv, isMoveB, hk, h, e, j2, q, q2, d3]
    · have k9 : kd F i = 3 := by rw [d4, h]; rfl
      have i9 : it F i = q' := by rw [d5, e]; exact jn_nI (by omega)
      unfold lyS
      rw [k9, i9]
      have g0 : ¬ g = 8 := by omega
      have g1 : ¬ g = 12 + q' := by omega
      simp [upA_at, h, g0, g1]
    · have k9 : kd F i = 4 := by rw [d4, h]; rfl
      have i9 : it F i = q' := by rw [d5, e]; exact jn_nI (by omega)
      unfold lyS
      rw [k9, i9]
      simp [upA_at, h, hk, pmv, isMoveB]
    · have k9 : kd F i = 5 := by rw [d4, h]; rfl
      have i9 : it F i = q' := by rw [d5, e]; exact jn_nI (by omega)
      unfold lyS
      rw [k9, i9]
      have g0 : ¬ g = 9 := by omega
      simp [upA_at, h, g0]
    · have k9 : kd F i = 6 := by rw [d4, h]; rfl
      have i9 : it F i = q' := by rw [d5, e]; exact jn_nI (by omega)
      unfold lyS
      rw [k9, i9]
      have g0 : ¬ g = 10 := by omega
      simp [upA_at, h, g0]
theorem lp_s8 (T : tInv n cm a kn) (E : lT n cm a kn F) (z : FF × Nat) {i : Nat} (hi : i < n)  : (lst F kn v z i).1 10 8 = if kn (6 * i + v) && decide (a 1 i = 3) then z.1 10 8 ||| ((1 : Int32) <<< (a 4 i &&& 31)) else z.1 10 8 := by
  have hcm := E.cm10
  obtain ⟨d1, d2, d3, d4, d5⟩ := lw_dec T E hi
  unfold lst
  cases hk : kn (6 * i + v) with
  | false => simp [pmv, hk]
  | true =>
    rw [if_pos rfl]
    rcases T.kind i hi with ⟨h, q', hq', e⟩ | ⟨h, ⟨q', hq', e⟩, e5⟩ | ⟨h, q', hq', e⟩ | ⟨h, q', hq', e, -⟩ | ⟨h, ⟨q', hq', e⟩, e5⟩ | ⟨h, q', hq', e⟩ | ⟨h, q', hq', e⟩
    · have k9 : kd F i = 0 := by rw [d4, h]; rfl
      have i9 : it F i = q' := by rw [d5, e]; exact jn_nI (by omega)
      unfold lyS
      rw [k9, i9]
      simp [upA_at, h, hk, pmv, isMoveB]
    · have k9 : kd F i = 1 := by rw [d4, h]; rfl
      have i9 : it F i = q' := by rw [d5, e]; exact jn_nI (by omega)
      unfold lyS
      rw [k9, i9]
      simp [upA_at, h]
    · have k9 : kd F i = 2 := by rw [d4, h]; rfl
      have i9 : it F i = q' := by rw [d5, e]; exact jn_nI (by omega)
      unfold lyS
      rw [k9, i9]
      have g0 : ¬ 8 = q' := by omega
      simp [upA_at, h, g0]
    · have k9 : kd F i = 3 := by rw [d4, h]; rfl
      have i9 : it F i = q' := by rw [d5, e]; exact jn_nI (by omega)
      unfold lyS
      rw [k9, i9]
      have g1 : ¬ 8 = 12 + q' := by omega
      simp [upA_at, h, g1, e]
    · have k9 : kd F i = 4 := by rw [d4, h]; rfl
      have i9 : it F i = q' := by rw [d5, e]; exact jn_nI (by omega)
      unfold lyS
      rw [k9, i9]
      simp [upA_at, h, hk, pmv, isMoveB]
    · have k9 : kd F i = 5 := by rw [d4, h]; rfl
      have i9 : it F i = q' := by rw [d5, e]; exact jn_nI (by omega)
      unfold lyS
      rw [k9, i9]
      simp [upA_at, h, e]
    · have k9 : kd F i = 6 := by rw [d4, h]; rfl
      have i9 : it F i = q' := by rw [d5, e]; exact jn_nI (by omega)
      unfold lyS
      rw [k9, i9]
      simp [upA_at, h, e]
theorem lp_s9 (T : tInv n cm a kn) (E : lT n cm a kn F) (z : FF × Nat) {i : Nat} (hi : i < n)  : (lst F kn v z i).1 10 9 = if kn (6 * i + v) && decide (a 1 i = 5) then z.1 10 9 ||| ((1 : Int32) <<< (a 4 i &&& 31)) else z.1 10 9 := by
  have hcm := E.cm10
  obtain ⟨d1, d2, d3, d4, d5⟩ := lw_dec T E hi
  unfold lst
  cases hk : kn (6 * i + v) with
  | false => simp [pmv, hk]
  | true =>
    rw [if_pos rfl]
    rcases T.kind i hi with ⟨h, q', hq', e⟩ | ⟨h, ⟨q', hq', e⟩, e5⟩ | ⟨h, q', hq', e⟩ | ⟨h, q', hq', e, -⟩ | ⟨h, ⟨q', hq', e⟩, e5⟩ | ⟨h, q', hq', e⟩ | ⟨h, q', hq', e⟩
    · have k9 : kd F i = 0 := by rw [d4, h]; rfl
      have i9 : it F i = q' := by rw [d5, e]; exact jn_nI (by omega)
      unfold lyS
      rw [k9, i9]
      simp [upA_at, h, hk, pmv, isMoveB]
    · have k9 : kd F i = 1 := by rw [d4, h]; rfl
      have i9 : it F i = q' := by rw [d5, e]; exact jn_nI (by omega)
      unfold lyS
      rw [k9, i9]
      simp [upA_at, h]
    · have k9 : kd F i = 2 := by rw [d4, h]; rfl
      have i9 : it F i = q' := by rw [d5, e]; exact jn_nI (by omega)
      unfold lyS
      rw [k9, i9]
      have g0 : ¬ 9 = q' := by omega
      simp [upA_at, h, g0]
    · have k9 : kd F i = 3 := by rw [d4, h]; rfl
      have i9 : it F i = q' := by rw [d5, e]; exact jn_nI (by omega)
      unfold lyS
      rw [k9, i9]
      have g1 : ¬ 9 = 12 + q' := by omega
      simp [upA_at, h, g1, e]
    · have k9 : kd F i = 4 := by rw [d4, h]; rfl
      have i9 : it F i = q' := by rw [d5, e]; exact jn_nI (by omega)
      unfold lyS
      rw [k9, i9]
      simp [upA_at, h, hk, pmv, isMoveB]
    · have k9 : kd F i = 5 := by rw [d4, h]; rfl
      have i9 : it F i = q' := by rw [d5, e]; exact jn_nI (by omega)
      unfold lyS
      rw [k9, i9]
      simp [upA_at, h, e]
    · have k9 : kd F i = 6 := by rw [d4, h]; rfl
      have i9 : it F i = q' := by rw [d5, e]; exact jn_nI (by omega)
      unfold lyS
      rw [k9, i9]
      simp [upA_at, h, e]
theorem lp_s10 (T : tInv n cm a kn) (E : lT n cm a kn F) (z : FF × Nat) {i : Nat} (hi : i < n)  : (lst F kn v z i).1 10 10 = if kn (6 * i + v) && decide (a 1 i = 6) then z.1 10 10 ||| ((1 : Int32) <<< (a 4 i &&& 31)) else z.1 10 10 := by
  have hcm := E.cm10
  obtain ⟨d1, d2, d3, d4, d5⟩ := lw_dec T E hi
  unfold lst
  cases hk : kn (6 * i + v) with
  | false => simp [pmv, hk]
  | true =>
    rw [if_pos rfl]
    rcases T.kind i hi with ⟨h, q', hq', e⟩ | ⟨h, ⟨q', hq', e⟩, e5⟩ | ⟨h, q', hq', e⟩ | ⟨h, q', hq', e, -⟩ | ⟨h, ⟨q', hq', e⟩, e5⟩ | ⟨h, q', hq', e⟩ | ⟨h, q', hq', e⟩
    · have k9 : kd F i = 0 := by rw [d4, h]; rfl
      have i9 : it F i = q' := by rw [d5, e]; exact jn_nI (by omega)
      unfold lyS
      rw [k9, i9]
      simp [upA_at, h, hk, pmv, isMoveB]
    · have k9 : kd F i = 1 := by rw [d4, h]; rfl
      have i9 : it F i = q' := by rw [d5, e]; exact jn_nI (by omega)
      unfold lyS
      rw [k9, i9]
      simp [upA_at, h]
    · have k9 : kd F i = 2 := by rw [d4, h]; rfl
      have i9 : it F i = q' := by rw [d5, e]; exact jn_nI (by omega)
      unfold lyS
      rw [k9, i9]
      have g0 : ¬ 10 = q' := by omega
      simp [upA_at, h, g0]
    · have k9 : kd F i = 3 := by rw [d4, h]; rfl
      have i9 : it F i = q' := by rw [d5, e]; exact jn_nI (by omega)
      unfold lyS
      rw [k9, i9]
      have g1 : ¬ 10 = 12 + q' := by omega
      simp [upA_at, h, g1, e]
    · have k9 : kd F i = 4 := by rw [d4, h]; rfl
      have i9 : it F i = q' := by rw [d5, e]; exact jn_nI (by omega)
      unfold lyS
      rw [k9, i9]
      simp [upA_at, h, hk, pmv, isMoveB]
    · have k9 : kd F i = 5 := by rw [d4, h]; rfl
      have i9 : it F i = q' := by rw [d5, e]; exact jn_nI (by omega)
      unfold lyS
      rw [k9, i9]
      simp [upA_at, h, e]
    · have k9 : kd F i = 6 := by rw [d4, h]; rfl
      have i9 : it F i = q' := by rw [d5, e]; exact jn_nI (by omega)
      unfold lyS
      rw [k9, i9]
      simp [upA_at, h, e]
theorem lp_w (T : tInv n cm a kn) (E : lT n cm a kn F) (z : FF × Nat) {i : Nat} (hi : i < n) {t : Nat} (ht : t < 40) : (lst F kn v z i).1 9 t = if kn (6 * i + v) && decide (a 1 i = 4) && decide (a 4 i = nI t) then z.1 9 t ||| ((1 : Int32) <<< (a 5 i &&& 31)) else z.1 9 t := by
  have hcm := E.cm10
  obtain ⟨d1, d2, d3, d4, d5⟩ := lw_dec T E hi
  unfold lst
  cases hk : kn (6 * i + v) with
  | false => simp [pmv, hk]
  | true =>
    rw [if_pos rfl]
    rcases T.kind i hi with ⟨h, q', hq', e⟩ | ⟨h, ⟨q', hq', e⟩, e5⟩ | ⟨h, q', hq', e⟩ | ⟨h, q', hq', e, -⟩ | ⟨h, ⟨q', hq', e⟩, e5⟩ | ⟨h, q', hq', e⟩ | ⟨h, q', hq', e⟩
    · have k9 : kd F i = 0 := by rw [d4, h]; rfl
      have i9 : it F i = q' := by rw [d5, e]; exact jn_nI (by omega)
      unfold lyS
      rw [k9, i9]
      simp [upA_at, h, hk, pmv, isMoveB]
    · have k9 : kd F i = 1 := by rw [d4, h]; rfl
      have i9 : it F i = q' := by rw [d5, e]; exact jn_nI (by omega)
      unfold lyS
      rw [k9, i9]
      simp [upA_at, h, hk, pmv, isMoveB]
    · have k9 : kd F i = 2 := by rw [d4, h]; rfl
      have i9 : it F i = q' := by rw [d5, e]; exact jn_nI (by omega)
      unfold lyS
      rw [k9, i9]
      simp [upA_at, h, hk, pmv, isMoveB]
    · have k9 : kd F i = 3 := by rw [d4, h]; rfl
      have i9 : it F i = q' := by rw [d5, e]; exact jn_nI (by omega)
      unfold lyS
      rw [k9, i9]
      simp [upA_at, h, hk, pmv, isMoveB]
    · have k9 : kd F i = 4 := by rw [d4, h]; rfl
      have i9 : it F i = q' := by rw [d5, e]; exact jn_nI (by omega)
      unfold lyS
      rw [k9, i9]
      have f4 : F 4 i - 1 = a 5 i := by rw [E.f4 i hi (by rw [h]; decide)]; exact x1_sub _
      have j2 : nI q' = nI t ↔ q' = t := nI_eq (by omega) (by omega)
      by_cases q : t = q'
      · subst q; simp [upA_at, pmv, isMoveB, hk, h, e, d3, f4]
      · have q2 : ¬ q' = t := fun z => q z.symm
        simp [upA_at, pmv, isMoveB, hk, h, e, j2, q, q2, d3, f4]
    · have k9 : kd F i = 5 := by rw [d4, h]; rfl
      have i9 : it F i = q' := by rw [d5, e]; exact jn_nI (by omega)
      unfold lyS
      rw [k9, i9]
      simp [upA_at, h, hk, pmv, isMoveB]
    · have k9 : kd F i = 6 := by rw [d4, h]; rfl
      have i9 : it F i = q' := by rw [d5, e]; exact jn_nI (by omega)
      unfold lyS
      rw [k9, i9]
      simp [upA_at, h, hk, pmv, isMoveB]
theorem lp_11 (T : tInv n cm a kn) (E : lT n cm a kn F) (z : FF × Nat) {i : Nat} (hi : i < n)  : (lst F kn v z i).1 10 11 = if kn (6 * i + v) && decide (a 1 i = 1) then (if a 5 i = -1 then z.1 10 11 else if z.1 8 (jn (a 4 i)) = 0 then z.1 10 11 ||| ((1 : Int32) <<< (a 5 i &&& 31)) else z.1 10 11) else z.1 10 11 := by
  have hcm := E.cm10
  obtain ⟨d1, d2, d3, d4, d5⟩ := lw_dec T E hi
  unfold lst
  cases hk : kn (6 * i + v) with
  | false => simp [pmv, hk]
  | true =>
    rw [if_pos rfl]
    rcases T.kind i hi with ⟨h, q', hq', e⟩ | ⟨h, ⟨q', hq', e⟩, e5⟩ | ⟨h, q', hq', e⟩ | ⟨h, q', hq', e, -⟩ | ⟨h, ⟨q', hq', e⟩, e5⟩ | ⟨h, q', hq', e⟩ | ⟨h, q', hq', e⟩
    · have k9 : kd F i = 0 := by rw [d4, h]; rfl
      have i9 : it F i = q' := by rw [d5, e]; exact jn_nI (by omega)
      unfold lyS
      rw [k9, i9]
      simp [upA_at, h, hk, pmv, isMoveB]
    · have k9 : kd F i = 1 := by rw [d4, h]; rfl
      have i9 : it F i = q' := by rw [d5, e]; exact jn_nI (by omega)
      unfold lyS
      rw [k9, i9]
      have f4 : F 4 i = a 5 i + 1 := E.f4 i hi (by rw [h]; decide)
      have j4 : jn (a 4 i) = q' := by rw [e]; exact jn_nI (by omega)
      rcases e5 with e5 | ⟨k', hk', e5⟩
      · have f0 : F 4 i = 0 := by rw [f4, e5]; decide
        simp [upA_at, h, f0, e5]
      · have f5 : F 4 i - 1 = nI k' := by rw [f4, e5]; exact x1_sub _
        have f6 : ¬ F 4 i ≤ 0 := by rw [f4, e5, nI_1]; exact nI_nle (by omega) (by omega)
        have f7 : ¬ nI k' = -1 := nI_m1 k' (by omega)
        by_cases z8 : z.1 8 q' = 0
        · simp [upA_at, h, f5, f6, f7, e5, j4, z8]
        · simp [upA_at, h, f5, f6, f7, e5, j4, z8]
    · have k9 : kd F i = 2 := by rw [d4, h]; rfl
      have i9 : it F i = q' := by rw [d5, e]; exact jn_nI (by omega)
      unfold lyS
      rw [k9, i9]
      have g0 : ¬ 11 = q' := by omega
      simp [upA_at, h, g0]
    · have k9 : kd F i = 3 := by rw [d4, h]; rfl
      have i9 : it F i = q' := by rw [d5, e]; exact jn_nI (by omega)
      unfold lyS
      rw [k9, i9]
      have g1 : ¬ 11 = 12 + q' := by omega
      simp [upA_at, h, g1]
    · have k9 : kd F i = 4 := by rw [d4, h]; rfl
      have i9 : it F i = q' := by rw [d5, e]; exact jn_nI (by omega)
      unfold lyS
      rw [k9, i9]
      simp [upA_at, h, hk, pmv, isMoveB]
    · have k9 : kd F i = 5 := by rw [d4, h]; rfl
      have i9 : it F i = q' := by rw [d5, e]; exact jn_nI (by omega)
      unfold lyS
      rw [k9, i9]
      simp [upA_at, h, hk, pmv, isMoveB]
    · have k9 : kd F i = 6 := by rw [d4, h]; rfl
      have i9 : it F i = q' := by rw [d5, e]; exact jn_nI (by omega)
      unfold lyS
      rw [k9, i9]
      simp [upA_at, h, hk, pmv, isMoveB]
theorem ly_k (F : FF) (z : FF × Nat) (i : Nat) {k : Nat} (hk : k < 8) : (lyS F z i).1 k = z.1 k := by
  have h8 : k ≠ 8 := by omega
  have h9 : k ≠ 9 := by omega
  have h10 : k ≠ 10 := by omega
  unfold lyS
  repeat' split
  all_goals simp [upA_k h8, upA_k h9, upA_k h10]
theorem lst_k (F : FF) (kn : Nat → Bool) (v : Nat) {k : Nat} (hk : k < 8) : ∀ (l : List Nat) (z : FF × Nat), (l.foldl (lst F kn v) z).1 k = z.1 k
  | [], _ => rfl
  | i :: r, z => by
    rw [List.foldl_cons, lst_k F kn v hk r]
    unfold lst
    split
    · exact ly_k F z i hk
    · rfl
def kpP (a : Nat → Nat → Int32) (kn : Nat → Bool) (v t k i : Nat) : Bool := kn (6 * i + v) && decide (a 1 i = 4) && decide (a 4 i = nI t) && decide (a 5 i = nI k)
/-- a guest's word, as the law has it and as the class has it -/
def gR (n : Nat) (a : Nat → Nat → Int32) (zl : FF) (zc : Nat → Nat → Int32) (g : Nat) : Prop := (zl 10 g = 0 ∧ zc 3 g = 0 ∧ zc 4 g = -1) ∨ ∃ m, m < n ∧ a 1 m = 2 ∧ zl 10 g = nI (m + 1) ∧ zc 3 g = a 6 m ∧ zc 4 g = a 7 m ∧ zc 5 g = a 8 m
def lR (n cm : Nat) (a : Nat → Nat → Int32) (kn : Nat → Bool) (v : Nat) (l : List Nat) (zl : FF × Nat) (zc : VS) : Prop :=
  (∀ t, t < 40 → zl.1 8 t = zc.1 0 t + 1) ∧ zl.1 10 11 = zc.2.2 ∧ nI zl.2 = zc.2.1 ∧ (∀ k, k < cm → zl.1 10 (12 + k) = zc.1 7 k) ∧ (∀ g, g < 8 → gR n a zl.1 zc.1 g) ∧
  (∀ k, k < cm → bitT (zl.1 10 8) k = l.any (pnP a kn v k) ∧ bitT (zl.1 10 9) k = l.any (drP a kn v k) ∧ bitT (zl.1 10 10) k = l.any (bkP a kn v k)) ∧ (∀ t k, t < 40 → k < cm → bitT (zl.1 9 t) k = l.any (kpP a kn v t k))
theorem any_set {p : Nat → Bool} {l : List Nat} {i k : Nat} {x y : Int32} {c : Bool} (h : bitT x k = l.any p) (hc : p i = (c && decide (y = nI k))) (hk : k < 32) (hy : c = true → ∃ j, j < 32 ∧ y = nI j) : bitT (if c then x ||| ((1 : Int32) <<< (y &&& 31)) else x) k = (l ++ [i]).any p := by
  rw [any_snoc, ← h, hc]
  cases c with
  | false => simp
  | true =>
    obtain ⟨j, hj, e⟩ := hy rfl
    rw [if_pos rfl, e, bt_set x hj, decide_eq_decide.mpr (nI_eq (a := j) (b := k) (by omega) (by omega)), Bool.true_and]
theorem k_cake (T : tInv n cm a kn) {i : Nat} (hi : i < n) {b : Bool} {x : Int32} (hx : x = 3 ∨ x = 5 ∨ x = 6) (h : (b && decide (a 1 i = x)) = true) : ∃ j, j < 32 ∧ a 4 i = nI j := by
  have hcm := T.hcm
  rw [Bool.and_eq_true, decide_eq_true_eq] at h
  have h1 := h.2
  rcases T.kind i hi with ⟨h, -⟩ | ⟨h, -⟩ | ⟨h, -⟩ | ⟨h, k, k1, k2, -⟩ | ⟨h, -⟩ | ⟨h, k, k1, k2⟩ | ⟨h, k, k1, k2⟩
  all_goals first | (exact ⟨k, by omega, k2⟩) | skip
  all_goals (rw [h] at h1; rcases hx with q | q | q <;> (rw [q] at h1; exact absurd h1 (by decide)))
theorem zr_8 (F : FF) : ∀ m j, (j < m → foldU zrS F m 8 j = 0 ∧ foldU zrS F m 9 j = 0 ∧ foldU zrS F m 10 j = 0)
  | 0, j, h => absurd h (Nat.not_lt_zero _)
  | m + 1, j, h => by
    rw [foldU_s]
    unfold zrS
    by_cases q : j = m
    · subst q; simp [upA_at]
    · have ih := zr_8 F m j (by omega)
      unfold zrS at ih
      simp [upA_at, q, ih]
theorem lR_0 (F : FF) (hcm : cm ≤ 10) : lR n cm a kn v [] (foldU zrS F 40, 0) zF := by
  have h := fun j hj => zr_8 F 40 j hj
  generalize foldU zrS F 40 = G at h ⊢
  refine ⟨fun t ht => ?_, ?_, rfl, fun k hk => ?_, fun g hg => Or.inl ⟨?_, rfl, rfl⟩, fun k hk => ⟨?_, ?_, ?_⟩, fun t k ht hk => ?_⟩
  · show G 8 t = -1 + 1
    rw [(h t ht).1]; decide
  · exact (h 11 (by omega)).2.2
  · exact (h (12 + k) (by omega)).2.2
  · exact (h g (by omega)).2.2
  · show bitT (G 10 8) k = false
    rw [(h 8 (by omega)).2.2]; exact bt_0 k
  · show bitT (G 10 9) k = false
    rw [(h 9 (by omega)).2.2]; exact bt_0 k
  · show bitT (G 10 10) k = false
    rw [(h 10 (by omega)).2.2]; exact bt_0 k
  · show bitT (G 9 t) k = false
    rw [(h t ht).2.1]; exact bt_0 k
theorem lR_s (T : tInv n cm a kn) (E : lT n cm a kn F) {l : List Nat} {zl : FF × Nat} {zc : VS} (h : lR n cm a kn v l zl zc) {i : Nat} (hi : i < n) : lR n cm a kn v (l ++ [i]) (lst F kn v zl i) (hs1 a kn v zc i) := by
  have hcm := E.cm10
  have hn := E.n64
  obtain ⟨h1, h2, h3, h4, h5, h6, h7⟩ := h
  obtain ⟨k9, t9, u9, hk9, ht9, hu9, e1, e4, e2, g1, g2⟩ := wk_N T hi
  refine ⟨fun t ht => ?_, ?_, ?_, fun k hk => ?_, fun g hg => ?_, fun k hk => ⟨?_, ?_, ?_⟩, fun t k ht hk => ?_⟩
  · rw [lp_8 T E zl hi ht, hs_0 T zc hi ht]
    split
    · split
      · rfl
      · decide
    · exact h1 t ht
  · rw [lp_11 T E zl hi, hs_sp T zc hi, h2]
    split
    · rename_i hc
      split
      · rfl
      · have j4 : jn (a 4 i) < 40 := by rw [e4, jn_nI (by omega)]; exact ht9
        rw [h1 _ j4]
        by_cases q : zc.1 0 (jn (a 4 i)) = -1
        · rw [if_pos q, if_pos ((pl1_0 _).mpr q)]
        · rw [if_neg q, if_neg (fun z => q ((pl1_0 _).mp z))]
    · rfl
  · rw [lp_pl T E zl hi, hs_pq T zc hi, ← h3]
    split
    · exact (nI_1 _).symm
    · rfl
  · rw [lp_12 T E zl hi hk, hs_7 T zc hi hk, h3, h4 k hk]
  · have q := hs_345 (v := v) T zc hi hg
    unfold gR
    rw [lp_g T E zl hi hg]
    by_cases c : (kn (6 * i + v) && decide (a 1 i = 2) && decide (a 4 i = nI g)) = true
    · rw [if_pos c] at q ⊢
      obtain ⟨q1, q2, q3⟩ := Prod.mk.inj q |>.imp id (fun z => Prod.mk.inj z)
      have c2 := (and3.mp c).2.1
      rw [decide_eq_true_eq] at c2
      exact Or.inr ⟨i, hi, c2, rfl, q1, q2, q3⟩
    · rw [if_neg c] at q ⊢
      obtain ⟨q1, q2, q3⟩ := Prod.mk.inj q |>.imp id (fun z => Prod.mk.inj z)
      rw [q1, q2, q3]
      exact h5 g hg
  · rw [lp_s8 T E zl hi]
    exact any_set (h6 k hk).1 (by unfold pnP; rfl) (by omega) (k_cake T hi (Or.inl rfl))
  · rw [lp_s9 T E zl hi]
    exact any_set (h6 k hk).2.1 (by unfold drP; rfl) (by omega) (k_cake T hi (Or.inr (Or.inl rfl)))
  · rw [lp_s10 T E zl hi]
    exact any_set (h6 k hk).2.2 (by unfold bkP; rfl) (by omega) (k_cake T hi (Or.inr (Or.inr rfl)))
  · rw [lp_w T E zl hi ht]
    refine any_set (h7 t k ht hk) (by unfold kpP; rfl) (by omega) (fun c => ?_)
    have c2 := (and3.mp c).2.1
    rw [decide_eq_true_eq] at c2
    rcases T.kind i hi with ⟨h, -⟩ | ⟨h, -⟩ | ⟨h, -⟩ | ⟨h, -⟩ | ⟨h, -, k, k1, k2⟩ | ⟨h, -⟩ | ⟨h, -⟩
    all_goals first | (rw [c2] at h; exact absurd h (by decide)) | skip
    exact ⟨k, by omega, k2⟩
/-- what lays leaves against what the class's first walk leaves -/
theorem lays_R (T : tInv n cm a kn) (E : lT n cm a kn F) (O : tOrd n a os) : lR n cm a kn v os (os.foldl (lst F kn v) (foldU zrS F 40, 0)) (os.foldl (hs1 a kn v) zF) := by
  have h := foldl_pre (lst F kn v) os (fun l z => lR n cm a kn v l z (l.foldl (hs1 a kn v) zF)) (fun l i r z e hz => by
    have hi : i < n := (O.mem i).mp (by rw [e]; simp)
    rw [List.foldl_append]
    exact lR_s T E hz hi) os [] (foldU zrS F 40, 0) rfl (lR_0 F E.cm10)
  exact h
end LLAYS
