/-! what the tie gives a call -/
theorem gd_of {ws : List Cond} (h1 : ∀ w ∈ ws, w ∈ lw_tbl) (h2 : ws.all goodWord = true) : GoodIn lw_tbl ws := fun w hw => ⟨h1 w hw, good_of_word (List.all_eq_true.mp h2 w hw)⟩
theorem rel_ok {n cm : Nat} {a : Nat → Nat → Int32} {kn : Nat → Bool} {b : Nat → Nat → Int32} {cn : Nat} {L : List Nat} {w : Nat → Nat → Int32} (R : tRel n cm a kn (b, cn, L.map w)) : ∀ x, x ∈ L → okW (w x) := by
  intro x hx
  obtain ⟨T, ⟨os, O, e⟩, -⟩ := R
  have hcm := T.hcm
  have hm : w x ∈ os.map (recW a kn) := by rw [← show L.map w = os.map (recW a kn) from e]; exact List.mem_map_of_mem hx
  obtain ⟨i, hi, ei⟩ := List.mem_map.mp hm
  have hi := (O.mem i).mp hi
  rw [← ei]
  have e0 : recW a kn i 0 = a 1 i := rfl
  have e3 : recW a kn i 3 = if a 1 i = 3 ∨ a 1 i = 5 ∨ a 1 i = 6 then -1 else a 4 i := rfl
  have e4 : recW a kn i 4 = if a 1 i = 3 ∨ a 1 i = 5 ∨ a 1 i = 6 then a 4 i else a 5 i := rfl
  unfold okW
  rw [e0, e3, e4]
  rcases T.kind i hi with ⟨h, t, t1, t2⟩ | ⟨h, ⟨t, t1, t2⟩, -⟩ | ⟨h, g, g1, g2⟩ | ⟨h, k, k1, k2, -⟩ | ⟨h, ⟨t, t1, t2⟩, k, k1, k2⟩ | ⟨h, k, k1, k2⟩ | ⟨h, k, k1, k2⟩
  · rw [h, if_neg (by decide), if_neg (by decide)]
    exact ⟨Or.inl rfl, fun _ => ⟨t, t1, t2⟩, fun z => absurd z (by decide), fun z => absurd z (by decide)⟩
  · rw [h, if_neg (by decide), if_neg (by decide)]
    exact ⟨Or.inr (Or.inl rfl), fun _ => ⟨t, t1, t2⟩, fun z => absurd z (by decide), fun z => absurd z (by decide)⟩
  · rw [h, if_neg (by decide), if_neg (by decide)]
    exact ⟨Or.inr (Or.inr (Or.inl rfl)), fun z => absurd z (by decide), fun _ => ⟨g, g1, g2⟩, fun z => absurd z (by decide)⟩
  · rw [h, if_pos (by decide), if_pos (by decide)]
    exact ⟨Or.inr (Or.inr (Or.inr (Or.inl rfl))), fun z => absurd z (by decide), fun z => absurd z (by decide), fun _ => ⟨k, by omega, k2⟩⟩
  · rw [h, if_neg (by decide), if_neg (by decide)]
    exact ⟨Or.inr (Or.inr (Or.inr (Or.inr (Or.inl rfl)))), fun _ => ⟨t, t1, t2⟩, fun z => absurd z (by decide), fun _ => ⟨k, by omega, k2⟩⟩
  · rw [h, if_pos (by decide), if_pos (by decide)]
    exact ⟨Or.inr (Or.inr (Or.inr (Or.inr (Or.inr (Or.inl rfl))))), fun z => absurd z (by decide), fun z => absurd z (by decide), fun _ => ⟨k, by omega, k2⟩⟩
  · rw [h, if_pos (by decide), if_pos (by decide)]
    exact ⟨Or.inr (Or.inr (Or.inr (Or.inr (Or.inr (Or.inr rfl))))), fun z => absurd z (by decide), fun z => absurd z (by decide), fun _ => ⟨k, by omega, k2⟩⟩
theorem rel_cn {n cm : Nat} {a : Nat → Nat → Int32} {kn : Nat → Bool} {b : Nat → Nat → Int32} {cn : Nat} {ws : List (Nat → Int32)} (R : tRel n cm a kn (b, cn, ws)) : cn ≤ 20 := by
  have h1 := R.cn
  have h2 := R.inv.hcm
  have h1 : cn = cm := h1
  omega
theorem rel_rc {n cm : Nat} {a : Nat → Nat → Int32} {kn : Nat → Bool} {b : Nat → Nat → Int32} {cn : Nat} {ws : List (Nat → Int32)} (R : tRel n cm a kn (b, cn, ws)) : ∀ k, k < cn → ∃ r, r < 6 ∧ b 11 k = nI r := by
  intro k hk
  have h1 : cn = cm := R.cn
  obtain ⟨r, hr, e⟩ := R.inv.mi.2.2.2.2 k (by omega)
  exact ⟨r, hr, (R.rec (show k < cm by omega)).trans e⟩
