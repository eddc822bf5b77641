/-! no machine: the latest of the words that qualify -/
theorem late_max (P : Nat → Bool) (lt : Nat → Nat → Bool) (N : Nat) (hN : N < 2 ^ 31) (htr : ∀ i j k, lt i j = true → lt j k = true → lt i k = true) (hto : ∀ i j, i < N → j < N → i ≠ j → lt i j = true ∨ lt j i = true) : ∀ n, n ≤ N →
    (foldU (fun i f => if P i && (decide (f = -1) || lt i (jn f)) then nI i else f) (-1 : Int32) n = -1 ∧ ∀ i, i < n → P i = false) ∨
    ∃ m, m < n ∧ P m = true ∧ foldU (fun i f => if P i && (decide (f = -1) || lt i (jn f)) then nI i else f) (-1 : Int32) n = nI m ∧ ∀ j, j < n → P j = true → j ≠ m → lt m j = true := by
  intro n
  induction n with
  | zero => intro _; exact Or.inl ⟨rfl, fun i hi => absurd hi (Nat.not_lt_zero _)⟩
  | succ n ih =>
    intro hn
    rw [foldU_s]
    rcases ih (by omega) with ⟨h1, h2⟩ | ⟨m, hm, hpm, hf, hmax⟩
    · rw [h1]
      cases hp : P n with
      | true =>
        refine Or.inr ⟨n, by omega, hp, by simp, fun j hj hpj hjn => ?_⟩
        rw [h2 j (by omega)] at hpj
        cases hpj
      | false =>
        refine Or.inl ⟨by simp, fun i hi => ?_⟩
        rcases Nat.lt_or_ge i n with q | q
        · exact h2 i q
        · rw [show i = n by omega]; exact hp
    · rw [hf]
      have hne : ¬ nI m = -1 := nI_m1 m (by omega)
      have hj : jn (nI m) = m := jn_nI (by omega)
      rw [hj]
      cases hp : P n with
      | false =>
        refine Or.inr ⟨m, by omega, hpm, by simp, fun j hj hpj hjm => ?_⟩
        rcases Nat.lt_or_ge j n with q | q
        · exact hmax j q hpj hjm
        · rw [show j = n by omega, hp] at hpj; cases hpj
      | true =>
        cases hl : lt n m with
        | true =>
          refine Or.inr ⟨n, by omega, hp, by simp, fun j hj hpj hjn => ?_⟩
          by_cases e : j = m
          · rw [e]; exact hl
          · exact htr _ _ _ hl (hmax j (by omega) hpj e)
        | false =>
          refine Or.inr ⟨m, by omega, hpm, by simp [hne], fun j hj hpj hjm => ?_⟩
          rcases Nat.lt_or_ge j n with q | q
          · exact hmax j q hpj hjm
          · rw [show j = n by omega]
            rcases hto n m (by omega) (by omega) (by omega) with r | r
            · rw [hl] at r; cases r
            · exact r
/-- .. and the last of a sorted list that qualify -/
theorem last_max {α : Type} (P : α → Bool) (lt : α → α → Bool) : ∀ (l : List α), l.Pairwise (fun x y => lt y x = true) → ∀ x, (l.filter P).getLast? = some x → x ∈ l ∧ P x = true ∧ ∀ y, y ∈ l → P y = true → y = x ∨ lt x y = true
  | [], _, x, h => by simp at h
  | z :: M, hs, x, h => by
    obtain ⟨h1, h2⟩ := List.pairwise_cons.mp hs
    cases hf : (M.filter P).getLast? with
    | none =>
      have he : M.filter P = [] := List.getLast?_eq_none_iff.mp hf
      cases hp : P z with
      | false => rw [List.filter_cons, hp] at h; simp [he] at h
      | true =>
        rw [List.filter_cons, hp] at h
        simp [he] at h
        subst h
        refine ⟨List.mem_cons_self, hp, fun y hy hpy => ?_⟩
        rcases List.mem_cons.mp hy with q | q
        · exact Or.inl q
        · have : y ∈ M.filter P := List.mem_filter.mpr ⟨q, hpy⟩
          rw [he] at this; cases this
    | some w =>
      have hx : x = w := by
        cases hp : P z with
        | false => rw [List.filter_cons, hp] at h; simp [hf] at h; exact h.symm
        | true => rw [List.filter_cons, hp] at h; simp [List.getLast?_cons, hf] at h; exact h.symm
      subst hx
      obtain ⟨g1, g2, g3⟩ := last_max P lt M h2 x hf
      refine ⟨List.mem_cons_of_mem _ g1, g2, fun y hy hpy => ?_⟩
      rcases List.mem_cons.mp hy with q | q
      · rw [q]; exact Or.inr (h1 x g1)
      · exact g3 y q hpy
/-- a fold that overwrites gives the last one's value -/
theorem fold_last {α β : Type} (P : α → Bool) (f : α → β) : ∀ (l : List α) (z : β), l.foldl (fun y x => if P x then f x else y) z = ((l.filter P).getLast?).elim z f
  | [], _ => rfl
  | x :: M, z => by
    rw [List.foldl_cons, fold_last P f M]
    cases hp : P x with
    | false => simp [List.filter_cons, hp]
    | true =>
      rw [List.filter_cons, hp]
      simp only [if_true, List.getLast?_cons]
      cases (M.filter P).getLast? <;> rfl
