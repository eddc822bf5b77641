/-! no machine: the law's rows hold the reference's state; its searches go through the order -/
def lT (n cm : Nat) (a : Nat → Nat → Int32) (kn : Nat → Bool) (F : FF) : Prop :=
  (n ≤ 64 ∧ cm ≤ 10) ∧ (F 0 0 = nI n ∧ F 0 1 = nI cm) ∧
  (∀ i, i < n → F 1 i = nI (jn (a 1 i) + 8 * jn (a 2 i) + 64 * jn (a 4 i))) ∧
  (∀ i, i < n → F 2 i = a 3 i ∧ ∃ c, c ≤ 64 ∧ a 3 i = nI c) ∧
  (∀ i, i < n → F 3 i = b5 (fun v => kn (6 * i + v))) ∧
  (∀ i, i < n → ¬ a 1 i = 2 → F 4 i = a 5 i + 1) ∧
  (∀ i, i < n → a 1 i = 2 → ∃ d1 d2 ds, d1 < 100 ∧ d2 < 100 ∧ ds < 256 ∧ a 6 i = nI d1 ∧ a 7 i = nI d2 ∧ a 8 i = nI ds ∧ F 4 i = nI (d1 + 100 * d2 + 10000 * ds)) ∧
  (∀ v, v < 5 → F 5 v = a 10 v) ∧ (∀ j, j < 48 → F 6 j = a 11 j ∧ ∃ q, q ≤ 2 ∧ a 11 j = nI q) ∧
  (∀ k, k < cm → F 7 (2 * k) = a 13 k ∧ F 7 (2 * k + 1) = a 14 k ∧ ∃ d, d < 100 ∧ a 14 k = nI d)
section LTIE
variable {n cm : Nat} {a : Nat → Nat → Int32} {kn : Nat → Bool} {os : List Nat} {v : Nat} {F : FF}
theorem lT.n64 (E : lT n cm a kn F) : n ≤ 64 := E.1.1
theorem lT.cm10 (E : lT n cm a kn F) : cm ≤ 10 := E.1.2
theorem lT.f00 (E : lT n cm a kn F) : F 0 0 = nI n := E.2.1.1
theorem lT.f01 (E : lT n cm a kn F) : F 0 1 = nI cm := E.2.1.2
theorem lT.f1 (E : lT n cm a kn F) : ∀ i, i < n → F 1 i = nI (jn (a 1 i) + 8 * jn (a 2 i) + 64 * jn (a 4 i)) := E.2.2.1
theorem lT.f2 (E : lT n cm a kn F) : ∀ i, i < n → F 2 i = a 3 i ∧ ∃ c, c ≤ 64 ∧ a 3 i = nI c := E.2.2.2.1
theorem lT.f3 (E : lT n cm a kn F) : ∀ i, i < n → F 3 i = b5 (fun v => kn (6 * i + v)) := E.2.2.2.2.1
theorem lT.f4 (E : lT n cm a kn F) : ∀ i, i < n → ¬ a 1 i = 2 → F 4 i = a 5 i + 1 := E.2.2.2.2.2.1
theorem lT.f4g (E : lT n cm a kn F) : ∀ i, i < n → a 1 i = 2 → ∃ d1 d2 ds, d1 < 100 ∧ d2 < 100 ∧ ds < 256 ∧ a 6 i = nI d1 ∧ a 7 i = nI d2 ∧ a 8 i = nI ds ∧ F 4 i = nI (d1 + 100 * d2 + 10000 * ds) := E.2.2.2.2.2.2.1
theorem lT.f5 (E : lT n cm a kn F) : ∀ v, v < 5 → F 5 v = a 10 v := E.2.2.2.2.2.2.2.1
theorem lT.f6 (E : lT n cm a kn F) : ∀ j, j < 48 → F 6 j = a 11 j ∧ ∃ q, q ≤ 2 ∧ a 11 j = nI q := E.2.2.2.2.2.2.2.2.1
theorem lT.f7 (E : lT n cm a kn F) : ∀ k, k < cm → F 7 (2 * k) = a 13 k ∧ F 7 (2 * k + 1) = a 14 k ∧ ∃ d, d < 100 ∧ a 14 k = nI d := E.2.2.2.2.2.2.2.2.2
/-- a word's numbers -/
theorem wk_N (T : tInv n cm a kn) {i : Nat} (hi : i < n) : ∃ k t u, k < 7 ∧ t < 40 ∧ u < 5 ∧ a 1 i = nI k ∧ a 4 i = nI t ∧ a 2 i = nI u ∧ (k = 2 → t < 8) ∧ (k = 3 ∨ k = 5 ∨ k = 6 → t < cm) := by
  have hcm := T.hcm
  obtain ⟨u, hu, eu, -⟩ := T.au i hi
  rcases T.kind i hi with ⟨h, t, t1, t2⟩ | ⟨h, ⟨t, t1, t2⟩, -⟩ | ⟨h, g, g1, g2⟩ | ⟨h, k, k1, k2, -⟩ | ⟨h, ⟨t, t1, t2⟩, -⟩ | ⟨h, k, k1, k2⟩ | ⟨h, k, k1, k2⟩
  · exact ⟨0, t, u, by omega, t1, hu, h, t2, eu, by omega, by omega⟩
  · exact ⟨1, t, u, by omega, t1, hu, h, t2, eu, by omega, by omega⟩
  · exact ⟨2, g, u, by omega, by omega, hu, h, g2, eu, by omega, by omega⟩
  · exact ⟨3, k, u, by omega, by omega, hu, h, k2, eu, by omega, by omega⟩
  · exact ⟨4, t, u, by omega, t1, hu, h, t2, eu, by omega, by omega⟩
  · exact ⟨5, k, u, by omega, by omega, hu, h, k2, eu, by omega, by omega⟩
  · exact ⟨6, k, u, by omega, by omega, hu, h, k2, eu, by omega, by omega⟩
theorem lw_dec (T : tInv n cm a kn) (E : lT n cm a kn F) {i : Nat} (hi : i < n) : md (F 1 i) 8 = a 1 i ∧ F 1 i / 64 = a 4 i ∧ md (F 1 i / 8) 8 = a 2 i ∧ kd F i = jn (a 1 i) ∧ it F i = jn (a 4 i) := by
  obtain ⟨k, t, u, hk, ht, hu, e1, e4, e2, -⟩ := wk_N T hi
  have h1 := E.f1 i hi
  rw [e1, e2, e4, jn_nI (by omega), jn_nI (by omega), jn_nI (by omega)] at h1
  have d1 : md (F 1 i) 8 = nI k := by
    rw [h1]
    exact (md_N (a := k + 8 * u + 64 * t) (d := 8) (by omega) (by omega) (by omega)).trans (congrArg nI (by omega))
  have d2 : F 1 i / 64 = nI t := by
    rw [h1]
    exact (pk_div (a := k + 8 * u + 64 * t) (d := 64) (by omega) (by omega) (by omega)).trans (congrArg nI (by omega))
  have d3 : F 1 i / 8 = nI (u + 8 * t) := by
    rw [h1]
    exact (pk_div (a := k + 8 * u + 64 * t) (d := 8) (by omega) (by omega) (by omega)).trans (congrArg nI (by omega))
  have d4 : md (F 1 i / 8) 8 = nI u := by
    rw [d3]
    exact (md_N (a := u + 8 * t) (d := 8) (by omega) (by omega) (by omega)).trans (congrArg nI (by omega))
  refine ⟨d1.trans e1.symm, d2.trans e4.symm, d4.trans e2.symm, ?_, ?_⟩
  · unfold kd; rw [d1, e1]
  · unfold it; rw [d2, e4]
theorem lw_ok (T : tInv n cm a kn) (E : lT n cm a kn F) : ∀ i, i < n → wOk F i := by
  intro i hi
  obtain ⟨k, t, u, hk, ht, hu, e1, e4, e2, g1, g2⟩ := wk_N T hi
  obtain ⟨d1, d2, d3, d4, d5⟩ := lw_dec T E hi
  have hcm := E.cm10
  rw [e1] at d1 d4
  rw [e4] at d2 d5
  rw [jn_nI (by omega)] at d4 d5
  unfold wOk
  rw [d1, d2, d4, d5]
  exact ⟨rfl, hk, rfl, ht, g1, fun z => by have := g2 (Or.inl z); omega⟩
theorem rk_N (T : tInv n cm a kn) (E : lT n cm a kn F) {i : Nat} (hi : i < n) : ∃ c u, c ≤ 64 ∧ u < 5 ∧ a 3 i = nI c ∧ a 2 i = nI u ∧ lRk F i = nI (8 * c + u) := by
  obtain ⟨k, t, u, hk, ht, hu, e1, e4, e2, -⟩ := wk_N T hi
  obtain ⟨d1, d2, d3, d4, d5⟩ := lw_dec T E hi
  obtain ⟨f2, c, hc, ec⟩ := E.f2 i hi
  refine ⟨c, u, hc, hu, ec, e2, ?_⟩
  unfold lRk
  rw [d3, e2, f2, ec, ← nI_add]
  congr 1
  exact pk_mul 8 c
theorem rk_le (T : tInv n cm a kn) (E : lT n cm a kn F) {i j : Nat} (hi : i < n) (hj : j < n) : decide (lRk F i ≤ lRk F j) = !isLaterB a i j := by
  obtain ⟨c, u, hc, hu, e3, e2, er⟩ := rk_N T E hi
  obtain ⟨c', u', hc', hu', e3', e2', er'⟩ := rk_N T E hj
  rw [er, er', Bool.eq_iff_iff, decide_eq_true_eq, nI_leI (by omega) (by omega), Bool.not_eq_true', ← Bool.not_eq_true, lat_iff, e3, e3', e2, e2', nI_toInt (by omega), nI_toInt (by omega), nI_toInt (by omega), nI_toInt (by omega)]
  omega
theorem b5_sh (c : Nat → Bool) {f : Nat} (hf : f < 5) : ((b5 c >>> (nI f &&& 31)) &&& 1 = 1) ↔ c f = true := by
  rw [bt_shr (by omega)]
  have h1 := bt_and (x := b5 c) (f := f) (by omega)
  have h2 := b5_and c hf
  rw [h1] at h2
  cases hc : c f with
  | false => rw [h2.mpr hc]
  | true =>
    cases hb : bitT (b5 c) f with
    | true => simp
    | false => rw [h2.mp hb] at hc; cases hc
theorem lKn_eq (T : tInv n cm a kn) (E : lT n cm a kn F) (hv : v ≤ 5) {i : Nat} (hi : i < n) : lKn F v i = kn (6 * i + v) := by
  unfold lKn
  by_cases h5 : v = 5
  · subst h5; rw [T.all i hi]; simp
  · have hv5 : v < 5 := by omega
    rw [E.f3 i hi, decide_eq_false (show ¬ 4 < v by omega), Bool.false_or, Bool.eq_iff_iff, decide_eq_true_eq]
    exact b5_sh _ hv5
theorem nx_min (T : tInv n cm a kn) (E : lT n cm a kn F) (O : tOrd n a os) (o : Option Nat) : ∀ m, m ≤ n →
    (foldU (nxS F v o) none m = none ∧ ∀ i, i < m → (lKn F v i && lBh F o i) = false) ∨ ∃ x, foldU (nxS F v o) none m = some x ∧ x < m ∧ (lKn F v x && lBh F o x) = true ∧ ∀ j, j < m → (lKn F v j && lBh F o j) = true → j ≠ x → isLaterB a j x = true := by
  intro m
  induction m with
  | zero => intro _; exact Or.inl ⟨rfl, fun i hi => absurd hi (Nat.not_lt_zero _)⟩
  | succ m ih =>
    intro hm
    rw [foldU_s]
    unfold nxS
    cases hp : (lKn F v m && lBh F o m) with
    | false =>
      rw [if_neg (by simp)]
      rcases ih (by omega) with ⟨h1, h2⟩ | ⟨x, h1, h2, h3, h4⟩
      · refine Or.inl ⟨h1, fun i hi => ?_⟩
        by_cases q : i = m
        · rw [q]; exact hp
        · exact h2 i (by omega)
      · refine Or.inr ⟨x, h1, by omega, h3, fun j hj hpj hjx => ?_⟩
        by_cases q : j = m
        · rw [q, hp] at hpj; cases hpj
        · exact h4 j (by omega) hpj hjx
    | true =>
      rcases ih (by omega) with ⟨h1, h2⟩ | ⟨x, h1, h2, h3, h4⟩
      · have h1' : foldU (fun j f => if (lKn F v j && lBh F o j) && lFd F f j then some j else f) none m = none := h1
        rw [h1', if_pos (by rfl)]
        refine Or.inr ⟨m, rfl, by omega, hp, fun j hj hpj hjx => ?_⟩
        rw [h2 j (by omega)] at hpj; cases hpj
      · have h1' : foldU (fun j f => if (lKn F v j && lBh F o j) && lFd F f j then some j else f) none m = some x := h1
        rw [h1']
        have hfd : lFd F (some x) m = isLaterB a x m := by
          show (!decide (lRk F x ≤ lRk F m)) = _
          rw [rk_le T E (show x < n by omega) (show m < n by omega), Bool.not_not]
        rw [hfd]
        cases hl : isLaterB a x m with
        | true =>
          rw [if_pos (by rfl)]
          refine Or.inr ⟨m, rfl, by omega, hp, fun j hj hpj hjm => ?_⟩
          by_cases q : j = x
          · rw [q]; exact hl
          · exact lat_tr (h4 j (by omega) hpj q) hl
        | false =>
          rw [if_neg (by simp)]
          refine Or.inr ⟨x, rfl, by omega, h3, fun j hj hpj hjx => ?_⟩
          by_cases q : j = m
          · rw [q]
            rcases O.tot (show x < n by omega) (show m < n by omega) (by omega) with r | r
            · rw [hl] at r; cases r
            · exact r
          · exact h4 j (by omega) hpj hjx
theorem nx_head (T : tInv n cm a kn) (E : lT n cm a kn F) (O : tOrd n a os) (o : Option Nat) {r : List Nat} (hr : r.Pairwise (fun i j => isLaterB a j i = true)) (hm : ∀ j, j < n → ((lKn F v j && lBh F o j) = true ↔ j ∈ r)) (hrn : ∀ j, j ∈ r → j < n) : lNx F n v o = r.head? := by
  unfold lNx
  rcases nx_min (v := v) T E O o n (Nat.le_refl n) with ⟨h1, h2⟩ | ⟨x, h1, h2, h3, h4⟩
  · rw [h1]
    cases r with
    | nil => rfl
    | cons y M =>
      have hy := hrn y List.mem_cons_self
      have := (hm y hy).mpr List.mem_cons_self
      rw [h2 y hy] at this; cases this
  · rw [h1]
    have hx := (hm x h2).mp h3
    cases r with
    | nil => exact absurd hx List.not_mem_nil
    | cons y M =>
      by_cases q : x = y
      · rw [q]; rfl
      · have hxM : x ∈ M := (List.mem_cons.mp hx).resolve_left q
        have hy := hrn y List.mem_cons_self
        have l1 := (List.pairwise_cons.mp hr).1 x hxM
        have l2 := h4 y hy ((hm y hy).mpr List.mem_cons_self) (fun z => q z.symm)
        exact absurd l1 (fun z => lat_as z l2)
/-- the words that a view knows, in their order -/
def knL (kn : Nat → Bool) (v : Nat) (os : List Nat) : List Nat := os.filter (fun i => kn (6 * i + v))
theorem kl_mem (O : tOrd n a os) (i : Nat) : i ∈ knL kn v os ↔ i < n ∧ kn (6 * i + v) = true := by
  unfold knL; rw [List.mem_filter, O.mem]
theorem kl_srt (O : tOrd n a os) : (knL kn v os).Pairwise (fun i j => isLaterB a j i = true) := O.srt.filter _
theorem nx_first (T : tInv n cm a kn) (E : lT n cm a kn F) (O : tOrd n a os) (hv : v ≤ 5) : lNx F n v none = (knL kn v os).head? := by
  refine nx_head T E O none (kl_srt O) (fun j hj => ?_) (fun j hj => ((kl_mem O j).mp hj).1)
  rw [kl_mem O, lKn_eq T E hv hj]
  show (kn (6 * j + v) && true) = true ↔ _
  rw [Bool.and_true]
  exact ⟨fun z => ⟨hj, z⟩, fun z => z.2⟩
theorem nx_suf (T : tInv n cm a kn) (E : lT n cm a kn F) (O : tOrd n a os) (hv : v ≤ 5) : ∀ (r p : List Nat), knL kn v os = p ++ r → nxC F n v r
  | [], _, _ => trivial
  | x :: r, p, e => by
    have hx := (kl_mem (kn := kn) (v := v) O x).mp (by rw [e]; simp)
    have hs := kl_srt (kn := kn) (v := v) O
    rw [e, List.pairwise_append] at hs
    obtain ⟨-, s2, s3⟩ := hs
    obtain ⟨s4, s5⟩ := List.pairwise_cons.mp s2
    refine ⟨nx_head T E O (some x) s5 (fun j hj => ?_) (fun j hj => ((kl_mem (kn := kn) (v := v) O j).mp (by rw [e]; simp [hj])).1), nx_suf T E O hv r (p ++ [x]) (by rw [e]; simp)⟩
    have hb : lBh F (some x) j = isLaterB a j x := by
      show (!decide (lRk F j ≤ lRk F x)) = _
      rw [rk_le T E hj hx.1, Bool.not_not]
    rw [lKn_eq T E hv hj, hb, Bool.and_eq_true]
    constructor
    · rintro ⟨h1, h2⟩
      have hm : j ∈ p ++ x :: r := by rw [← e]; exact (kl_mem O j).mpr ⟨hj, h1⟩
      rcases List.mem_append.mp hm with q | q
      · exact absurd (s3 j q x List.mem_cons_self) (fun z => lat_as z h2)
      · rcases List.mem_cons.mp q with q | q
        · rw [q] at h2; exact absurd h2 (lat_irr a x)
        · exact q
    · intro hr
      exact ⟨((kl_mem (kn := kn) (v := v) O j).mp (by rw [e]; simp [hr])).2, s4 j hr⟩
theorem nx_chain (T : tInv n cm a kn) (E : lT n cm a kn F) (O : tOrd n a os) (hv : v ≤ 5) : nxC F n v (knL kn v os) := nx_suf T E O hv _ [] rfl
end LTIE
