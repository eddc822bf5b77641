/-! no machine: what the law's loops rest on -/
section LLOOPS
variable {n cm : Nat} {a : Nat → Nat → Int32} {kn : Nat → Bool} {v f : Nat} {F F' G : FF} {cs : CS} {l : List Nat}
/-- the rows that a view is made of stay -/
def sV (n : Nat) (G F' : FF) : Prop := (∀ k, 6 ≤ k → k ≤ 10 → F' k = G k) ∧ ∀ i, i < n → F' 4 i = G 4 i
theorem sV_rf (n : Nat) (G : FF) : sV n G G := ⟨fun _ _ _ => rfl, fun _ _ => rfl⟩
theorem sV_wr {more : Int32} {n' kd its : Nat} (h : sV n G F') (hn : n ≤ n') : sV n G (lWr F' n' f kd its more) := by
  refine ⟨fun k h6 h10 => by rw [lWr_k _ _ _ _ _ _ h6]; exact h.1 k h6 h10, fun i hi => ?_⟩
  rw [lWr_at, if_neg (by omega), if_pos rfl, if_neg (by omega)]
  exact h.2 i hi
def gI (n : Nat) (G : FF) : Prop := ∀ g, g < 8 → G 10 g = 0 ∨ ∃ m, m < n ∧ G 10 g = nI (m + 1)
theorem gI_of {zc : Nat → Nat → Int32} (h : ∀ g, g < 8 → gR n a G zc g) : gI n G := fun g hg => by
  rcases h g hg with ⟨h1, -⟩ | ⟨m, hm, -, h1, -⟩
  · exact Or.inl h1
  · exact Or.inr ⟨m, hm, h1⟩
theorem gs_cg (h : sV n G F') (hn : n ≤ 64) (hg : gI n G) (d : Int32) : lGs F' d = lGs G d := foldU_cg (fun g hg8 y => by
  unfold gsS gsW
  rw [h.1 10 (by omega) (by omega)]
  rcases hg g hg8 with h1 | ⟨m, hm, h1⟩
  · rw [h1, show decide ((0 : Int32) - 1 < 0) = true by decide]; simp
  · rw [h1, nI_pred, jn_nI (by omega), h.2 m hm])
theorem op_cg (h : sV n G F') (k : Nat) : lOp F' k = lOp G k := by unfold lOp; rw [h.1 10 (by omega) (by omega)]
theorem fi_cg (h : sV n G F') (hn : n ≤ 64) (hg : gI n G) (set : Int32) : lFi F' cm set = lFi G cm set := by
  unfold lFi
  congr 1
  refine foldU_cg (fun k hk z => ?_)
  unfold fiS fiR
  rw [op_cg h, gs_cg h hn hg, h.1 7 (by omega) (by omega), h.1 10 (by omega) (by omega)]
theorem kp_cg (h : sV n G F') (hn : n ≤ 64) (hg : gI n G) (t : Nat) : lKp F' cm t = lKp G cm t := by
  unfold lKp
  rw [h.1 8 (by omega) (by omega), h.1 9 (by omega) (by omega), fi_cg h hn hg]
theorem lk_cg (h : sV n G F') (hn : n ≤ 64) (hg : gI n G) (rc k fo : Nat) : lLk F' cm rc k fo = lLk G cm rc k fo := by
  have e : lkN F' cm rc k fo = lkN G cm rc k fo := by
    unfold lkN
    rw [h.1 6 (by omega) (by omega)]
    exact foldU_cg (fun i hi y => by unfold lkS; rw [kp_cg h hn hg])
  unfold lLk
  rw [e, op_cg h]
theorem go_cg (h : sV n G F') (hg : gOk G) : gOk F' := by
  unfold gOk
  rw [h.1 10 (by omega) (by omega)]
  exact hg
/-- words of one kind for one cake, one behind another, in the law's rows -/
def lJ (n cm : Nat) (a : Nat → Nat → Int32) (kn : Nat → Bool) (G : FF) (f kd k : Nat) (L : List Nat) (F' : FF) : Prop :=
  lT (L.foldl (mL f (nI kd) (nI k)) (n, a, kn)).1 cm (L.foldl (mL f (nI kd) (nI k)) (n, a, kn)).2.1 (L.foldl (mL f (nI kd) (nI k)) (n, a, kn)).2.2 F' ∧ lK (L.foldl (mL f (nI kd) (nI k)) (n, a, kn)).1 (L.foldl (mL f (nI kd) (nI k)) (n, a, kn)).2.1 (L.foldl (mL f (nI kd) (nI k)) (n, a, kn)).2.2 ∧ sV n G F'
theorem mL_len (f : Nat) (kd ck : Int32) : ∀ (L : List Nat) (x : WS), (L.foldl (mL f kd ck) x).1 = x.1 + L.length
  | [], x => rfl
  | t :: M, x => by
    rw [List.foldl_cons, mL_len f kd ck M, List.length_cons]
    show x.1 + 1 + M.length = _
    omega
theorem lJ_0 (E : lT n cm a kn G) (K : lK n a kn) (kd k : Nat) : lJ n cm a kn G f kd k [] G := ⟨E, K, sV_rf n G⟩
theorem lJ_n {kd k : Nat} {L : List Nat} (h : lJ n cm a kn G f kd k L F') : F' 0 0 = nI (n + L.length) := by
  have e := h.1.f00
  rw [mL_len] at e
  exact e
theorem lJ_s {kd k t : Nat} {L : List Nat} (h : lJ n cm a kn G f kd k L F') (hn : n + L.length < 64) (hf : f < 5) (hk7 : kd < 7) (hk2 : kd ≠ 2) (ht : t < 40) : lJ n cm a kn G f kd k (L ++ [t]) (lWr F' (n + L.length) f kd t (nI (k + 1))) := by
  obtain ⟨h1, h2, h3⟩ := h
  have hl := mL_len f (nI kd) (nI k) L (n, a, kn)
  unfold lJ
  rw [List.foldl_append]
  generalize L.foldl (mL f (nI kd) (nI k)) (n, a, kn) = X at h1 h2 hl ⊢
  obtain ⟨n', a', kn'⟩ := X
  have hl : n' = n + L.length := hl
  subst hl
  refine ⟨?_, ?_, sV_wr h3 (by omega)⟩
  · rw [← nI_1]
    exact lT_wr h1 h2 hn hf hk7 hk2 ht (nI k)
  · exact lK_wr h2 (fun v hv => rfl) hf (nI kd) (nI t) (nI k)
/-- .. and the last word -/
theorem lJ_e {kd k kd2 : Nat} {L : List Nat} (h : lJ n cm a kn G f kd k L F') (hn : n + L.length < 64) (hf : f < 5) (hk7 : kd2 < 7) (hk2 : kd2 ≠ 2) (hk : k < 40) : lT ((L.foldl (mL f (nI kd) (nI k)) (n, a, kn)).1 + 1) cm (wrA (L.foldl (mL f (nI kd) (nI k)) (n, a, kn)).2.1 (L.foldl (mL f (nI kd) (nI k)) (n, a, kn)).1 f (nI kd2) (nI k) (-1)) (wrK (L.foldl (mL f (nI kd) (nI k)) (n, a, kn)).2.2 (L.foldl (mL f (nI kd) (nI k)) (n, a, kn)).1 f) (lWr F' (n + L.length) f kd2 k 0) := by
  obtain ⟨h1, h2, h3⟩ := h
  have hl := mL_len f (nI kd) (nI k) L (n, a, kn)
  generalize L.foldl (mL f (nI kd) (nI k)) (n, a, kn) = X at h1 h2 hl ⊢
  obtain ⟨n', a', kn'⟩ := X
  have hl : n' = n + L.length := hl
  subst hl
  exact lT_wr h1 h2 hn hf hk7 hk2 hk (-1)
/-! the class's keeper and place in the law's rows -/
theorem kp_ke (R : tRel n cm a kn cs) (hL : LV n cm a kn f l G (rdA (frV f) (cs.1 12) cs.2.2)) (hf : f < 5) {t : Nat} (ht : t < 40) : oI (lKp G cm t) = keeperB a kn n f (nI t) := by
  rw [← hL.kp ht, ← lk_fr hf]; exact (R.look hf).2.2.2.2.2.1 t ht
theorem ke_n (R : tRel n cm a kn cs) (hL : LV n cm a kn f l G (rdA (frV f) (cs.1 12) cs.2.2)) (hf : f < 5) {t : Nat} (ht : t < 40) : keeperB a kn n f (nI t) = -1 ↔ lKp G cm t = none := by
  have hcm := hL.lt.cm10
  rw [← kp_ke R hL hf ht]
  cases h : lKp G cm t with
  | none => simp [oI]
  | some x =>
    have := kp_lt G cm t x h
    constructor
    · intro z; exact absurd z (nI_m1 x (by omega))
    · intro z; cases z
theorem pl_v8 (R : tRel n cm a kn cs) (hL : LV n cm a kn f l G (rdA (frV f) (cs.1 12) cs.2.2)) (hf : f < 5) {t : Nat} (ht : t < 40) : placeB a kn n f (nI t) = -1 ↔ G 8 t ≤ 0 := by
  have h8 := hL.2.2.1 t ht
  rw [lk_pl R hf ht] at h8
  rw [h8]
  rcases place_rg (v := f) R.inv (nI t) with q | ⟨w, hw, q⟩
  · rw [q]; simp
  · rw [q, nI_1]
    constructor
    · intro z; exact absurd z (nI_m1 w (by omega))
    · intro z; exact absurd z (nI_nle (by omega) (by omega))
theorem lack_N (R : tRel n cm a kn cs) (hL : LV n cm a kn f l G (rdA (frV f) (cs.1 12) cs.2.2)) (hf : f < 5) {k r fo : Nat} (hk : k < cm) (hr : r < 6) (e7 : G 7 (2 * k) = nI r) (c : lOp G k = true) (hfo : fo < 8) : lLk G cm r k fo = lackB a kn n f k fo ∧ ∃ z, z ≤ 2 ∧ lLk G cm r k fo = nI z := by
  have hcm := hL.lt.cm10
  have h6 : (rdA (frV f) (cs.1 12) cs.2.2).1 6 k = 1 := by rw [hL.op hk] at c; exact of_decide_eq_true c
  have e : lLk G cm r k fo = lackB a kn n f k fo := by
    rw [lLk_eq R hL hk hr e7 hfo, if_pos h6, ← lk_fr hf, lack_eq R (R.look hf) hk hfo]
  refine ⟨e, ?_⟩
  rw [e]
  obtain ⟨r', hr', er'⟩ := R.inv.mi.2.2.2.2 k hk
  obtain ⟨-, q, hq, eq⟩ := hL.lt.f6 (8 * r' + fo) (by omega)
  have hko : keptOfB a kn n f (nI k) fo ≤ 5 := ko_le a kn n f (nI k) fo 5
  unfold lackB
  rw [er', jn_nI (by omega), eq]
  generalize keptOfB a kn n f (nI k) fo = y at hko ⊢
  have h1 : (nI q - nI y).toInt = (q : Int) - y := pk_sub_toInt (by omega) (by omega)
  have h0 : (0 : Int32).toInt = 0 := by decide
  by_cases hqy : y ≤ q
  · rw [if_pos (by rw [Int32.le_iff_toInt_le, h1, h0]; omega), pk_sub hqy]
    exact ⟨q - y, by omega, rfl⟩
  · rw [if_neg (by rw [Int32.le_iff_toInt_le, h1, h0]; omega)]
    exact ⟨0, by omega, rfl⟩
/-! how many things can be kept -/
theorem cnt_inj (P : Nat → Bool) (key : Nat → Nat) : ∀ (m : Nat) (L : List Nat), L.Nodup → (∀ t, t ∈ L → ∃ i, i < m ∧ P i = true ∧ key i = t) → L.length ≤ (List.range m).countP P
  | 0, L, _, h => by
    cases L with
    | nil => exact Nat.zero_le _
    | cons t M => obtain ⟨i, hi, -⟩ := h t List.mem_cons_self; omega
  | m + 1, L, hN, h => by
    have hN2 : (L.filter (fun t => !decide (t = key m))).Nodup := hN.filter _
    have hlen : L.length ≤ (L.filter (fun t => !decide (t = key m))).length + 1 := by
      have : ∀ M : List Nat, M.Nodup → M.length ≤ (M.filter (fun t => !decide (t = key m))).length + 1 := by
        intro M
        induction M with
        | nil => intro _; exact Nat.zero_le _
        | cons t M ih =>
          intro hM
          obtain ⟨h1, h2⟩ := List.nodup_cons.mp hM
          by_cases q : t = key m
          · have e : M.filter (fun t => !decide (t = key m)) = M := List.filter_eq_self.mpr (fun x hx => by
              have : x ≠ key m := fun z => h1 (by rw [q, ← z]; exact hx)
              simp [this])
            rw [List.filter_cons_of_neg (by simp [q]), e, List.length_cons]
            exact Nat.le_refl _
          · rw [List.filter_cons_of_pos (by simp [q]), List.length_cons, List.length_cons]
            have := ih h2
            omega
      exact this L hN
    have hsub : ∀ t, t ∈ L.filter (fun t => !decide (t = key m)) → ∃ i, i < m ∧ P i = true ∧ key i = t := fun t ht => by
      obtain ⟨h1, h2⟩ := List.mem_filter.mp ht
      obtain ⟨i, hi, hp, hk⟩ := h t h1
      have : t ≠ key m := by simpa using h2
      have hne : i ≠ m := fun z => this (by rw [← hk, z])
      exact ⟨i, by omega, hp, hk⟩
    have ih := cnt_inj P key m _ hN2 hsub
    rw [List.range_succ, List.countP_append, List.countP_singleton]
    cases hp : P m with
    | true => rw [if_pos rfl]; omega
    | false =>
      rw [if_neg (by simp)]
      have hall : ∀ t, t ∈ L → ∃ i, i < m ∧ P i = true ∧ key i = t := fun t ht => by
        obtain ⟨i, hi, hpi, hk⟩ := h t ht
        have hne : i ≠ m := fun z => by rw [z, hp] at hpi; cases hpi
        exact ⟨i, by omega, hpi, hk⟩
      have := cnt_inj P key m L hN hall
      omega
theorem cnt_three (p0 p1 p2 : Nat → Bool) (h : ∀ i, (p0 i = true → p1 i = false) ∧ (p0 i = true → p2 i = false) ∧ (p1 i = true → p2 i = false)) : ∀ m, (List.range m).countP p0 + (List.range m).countP p1 + (List.range m).countP p2 ≤ m
  | 0 => Nat.le_refl _
  | m + 1 => by
    have ih := cnt_three p0 p1 p2 h m
    obtain ⟨h1, h2, h3⟩ := h m
    rw [List.range_succ, List.countP_append, List.countP_append, List.countP_append, List.countP_singleton, List.countP_singleton, List.countP_singleton]
    cases e0 : p0 m with
    | true => rw [h1 e0, h2 e0]; simp; omega
    | false =>
      cases e1 : p1 m with
      | true => rw [h3 e1]; simp; omega
      | false => cases e2 : p2 m <;> simp <;> omega
theorem kept_nd (k : Int32) : ∀ i, (foldU (kpStep a kn n f k) [] i).Nodup ∧ ∀ t, t ∈ foldU (kpStep a kn n f k) [] i → t < i
  | 0 => ⟨List.nodup_nil, fun t h => absurd h List.not_mem_nil⟩
  | i + 1 => by
    obtain ⟨h1, h2⟩ := kept_nd k i
    rw [foldU_s]
    unfold kpStep
    split
    · refine ⟨List.nodup_append.mpr ⟨h1, List.nodup_cons.mpr ⟨List.not_mem_nil, List.nodup_nil⟩, fun x hx y hy => ?_⟩, fun t ht => ?_⟩
      · have hx : x ∈ foldU (kpStep a kn n f k) [] i := hx
        rw [List.mem_singleton] at hy
        have := h2 x hx
        omega
      · rcases List.mem_append.mp ht with q | q
        · have := h2 t q; omega
        · rw [List.mem_singleton] at q; omega
    · exact ⟨h1, fun t ht => by have := h2 t ht; omega⟩
theorem kept_le (k : Int32) : ∀ d i, (foldU (kpStep a kn n f k) [] i).length ≤ (foldU (kpStep a kn n f k) [] (i + d)).length
  | 0, i => Nat.le_refl _
  | d + 1, i => by
    have h1 := kept_le k d i
    have e : foldU (kpStep a kn n f k) [] (i + (d + 1)) = kpStep a kn n f k (i + d) (foldU (kpStep a kn n f k) [] (i + d)) := rfl
    rw [e]
    unfold kpStep at h1 ⊢
    split
    · rw [List.length_append]; omega
    · exact h1
theorem lm_P (x au : Int32) : ∀ m, m ≤ 240 → ∀ j, j < 240 → foldU (lmStep a kn v x au) (-1) m = nI j → isMoveB a j x = true
  | 0, _, j, hj, h => absurd h.symm (nI_m1 j (by omega))
  | m + 1, hm, j, hj, h => by
    have h : (if (kn (6 * m + v) && isMoveB a m x && (decide (au = -1) || decide (a 2 m = au))) && (decide (foldU (lmStep a kn v x au) (-1) m = -1) || isLaterB a m (jn (foldU (lmStep a kn v x au) (-1) m))) then nI m else foldU (lmStep a kn v x au) (-1) m) = nI j := h
    split at h
    · rename_i hc
      have : m = j := (nI_eq (by omega) (by omega)).mp h
      rw [← this]
      exact and_r (and_l (and_l hc))
    · exact lm_P x au m (by omega) j hj h
theorem kept_len (R : tRel n cm a kn cs) (hf : f < 5) {k : Nat} (hk : k < cm) : 2 * (keptL a kn n f (nI k)).length + 1 ≤ n := by
  obtain ⟨T, ⟨os, O, -⟩, -⟩ := R
  have hn := T.hn
  have hcm := T.hcm
  obtain ⟨hN, h40⟩ := kept_nd (a := a) (kn := kn) (n := n) (f := f) (nI k) 40
  have hmem : ∀ t, t ∈ keptL a kn n f (nI k) → t < 40 ∧ keeperB a kn n f (nI t) = nI k ∧ ¬ placeB a kn n f (nI t) = -1 := fun t ht => by
    have hke := (keptP_range 40 ht).2
    refine ⟨h40 t ht, hke, fun z => ?_⟩
    unfold keeperB at hke
    rw [if_pos z] at hke
    exact nI_m1 k (by omega) hke.symm
  have h0 : (keptL a kn n f (nI k)).length ≤ (List.range n).countP (fun i => decide (a 1 i = 0)) := by
    refine cnt_inj (fun i => decide (a 1 i = 0)) (fun i => jn (a 4 i)) n _ hN (fun t ht => ?_)
    obtain ⟨t40, -, hp⟩ := hmem t ht
    unfold placeB latestB at hp
    rcases lm_range a kn f (nI t) (-1) n with q | ⟨j, hj, q⟩
    · rw [q, if_pos rfl] at hp; exact absurd rfl hp
    · have hmv := lm_P (nI t) (-1) n hn j (by omega) q
      rw [q, if_neg (nI_m1 j (by omega)), jn_nI (by omega)] at hp
      unfold isMoveB at hmv
      rw [Bool.and_eq_true, decide_eq_true_eq] at hmv
      refine ⟨j, hj, ?_, by show jn (a 4 j) = t; rw [hmv.2]; exact jn_nI (by omega)⟩
      rw [decide_eq_true_eq]
      by_cases q0 : a 1 j = 0
      · exact q0
      · rw [if_neg q0] at hp; exact absurd rfl hp
  have h4 : (keptL a kn n f (nI k)).length ≤ (List.range n).countP (fun i => decide (a 1 i = 4)) := by
    refine cnt_inj (fun i => decide (a 1 i = 4)) (fun i => jn (a 4 i)) n _ hN (fun t ht => ?_)
    obtain ⟨t40, hke, hp⟩ := hmem t ht
    unfold keeperB at hke
    rw [if_neg hp, foldU_foldl] at hke
    rcases sel_ref (v := f) T O t with ⟨y1, y2⟩ | ⟨m', hm', hqm', y1, y2⟩
    · rw [y1] at hke; exact absurd hke.symm (nI_m1 k (by omega))
    · unfold keQ at hqm'
      simp only [Bool.and_eq_true, decide_eq_true_eq] at hqm'
      exact ⟨m', List.mem_range.mp hm', decide_eq_true hqm'.1.1.2, by show jn (a 4 m') = t; rw [hqm'.1.2]; exact jn_nI (by omega)⟩
  have h3 : 0 < (List.range n).countP (fun i => decide (a 1 i = 3)) := by
    obtain ⟨p, p1, -, p3, -⟩ := T.cake k hk
    exact List.countP_pos_iff.mpr ⟨p, List.mem_range.mpr p1, decide_eq_true p3⟩
  have hs := cnt_three (fun i => decide (a 1 i = 0)) (fun i => decide (a 1 i = 4)) (fun i => decide (a 1 i = 3)) (fun i => ⟨fun z => ?_, fun z => ?_, fun z => ?_⟩) n
  · omega
  · rw [decide_eq_true_eq] at z; show decide (a 1 i = 4) = false; rw [z]; decide
  · rw [decide_eq_true_eq] at z; show decide (a 1 i = 3) = false; rw [z]; decide
  · rw [decide_eq_true_eq] at z; show decide (a 1 i = 3) = false; rw [z]; decide
/-! the meeting -/
def mB (F : FF) (f o j : Nat) : Int32 := ((F 3 j >>> (nI f &&& 31)) &&& 1) ||| ((F 3 j >>> (nI o &&& 31)) &&& 1)
theorem me_5 : ∀ (f o : Fin 5) (x0 x1 x2 x3 x4 : Bool), ((c5 x0 x1 x2 x3 x4 >>> (nI f.val &&& 31)) &&& 1) ||| ((c5 x0 x1 x2 x3 x4 >>> (nI o.val &&& 31)) &&& 1) = bI (pick x0 x1 x2 x3 x4 f.val || pick x0 x1 x2 x3 x4 o.val) ∧ ((((c5 x0 x1 x2 x3 x4 >>> (nI f.val &&& 31)) &&& (c5 x0 x1 x2 x3 x4 >>> (nI o.val &&& 31))) &&& 1 = 0) ↔ (pick x0 x1 x2 x3 x4 f.val && pick x0 x1 x2 x3 x4 o.val) = false) ∧
    c5 x0 x1 x2 x3 x4 ||| ((bI (pick x0 x1 x2 x3 x4 f.val || pick x0 x1 x2 x3 x4 o.val) <<< (nI f.val &&& 31)) ||| (bI (pick x0 x1 x2 x3 x4 f.val || pick x0 x1 x2 x3 x4 o.val) <<< (nI o.val &&& 31))) = b5 (fun v => if v = o.val then (pick x0 x1 x2 x3 x4 f.val || pick x0 x1 x2 x3 x4 o.val) else if v = f.val then (pick x0 x1 x2 x3 x4 f.val || pick x0 x1 x2 x3 x4 o.val) else pick x0 x1 x2 x3 x4 v) := by decide +kernel
theorem me_c (c : Nat → Bool) {f o : Nat} (hf : f < 5) (ho : o < 5) : ((b5 c >>> (nI f &&& 31)) &&& 1) ||| ((b5 c >>> (nI o &&& 31)) &&& 1) = bI (c f || c o) ∧ ((((b5 c >>> (nI f &&& 31)) &&& (b5 c >>> (nI o &&& 31))) &&& 1 = 0) ↔ (c f && c o) = false) ∧
    b5 c ||| ((bI (c f || c o) <<< (nI f &&& 31)) ||| (bI (c f || c o) <<< (nI o &&& 31))) = b5 (fun v => if v = o then (c f || c o) else if v = f then (c f || c o) else c v) := by
  obtain ⟨h1, h2, h3⟩ := me_5 ⟨f, hf⟩ ⟨o, ho⟩ (c 0) (c 1) (c 2) (c 3) (c 4)
  simp only [pick_c c hf, pick_c c ho] at h1 h2 h3
  refine ⟨h1, h2, h3.trans (b5_cg (fun v hv => ?_))⟩
  rw [pick_c c hv]
theorem lT_me (E : lT n cm a kn F) {o j y : Nat} (hf : f < 5) (ho : o < 5) (hj : j < n) : lT n cm a (meStep f o j (y, kn)).2 (upA F 3 j (F 3 j ||| ((mB F f o j <<< (nI f &&& 31)) ||| (mB F f o j <<< (nI o &&& 31))))) ∧ (meStep f o j (y, kn)).1 = (if decide (mB F f o j = 1) && decide (((F 3 j >>> (nI f &&& 31)) &&& (F 3 j >>> (nI o &&& 31))) &&& 1 = 0) then y + 1 else y + 0) := by
  obtain ⟨h1, h2, h3⟩ := me_c (fun v => kn (6 * j + v)) hf ho
  have e3 := E.f3 j hj
  have hb : mB F f o j = bI (kn (6 * j + f) || kn (6 * j + o)) := by unfold mB; rw [e3]; exact h1
  constructor
  · obtain ⟨e1, e2, f1, f2, f3, f4, f5, f6, f7, f8⟩ := E
    refine ⟨e1, ?_, ?_, ?_, fun i hi => ?_, ?_, ?_, ?_, ?_, ?_⟩
    · simpa [upA_at] using e2
    · simpa [upA_at] using f1
    · simpa [upA_at] using f2
    · rw [upA_at, if_pos rfl]
      have hk : ∀ u, u < 5 → (meStep f o j (y, kn)).2 (6 * i + u) = if i = j then (if u = o then (kn (6 * j + f) || kn (6 * j + o)) else if u = f then (kn (6 * j + f) || kn (6 * j + o)) else kn (6 * j + u)) else kn (6 * i + u) := fun u hu => by
        show upK (upK kn (6 * j + f) (kn (6 * j + f) || kn (6 * j + o))) (6 * j + o) (kn (6 * j + f) || kn (6 * j + o)) (6 * i + u) = _
        unfold upK
        by_cases q : i = j
        · subst q
          rw [if_pos rfl]
          by_cases q1 : u = o
          · rw [if_pos (by omega), if_pos q1]
          · rw [if_neg (by omega), if_neg q1]
            by_cases q2 : u = f
            · rw [if_pos (by omega), if_pos q2]
            · rw [if_neg (by omega), if_neg q2]
        · rw [if_neg (by omega), if_neg (by omega), if_neg q]
      by_cases q : i = j
      · subst q
        rw [if_pos rfl, hb, e3, h3]
        exact b5_cg (fun u hu => by rw [hk u hu, if_pos rfl])
      · rw [if_neg q, f3 i hi]
        exact b5_cg (fun u hu => by rw [hk u hu, if_neg q])
    · simpa [upA_at] using f4
    · simpa [upA_at] using f5
    · simpa [upA_at] using f6
    · simpa [upA_at] using f7
    · simpa [upA_at] using f8
  · show (if kn (6 * j + f) = kn (6 * j + o) then y + 0 else y + 1) = _
    rw [e3, hb]
    have h2' : decide (((b5 (fun v => kn (6 * j + v)) >>> (nI f &&& 31)) &&& (b5 (fun v => kn (6 * j + v)) >>> (nI o &&& 31))) &&& 1 = 0) = !(kn (6 * j + f) && kn (6 * j + o)) := by
      rw [Bool.eq_iff_iff, decide_eq_true_eq, h2, Bool.not_eq_true']
    rw [h2']
    cases kn (6 * j + f) <;> cases kn (6 * j + o) <;> simp [bI]
theorem lT_mc (E : lT n cm a kn F) {o : Nat} (hf : f < 5) (ho : o < 5) : lT n cm (upA (upA a 10 f (meC a f o)) 10 o (meC a f o)) kn (upA (upA F 5 f (if F 5 f ≤ F 5 o then F 5 o else F 5 f)) 5 o (if F 5 f ≤ F 5 o then F 5 o else F 5 f)) := by
  have hm : (if F 5 f ≤ F 5 o then F 5 o else F 5 f) = meC a f o := by unfold meC; rw [E.f5 f hf, E.f5 o ho]
  rw [hm]
  obtain ⟨e1, e2, f1, f2, f3, f4, f5, f6, f7, f8⟩ := E
  refine ⟨e1, ?_, ?_, ?_, ?_, ?_, ?_, fun u hu => ?_, ?_, ?_⟩
  · simpa [upA_at] using e2
  · simpa [upA_at] using f1
  · simpa [upA_at] using f2
  · simpa [upA_at] using f3
  · simpa [upA_at] using f4
  · simpa [upA_at] using f5
  · simp only [upA_at, if_true]
    rw [f6 u hu]
  · simpa [upA_at] using f7
  · simpa [upA_at] using f8
end LLOOPS
