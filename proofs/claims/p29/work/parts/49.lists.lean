/-! no machine: the calls that write several words, and the meeting -/
section LISTS
variable {n cm : Nat} {a : Nat → Nat → Int32} {kn : Nat → Bool} {os : List Nat} {v : Nat} {cs : CS} {xs : List Nat}
theorem foldU_getD {α : Type} (g : Nat → α → α) (L : List Nat) (z : α) : ∀ i, i ≤ L.length → foldU (fun j x => g (L.getD j 0) x) z i = (L.take i).foldl (fun x t => g t x) z
  | 0, _ => by rw [foldU_0]; simp
  | i + 1, h => by
    rw [foldU_s, foldU_getD g L z i (by omega), List.take_add_one, List.foldl_append]
    have e : L[i]? = some (L.getD i 0) := by
      rw [List.getD_eq_getElem?_getD, List.getElem?_eq_getElem (by omega)]; rfl
    rw [e]; rfl
def mL (v : Nat) (kd ck : Int32) (x : WS) (t : Nat) : WS := (x.1 + 1, wrA x.2.1 x.1 v kd (nI t) ck, wrK x.2.2 x.1 v)
def cL (v : Nat) (kd ck : Int32) (z : Int32 × List (Nat → Int32)) (t : Nat) : Int32 × List (Nat → Int32) := (z.1 + 1, insA (mkW kd (z.1 + 1) (nI v) (nI t) ck) z.2)
theorem wrL_fold (n : Nat) (a : Nat → Nat → Int32) (kn : Nat → Bool) (v : Nat) (kd ck : Int32) (L : List Nat) : wrL n a kn v kd ck L = L.foldl (mL v kd ck) (n, a, kn) := by
  unfold wrL
  have h := foldU_getD (fun t x => mL v kd ck x t) L (n, a, kn) L.length (Nat.le_refl _)
  rw [List.take_length] at h
  exact h
/-- the words of a list, one behind another: KEEPs (4) or TAKEs (1) of things for a cake -/
theorem rel_list (kd : Int32) (hkd : kd = 4 ∨ kd = 1) {k : Nat} (hk : k < cm) (hv : v < 5) : ∀ (L : List Nat) (n : Nat) (a : Nat → Nat → Int32) (kn : Nat → Bool) (b : Nat → Nat → Int32) (cn : Nat) (ws : List (Nat → Int32)), (∀ t, t ∈ L → t < 40) → n + L.length ≤ 240 → tRel n cm a kn (b, cn, ws) →
    tRel (L.foldl (mL v kd (nI k)) (n, a, kn)).1 cm (L.foldl (mL v kd (nI k)) (n, a, kn)).2.1 (L.foldl (mL v kd (nI k)) (n, a, kn)).2.2 (upA b 10 v (L.foldl (cL v kd (nI k)) (b 10 v, ws)).1, cn, (L.foldl (cL v kd (nI k)) (b 10 v, ws)).2)
  | [], n, a, kn, b, cn, ws, _, _, R => by
    show tRel n cm a kn (upA b 10 v (b 10 v), cn, ws)
    rw [upA_self]; exact R
  | t :: M, n, a, kn, b, cn, ws, hL, hn, R => by
    have ht := hL t List.mem_cons_self
    rw [List.length_cons] at hn
    have hkd2 : ¬ kd = 2 := by rcases hkd with h | h <;> rw [h] <;> decide
    have hkd3 : ¬ (kd = 3 ∨ kd = 5 ∨ kd = 6) := by rcases hkd with h | h <;> rw [h] <;> decide
    have hkd5 : ¬ kd = 5 := by rcases hkd with h | h <;> rw [h] <;> decide
    have hkd6 : ¬ kd = 6 := by rcases hkd with h | h <;> rw [h] <;> decide
    have jv : jn (nI v) = v := jn_nI (by omega)
    have hw : wKind cm (wrA a n v kd (nI t) (nI k)) n := by
      rcases hkd with h | h
      · exact Or.inr (Or.inr (Or.inr (Or.inr (Or.inl ⟨by rw [wrA_at, h]; simp, ⟨t, ht, by rw [wrA_at]; simp⟩, k, hk, by rw [wrA_at]; simp⟩))))
      · exact Or.inr (Or.inl ⟨by rw [wrA_at, h]; simp, ⟨t, ht, by rw [wrA_at]; simp⟩, Or.inr ⟨k, hk, by rw [wrA_at]; simp⟩⟩)
    have R1 := rel_word R (by omega) hv kd (nI t) (nI k) (nI t) (nI k) hkd2 (by rw [if_neg hkd3]) (by rw [if_neg hkd3]) hw (wPlan_no (by rw [wrA_at]; simpa using hkd5) (by rw [wrA_at]; simpa using hkd6))
    unfold cWr at R1
    rw [jv] at R1
    have ih := rel_list kd hkd hk hv M (n + 1) (wrA a n v kd (nI t) (nI k)) (wrK kn n v) (upA b 10 v (b 10 v + 1)) cn (insA (mkW kd (b 10 v + 1) (nI v) (nI t) (nI k)) ws) (fun t ht => hL t (List.mem_cons_of_mem _ ht)) (by omega) R1
    rw [upA_s, upA_tw] at ih
    exact ih
theorem opB_eq (f k : Int32) : opB n cm a kn f k = (inB f 0 4 && inB k 0 (nI cm - 1) && decide (stateB a kn n (jn f) (jn k) = 1)) := rfl
theorem rel_17 (rw : Nat → Int32) (R : tRel n cm a kn cs) : tRel n cm (set17 a rw) kn cs := R
theorem keptP_range {t : Nat} {k : Int32} : ∀ i, t ∈ foldU (kpStep a kn n v k) [] i → t < i ∧ keeperB a kn n v (nI t) = k
  | 0, h => absurd h List.not_mem_nil
  | i + 1, h => by
    rw [foldU_s] at h
    unfold kpStep at h
    split at h
    · rename_i q
      rcases List.mem_append.mp h with z | z
      · have := keptP_range i z
        exact ⟨by omega, this.2⟩
      · rw [List.mem_singleton] at z; subst z; exact ⟨by omega, q⟩
    · have := keptP_range i h
      exact ⟨by omega, this.2⟩
/-- how many are kept: food by food, or thing by thing -/
theorem sum40 (s : Nat → Nat) : (∀ fo, fo < 8 → ∀ y, foldU (fun j y => y + s (fo + 8 * j)) y 5 = y + (s fo + s (fo + 8) + s (fo + 16) + s (fo + 24) + s (fo + 32))) := by
  intro fo _ y
  simp only [foldU]
  simp only [Nat.mul_zero, Nat.add_zero, Nat.reduceMul, Nat.reduceAdd]
  omega
theorem keptAll_len {z : VS} (V : vOk n cm a kn v z) (k : Int32) : cKeptAll z.1 k = (keptL a kn n v k).length := by
  have e1 : ∀ fo, fo < 8 → vKeptN z.1 k fo = foldU (fun j y => y + (fun t => if keeperB a kn n v (nI t) = k then 1 else 0) (fo + 8 * j)) 0 5 := fun fo hfo => foldU_cg (fun j hj y => by
    unfold vkStep
    rw [V.2.2.2.2.2.1 (fo + 8 * j) (by omega)]
    split
    · rename_i h; simp [h]
    · rename_i h; simp [h])
  have e2 : ∀ i, (foldU (kpStep a kn n v k) [] i).length = foldU (fun t y => y + (fun t => if keeperB a kn n v (nI t) = k then 1 else 0) t) 0 i := by
    intro i
    induction i with
    | zero => rfl
    | succ i ih =>
      rw [foldU_s, foldU_s, ← ih]
      unfold kpStep
      split
      · rename_i h; simp [h]
      · rename_i h; simp [h]
  unfold keptL
  rw [e2]
  generalize (fun t => if keeperB a kn n v (nI t) = k then 1 else 0 : Nat → Nat) = s at e1 ⊢
  have e3 : cKeptAll z.1 k = foldU (fun fo y => y + (s fo + s (fo + 8) + s (fo + 16) + s (fo + 24) + s (fo + 32))) 0 8 := by
    unfold cKeptAll
    refine foldU_cg (fun fo hfo y => ?_)
    unfold kaStep
    rw [e1 fo hfo, sum40 s fo hfo 0]; omega
  rw [e3]
  simp only [foldU]
  simp only [Nat.reduceAdd]
  omega
theorem lack_nat (T : tInv n cm a kn) {k o : Nat} (hk : k < cm) (ho : o < 8) : ∃ q, q ≤ 3 ∧ lackB a kn n v k o = nI q := by
  obtain ⟨r, hr, er⟩ := T.mi.2.2.2.2 k hk
  obtain ⟨w, hw, ew⟩ := T.needs (8 * r + o) (by omega)
  have hs : keptOfB a kn n v (nI k) o ≤ 5 := ko_le a kn n v (nI k) o 5
  unfold lackB
  rw [er, jn_nI (by omega), ew]
  generalize keptOfB a kn n v (nI k) o = s at hs ⊢
  have e := pk_sub_toInt (a := w) (b := s) (by omega) (by omega)
  have e0 : (0 : Int32).toInt = 0 := by decide
  by_cases h : s ≤ w
  · rw [if_pos (by rw [Int32.le_iff_toInt_le, e, e0]; omega), pk_sub h]
    exact ⟨w - s, by omega, rfl⟩
  · rw [if_neg (by rw [Int32.le_iff_toInt_le, e, e0]; omega)]
    exact ⟨0, by omega, rfl⟩
theorem lackAll_nat (T : tInv n cm a kn) {k : Nat} (hk : k < cm) : ∀ i, i ≤ 8 → ∃ S, S ≤ 3 * i ∧ foldU (laStep a kn n v k) 0 i = nI S ∧ (0 < S ↔ ∃ f, f < i ∧ 0 < lackB a kn n v k f)
  | 0, _ => ⟨0, by omega, rfl, ⟨fun h => absurd h (by omega), fun ⟨f, h, _⟩ => absurd h (by omega)⟩⟩
  | i + 1, hi => by
    obtain ⟨S, h1, h2, h3⟩ := lackAll_nat T hk i (by omega)
    obtain ⟨q, q1, q2⟩ := lack_nat (v := v) T hk (show i < 8 by omega)
    have hq : 0 < lackB a kn n v k i ↔ 0 < q := by rw [q2]; exact nI_ltI (a := 0) (by omega) (by omega)
    refine ⟨S + q, by omega, ?_, ?_⟩
    · rw [foldU_s, h2]
      show nI S + lackB a kn n v k i = _
      rw [q2, nI_add]
    · constructor
      · intro h
        by_cases z : 0 < S
        · obtain ⟨f, f1, f2⟩ := h3.mp z
          exact ⟨f, by omega, f2⟩
        · exact ⟨i, by omega, hq.mpr (by omega)⟩
      · rintro ⟨f, f1, f2⟩
        by_cases z : f = i
        · rw [z] at f2; have := hq.mp f2; omega
        · have := h3.mpr ⟨f, by omega, f2⟩; omega
theorem bl_eq (R : tRel n cm a kn cs) {z : VS} (V : vOk n cm a kn v z) {k : Nat} (hk : k < cm) : blF z.1 cs.1 k = decide (0 < lackAll a kn n v k) := by
  obtain ⟨S, h1, h2, h3⟩ := lackAll_nat (v := v) R.inv hk 8 (Nat.le_refl _)
  have e : lackAll a kn n v k = nI S := h2
  have hS : 0 < nI S ↔ 0 < S := nI_ltI (a := 0) (by omega) (by omega)
  unfold blF
  rw [e, Bool.eq_iff_iff, foldU_or, decide_eq_true_eq, hS, h3]
  constructor
  · rintro ⟨f, f1, f2⟩
    unfold blP at f2
    rw [decide_eq_true_eq, lack_eq R V hk f1] at f2
    exact ⟨f, f1, f2⟩
  · rintro ⟨f, f1, f2⟩
    refine ⟨f, f1, ?_⟩
    unfold blP
    rw [decide_eq_true_eq, lack_eq R V hk f1]; exact f2
theorem bk_fold {z : VS} (V : vOk n cm a kn v z) (b : Nat → Nat → Int32) (f k : Nat) (ws : List (Nat → Int32)) : ∀ i, i ≤ 40 → bkF z.1 b f k ws i = (foldU (kpStep a kn n v (nI k)) [] i).foldl (cL f 1 (nI k)) (b 10 f, ws)
  | 0, _ => rfl
  | i + 1, hi => by
    have ih := bk_fold V b f k ws i (by omega)
    unfold bkF at ih ⊢
    rw [foldU_s, foldU_s, ih]
    generalize (foldU (kpStep a kn n v (nI k)) [] i) = L
    unfold bkStep kpStep
    rw [V.2.2.2.2.2.1 i (by omega)]
    split
    · rw [List.foldl_append]; rfl
    · rfl
theorem oz_drop (R : tRel n cm a kn cs) (rw : Nat → Int32) (f k : Int32) : tOp [1, 3] (cDrop cs f k) (mDrop n cm (set17 a rw) kn f k) := by
  have hn := R.inv.hn
  have hcm := R.inv.hcm
  unfold cDrop mDrop
  rw [n5, R.cn, nOk_cm k cm (by omega), R.len, opB_17, opTh_17, keptL_17]
  unfold opB opTh
  cases hf : inB f 0 4 with
  | false => exact tOp_same (m := 1) (rel_17 rw R) rfl (by decide)
  | true =>
    cases hk : inB k 0 (nI cm - 1) with
    | false => exact tOp_same (m := 1) (rel_17 rw R) rfl (by decide)
    | true =>
      obtain ⟨jf, hjf, rfl⟩ := in4 hf
      obtain ⟨jk, hjk, rfl⟩ := inC hcm hk
      have jv : jn (nI jf) = jf := jn_nI (by omega)
      have jkk : jn (nI jk) = jk := jn_nI (by omega)
      have V := R.look hjf
      have hop : opnOk (cLk cs.1 cs.2.2 (nI jf)).1 jk = decide (stateB a kn n jf jk = 1) := by unfold opnOk; rw [V.2.2.2.2.1 jk hjk]
      have hrm : roomOk n 1 = !fullB n 1 := room_full hn 1 (by omega)
      rw [jv, jkk, hop, hrm]
      by_cases hs : stateB a kn n jf jk = 1
      · rw [decide_eq_true hs]
        cases hfl : fullB n 1 with
        | true => exact tOp_same (rel_17 rw R) rfl (by decide)
        | false =>
          have hlt : n < 240 := by unfold fullB at hfl; rw [decide_eq_false_iff_not] at hfl; omega
          obtain ⟨p, p1, p2, -, -⟩ := R.inv.cake jk hjk
          have hkp := st_open p2 (by omega) hs
          refine tOp_wr ?_ ?_
          · show nI (cKeptAll (cLk cs.1 cs.2.2 (nI jf)).1 (nI jk)) = nI (keptL a kn n jf (nI jk)).length
            rw [keptAll_len V]
          · exact rel_word (rel_17 rw R) hlt hjf 5 (nI jk) (-1) (-1) (nI jk) (by decide) rfl rfl (Or.inr (Or.inr (Or.inr (Or.inr (Or.inr (Or.inl ⟨by rw [wrA_at]; simp, jk, hjk, by rw [wrA_at]; simp⟩)))))) (wPlan_new (rel_17 rw R).inv hjf hjk p2 p1 hkp 5 (-1))
      · rw [decide_eq_false hs, if_neg hs]
        exact tOp_same (rel_17 rw R) rfl (by decide)
theorem mL_keep (kd ck : Int32) (hv : v < 5) : ∀ (L : List Nat) (n : Nat) (a : Nat → Nat → Int32) (kn : Nat → Bool), (L.foldl (mL v kd ck) (n, a, kn)).1 = n + L.length ∧ (∀ k, (L.foldl (mL v kd ck) (n, a, kn)).2.1 15 k = a 15 k) ∧ ∀ p u, p < n → u ≤ 5 → (L.foldl (mL v kd ck) (n, a, kn)).2.2 (6 * p + u) = kn (6 * p + u)
  | [], n, a, kn => ⟨rfl, fun _ => rfl, fun _ _ _ _ => rfl⟩
  | t :: M, n, a, kn => by
    obtain ⟨h1, h2, h3⟩ := mL_keep kd ck hv M (n + 1) (wrA a n v kd (nI t) ck) (wrK kn n v)
    refine ⟨?_, fun k => ?_, fun p u hp hu => ?_⟩
    · rw [List.length_cons]; show (M.foldl (mL v kd ck) (n + 1, wrA a n v kd (nI t) ck, wrK kn n v)).1 = _; rw [h1]; omega
    · show (M.foldl (mL v kd ck) (n + 1, wrA a n v kd (nI t) ck, wrK kn n v)).2.1 15 k = _
      rw [h2, wrA_at]; simp
    · show (M.foldl (mL v kd ck) (n + 1, wrA a n v kd (nI t) ck, wrK kn n v)).2.2 (6 * p + u) = _
      rw [h3 p u (by omega) hu, wrK_old kn hv hp hu]
theorem oz_bake (R : tRel n cm a kn cs) (rw : Nat → Int32) (f k : Int32) : tOp [1, 3] (cBake cs f k) (mBake n cm (set17 a rw) kn f k) := by
  have hn := R.inv.hn
  have hcm := R.inv.hcm
  unfold cBake mBake
  rw [n5, R.cn, nOk_cm k cm (by omega), R.len, opB_17, opTh_17, keptL_17, lackAll_17]
  unfold opB opTh
  cases hf : inB f 0 4 with
  | false => exact tOp_same (m := 1) (rel_17 rw R) rfl (by decide)
  | true =>
    cases hk : inB k 0 (nI cm - 1) with
    | false => exact tOp_same (m := 1) (rel_17 rw R) rfl (by decide)
    | true =>
      obtain ⟨jf, hjf, rfl⟩ := in4 hf
      obtain ⟨jk, hjk, rfl⟩ := inC hcm hk
      have jv : jn (nI jf) = jf := jn_nI (by omega)
      have jkk : jn (nI jk) = jk := jn_nI (by omega)
      have V := R.look hjf
      have hop : opnOk (cLk cs.1 cs.2.2 (nI jf)).1 jk = decide (stateB a kn n jf jk = 1) := by unfold opnOk; rw [V.2.2.2.2.1 jk hjk]
      have hlen : (keptL a kn n jf (nI jk)).length ≤ 40 := kp_len a kn n jf (nI jk) 40
      have hrm : roomOk n (nI ((keptL a kn n jf (nI jk)).length + 1)) = !fullB n ((keptL a kn n jf (nI jk)).length + 1) := room_full hn _ (by omega)
      rw [jv, jkk, hop, keptAll_len V, hrm, bl_eq R V hjk]
      by_cases hs : stateB a kn n jf jk = 1
      · rw [decide_eq_true hs]
        cases hla : decide (0 < lackAll a kn n jf jk) with
        | true => exact tOp_same (rel_17 rw R) rfl (by decide)
        | false =>
          cases hfl : fullB n ((keptL a kn n jf (nI jk)).length + 1) with
          | true => exact tOp_same (rel_17 rw R) rfl (by decide)
          | false =>
            have hlt : n + ((keptL a kn n jf (nI jk)).length + 1) ≤ 240 := by unfold fullB at hfl; rw [decide_eq_false_iff_not] at hfl; omega
            obtain ⟨p, p1, p2, -, -⟩ := R.inv.cake jk hjk
            have hkp := st_open p2 (by omega) hs
            refine tOp_wr rfl ?_
            have hb : bkF (cLk cs.1 cs.2.2 (nI jf)).1 cs.1 jf jk cs.2.2 40 = (keptL a kn n jf (nI jk)).foldl (cL jf 1 (nI jk)) (cs.1 10 jf, cs.2.2) := bk_fold V cs.1 jf jk cs.2.2 40 (Nat.le_refl _)
            rw [hb, wrL_fold]
            have RL := rel_list 1 (Or.inr rfl) hjk hjf (keptL a kn n jf (nI jk)) n (set17 a rw) kn cs.1 cs.2.1 cs.2.2 (fun t ht => (keptP_range (a := a) 40 ht).1) (by omega) (rel_17 rw R)
            obtain ⟨m1, m2, m3⟩ := mL_keep (v := jf) 1 (nI jk) hjf (keptL a kn n jf (nI jk)) n (set17 a rw) kn
            have hcn : cs.2.1 = cm := R.cn
            generalize (keptL a kn n jf (nI jk)).foldl (mL jf 1 (nI jk)) (n, set17 a rw, kn) = M at RL m1 m2 m3 ⊢
            generalize (keptL a kn n jf (nI jk)).foldl (cL jf 1 (nI jk)) (cs.1 10 jf, cs.2.2) = C at RL ⊢
            have R1 := rel_word RL (by omega) hjf 6 (nI jk) (-1) (-1) (nI jk) (by decide) rfl rfl (Or.inr (Or.inr (Or.inr (Or.inr (Or.inr (Or.inr ⟨by rw [wrA_at]; simp, jk, hjk, by rw [wrA_at]; simp⟩)))))) (wPlan_new RL.inv hjf hjk (by rw [m2]; exact p2) (by omega) (by rw [m3 p jf p1 (by omega)]; exact hkp) 6 (-1))
            unfold cWr at R1
            rw [jv] at R1
            simp only [upA_s, upA_tw, hcn] at R1
            exact R1
      · rw [decide_eq_false hs, if_neg hs]
        exact tOp_same (rel_17 rw R) rfl (by decide)
/-- the things of a food that are to be kept: the first free ones -/
def frL (p : Nat → Bool) (fo q : Nat) : List Nat := (((List.range 5).filter (fun j => p (fo + 8 * j))).map (fun j => fo + 8 * j)).take q
def wkl (p : Nat → Bool) (fo : Nat) : List Nat → Nat → List Nat
  | [], _ => []
  | j :: r, q => if 0 < q then (if p (fo + 8 * j) then (fo + 8 * j) :: wkl p fo r (q - 1) else wkl p fo r q) else []
theorem wkl_0 (p : Nat → Bool) (fo : Nat) : ∀ l, wkl p fo l 0 = []
  | [] => rfl
  | j :: r => rfl
theorem wkl_take (p : Nat → Bool) (fo : Nat) : ∀ (l : List Nat) (q : Nat), wkl p fo l q = ((l.filter (fun j => p (fo + 8 * j))).map (fun j => fo + 8 * j)).take q
  | [], q => by simp [wkl]
  | j :: r, q => by
    unfold wkl
    cases q with
    | zero => simp
    | succ q =>
      rw [if_pos (by omega), List.filter_cons]
      cases h : p (fo + 8 * j) with
      | true => simp only [if_true, List.map_cons, List.take_succ_cons]; rw [Nat.add_sub_cancel, wkl_take p fo r q]
      | false => simp only [Bool.false_eq_true, if_false]; exact wkl_take p fo r (q + 1)
theorem wkl_fr (p : Nat → Bool) (fo q : Nat) : wkl p fo (List.range 5) q = frL p fo q := wkl_take p fo (List.range 5) q
def fr5 (p : Nat → Bool) (fo : Nat) : Nat := (List.range 5).countP (fun j => p (fo + 8 * j))
theorem frL_min (p : Nat → Bool) (fo q : Nat) : frL p fo q = frL p fo (min q (fr5 p fo)) := by
  unfold frL fr5
  rw [List.take_eq_take_min, List.length_map, ← List.countP_eq_length_filter]
theorem frL_len (p : Nat → Bool) (fo q : Nat) : (frL p fo q).length = min q (fr5 p fo) := by
  unfold frL fr5
  rw [List.length_take, List.length_map, ← List.countP_eq_length_filter]
theorem frL_lt (p : Nat → Bool) {fo q t : Nat} (hfo : fo < 8) (h : t ∈ frL p fo q) : t < 40 := by
  have h := List.mem_of_mem_take h
  rw [List.mem_map] at h
  obtain ⟨j, hj, e⟩ := h
  have := List.mem_range.mp (List.mem_filter.mp hj).1
  omega
theorem fr5_le (p : Nat → Bool) (fo : Nat) : fr5 p fo ≤ 5 := by
  have := List.countP_le_length (p := fun j => p (fo + 8 * j)) (l := List.range 5)
  rw [List.length_range] at this
  exact this
/-- the reference's walk through a food -/
def frB (a : Nat → Nat → Int32) (kn : Nat → Bool) (n v t : Nat) : Bool := !decide (placeB a kn n v (nI t) = -1) && decide (keeperB a kn n v (nI t) = -1)
theorem li_fold (fo : Nat) : ∀ (l : List Nat) (q : Nat) (L : List Nat), q < 1000 → (l.foldl (fun x j => liStep a kn n v fo j x) (nI q, L)).2 = L ++ wkl (frB a kn n v) fo l q
  | [], q, L, _ => by simp [wkl]
  | j :: r, q, L, hq => by
    rw [List.foldl_cons]
    unfold wkl
    have e0 : nI q ≤ 0 ↔ q = 0 := by
      have h := nI_leI (a := q) (b := 0) (by omega) (by omega)
      exact h.trans Nat.le_zero
    by_cases hz : q = 0
    · subst hz
      have e : liStep a kn n v fo j (nI 0, L) = (nI 0, L) := by unfold liStep; rw [if_pos (e0.mpr rfl)]
      rw [e, li_fold fo r 0 L (by omega), wkl_0, if_neg (by omega)]
    · rw [if_pos (by omega)]
      have hns : ¬ (nI q, L).1 ≤ 0 := fun z => hz (e0.mp z)
      unfold liStep frB
      rw [if_neg hns]
      by_cases hp : placeB a kn n v (nI (fo + 8 * j)) = -1
      · rw [if_pos hp, decide_eq_true hp]
        simp only [Bool.not_true, Bool.false_and, Bool.false_eq_true, if_false]
        exact li_fold fo r q L hq
      · rw [if_neg hp, decide_eq_false hp]
        by_cases hkp : keeperB a kn n v (nI (fo + 8 * j)) = -1
        · rw [if_pos hkp, decide_eq_true hkp]
          simp only [Bool.not_false, Bool.true_and, if_true]
          have e1 : nI q + -1 = nI (q - 1) := sb_m1 (by omega)
          rw [e1]
          have ih := li_fold fo r (q - 1) (L ++ [fo + 8 * j]) (by omega)
          rw [List.append_assoc] at ih
          exact ih
        · rw [if_neg hkp, decide_eq_false hkp]
          simp only [Bool.not_false, Bool.and_false, Bool.false_eq_true, if_false]
          exact li_fold fo r q L hq
def lkQ (a : Nat → Nat → Int32) (kn : Nat → Bool) (n v k fo : Nat) : Nat := jn (lackB a kn n v k fo)
theorem lkQ_eq (T : tInv n cm a kn) {k o : Nat} (hk : k < cm) (ho : o < 8) : lkQ a kn n v k o ≤ 3 ∧ lackB a kn n v k o = nI (lkQ a kn n v k o) := by
  obtain ⟨q, q1, q2⟩ := lack_nat (v := v) T hk ho
  unfold lkQ
  rw [q2, jn_nI (by omega)]
  exact ⟨q1, rfl⟩
theorem lk_step (T : tInv n cm a kn) {k o : Nat} (hk : k < cm) (ho : o < 8) (L : List Nat) : lkStep a kn n v k o L = L ++ frL (frB a kn n v) o (lkQ a kn n v k o) := by
  obtain ⟨h1, h2⟩ := lkQ_eq (v := v) T hk ho
  unfold lkStep
  rw [foldU_foldl, h2, li_fold o (List.range 5) _ L (by omega), wkl_fr]
/-- the class's walk through a food -/
theorem wk_fold (V : Nat → Nat → Int32) (f ck fo : Nat) : ∀ (m j q : Nat) (c : Int32) (ws : List (Nat → Int32)), q < 1000 → wkG V f ck fo m j (nI q) c ws = (wkl (vFree V) fo (List.range' j m) q).foldl (cL f 4 (nI ck)) (c, ws)
  | 0, j, q, c, ws, _ => rfl
  | m + 1, j, q, c, ws, hq => by
    rw [List.range'_succ]
    unfold wkG wkl
    have e0 : 0 < nI q ↔ 0 < q := nI_ltI (a := 0) (by omega) (by omega)
    by_cases hz : 0 < q
    · rw [if_pos (e0.mpr hz), if_pos hz]
      cases hf : vFree V (fo + 8 * j) with
      | true =>
        have e1 : nI q + -1 = nI (q - 1) := sb_m1 hz
        simp only [if_true]
        rw [e1, wk_fold V f ck fo m (j + 1) (q - 1) _ _ (by omega)]
        rfl
      | false =>
        simp only [Bool.false_eq_true, if_false]
        exact wk_fold V f ck fo m (j + 1) q c ws hq
    · rw [if_neg (fun z => hz (e0.mp z)), if_neg hz]; rfl
theorem free_eq {z : VS} (V : vOk n cm a kn v z) {t : Nat} (ht : t < 40) : vFree z.1 t = frB a kn n v t := by
  unfold vFree frB
  rw [V.1 t ht, V.2.2.2.2.2.1 t ht]
theorem frL_cg {p p' : Nat → Bool} {fo : Nat} (hfo : fo < 8) (h : ∀ t, t < 40 → p t = p' t) (q : Nat) : frL p fo q = frL p' fo q := by
  unfold frL
  have e : (List.range 5).filter (fun j => p (fo + 8 * j)) = (List.range 5).filter (fun j => p' (fo + 8 * j)) := List.filter_congr (fun j hj => h _ (by have := List.mem_range.mp hj; omega))
  rw [e]
theorem fr5_cg {p p' : Nat → Bool} {fo : Nat} (hfo : fo < 8) (h : ∀ t, t < 40 → p t = p' t) : fr5 p fo = fr5 p' fo := by
  unfold fr5
  exact List.countP_congr (fun j hj => by rw [h _ (by have := List.mem_range.mp hj; omega)])
theorem keepable_eq (R : tRel n cm a kn cs) {z : VS} (V : vOk n cm a kn v z) {k o : Nat} (hk : k < cm) (ho : o < 8) : cKeepable z.1 cs.1 k o = nI (min (lkQ a kn n v k o) (fr5 (frB a kn n v) o)) := by
  obtain ⟨h1, h2⟩ := lkQ_eq (v := v) R.inv hk ho
  have hF := fr5_le (frB a kn n v) o
  have e : vFreeN z.1 o = fr5 (frB a kn n v) o := by
    have e1 : vFreeN z.1 o = foldU (fun j x => if frB a kn n v (o + 8 * j) then x + 1 else x + 0) 0 5 := foldU_cg (fun j hj x => by
      unfold vfStep
      rw [free_eq V (by omega)]; rfl)
    rw [e1]
    exact cnt_fold (fun j => frB a kn n v (o + 8 * j)) 5
  unfold cKeepable
  rw [e, lack_eq R V hk ho, h2]
  generalize lkQ a kn n v k o = q at h1 ⊢
  generalize fr5 (frB a kn n v) o = F at hF ⊢
  by_cases hlt : F < q
  · rw [if_pos (nI_lt hlt (by omega)), Nat.min_eq_right (by omega)]
  · rw [if_neg (nI_nlt (by omega) (by omega)), Nat.min_eq_left (by omega)]
theorem keep_fold (R : tRel n cm a kn cs) {z : VS} (V : vOk n cm a kn v z) {k : Nat} (hk : k < cm) (f : Nat) : ∀ i, i ≤ 8 → kwF z.1 cs.1 f k cs.2.2 i = (foldU (lkStep a kn n v k) [] i).foldl (cL f 4 (nI k)) (cs.1 10 f, cs.2.2) ∧ foldU (ckpStep z.1 cs.1 k) 0 i = nI (foldU (lkStep a kn n v k) [] i).length ∧ ∀ t, t ∈ foldU (lkStep a kn n v k) [] i → t < 40
  | 0, _ => ⟨rfl, rfl, fun t h => absurd h List.not_mem_nil⟩
  | i + 1, hi => by
    obtain ⟨h1, h2, h3⟩ := keep_fold R V hk f i (by omega)
    obtain ⟨g1, g2⟩ := lkQ_eq (v := v) R.inv hk (show i < 8 by omega)
    have hF := fr5_le (frB a kn n v) i
    unfold kwF at h1 ⊢
    rw [foldU_s, foldU_s, foldU_s, h1, h2, lk_step R.inv hk (by omega)]
    refine ⟨?_, ?_, fun t ht => ?_⟩
    · generalize (foldU (lkStep a kn n v k) [] i) = L
      rw [List.foldl_append]
      generalize L.foldl (cL f 4 (nI k)) (cs.1 10 f, cs.2.2) = C
      unfold kwStep wkF
      rw [keepable_eq R V hk (by omega), wk_fold _ _ _ _ _ _ _ _ _ (by omega), ← List.range_eq_range', wkl_fr, frL_cg (show i < 8 by omega) (fun t ht => free_eq V ht), ← frL_min]
    · show nI (foldU (lkStep a kn n v k) [] i).length + cKeepable z.1 cs.1 k i = _
      rw [keepable_eq R V hk (by omega), nI_add, List.length_append, frL_len]
    · rcases List.mem_append.mp ht with q | q
      · exact h3 t q
      · exact frL_lt _ (by omega) q
theorem oz_keep (R : tRel n cm a kn cs) (rw : Nat → Int32) (f k : Int32) : tOp [1, 3] (cKeep cs f k) (mKeep n cm (set17 a rw) kn f k) := by
  have hn := R.inv.hn
  have hcm := R.inv.hcm
  unfold cKeep mKeep
  rw [n5, R.cn, nOk_cm k cm (by omega), R.len, opB_17, opTh_17, keepsL_17]
  unfold opB opTh
  cases hf : inB f 0 4 with
  | false => exact tOp_same (m := 1) (rel_17 rw R) rfl (by decide)
  | true =>
    cases hk : inB k 0 (nI cm - 1) with
    | false => exact tOp_same (m := 1) (rel_17 rw R) rfl (by decide)
    | true =>
      obtain ⟨jf, hjf, rfl⟩ := in4 hf
      obtain ⟨jk, hjk, rfl⟩ := inC hcm hk
      have jv : jn (nI jf) = jf := jn_nI (by omega)
      have jkk : jn (nI jk) = jk := jn_nI (by omega)
      have V := R.look hjf
      have hop : opnOk (cLk cs.1 cs.2.2 (nI jf)).1 jk = decide (stateB a kn n jf jk = 1) := by unfold opnOk; rw [V.2.2.2.2.1 jk hjk]
      obtain ⟨k1, k2, k3⟩ := keep_fold R V hjk jf 8 (Nat.le_refl _)
      have hlen : (keepsL a kn n jf jk).length ≤ 40 := lk_len a kn n jf jk 8
      have k2 : foldU (ckpStep (cLk cs.1 cs.2.2 (nI jf)).1 cs.1 jk) 0 8 = nI (keepsL a kn n jf jk).length := k2
      have hrm : roomOk n (nI (keepsL a kn n jf jk).length) = !fullB n (keepsL a kn n jf jk).length := room_full hn _ (by omega)
      rw [jv, jkk, hop, k2, hrm, k1]
      by_cases hs : stateB a kn n jf jk = 1
      · rw [decide_eq_true hs]
        cases hfl : fullB n (keepsL a kn n jf jk).length with
        | true => exact tOp_same (rel_17 rw R) rfl (by decide)
        | false =>
          have hlt : n + (keepsL a kn n jf jk).length ≤ 240 := by unfold fullB at hfl; rw [decide_eq_false_iff_not] at hfl; omega
          refine tOp_wr rfl ?_
          rw [wrL_fold]
          have RL := rel_list 4 (Or.inl rfl) hjk hjf (keepsL a kn n jf jk) n (set17 a rw) kn cs.1 cs.2.1 cs.2.2 k3 hlt (rel_17 rw R)
          rw [R.cn] at RL
          exact RL
      · rw [decide_eq_false hs, if_neg hs]
        exact tOp_same (rel_17 rw R) rfl (by decide)
/-- the meeting -/
theorem me_fold {f o : Nat} (hf : f < 5) (ho : o < 5) (hne : f ≠ o) : ∀ m, (foldU (meStep f o) (0, kn) m).1 = (List.range m).countP (fun w => !decide (kn (6 * w + f) = kn (6 * w + o))) ∧ ∀ w u, u ≤ 5 → (foldU (meStep f o) (0, kn) m).2 (6 * w + u) = if w < m ∧ (u = f ∨ u = o) then (kn (6 * w + f) || kn (6 * w + o)) else kn (6 * w + u)
  | 0 => ⟨rfl, fun w u _ => by rw [if_neg (fun z => absurd z.1 (Nat.not_lt_zero _))]; rfl⟩
  | m + 1 => by
    obtain ⟨h1, h2⟩ := me_fold hf ho hne m
    rw [foldU_s]
    have e1 : (foldU (meStep f o) (0, kn) m).2 (6 * m + f) = kn (6 * m + f) := by rw [h2 m f (by omega), if_neg (by omega)]
    have e2 : (foldU (meStep f o) (0, kn) m).2 (6 * m + o) = kn (6 * m + o) := by rw [h2 m o (by omega), if_neg (by omega)]
    generalize foldU (meStep f o) (0, kn) m = X at h1 h2 e1 e2 ⊢
    unfold meStep
    rw [e1, e2]
    refine ⟨?_, fun w u hu => ?_⟩
    · show (if kn (6 * m + f) = kn (6 * m + o) then _ else _) = _
      rw [List.range_succ, List.countP_append]
      by_cases q : kn (6 * m + f) = kn (6 * m + o)
      · rw [if_pos q, h1]; simp [q]
      · rw [if_neg q, h1]; simp [q]
    · show upK (upK _ (6 * m + f) _) (6 * m + o) _ (6 * w + u) = _
      unfold upK
      by_cases q1 : 6 * w + u = 6 * m + o
      · have : w = m := by omega
        have : u = o := by omega
        rw [if_pos q1, if_pos ⟨by omega, Or.inr this⟩]
        subst w; rfl
      · rw [if_neg q1]
        by_cases q2 : 6 * w + u = 6 * m + f
        · have : w = m := by omega
          have : u = f := by omega
          rw [if_pos q2, if_pos ⟨by omega, Or.inl this⟩]
          subst w; rfl
        · rw [if_neg q2]
          rw [h2 w u hu]
          by_cases q3 : w < m ∧ (u = f ∨ u = o)
          · rw [if_pos q3, if_pos ⟨by omega, q3.2⟩]
          · rw [if_neg q3, if_neg (by omega)]
theorem sh_cnt {f o : Nat} (hf : f < 5) (ho : o < 5) (hne : f ≠ o) : ∀ l : List Nat, shN (p2 f o) (l.map (recW a kn)) = l.countP (fun w => !decide (kn (6 * w + f) = kn (6 * w + o)))
  | [] => rfl
  | i :: r => by
    rw [List.map_cons, List.countP_cons]
    unfold shN
    rw [sh_cnt hf ho hne r]
    have e8 : recW a kn i 8 = b5 (fun u => kn (6 * i + u)) := rfl
    obtain ⟨g1, g2⟩ := b5_p2 (fun u => kn (6 * i + u)) hf ho hne
    rw [e8]
    by_cases x1 : b5 (fun u => kn (6 * i + u)) &&& p2 f o = 0
    · obtain ⟨y1, y2⟩ := g1.mp x1
      rw [if_pos x1]; simp [y1, y2]
    · rw [if_neg x1]
      by_cases x2 : b5 (fun u => kn (6 * i + u)) &&& p2 f o = p2 f o
      · obtain ⟨y1, y2⟩ := g2.mp x2
        rw [if_pos x2]; simp [y1, y2]
      · rw [if_neg x2]
        have : ¬ kn (6 * i + f) = kn (6 * i + o) := by
          intro z
          cases hx : kn (6 * i + f) with
          | false => exact x1 (g1.mpr ⟨hx, by show kn (6 * i + o) = false; rw [← z]; exact hx⟩)
          | true => exact x2 (g2.mpr ⟨hx, by show kn (6 * i + o) = true; rw [← z]; exact hx⟩)
        simp [this]; omega
theorem oz_meet (R : tRel n cm a kn cs) (f o : Int32) : tOp [1, 2] (cMeet cs f o) (mMeet n cm a kn f o) := by
  have hn := R.inv.hn
  unfold cMeet mMeet
  rw [n5, n5]
  cases hf : inB f 0 4 with
  | false => exact tOp_same R rfl (by decide)
  | true =>
    cases ho : inB o 0 4 with
    | false => exact tOp_same R rfl (by decide)
    | true =>
      obtain ⟨jf, hjf, rfl⟩ := in4 hf
      obtain ⟨jo, hjo, rfl⟩ := in4 ho
      rw [jn_nI (show jf < 2 ^ 31 by omega), jn_nI (show jo < 2 ^ 31 by omega)]
      by_cases hne : jf = jo
      · have e2 : nI jf = nI jo := by rw [hne]
        rw [if_pos hne, if_pos e2]
        exact tOp_same (m := 2) R rfl (by decide)
      · rw [if_neg hne, if_neg (fun z => hne ((nI_eq (by omega) (by omega)).mp z))]
        obtain ⟨m1, m2⟩ := me_fold (kn := kn) hjf hjo hne n
        have Rall := R
        obtain ⟨T, ⟨os, O, e⟩, ecn, eclk, erec, eday, eneed⟩ := R
        refine tOp_wr ?_ ?_
        · show nI (shN (p2 jf jo) cs.2.2) = nI (foldU (meStep jf jo) (0, kn) n).1
          rw [e, sh_cnt hjf hjo hne, m1, (ord_perm O).countP_eq]
        · have hmx : (if cs.1 10 jf < cs.1 10 jo then cs.1 10 jo else cs.1 10 jf) = meC a jf jo := by
            rw [eclk jf hjf, eclk jo hjo]
            unfold meC
            by_cases q : a 10 jf < a 10 jo
            · rw [if_pos q, if_pos (by rw [Int32.le_iff_toInt_le]; rw [Int32.lt_iff_toInt_lt] at q; omega)]
            · rw [if_neg q]
              by_cases q2 : a 10 jf ≤ a 10 jo
              · rw [if_pos q2]
                rw [Int32.lt_iff_toInt_lt] at q
                rw [Int32.le_iff_toInt_le] at q2
                rw [← Int32.toInt_inj]; omega
              · rw [if_neg q2]
          show tRel n cm (upA (upA a 10 jf (meC a jf jo)) 10 jo (meC a jf jo)) (foldU (meStep jf jo) (0, kn) n).2 (upA (upA cs.1 10 jf (if cs.1 10 jf < cs.1 10 jo then cs.1 10 jo else cs.1 10 jf)) 10 jo (if cs.1 10 jf < cs.1 10 jo then cs.1 10 jo else cs.1 10 jf), cs.2.1, cs.2.2.map (shOne (p2 jf jo)))
          rw [hmx]
          generalize hK9 : (foldU (meStep jf jo) (0, kn) n).2 = kn' at m2 ⊢
          have hmc : ∃ c, c ≤ n ∧ meC a jf jo = nI c ∧ (a 10 jf).toInt ≤ (meC a jf jo).toInt ∧ (a 10 jo).toInt ≤ (meC a jf jo).toInt := by
            obtain ⟨c1, x1, y1⟩ := T.2.1 jf hjf
            obtain ⟨c2, x2, y2⟩ := T.2.1 jo hjo
            unfold meC
            by_cases q : a 10 jf ≤ a 10 jo
            · rw [if_pos q]
              rw [Int32.le_iff_toInt_le] at q
              exact ⟨c2, x2, y2, q, Int.le_refl _⟩
            · rw [if_neg q]
              rw [Int32.le_iff_toInt_le] at q
              exact ⟨c1, x1, y1, Int.le_refl _, by omega⟩
          obtain ⟨c, hc, ec, hm1, hm2⟩ := hmc
          generalize meC a jf jo = mc at ec hm1 hm2 ⊢
          have hz : ∀ z, z ≠ 10 → upA (upA a 10 jf mc) 10 jo mc z = a z := fun z hz => (upA_k hz).trans (upA_k hz)
          have h10 : ∀ u, upA (upA a 10 jf mc) 10 jo mc 10 u = if u = jo then mc else if u = jf then mc else a 10 u := fun u => by rw [upA_at, upA_at]; simp
          have hle : ∀ u, u < 5 → (a 10 u).toInt ≤ (upA (upA a 10 jf mc) 10 jo mc 10 u).toInt := by
            intro u hu
            rw [h10]
            by_cases q : u = jo
            · rw [if_pos q, q]; exact hm2
            · rw [if_neg q]
              by_cases q2 : u = jf
              · rw [if_pos q2, q2]; exact hm1
              · rw [if_neg q2]; exact Int.le_refl _
          have hup : ∀ w u, w < n → u ≤ 5 → kn (6 * w + u) = true → kn' (6 * w + u) = true := by
            intro w u hw hu h
            rw [m2 w u hu]
            by_cases q : w < n ∧ (u = jf ∨ u = jo)
            · rw [if_pos q]
              rcases q.2 with z | z <;> rw [z] at h <;> simp [h]
            · rw [if_neg q]; exact h
          obtain ⟨t1, t2, t3, t4, t5, t6, t7, t8, t9, t10⟩ := T
          have hlat : ∀ i j, isLaterB (upA (upA a 10 jf mc) 10 jo mc) i j = isLaterB a i j := fun i j => lat_cg (fun k g1 g2 => by rw [hz k (by omega)]) (fun k g1 g2 => by rw [hz k (by omega)])
          refine ⟨⟨t1, fun u hu => ?_, fun i hi => ?_, fun i hi => ?_, fun i u hi hu hku => ?_, t6, fun i hi => ?_, t8, t9, fun i u hi hu => ?_⟩, ⟨os, ⟨O.1, O.2.1, O.2.2.1, List.Pairwise.imp (fun {i j} h => by rw [hlat]; exact h) O.2.2.2⟩, ?_⟩, ecn, fun u hu => ?_, fun k hk => ?_, fun k hk => ?_, fun r f hr hf => ?_⟩
          · rw [h10]
            by_cases q : u = jo
            · rw [if_pos q]; exact ⟨c, hc, ec⟩
            · rw [if_neg q]
              by_cases q2 : u = jf
              · rw [if_pos q2]; exact ⟨c, hc, ec⟩
              · rw [if_neg q2]; exact t2 u hu
          · obtain ⟨w, hw, ew, hkw⟩ := t3 i hi
            exact ⟨w, hw, by rw [hz 2 (by omega)]; exact ew, hup i w hi (by omega) hkw⟩
          · exact hup i 5 hi (by omega) (t4 i hi)
          · rw [hz 3 (by omega)]
            rw [m2 i u (by omega)] at hku
            by_cases q : i < n ∧ (u = jf ∨ u = jo)
            · rw [if_pos q, Bool.or_eq_true] at hku
              have e10 : upA (upA a 10 jf mc) 10 jo mc 10 u = mc := by
                rw [h10]
                rcases q.2 with z | z
                · by_cases y : u = jo
                  · rw [if_pos y]
                  · rw [if_neg y, if_pos z]
                · rw [if_pos z]
              rw [e10]
              rcases hku with z | z
              · exact Int.le_trans (t5 i jf hi hjf z) hm1
              · exact Int.le_trans (t5 i jo hi hjo z) hm2
            · rw [if_neg q] at hku
              exact Int.le_trans (t5 i u hi hu hku) (hle u hu)
          · intro k p h56 e4 e15 hk20 hp
            obtain ⟨g1, g2⟩ := t7 i hi k p h56 e4 e15 hk20 hp
            have hpn : p < n := by
              have hkc : k < cm := by
                rcases t6 i hi with ⟨h, -⟩ | ⟨h, -⟩ | ⟨h, -⟩ | ⟨h, -⟩ | ⟨h, -⟩ | ⟨h, k0, k1, k2⟩ | ⟨h, k0, k1, k2⟩
                · rw [hz 1 (by omega), h] at h56; exact absurd h56 (by decide)
                · rw [hz 1 (by omega), h] at h56; exact absurd h56 (by decide)
                · rw [hz 1 (by omega), h] at h56; exact absurd h56 (by decide)
                · rw [hz 1 (by omega), h] at h56; exact absurd h56 (by decide)
                · rw [hz 1 (by omega), h] at h56; exact absurd h56 (by decide)
                · rw [hz 4 (by omega), k2] at e4
                  have hcm := Rall.inv.hcm
                  have : k0 = k := (nI_eq (by omega) (by omega)).mp e4
                  omega
                · rw [hz 4 (by omega), k2] at e4
                  have hcm := Rall.inv.hcm
                  have : k0 = k := (nI_eq (by omega) (by omega)).mp e4
                  omega
              exact (plan_of Rall.inv hkc (by rw [hz 15 (by omega)] at e15; exact e15) hp).1
            refine ⟨by rw [hlat]; exact g1, fun u hu hku => ?_⟩
            rw [m2 i u hu] at hku
            by_cases q : i < n ∧ (u = jf ∨ u = jo)
            · rw [if_pos q, Bool.or_eq_true] at hku
              rw [m2 p u hu, if_pos ⟨hpn, q.2⟩, Bool.or_eq_true]
              rcases hku with z | z
              · exact Or.inl (g2 jf (by omega) z)
              · exact Or.inr (g2 jo (by omega) z)
            · rw [if_neg q] at hku
              exact hup p u hpn hu (g2 u hu hku)
          · rw [m2 i u hu, if_neg (by omega)]; exact t10 i u hi hu
          · rw [e, List.map_map]
            refine List.map_congr_left (fun i hi => ?_)
            have hi := (O.mem i).mp hi
            show shOne (p2 jf jo) (recW a kn i) = recW (upA (upA a 10 jf mc) 10 jo mc) kn' i
            have e1 : recW (upA (upA a 10 jf mc) 10 jo mc) kn' i = upd (recW a kn i) 8 (b5 (fun u => kn' (6 * i + u))) := by
              funext k
              unfold recW upd
              simp only [hz 1 (by omega), hz 2 (by omega), hz 3 (by omega), hz 4 (by omega), hz 5 (by omega), hz 6 (by omega), hz 7 (by omega), hz 8 (by omega)]
              by_cases q : k = 8
              · subst q; rfl
              · rw [if_neg q, if_neg q, if_neg q]
            have e2 : upd (recW a kn i) 8 (b5 (fun u => kn (6 * i + u))) = recW a kn i := by
              funext k
              unfold upd
              by_cases q : k = 8
              · rw [if_pos q, q]; rfl
              · rw [if_neg q]
            have e8 : recW a kn i 8 = b5 (fun u => kn (6 * i + u)) := rfl
            obtain ⟨g1, g2⟩ := b5_p2 (fun u => kn (6 * i + u)) hjf hjo hne
            have hk5 : ∀ u, u < 5 → kn' (6 * i + u) = if u = jf ∨ u = jo then (kn (6 * i + jf) || kn (6 * i + jo)) else kn (6 * i + u) := by
              intro u hu
              rw [m2 i u (by omega)]
              by_cases q : u = jf ∨ u = jo
              · rw [if_pos ⟨hi, q⟩, if_pos q]
              · rw [if_neg (fun z => q z.2), if_neg q]
            rw [e1]
            unfold shOne
            rw [e8]
            by_cases x1 : b5 (fun u => kn (6 * i + u)) &&& p2 jf jo = 0
            · obtain ⟨y1, y2⟩ := g1.mp x1
              rw [if_pos x1, b5_cg (c := fun u => kn' (6 * i + u)) (d := fun u => kn (6 * i + u)) (fun u hu => by
                show kn' (6 * i + u) = kn (6 * i + u)
                rw [hk5 u hu]
                by_cases q : u = jf ∨ u = jo
                · rw [if_pos q]
                  rcases q with z | z <;> rw [z] <;> simp_all
                · rw [if_neg q]), e2]
            · rw [if_neg x1]
              by_cases x2 : b5 (fun u => kn (6 * i + u)) &&& p2 jf jo = p2 jf jo
              · obtain ⟨y1, y2⟩ := g2.mp x2
                rw [if_pos x2, b5_cg (c := fun u => kn' (6 * i + u)) (d := fun u => kn (6 * i + u)) (fun u hu => by
                  show kn' (6 * i + u) = kn (6 * i + u)
                  rw [hk5 u hu]
                  by_cases q : u = jf ∨ u = jo
                  · rw [if_pos q]
                    rcases q with z | z <;> rw [z] <;> simp_all
                  · rw [if_neg q]), e2]
              · rw [if_neg x2, b5_p2or _ hjf hjo]
                congr 1
                refine b5_cg (fun u hu => ?_)
                have hor : (kn (6 * i + jf) || kn (6 * i + jo)) = true := by
                  cases hx : kn (6 * i + jf) with
                  | true => rfl
                  | false =>
                    cases hy : kn (6 * i + jo) with
                    | true => rfl
                    | false => exact absurd (g1.mpr ⟨hx, hy⟩) x1
                show (if u = jo then true else if u = jf then true else kn (6 * i + u)) = kn' (6 * i + u)
                rw [hk5 u hu, hor]
                by_cases q : u = jo
                · rw [if_pos q, if_pos (Or.inr q)]
                · rw [if_neg q]
                  by_cases q2 : u = jf
                  · rw [if_pos q2, if_pos (Or.inl q2)]
                  · rw [if_neg q2, if_neg (fun z => z.elim q2 q)]
          · show upA (upA cs.1 10 jf mc) 10 jo mc 10 u = _
            rw [h10, upA_at, upA_at]; simp [eclk u hu]
          · show upA (upA cs.1 10 jf mc) 10 jo mc 11 k = _
            rw [upA_at, upA_at, hz 13 (by omega)]; simp [erec k hk]
          · show upA (upA cs.1 10 jf mc) 10 jo mc 12 k = _
            rw [upA_at, upA_at, hz 14 (by omega)]; simp [eday k hk]
          · show upA (upA cs.1 10 jf mc) 10 jo mc (20 + r) f = _
            rw [upA_at, if_neg (by omega), upA_at, if_neg (by omega), hz 11 (by omega)]
            exact eneed r f hr hf
end LISTS
