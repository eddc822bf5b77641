/-! no machine: one deed more, in the law's rows and in the class -/
section DEEDS
variable {n cm cm' : Nat} {a a' : Nat → Nat → Int32} {kn kn' : Nat → Bool} {v f : Nat} {F F' G : FF} {cs : CS} {l : List Nat}
def lK (n : Nat) (a : Nat → Nat → Int32) (kn : Nat → Bool) : Prop := (∀ v, v < 5 → ∃ c, c ≤ n ∧ a 10 v = nI c) ∧ ∀ i u, n ≤ i → u ≤ 5 → kn (6 * i + u) = false
theorem lK_of (T : tInv n cm a kn) : lK n a kn := ⟨T.2.1, T.fresh⟩
theorem tOp_ok {xs : List Nat} {C : OP} {M : MR} (h : tOp xs C M) {y : Int32} {n' cm' : Nat} {a' : Nat → Nat → Int32} {kn' : Nat → Bool} (hM : M = (0, y, n', cm', a', kn')) : C = (0, y, C.2.2) ∧ tRel n' cm' a' kn' C.2.2 := by
  subst hM
  obtain ⟨-, h2, h3⟩ := h
  obtain ⟨h4, h5⟩ := h2 rfl
  obtain ⟨c1, c2, c3⟩ := C
  have h4 : c1 = 0 := h4
  have h5 : c2 = y := h5
  subst h4; subst h5
  exact ⟨rfl, h3⟩
theorem dzO_0 (y : Int32) (cs : CS) : dzO (0, y, cs) = (0, y, cs) := rfl
theorem dz_of {C : OP} {y : Int32} {c : CS} (h : C = (0, y, c)) : dzO C = (0, y, c) := by rw [h]; rfl
theorem in_t {k m : Nat} (h : k ≤ m) (hm : m < 999) : inB (nI k) 0 (nI m) = true := by
  rw [← nOk_in (nI k) m (by omega)]
  exact nk_t (k := m + 1) (by omega) (by omega)
theorem in_4 {k : Nat} (h : k < 5) : inB (nI k) 0 4 = true := in_t (m := 4) (by omega) (by omega)
theorem in_39 {k : Nat} (h : k < 40) : inB (nI k) 0 39 = true := in_t (m := 39) (by omega) (by omega)
theorem in_7 {k : Nat} (h : k < 8) : inB (nI k) 0 7 = true := in_t (m := 7) (by omega) (by omega)
theorem in_5 {k : Nat} (h : k < 6) : inB (nI k) 0 5 = true := in_t (m := 5) (by omega) (by omega)
theorem in_cm {k cm : Nat} (h : k < cm) (hc : cm < 1000) : inB (nI k) 0 (nI cm - 1) = true := by
  rw [← nOk_cm (nI k) cm hc]
  exact nk_t h hc
theorem full_f {n j : Nat} (h : n + j ≤ 240) : fullB n j = false := decide_eq_false (by omega)
theorem room_t {n : Nat} {j : Nat} (hn : n ≤ 240) (h : n + j ≤ 240) : roomOk n (nI j) = true := by
  rw [room_full hn j (by omega), full_f h]; rfl
/-- a word more -/
theorem lT_step (E : lT n cm a kn F) (hn : n < 64) (hcm2 : cm' ≤ 10)
    (ha : ∀ k i, 1 ≤ k → k ≤ 8 → i < n → a' k i = a k i) (hkn : ∀ i u, i < n → u ≤ 5 → kn' (6 * i + u) = kn (6 * i + u)) (hF : ∀ k i, 1 ≤ k → k ≤ 4 → i < n → F' k i = F k i) (h00 : F' 0 0 = nI (n + 1)) (h01 : F' 0 1 = nI cm')
    (h1 : F' 1 n = nI (jn (a' 1 n) + 8 * jn (a' 2 n) + 64 * jn (a' 4 n))) (h2 : F' 2 n = a' 3 n ∧ ∃ c, c ≤ 64 ∧ a' 3 n = nI c) (h3 : F' 3 n = b5 (fun v => kn' (6 * n + v))) (h4 : ¬ a' 1 n = 2 → F' 4 n = a' 5 n + 1)
    (h4g : a' 1 n = 2 → ∃ d1 d2 ds, d1 < 100 ∧ d2 < 100 ∧ ds < 256 ∧ a' 6 n = nI d1 ∧ a' 7 n = nI d2 ∧ a' 8 n = nI ds ∧ F' 4 n = nI (d1 + 100 * d2 + 10000 * ds)) (h5 : ∀ v, v < 5 → F' 5 v = a' 10 v) (h6 : ∀ j, j < 48 → F' 6 j = F 6 j ∧ a' 11 j = a 11 j)
    (h7 : ∀ k, k < cm' → F' 7 (2 * k) = a' 13 k ∧ F' 7 (2 * k + 1) = a' 14 k ∧ ∃ d, d < 100 ∧ a' 14 k = nI d) : lT (n + 1) cm' a' kn' F' := by
  refine ⟨⟨by omega, hcm2⟩, ⟨h00, h01⟩, fun i hi => ?_, fun i hi => ?_, fun i hi => ?_, fun i hi => ?_, fun i hi => ?_, h5, fun j hj => ?_, h7⟩
  · by_cases q : i = n
    · rw [q]; exact h1
    · have q2 : i < n := by omega
      rw [hF 1 i (by omega) (by omega) q2, ha 1 i (by omega) (by omega) q2, ha 2 i (by omega) (by omega) q2, ha 4 i (by omega) (by omega) q2]
      exact E.f1 i q2
  · by_cases q : i = n
    · rw [q]; exact h2
    · have q2 : i < n := by omega
      rw [hF 2 i (by omega) (by omega) q2, ha 3 i (by omega) (by omega) q2]
      exact E.f2 i q2
  · by_cases q : i = n
    · rw [q]; exact h3
    · have q2 : i < n := by omega
      rw [hF 3 i (by omega) (by omega) q2, E.f3 i q2]
      exact b5_cg (fun u hu => (hkn i u q2 (by omega)).symm)
  · by_cases q : i = n
    · rw [q]; exact h4
    · have q2 : i < n := by omega
      rw [hF 4 i (by omega) (by omega) q2, ha 1 i (by omega) (by omega) q2, ha 5 i (by omega) (by omega) q2]
      exact E.f4 i q2
  · by_cases q : i = n
    · rw [q]; exact h4g
    · have q2 : i < n := by omega
      rw [hF 4 i (by omega) (by omega) q2, ha 1 i (by omega) (by omega) q2, ha 6 i (by omega) (by omega) q2, ha 7 i (by omega) (by omega) q2, ha 8 i (by omega) (by omega) q2]
      exact E.f4g i q2
  · rw [(h6 j hj).1, (h6 j hj).2]
    exact E.f6 j hj
theorem lWr_at (F : FF) (n f kd its : Nat) (more : Int32) (z i : Nat) : lWr F n f kd its more z i = if z = 0 then (if i = 0 then nI (n + 1) else F 0 i) else if z = 4 then (if i = n then more else F 4 i) else if z = 3 then (if i = n then (1 : Int32) <<< (nI f &&& 31) else F 3 i) else if z = 2 then (if i = n then F 5 f + 1 else F 2 i) else if z = 1 then (if i = n then nI (kd + 8 * f + 64 * its) else F 1 i) else if z = 5 then (if i = f then F 5 f + 1 else F 5 i) else F z i := by
  unfold lWr
  simp only [upA_at]
  by_cases h0 : z = 0
  · subst h0; simp
  · by_cases h4 : z = 4
    · subst h4; simp
    · by_cases h3 : z = 3
      · subst h3; simp
      · by_cases h2 : z = 2
        · subst h2; simp
        · by_cases h1 : z = 1
          · subst h1; simp
          · by_cases h5 : z = 5
            · subst h5; simp
            · simp [h0, h4, h3, h2, h1, h5]
theorem lWr_k (F : FF) (n f kd its : Nat) (more : Int32) {z : Nat} (h : 6 ≤ z) : lWr F n f kd its more z = F z := by
  funext i
  rw [lWr_at, if_neg (by omega), if_neg (by omega), if_neg (by omega), if_neg (by omega), if_neg (by omega), if_neg (by omega)]
theorem wr_b5 {n f : Nat} (hf : f < 5) (hk : ∀ u, u ≤ 5 → kn (6 * n + u) = false) : (1 : Int32) <<< (nI f &&& 31) = b5 (fun v => wrK kn n f (6 * n + v)) := (b5_one ⟨f, hf⟩).trans (b5_cg (fun u hu => by
  rw [wrK_new kn hf (show u ≤ 5 by omega) hk]
  have : ¬ u = 5 := by omega
  simp [this]))
theorem lK_wr (K : lK n a kn) {a0 : Nat → Nat → Int32} (h10 : ∀ v, v < 5 → a0 10 v = a 10 v) (hf : f < 5) (kd sb ck : Int32) : lK (n + 1) (wrA a0 n f kd sb ck) (wrK kn n f) := by
  refine ⟨fun u hu => ?_, fun i u hi hu => ?_⟩
  · rw [wrA_at, if_neg (by omega), if_neg (by omega), if_neg (by omega), if_neg (by omega), if_neg (by omega), if_pos rfl, h10 f hf, h10 u hu]
    obtain ⟨c, hc, ec⟩ := K.1 u hu
    by_cases q : u = f
    · rw [if_pos q, ← q, ec, nI_1]; exact ⟨c + 1, by omega, rfl⟩
    · rw [if_neg q]; exact ⟨c, by omega, ec⟩
  · rw [wrK_at, if_neg (by omega), if_neg (by omega)]
    exact K.2 i u (by omega) hu
/-- a word that is no guest's -/
theorem lT_wr (E : lT n cm a kn F) (K : lK n a kn) (hn : n < 64) (hf : f < 5) {kd its : Nat} (hk7 : kd < 7) (hk2 : kd ≠ 2) (hits : its < 40) (ck : Int32) : lT (n + 1) cm (wrA a n f (nI kd) (nI its) ck) (wrK kn n f) (lWr F n f kd its (ck + 1)) := by
  obtain ⟨c, hc, ec⟩ := K.1 f hf
  have hkd : ¬ nI kd = 2 := fun z => hk2 ((nI_eq (a := kd) (b := 2) (by omega) (by omega)).mp z)
  refine lT_step E hn E.cm10 (fun k i g1 g2 hi => ?_) (fun i u hi hu => wrK_old kn hf hi hu) (fun k i g1 g2 hi => ?_) (by rw [lWr_at]; rfl) (by rw [lWr_at]; exact E.f01) ?_ ⟨?_, c + 1, by omega, ?_⟩ ?_ (fun _ => ?_) (fun h => ?_) (fun u hu => ?_) (fun j hj => ⟨by rw [lWr_k F n f kd its _ (by omega)], by rw [wrA_at]; simp⟩) (fun k hk => ?_)
  · have hne : ¬ i = n := by omega
    rw [wrA_at]
    have e : k = 1 ∨ k = 2 ∨ k = 3 ∨ k = 4 ∨ k = 5 ∨ k = 6 ∨ k = 7 ∨ k = 8 := by omega
    rcases e with e | e | e | e | e | e | e | e <;> subst e <;> simp [hne]
  · have hne : ¬ i = n := by omega
    rw [lWr_at]
    have e : k = 1 ∨ k = 2 ∨ k = 3 ∨ k = 4 := by omega
    rcases e with e | e | e | e <;> subst e <;> simp [hne]
  · rw [lWr_at, wrA_at, wrA_at, wrA_at]
    simp
    rw [jn_nI (by omega), jn_nI (by omega), jn_nI (by omega)]
  · rw [lWr_at, wrA_at]; simp [E.f5 f hf]
  · rw [wrA_at]; simp [ec, nI_1]
  · rw [lWr_at]; simp; exact wr_b5 hf (fun u hu => K.2 n u (Nat.le_refl n) hu)
  · rw [lWr_at, wrA_at]; simp
  · rw [wrA_at] at h; simp at h; exact absurd h hkd
  · rw [lWr_at, wrA_at]; simp [E.f5 f hf, E.f5 u hu]
  · rw [lWr_k F n f kd its _ (by omega), wrA_at, wrA_at]; simp; exact E.f7 k hk
/-- a guest's word -/
theorem lT_gu (E : lT n cm a kn F) (K : lK n a kn) (hn : n < 64) (hf : f < 5) {g d1 d2 ds : Nat} (hg : g < 8) (h1 : d1 < 100) (h2 : d2 < 100) (h3 : ds < 256) : lT (n + 1) cm (wrA (upA (upA (upA a 6 n (nI d1)) 7 n (nI d2)) 8 n (nI ds)) n f 2 (nI g) (-1)) (wrK kn n f) (lWr F n f 2 g (nI (d1 + 100 * d2 + 10000 * ds))) := by
  obtain ⟨c, hc, ec⟩ := K.1 f hf
  refine lT_step E hn E.cm10 (fun k i g1 g2 hi => ?_) (fun i u hi hu => wrK_old kn hf hi hu) (fun k i g1 g2 hi => ?_) (by rw [lWr_at]; rfl) (by rw [lWr_at]; exact E.f01) ?_ ⟨?_, c + 1, by omega, ?_⟩ ?_ (fun h => ?_) (fun _ => ⟨d1, d2, ds, h1, h2, h3, ?_, ?_, ?_, ?_⟩) (fun u hu => ?_) (fun j hj => ⟨by rw [lWr_k F n f 2 g _ (by omega)], by rw [wrA_at]; simp [upA_at]⟩) (fun k hk => ?_)
  · have hne : ¬ i = n := by omega
    rw [wrA_at]
    have e : k = 1 ∨ k = 2 ∨ k = 3 ∨ k = 4 ∨ k = 5 ∨ k = 6 ∨ k = 7 ∨ k = 8 := by omega
    rcases e with e | e | e | e | e | e | e | e <;> subst e <;> simp [hne, upA_at]
  · have hne : ¬ i = n := by omega
    rw [lWr_at]
    have e : k = 1 ∨ k = 2 ∨ k = 3 ∨ k = 4 := by omega
    rcases e with e | e | e | e <;> subst e <;> simp [hne]
  · rw [lWr_at, wrA_at, wrA_at, wrA_at]
    simp
    rw [jn_nI (show f < 2 ^ 31 by omega), jn_nI (show g < 2 ^ 31 by omega)]
    rfl
  · rw [lWr_at, wrA_at]; simp [E.f5 f hf, upA_at]
  · rw [wrA_at]; simp [ec, nI_1, upA_at]
  · rw [lWr_at]; simp; exact wr_b5 hf (fun u hu => K.2 n u (Nat.le_refl n) hu)
  · rw [wrA_at] at h; simp at h
  · rw [wrA_at]; simp [upA_at]
  · rw [wrA_at]; simp [upA_at]
  · rw [wrA_at]; simp [upA_at]
  · rw [lWr_at]; simp
  · rw [lWr_at, wrA_at]; simp [E.f5 f hf, E.f5 u hu, upA_at]
  · rw [lWr_k F n f 2 g _ (by omega), wrA_at, wrA_at]; simp [upA_at]; exact E.f7 k hk
/-- a plan -/
theorem lT_pl (E : lT n cm a kn F) (K : lK n a kn) (hn : n < 64) (hcm : cm < 10) (hf : f < 5) {r d : Nat} (hd : d < 100) : lT (n + 1) (cm + 1) (wrA (upA (upA (upA a 13 cm (nI r)) 14 cm (nI d)) 15 cm (nI n)) n f 3 (nI cm) (-1)) (wrK kn n f) (upA (lWr (upA (upA F 7 (2 * cm) (nI r)) 7 (2 * cm + 1) (nI d)) n f 3 cm 0) 0 1 (nI (cm + 1))) := by
  obtain ⟨c, hc, ec⟩ := K.1 f hf
  refine lT_step E hn (by omega) (fun k i g1 g2 hi => ?_) (fun i u hi hu => wrK_old kn hf hi hu) (fun k i g1 g2 hi => ?_) ?_ ?_ ?_ ⟨?_, c + 1, by omega, ?_⟩ ?_ (fun h => ?_) (fun h => ?_) (fun u hu => ?_) (fun j hj => ⟨?_, by rw [wrA_at]; simp [upA_at]⟩) (fun k hk => ?_)
  · have hne : ¬ i = n := by omega
    rw [wrA_at]
    have e : k = 1 ∨ k = 2 ∨ k = 3 ∨ k = 4 ∨ k = 5 ∨ k = 6 ∨ k = 7 ∨ k = 8 := by omega
    rcases e with e | e | e | e | e | e | e | e <;> subst e <;> simp [hne, upA_at]
  · have hne : ¬ i = n := by omega
    rw [upA_k (by omega), lWr_at]
    have e : k = 1 ∨ k = 2 ∨ k = 3 ∨ k = 4 := by omega
    rcases e with e | e | e | e <;> subst e <;> simp [hne, upA_at]
  · rw [upA_at]; simp [lWr_at]
  · rw [upA_at]; simp
  · rw [upA_k (by omega), lWr_at, wrA_at, wrA_at, wrA_at]
    simp
    rw [jn_nI (show f < 2 ^ 31 by omega), jn_nI (show cm < 2 ^ 31 by omega)]
    rfl
  · rw [upA_k (by omega), lWr_at, wrA_at]; simp [E.f5 f hf, upA_at]
  · rw [wrA_at]; simp [ec, nI_1, upA_at]
  · rw [upA_k (by omega), lWr_at]; simp; exact wr_b5 hf (fun u hu => K.2 n u (Nat.le_refl n) hu)
  · rw [upA_k (by omega), lWr_at, wrA_at]; simp
  · rw [wrA_at] at h; simp at h
  · rw [upA_k (by omega), lWr_at, wrA_at]; simp [E.f5 f hf, E.f5 u hu, upA_at]
  · rw [upA_k (by omega), lWr_k _ n f 3 cm _ (by omega), upA_k (by omega), upA_k (by omega)]
  · rw [upA_k (by omega), lWr_k _ n f 3 cm _ (by omega), wrA_at, wrA_at]
    by_cases q : k = cm
    · subst q
      have : ¬ 2 * k = 2 * k + 1 := by omega
      simp [upA_at, this]
      exact ⟨d, hd, rfl⟩
    · have q1 : ¬ 2 * k = 2 * cm := by omega
      have q2 : ¬ 2 * k = 2 * cm + 1 := by omega
      have q3 : ¬ 2 * k + 1 = 2 * cm := by omega
      have q4 : ¬ 2 * k + 1 = 2 * cm + 1 := by omega
      have h7 := E.f7 k (by omega)
      simp [upA_at, q, q1, q2, q3]
      exact h7
/-! the class's side -/
theorem ds_setNeed (R : tRel n cm a kn cs) (E : lT n cm a kn F) {r fo q : Nat} (hr : r < 6) (hfo : fo < 8) (hq : q ≤ 2) : ∃ cs', cSetNeed cs (nI r) (nI fo) (nI q) = (0, F 6 (8 * r + fo), cs') ∧ tRel n cm (upA a 11 (8 * r + fo) (nI q)) kn cs' ∧ lT n cm (upA a 11 (8 * r + fo) (nI q)) kn (upA F 6 (8 * r + fo) (nI q)) := by
  have h := oz_setNeed R (nI r) (nI fo) (nI q)
  have hM : mSetNeed n cm a kn (nI r) (nI fo) (nI q) = (0, a 11 (8 * r + fo), n, cm, upA a 11 (8 * r + fo) (nI q), kn) := by
    unfold mSetNeed
    rw [in_5 hr, in_7 hfo, Bool.and_self, if_pos rfl, show inB (nI q) 0 3 = true from in_t (m := 3) (by omega) (by omega), if_pos rfl, jn_nI (by omega), jn_nI (by omega)]
  obtain ⟨h1, h2⟩ := tOp_ok h hM
  refine ⟨_, by rw [(E.f6 (8 * r + fo) (by omega)).1]; exact h1, h2, ?_⟩
  obtain ⟨e1, e2, e3, e4, e5, e6, e7, e8, e9, e10⟩ := E
  refine ⟨e1, ?_, ?_, ?_, ?_, ?_, ?_, ?_, fun j hj => ?_, ?_⟩
  · simpa [upA_at] using e2
  · simpa [upA_at] using e3
  · simpa [upA_at] using e4
  · simpa [upA_at] using e5
  · simpa [upA_at] using e6
  · simpa [upA_at] using e7
  · simpa [upA_at] using e8
  · rw [upA_at, upA_at, if_pos rfl, if_pos rfl]
    by_cases q9 : j = 8 * r + fo
    · rw [if_pos q9, if_pos q9]; exact ⟨rfl, q, hq, rfl⟩
    · rw [if_neg q9, if_neg q9]; exact e9 j hj
  · simpa [upA_at] using e10
theorem lk_pl (R : tRel n cm a kn cs) (hf : f < 5) {t : Nat} (ht : t < 40) : (rdA (frV f) (cs.1 12) cs.2.2).1 0 t = placeB a kn n f (nI t) := by
  rw [← lk_fr hf]; exact (R.look hf).1 t ht
theorem dp_no (hL : LV n cm a kn f l G (rdA (frV f) (cs.1 12) cs.2.2)) (hf : f < 5) {t : Nat} (ht : t < 40) (c : G 8 t = nI (f + 1)) : dzO (cPut cs (nI f) (nI t)) = (0, -13, cs) := by
  unfold cPut
  rw [nk5 hf, nk40 ht, if_neg tf9, if_neg tf9, lk_fr hf, jn_nI (show t < 2 ^ 31 by omega), hL.v8 ht, c, if_pos (nI_pred f)]
  rfl
theorem dp_yes (R : tRel n cm a kn cs) (hL : LV n cm a kn f l G (rdA (frV f) (cs.1 12) cs.2.2)) (hf : f < 5) {t : Nat} (ht : t < 40) (hn : n < 240) (c : ¬ G 8 t = nI (f + 1)) : ∃ cs', dzO (cPut cs (nI f) (nI t)) = (0, G 5 f + 1, cs') ∧ tRel (n + 1) cm (wrA a n f 0 (nI t) (-1)) (wrK kn n f) cs' := by
  have h8 := hL.2.2.1 t ht
  rw [lk_pl R hf ht] at h8
  have hne : ¬ placeB a kn n f (nI t) = nI f := fun z => c (by rw [h8, z, nI_1])
  have hM : mPut n cm a kn (nI f) (nI t) = (0, a 10 f + 1, n + 1, cm, wrA a n f 0 (nI t) (-1), wrK kn n f) := by
    unfold mPut
    rw [in_4 hf, in_39 ht, Bool.and_self, if_pos rfl, jn_nI (by omega), decide_eq_false hne, full_f (show n + 1 ≤ 240 by omega), Bool.or_self, if_neg (by simp)]
  obtain ⟨h1, h2⟩ := tOp_ok (oz_put R (nI f) (nI t)) hM
  exact ⟨_, by rw [hL.lt.f5 f hf]; exact dz_of h1, h2⟩
theorem dt_no (hL : LV n cm a kn f l G (rdA (frV f) (cs.1 12) cs.2.2)) (hf : f < 5) {t : Nat} (ht : t < 40) (c : G 8 t = 0) : dzO (cTake cs (nI f) (nI t)) = (0, -13, cs) := by
  unfold cTake
  rw [nk5 hf, nk40 ht, if_neg tf9, if_neg tf9, lk_fr hf, jn_nI (show t < 2 ^ 31 by omega), hL.v8 ht, c, if_pos (by decide)]
  rfl
theorem dt_yes (R : tRel n cm a kn cs) (hL : LV n cm a kn f l G (rdA (frV f) (cs.1 12) cs.2.2)) (hf : f < 5) {t : Nat} (ht : t < 40) (hn : n < 240) (c : ¬ G 8 t = 0) : ∃ w, w < 5 ∧ G 8 t - 1 = nI w ∧ ∃ cs', dzO (cTake cs (nI f) (nI t)) = (0, nI w, cs') ∧ tRel (n + 1) cm (wrA a n f 1 (nI t) (-1)) (wrK kn n f) cs' := by
  have h8 := hL.2.2.1 t ht
  rw [lk_pl R hf ht] at h8
  have hne : ¬ placeB a kn n f (nI t) = -1 := fun z => c (by rw [h8]; exact (pl1_0 _).mpr z)
  have hM : mTake n cm a kn (nI f) (nI t) = (0, placeB a kn n f (nI t), n + 1, cm, wrA a n f 1 (nI t) (-1), wrK kn n f) := by
    unfold mTake
    rw [in_4 hf, in_39 ht, Bool.and_self, if_pos rfl, jn_nI (by omega), decide_eq_false hne, full_f (show n + 1 ≤ 240 by omega), Bool.or_self, if_neg (by simp)]
  obtain ⟨h1, h2⟩ := tOp_ok (oz_take R (nI f) (nI t)) hM
  rcases place_rg (v := f) R.inv (nI t) with q | ⟨w, hw, q⟩
  · exact absurd q hne
  · exact ⟨w, hw, by rw [h8, x1_sub, q], _, dz_of (by rw [← q]; exact h1), h2⟩
theorem dg_yes (R : tRel n cm a kn cs) (E : lT n cm a kn G) (hf : f < 5) {g d1 d2 ds : Nat} (hg : g < 8) (h1 : d1 ≤ d2) (h2 : d2 < 100) (h3 : ds < 256) (hn : n < 240) : ∃ cs', cGuest cs (nI f) (nI g) (nI d1) (nI d2) (nI ds) = (0, G 5 f + 1, cs') ∧ tRel (n + 1) cm (wrA (upA (upA (upA a 6 n (nI d1)) 7 n (nI d2)) 8 n (nI ds)) n f 2 (nI g) (-1)) (wrK kn n f) cs' := by
  have i2 : inB (nI d2) (nI d1) 99 = true := by
    unfold inB
    rw [decide_eq_false (show ¬ nI d2 < nI d1 from nI_nlt h1 (by omega)), decide_eq_false (show ¬ (99 : Int32) < nI d2 from nI_nlt (a := 99) (b := d2) (by omega) (by omega))]; rfl
  have hM : mGuest n cm a kn (nI f) (nI g) (nI d1) (nI d2) (nI ds) = (0, a 10 f + 1, n + 1, cm, wrA (upA (upA (upA a 6 n (nI d1)) 7 n (nI d2)) 8 n (nI ds)) n f 2 (nI g) (-1), wrK kn n f) := by
    unfold mGuest
    rw [in_4 hf, in_7 hg, Bool.and_self, if_pos rfl, show inB (nI d1) 0 99 = true from in_t (m := 99) (by omega) (by omega), i2, show inB (nI ds) 0 255 = true from in_t (m := 255) (by omega) (by omega), Bool.and_self, Bool.and_self, if_pos rfl, full_f (show n + 1 ≤ 240 by omega), if_neg (by simp), jn_nI (by omega)]
  obtain ⟨h4, h5⟩ := tOp_ok (oz_guest R (nI f) (nI g) (nI d1) (nI d2) (nI ds)) hM
  exact ⟨_, by rw [E.f5 f hf]; exact h4, h5⟩
theorem dpl_no (R : tRel n cm a kn cs) (hL : LV n cm a kn f l G (rdA (frV f) (cs.1 12) cs.2.2)) (hf : f < 5) {r d : Nat} (hr : r < 6) (hd : d < 100) (c : lDl G r (nI d) = true) : dzO (cPlan cs (nI f) (nI r) (nI d)) = (0, -13, cs) := by
  unfold cPlan
  rw [nk5 hf, nk6 hr, rk_t hd, if_neg tf9, if_neg tf9, if_neg tf9, lk_fr hf, jn_nI (show r < 2 ^ 31 by omega), ← dl_eq R hL hr, if_pos c]
  rfl
theorem dpl_yes (R : tRel n cm a kn cs) (hL : LV n cm a kn f l G (rdA (frV f) (cs.1 12) cs.2.2)) (hf : f < 5) {r d : Nat} (hr : r < 6) (hd : d < 100) (hn : n < 240) (hcm : cm < 10) (c : lDl G r (nI d) = false) : ∃ cs', dzO (cPlan cs (nI f) (nI r) (nI d)) = (0, nI cm, cs') ∧ tRel (n + 1) (cm + 1) (wrA (upA (upA (upA a 13 cm (nI r)) 14 cm (nI d)) 15 cm (nI n)) n f 3 (nI cm) (-1)) (wrK kn n f) cs' := by
  have hdis : dislikedB a kn n f r (nI d) = false := by
    rw [← dis_eq R (R.look hf) hr (nI d), lk_fr hf, ← dl_eq R hL hr]; exact c
  have hM : mPlan n cm a kn (nI f) (nI r) (nI d) = (0, nI cm, n + 1, cm + 1, wrA (upA (upA (upA a 13 cm (nI r)) 14 cm (nI d)) 15 cm (nI n)) n f 3 (nI cm) (-1), wrK kn n f) := by
    unfold mPlan
    rw [in_4 hf, in_5 hr, Bool.and_self, if_pos rfl, show inB (nI d) 0 99 = true from in_t (m := 99) (by omega) (by omega), if_pos rfl, jn_nI (by omega), jn_nI (show r < 2 ^ 31 by omega), hdis, decide_eq_false (show ¬ cm = 20 by omega), full_f (show n + 1 ≤ 240 by omega), Bool.or_self, Bool.or_self, if_neg (by simp)]
  obtain ⟨h4, h5⟩ := tOp_ok (oz_plan R (nI f) (nI r) (nI d)) hM
  exact ⟨_, dz_of h4, h5⟩
theorem nk_0 : nOk (nI 0) (nI 0) = false := by decide
theorem dk_none (R : tRel n 0 a kn cs) (hf : f < 5) : dzO (cKeep cs (nI f) (nI 0)) = (0, -11, cs) ∧ dzO (cDrop cs (nI f) (nI 0)) = (0, -11, cs) ∧ dzO (cBake cs (nI f) (nI 0)) = (0, -11, cs) := by
  refine ⟨?_, ?_, ?_⟩
  · unfold cKeep; rw [nk5 hf, R.cn, nk_0, if_neg tf9, if_pos rfl]; rfl
  · unfold cDrop; rw [nk5 hf, R.cn, nk_0, if_neg tf9, if_pos rfl]; rfl
  · unfold cBake; rw [nk5 hf, R.cn, nk_0, if_neg tf9, if_pos rfl]; rfl
theorem dk_shut (R : tRel n cm a kn cs) (hL : LV n cm a kn f l G (rdA (frV f) (cs.1 12) cs.2.2)) (hf : f < 5) {k : Nat} (hk : k < cm) (c : lOp G k = false) : dzO (cKeep cs (nI f) (nI k)) = (0, -13, cs) ∧ dzO (cDrop cs (nI f) (nI k)) = (0, -13, cs) ∧ dzO (cBake cs (nI f) (nI k)) = (0, -13, cs) := by
  have hcm := hL.lt.cm10
  have ho : opnOk (rdA (frV f) (cs.1 12) cs.2.2).1 k = false := by
    rw [hL.op hk] at c; exact c
  refine ⟨?_, ?_, ?_⟩
  · unfold cKeep; rw [nk5 hf, R.cn, nk_t hk (by omega), if_neg tf9, if_neg tf9, lk_fr hf, jn_nI (show k < 2 ^ 31 by omega), ho, if_pos rfl]; rfl
  · unfold cDrop; rw [nk5 hf, R.cn, nk_t hk (by omega), if_neg tf9, if_neg tf9, lk_fr hf, jn_nI (show k < 2 ^ 31 by omega), ho, if_pos rfl]; rfl
  · unfold cBake; rw [nk5 hf, R.cn, nk_t hk (by omega), if_neg tf9, if_neg tf9, lk_fr hf, jn_nI (show k < 2 ^ 31 by omega), ho, if_pos rfl]; rfl
theorem op_t (R : tRel n cm a kn cs) (hL : LV n cm a kn f l G (rdA (frV f) (cs.1 12) cs.2.2)) (hf : f < 5) {k : Nat} (hk : k < cm) (c : lOp G k = true) : opB n cm a kn (nI f) (nI k) = true := by
  have hcm := hL.lt.cm10
  have h6 : (rdA (frV f) (cs.1 12) cs.2.2).1 6 k = stateB a kn n f k := by rw [← lk_fr hf]; exact (R.look hf).2.2.2.2.1 k hk
  rw [hL.op hk, decide_eq_true_eq, h6] at c
  unfold opB
  rw [in_4 hf, in_cm hk (by omega), jn_nI (by omega), jn_nI (show k < 2 ^ 31 by omega), decide_eq_true c]; rfl
theorem dk_open (R : tRel n cm a kn cs) (hL : LV n cm a kn f l G (rdA (frV f) (cs.1 12) cs.2.2)) (hf : f < 5) {k : Nat} (hk : k < cm) (hn : n ≤ 200) (c : lOp G k = true) : ∃ cs', dzO (cKeep cs (nI f) (nI k)) = (0, nI (keepsL a kn n f k).length, cs') ∧ tRel ((keepsL a kn n f k).foldl (mL f 4 (nI k)) (n, a, kn)).1 cm ((keepsL a kn n f k).foldl (mL f 4 (nI k)) (n, a, kn)).2.1 ((keepsL a kn n f k).foldl (mL f 4 (nI k)) (n, a, kn)).2.2 cs' := by
  have hcm := hL.lt.cm10
  have h := oz_keep R (a 17) (nI f) (nI k)
  rw [set17_self] at h
  have hlen : (keepsL a kn n f k).length ≤ 5 * 8 := lk_len a kn n f k 8
  have hM : mKeep n cm a kn (nI f) (nI k) = (0, nI (keepsL a kn n f k).length, ((keepsL a kn n f k).foldl (mL f 4 (nI k)) (n, a, kn)).1, cm, ((keepsL a kn n f k).foldl (mL f 4 (nI k)) (n, a, kn)).2.1, ((keepsL a kn n f k).foldl (mL f 4 (nI k)) (n, a, kn)).2.2) := by
    unfold mKeep
    rw [op_t R hL hf hk c, if_pos rfl, jn_nI (by omega), jn_nI (show k < 2 ^ 31 by omega), full_f (by omega), if_neg (by simp), wrL_fold]
  obtain ⟨h4, h5⟩ := tOp_ok h hM
  exact ⟨_, dz_of h4, h5⟩
theorem dd_open (R : tRel n cm a kn cs) (hL : LV n cm a kn f l G (rdA (frV f) (cs.1 12) cs.2.2)) (hf : f < 5) {k : Nat} (hk : k < cm) (hn : n ≤ 200) (c : lOp G k = true) : ∃ cs', dzO (cDrop cs (nI f) (nI k)) = (0, nI (keptL a kn n f (nI k)).length, cs') ∧ tRel (n + 1) cm (wrA a n f 5 (nI k) (-1)) (wrK kn n f) cs' := by
  have h := oz_drop R (a 17) (nI f) (nI k)
  rw [set17_self] at h
  have hM : mDrop n cm a kn (nI f) (nI k) = (0, nI (keptL a kn n f (nI k)).length, n + 1, cm, wrA a n f 5 (nI k) (-1), wrK kn n f) := by
    unfold mDrop
    rw [op_t R hL hf hk c, if_pos rfl, jn_nI (by omega), full_f (by omega), if_neg (by simp)]
  obtain ⟨h4, h5⟩ := tOp_ok h hM
  exact ⟨_, dz_of h4, h5⟩
theorem foldU_ex (p : Nat → Bool) {m i : Nat} (hi : i < m) (h : p i = true) : foldU (fun i x => x || p i) false m = true := (foldU_or p m).mpr ⟨i, hi, h⟩
theorem db_no (R : tRel n cm a kn cs) (hL : LV n cm a kn f l G (rdA (frV f) (cs.1 12) cs.2.2)) (hf : f < 5) {k r : Nat} (hk : k < cm) (hr : r < 6) (e7 : G 7 (2 * k) = nI r) (c : lOp G k = true) {fo : Nat} (hfo : fo < 8) (h0 : ¬ lLk G cm r k fo ≤ 0) : dzO (cBake cs (nI f) (nI k)) = (0, -13, cs) := by
  have hcm := hL.lt.cm10
  have ho : opnOk (rdA (frV f) (cs.1 12) cs.2.2).1 k = true := by rw [hL.op hk] at c; exact c
  have h6 : (rdA (frV f) (cs.1 12) cs.2.2).1 6 k = 1 := of_decide_eq_true ho
  rw [lLk_eq R hL hk hr e7 hfo, if_pos h6] at h0
  have hbl : blF (rdA (frV f) (cs.1 12) cs.2.2).1 cs.1 k = true := foldU_ex (blP (rdA (frV f) (cs.1 12) cs.2.2).1 cs.1 k) hfo (decide_eq_true (Int32.not_le.mp h0))
  unfold cBake; rw [nk5 hf, R.cn, nk_t hk (by omega), if_neg tf9, if_neg tf9, lk_fr hf, jn_nI (show k < 2 ^ 31 by omega), ho, if_neg tf9, hbl, if_pos rfl]; rfl
theorem db_open (R : tRel n cm a kn cs) (hL : LV n cm a kn f l G (rdA (frV f) (cs.1 12) cs.2.2)) (hf : f < 5) {k r : Nat} (hk : k < cm) (hr : r < 6) (e7 : G 7 (2 * k) = nI r) (hn : n ≤ 190) (c : lOp G k = true) (h0 : ∀ fo, fo < 8 → lLk G cm r k fo ≤ 0) : ∃ cs', dzO (cBake cs (nI f) (nI k)) = (0, nI (keptL a kn n f (nI k)).length, cs') ∧
    tRel (((keptL a kn n f (nI k)).foldl (mL f 1 (nI k)) (n, a, kn)).1 + 1) cm (wrA ((keptL a kn n f (nI k)).foldl (mL f 1 (nI k)) (n, a, kn)).2.1 ((keptL a kn n f (nI k)).foldl (mL f 1 (nI k)) (n, a, kn)).1 f 6 (nI k) (-1)) (wrK ((keptL a kn n f (nI k)).foldl (mL f 1 (nI k)) (n, a, kn)).2.2 ((keptL a kn n f (nI k)).foldl (mL f 1 (nI k)) (n, a, kn)).1 f) cs' := by
  have hcm := hL.lt.cm10
  have h := oz_bake R (a 17) (nI f) (nI k)
  rw [set17_self] at h
  have hlen : (keptL a kn n f (nI k)).length ≤ 40 := kp_len a kn n f (nI k) 40
  have ho : opnOk (rdA (frV f) (cs.1 12) cs.2.2).1 k = true := by rw [hL.op hk] at c; exact c
  have h6 : (rdA (frV f) (cs.1 12) cs.2.2).1 6 k = 1 := of_decide_eq_true ho
  have hla : ∀ m, m ≤ 8 → foldU (laStep a kn n f k) 0 m = 0 := by
    intro m
    induction m with
    | zero => intro _; rfl
    | succ m ih =>
      intro hm
      have e := h0 m (by omega)
      rw [lLk_eq R hL hk hr e7 (show m < 8 by omega), if_pos h6, ← lk_fr hf, lack_eq R (R.look hf) hk (show m < 8 by omega)] at e
      have e2 : lackB a kn n f k m = 0 := by
        unfold lackB at e ⊢
        split at e
        · rename_i q
          rw [if_pos q]
          rw [Int32.le_iff_toInt_le] at e q
          rw [← Int32.toInt_inj]
          omega
        · rename_i q
          rw [if_neg q]
      rw [foldU_s, ih (by omega)]
      show 0 + lackB a kn n f k m = 0
      rw [e2]; rfl
  have hM : mBake n cm a kn (nI f) (nI k) = (0, nI (keptL a kn n f (nI k)).length, ((keptL a kn n f (nI k)).foldl (mL f 1 (nI k)) (n, a, kn)).1 + 1, cm, wrA ((keptL a kn n f (nI k)).foldl (mL f 1 (nI k)) (n, a, kn)).2.1 ((keptL a kn n f (nI k)).foldl (mL f 1 (nI k)) (n, a, kn)).1 f 6 (nI k) (-1), wrK ((keptL a kn n f (nI k)).foldl (mL f 1 (nI k)) (n, a, kn)).2.2 ((keptL a kn n f (nI k)).foldl (mL f 1 (nI k)) (n, a, kn)).1 f) := by
    unfold mBake
    rw [op_t R hL hf hk c, if_pos rfl, jn_nI (show f < 2 ^ 31 by omega), jn_nI (show k < 2 ^ 31 by omega)]
    have hl0 : lackAll a kn n f k = 0 := hla 8 (Nat.le_refl 8)
    rw [hl0, show decide ((0 : Int32) < 0) = false by decide, full_f (by omega), Bool.or_self, if_neg (by simp), wrL_fold]
  obtain ⟨h4, h5⟩ := tOp_ok h hM
  exact ⟨_, dz_of h4, h5⟩
theorem dm_same (R : tRel n cm a kn cs) (hf : f < 5) : dzO (cMeet cs (nI f) (nI f)) = (0, -12, cs) := by
  unfold cMeet
  rw [nk5 hf, if_neg tf9, if_neg tf9, if_pos rfl]; rfl
theorem dm_diff (R : tRel n cm a kn cs) {o : Nat} (hf : f < 5) (ho : o < 5) (hne : ¬ f = o) : ∃ cs', dzO (cMeet cs (nI f) (nI o)) = (0, nI (foldU (meStep f o) (0, kn) n).1, cs') ∧ tRel n cm (upA (upA a 10 f (meC a f o)) 10 o (meC a f o)) (foldU (meStep f o) (0, kn) n).2 cs' := by
  have hM : mMeet n cm a kn (nI f) (nI o) = (0, nI (foldU (meStep f o) (0, kn) n).1, n, cm, upA (upA a 10 f (meC a f o)) 10 o (meC a f o), (foldU (meStep f o) (0, kn) n).2) := by
    unfold mMeet
    rw [in_4 hf, in_4 ho, Bool.and_self, if_pos rfl, if_neg (fun z => hne ((nI_eq (by omega) (by omega)).mp z)), jn_nI (by omega), jn_nI (show o < 2 ^ 31 by omega)]
  obtain ⟨h4, h5⟩ := tOp_ok (oz_meet R (nI f) (nI o)) hM
  exact ⟨_, dz_of h4, h5⟩
end DEEDS
