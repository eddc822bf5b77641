/-! no machine: one word more -/
section STEP
variable {n cm cm' : Nat} {a a' : Nat → Nat → Int32} {kn kn' : Nat → Bool} {os : List Nat} {v : Nat} {cs cs' : CS}
def insO (a : Nat → Nat → Int32) (x : Nat) : List Nat → List Nat
  | [] => [x]
  | y :: M => if isLaterB a x y then y :: insO a x M else x :: y :: M
theorem insO_mem (x : Nat) : ∀ (l : List Nat) (z : Nat), z ∈ insO a x l ↔ z = x ∨ z ∈ l
  | [], z => by simp [insO]
  | y :: M, z => by
    unfold insO
    split
    · rw [List.mem_cons, insO_mem x M z, List.mem_cons]
      constructor
      · rintro (h | h | h)
        · exact Or.inr (Or.inl h)
        · exact Or.inl h
        · exact Or.inr (Or.inr h)
      · rintro (h | h | h)
        · exact Or.inr (Or.inl h)
        · exact Or.inl h
        · exact Or.inr (Or.inr h)
    · simp only [List.mem_cons]
theorem insO_len (x : Nat) : ∀ l : List Nat, (insO a x l).length = l.length + 1
  | [] => rfl
  | y :: M => by unfold insO; split <;> simp [insO_len x M]
theorem insO_srt (x : Nat) : ∀ l : List Nat, l.Pairwise (fun i j => isLaterB a j i = true) → (∀ y, y ∈ l → isLaterB a x y = true ∨ isLaterB a y x = true) → (insO a x l).Pairwise (fun i j => isLaterB a j i = true)
  | [], _, _ => by unfold insO; exact List.pairwise_singleton _ _
  | y :: M, hp, h => by
    obtain ⟨h1, h2⟩ := List.pairwise_cons.mp hp
    unfold insO
    split
    · rename_i hl
      refine List.pairwise_cons.mpr ⟨fun z hz => ?_, insO_srt x M h2 (fun z hz => h z (List.mem_cons_of_mem _ hz))⟩
      rcases (insO_mem x M z).mp hz with q | q
      · rw [q]; exact hl
      · exact h1 z q
    · rename_i hl
      have hy : isLaterB a y x = true := (h y List.mem_cons_self).elim (fun z => absurd z hl) id
      refine List.pairwise_cons.mpr ⟨fun z hz => ?_, hp⟩
      rcases List.mem_cons.mp hz with q | q
      · rw [q]; exact hy
      · exact lat_tr (h1 z q) hy
theorem wl_lat (x y : Nat) : wLater (recW a kn x) (recW a kn y) = isLaterB a x y := by
  show (if a 3 x = a 3 y then decide (a 2 y < a 2 x) else decide (a 3 y < a 3 x)) = isLaterB a x y
  unfold isLaterB
  by_cases q : a 3 x = a 3 y
  · rw [if_pos q, q]
    have : decide (a 3 y < a 3 y) = false := decide_eq_false (by rw [Int32.lt_iff_toInt_lt]; omega)
    rw [this]; simp
  · rw [if_neg q]; simp [q]
theorem insO_map (x : Nat) : ∀ l : List Nat, (insO a x l).map (recW a kn) = insA (recW a kn x) (l.map (recW a kn))
  | [] => rfl
  | y :: M => by
    unfold insO
    rw [List.map_cons]
    show _ = if wLater (recW a kn x) (recW a kn y) then recW a kn y :: insA (recW a kn x) (M.map (recW a kn)) else recW a kn x :: recW a kn y :: M.map (recW a kn)
    rw [wl_lat]
    split
    · rw [List.map_cons, insO_map x M]
    · rw [List.map_cons, List.map_cons]
theorem recW_cg {i : Nat} (h : ∀ k, 1 ≤ k → k ≤ 8 → a' k i = a k i) (h' : ∀ u, u < 5 → kn' (6 * i + u) = kn (6 * i + u)) : recW a' kn' i = recW a kn i := by
  funext k
  unfold recW
  rw [h 1 (by omega) (by omega), h 2 (by omega) (by omega), h 3 (by omega) (by omega), h 4 (by omega) (by omega), h 5 (by omega) (by omega), h 6 (by omega) (by omega), h 7 (by omega) (by omega), h 8 (by omega) (by omega), b5_cg (c := fun v => kn' (6 * i + v)) (d := fun v => kn (6 * i + v)) (fun u hu => h' u hu)]
theorem lat_cg {i j : Nat} (hi : ∀ k, 1 ≤ k → k ≤ 8 → a' k i = a k i) (hj : ∀ k, 1 ≤ k → k ≤ 8 → a' k j = a k j) : isLaterB a' i j = isLaterB a i j := by
  unfold isLaterB
  rw [hi 2 (by omega) (by omega), hi 3 (by omega) (by omega), hj 2 (by omega) (by omega), hj 3 (by omega) (by omega)]
theorem rel_step (R : tRel n cm a kn cs) (hn : n < 240) (hv : v < 5)
    (ha : ∀ k i, 1 ≤ k → k ≤ 8 → i < n → a' k i = a k i) (hkn : ∀ i u, i < n → u ≤ 5 → kn' (6 * i + u) = kn (6 * i + u)) (hk1 : ∀ u, u ≤ 5 → kn' (6 * n + u) = (decide (u = v) || decide (u = 5))) (hk0 : ∀ i u, n < i → u ≤ 5 → kn' (6 * i + u) = kn (6 * i + u))
    (h10 : ∀ u, u < 5 → a' 10 u = if u = v then a 10 v + 1 else a 10 u) (h2 : a' 2 n = nI v) (h3 : a' 3 n = a 10 v + 1) (hK : wKind cm' a' n) (hPl : wPlan a' kn' n)
    (hc : cm ≤ cm') (hc2 : cm' ≤ 20) (h15 : ∀ k, k < cm → a' 15 k = a 15 k) (h13 : ∀ k, k < cm → a' 13 k = a 13 k)
    (hnew : ∀ k, cm ≤ k → k < cm' → a' 15 k = nI n ∧ a' 1 n = 3 ∧ a' 4 n = nI k ∧ ∃ r, r < 6 ∧ a' 13 k = nI r) (h11 : ∀ j, j < 48 → a' 11 j = a 11 j)
    (b1 : ∀ u, u < 5 → cs'.1 10 u = a' 10 u) (b2 : ∀ k, k < cm' → cs'.1 11 k = a' 13 k) (b3 : ∀ k, k < cm' → cs'.1 12 k = a' 14 k) (b4 : ∀ r f, r < 6 → f < 8 → cs'.1 (20 + r) f = cs.1 (20 + r) f) (hcn : cs'.2.1 = cm')
    (hws : cs'.2.2 = insA (recW a' kn' n) cs.2.2) : tRel (n + 1) cm' a' kn' cs' := by
  obtain ⟨T, ⟨os, O, e⟩, ecn, eclk, erec, eday, eneed⟩ := R
  have hn2 := T.hn
  have hcm := T.hcm
  have hlat : ∀ i j, i < n → j < n → isLaterB a' i j = isLaterB a i j := fun i j hi hj => lat_cg (fun k g1 g2 => ha k i g1 g2 hi) (fun k g1 g2 => ha k j g1 g2 hj)
  obtain ⟨c, hc9, ec⟩ := T.2.1 v hv
  have c1 : (a 10 v + 1).toInt = (c : Int) + 1 := by rw [ec, nI_1, nI_toInt (by omega)]; omega
  have c0 : (a 10 v).toInt = (c : Int) := by rw [ec, nI_toInt (by omega)]
  have hclk : ∀ u, u < 5 → (a 10 u).toInt ≤ (a' 10 u).toInt := by
    intro u hu
    rw [h10 u hu]
    by_cases q : u = v
    · rw [if_pos q, q, c1, c0]; omega
    · rw [if_neg q]; omega
  have hst := T.2.2.2.2.1
  have hnn : ¬ n ∈ os := fun q => absurd ((O.mem n).mp q) (Nat.lt_irrefl n)
  have htot : ∀ y, y ∈ os → isLaterB a' n y = true ∨ isLaterB a' y n = true := by
    intro y hy
    have hy := (O.mem y).mp hy
    obtain ⟨w, hw, ew, hkw⟩ := T.au y hy
    rw [lat_iff, lat_iff, ha 3 y (by omega) (by omega) hy, ha 2 y (by omega) (by omega) hy, h2, h3, ew, nI_toInt (by omega), nI_toInt (by omega), c1]
    have hs := hst y w hy hw hkw
    by_cases q : w = v
    · rw [q, c0] at hs; left; left; omega
    · omega
  have hsrt : os.Pairwise (fun i j => isLaterB a' j i = true) := by
    refine List.Pairwise.imp_of_mem (fun {i j} hi hj h => ?_) O.srt
    rw [hlat j i ((O.mem j).mp hj) ((O.mem i).mp hi)]; exact h
  have hsrt2 := insO_srt (a := a') n os hsrt htot
  have Onew : tOrd (n + 1) a' (insO a' n os) := by
    refine ⟨by rw [insO_len, O.1], List.Pairwise.imp (fun {i j} h q => ?_) hsrt2, fun i => ?_, hsrt2⟩
    · rw [q] at h; exact lat_irr a' j h
    · rw [insO_mem, O.mem]; omega
  have hrec : os.map (recW a' kn') = os.map (recW a kn) := List.map_congr_left (fun i hi => recW_cg (fun k g1 g2 => ha k i g1 g2 ((O.mem i).mp hi)) (fun u hu => hkn i u ((O.mem i).mp hi) (by omega)))
  have hkind : ∀ i, i < n → wKind cm' a' i := by
    intro i hi
    have h1 := ha 1 i (by omega) (by omega) hi
    have h4 := ha 4 i (by omega) (by omega) hi
    have h5 := ha 5 i (by omega) (by omega) hi
    unfold wKind
    rw [h1, h4, h5]
    rcases T.kind i hi with h | ⟨h, g, q⟩ | h | ⟨h, k, k1, k2, k3⟩ | ⟨h, g, k, k1, k2⟩ | ⟨h, k, k1, k2⟩ | ⟨h, k, k1, k2⟩
    · exact Or.inl h
    · refine Or.inr (Or.inl ⟨h, g, q.elim Or.inl (fun ⟨k, k1, k2⟩ => Or.inr ⟨k, by omega, k2⟩)⟩)
    · exact Or.inr (Or.inr (Or.inl h))
    · exact Or.inr (Or.inr (Or.inr (Or.inl ⟨h, k, by omega, k2, by rw [h15 k k1]; exact k3⟩)))
    · exact Or.inr (Or.inr (Or.inr (Or.inr (Or.inl ⟨h, g, k, by omega, k2⟩))))
    · exact Or.inr (Or.inr (Or.inr (Or.inr (Or.inr (Or.inl ⟨h, k, by omega, k2⟩)))))
    · exact Or.inr (Or.inr (Or.inr (Or.inr (Or.inr (Or.inr ⟨h, k, by omega, k2⟩)))))
  have hplan : ∀ i, i < n → wPlan a' kn' i := by
    intro i hi k p h56 e4 e15 hk hp
    have h1 := ha 1 i (by omega) (by omega) hi
    have h4 := ha 4 i (by omega) (by omega) hi
    rw [h1] at h56
    rw [h4] at e4
    have hkc : k < cm := by
      have hkk : ∀ k0, k0 < cm → a 4 i = nI k0 → k < cm := by
        intro k0 hk0 e0
        rw [e4] at e0
        have : k = k0 := (nI_eq (by omega) (by omega)).mp e0
        omega
      rcases T.kind i hi with ⟨h, -⟩ | ⟨h, -⟩ | ⟨h, -⟩ | ⟨h, -⟩ | ⟨h, -⟩ | ⟨h, k0, k1, k2⟩ | ⟨h, k0, k1, k2⟩
      · rw [h] at h56; exact absurd h56 (by decide)
      · rw [h] at h56; exact absurd h56 (by decide)
      · rw [h] at h56; exact absurd h56 (by decide)
      · rw [h] at h56; exact absurd h56 (by decide)
      · rw [h] at h56; exact absurd h56 (by decide)
      · exact hkk k0 k1 k2
      · exact hkk k0 k1 k2
    rw [h15 k hkc] at e15
    obtain ⟨hpn, -, -⟩ := plan_of T hkc e15 hp
    obtain ⟨g1, g2⟩ := T.plan i hi k p h56 e4 e15 hk hp
    refine ⟨by rw [hlat i p hi hpn]; exact g1, fun u hu hku => ?_⟩
    rw [hkn p u hpn hu]
    rw [hkn i u hi hu] at hku
    exact g2 u hu hku
  have spl : ∀ i, i < n + 1 → i < n ∨ i = n := fun i hi => by omega
  refine ⟨⟨⟨by omega, hc2, fun k hk => ?_, fun i hi h4 => ?_, fun k hk => ?_⟩, fun u hu => ?_, fun i hi => ?_, fun i hi => ?_, fun i u hi hu hku => ?_, fun i hi => ?_, fun i hi => ?_, fun k hk => ?_, fun j hj => ?_, fun i u hi hu => ?_⟩, ⟨insO a' n os, Onew, ?_⟩, hcn, b1, b2, b3, fun r f hr hf => ?_⟩
  · by_cases q : k < cm
    · obtain ⟨p, p1, p2, -, -⟩ := T.cake k q
      exact ⟨p, by omega, by rw [h15 k q]; exact p2⟩
    · exact ⟨n, by omega, (hnew k (by omega) hk).1⟩
  · have hkd : wKind cm' a' i := (spl i hi).elim (hkind i) (fun q => by rw [q]; exact hK)
    rcases hkd with ⟨h, -⟩ | ⟨h, -⟩ | ⟨h, -⟩ | ⟨h, -⟩ | ⟨h, -, g⟩ | ⟨h, -⟩ | ⟨h, -⟩
    all_goals first | (rw [h4] at h; exact absurd h (by decide)) | skip
    exact g
  · by_cases q : k < cm
    · rw [h13 k q]; exact T.mi.2.2.2.2 k q
    · exact (hnew k (by omega) hk).2.2.2
  · rw [h10 u hu]
    by_cases q : u = v
    · rw [if_pos q, ec, nI_1]; exact ⟨c + 1, by omega, rfl⟩
    · rw [if_neg q]
      obtain ⟨c', hc', e'⟩ := T.2.1 u hu
      exact ⟨c', by omega, e'⟩
  · rcases spl i hi with q | q
    · obtain ⟨w, hw, ew, hkw⟩ := T.au i q
      exact ⟨w, hw, by rw [ha 2 i (by omega) (by omega) q]; exact ew, by rw [hkn i w q (by omega)]; exact hkw⟩
    · subst q
      exact ⟨v, hv, h2, by rw [hk1 v (by omega)]; simp⟩
  · rcases spl i hi with q | q
    · rw [hkn i 5 q (by omega)]; exact T.all i q
    · subst q; rw [hk1 5 (by omega)]; simp
  · rcases spl i hi with q | q
    · rw [hkn i u q (by omega)] at hku
      rw [ha 3 i (by omega) (by omega) q]
      exact Int.le_trans (hst i u q hu hku) (hclk u hu)
    · subst q
      rw [hk1 u (by omega)] at hku
      have : u = v := by
        rw [Bool.or_eq_true, decide_eq_true_eq, decide_eq_true_eq] at hku
        omega
      rw [h3, h10 u hu, if_pos this]; omega
  · exact (spl i hi).elim (hkind i) (fun q => by rw [q]; exact hK)
  · exact (spl i hi).elim (hplan i) (fun q => by rw [q]; exact hPl)
  · by_cases q : k < cm
    · obtain ⟨p, p1, p2, p3, p4⟩ := T.cake k q
      exact ⟨p, by omega, by rw [h15 k q]; exact p2, by rw [ha 1 p (by omega) (by omega) p1]; exact p3, by rw [ha 4 p (by omega) (by omega) p1]; exact p4⟩
    · obtain ⟨g1, g2, g3, -⟩ := hnew k (by omega) hk
      exact ⟨n, by omega, g1, g2, g3⟩
  · rw [h11 j hj]; exact T.needs j hj
  · rw [hk0 i u (by omega) hu]; exact T.fresh i u (by omega) hu
  · rw [hws, insO_map, hrec, e]
  · rw [b4 r f hr hf, eneed r f hr hf, h11 _ (by omega)]
/-- what a write does to the reference's rows -/
theorem wrA_at (a : Nat → Nat → Int32) (n v : Nat) (kd sb ck : Int32) (z i : Nat) : wrA a n v kd sb ck z i = if z = 5 then (if i = n then ck else a 5 i) else if z = 4 then (if i = n then sb else a 4 i) else if z = 3 then (if i = n then a 10 v + 1 else a 3 i) else if z = 2 then (if i = n then nI v else a 2 i) else if z = 1 then (if i = n then kd else a 1 i) else if z = 10 then (if i = v then a 10 v + 1 else a 10 i) else a z i := by
  unfold wrA
  rw [upA_at, upA_at, upA_at, upA_at, upA_at, upA_at]
  by_cases h5 : z = 5
  · subst h5; simp
  · by_cases h4 : z = 4
    · subst h4; simp
    · by_cases h3 : z = 3
      · subst h3; simp
      · by_cases h2 : z = 2
        · subst h2; simp
        · by_cases h1 : z = 1
          · subst h1; simp
          · by_cases h0 : z = 10
            · subst h0; simp
            · simp [h0, h1, h2, h3, h4, h5]
theorem wrK_at (kn : Nat → Bool) (n v : Nat) (i : Nat) : wrK kn n v i = if i = 6 * n + 5 then true else if i = 6 * n + v then true else kn i := by
  unfold wrK upK; rfl
theorem wrK_old (kn : Nat → Bool) {n v i u : Nat} (hv : v < 5) (hi : i < n) (hu : u ≤ 5) : wrK kn n v (6 * i + u) = kn (6 * i + u) := by
  rw [wrK_at, if_neg (by omega), if_neg (by omega)]
theorem b5_one : ∀ v : Fin 5, (1 : Int32) <<< (nI v.val &&& 31) = b5 (fun u => decide (u = v.val)) := by decide +kernel
theorem rec_new (a : Nat → Nat → Int32) {n v : Nat} (hv : v < 5) (hz : ∀ u, u ≤ 5 → kn (6 * n + u) = (decide (u = v) || decide (u = 5))) {kd st sb ck wsb wck : Int32} (h1 : a 1 n = kd) (h2 : a 2 n = nI v) (h3 : a 3 n = st) (h4 : a 4 n = sb) (h5 : a 5 n = ck) (hk2 : ¬ kd = 2)
    (e3 : (if kd = 3 ∨ kd = 5 ∨ kd = 6 then -1 else sb) = wsb) (e4 : (if kd = 3 ∨ kd = 5 ∨ kd = 6 then sb else ck) = wck) : mkW kd st (nI v) wsb wck = recW a kn n := by
  have e8 : (1 : Int32) <<< (nI v &&& 31) = b5 (fun u => kn (6 * n + u)) := (b5_one ⟨v, hv⟩).trans (b5_cg (fun u hu => by
    rw [hz u (by omega)]
    have : ¬ u = 5 := by omega
    simp [this]))
  funext k
  unfold mkW recW
  rw [h1, h2, h3, h4, h5, e3, e4, e8, if_neg hk2, if_neg hk2, if_neg hk2]
  by_cases q5 : k = 5
  · subst q5; rfl
  · by_cases q6 : k = 6
    · subst q6; rfl
    · by_cases q7 : k = 7
      · subst q7; rfl
      · simp [q5, q6, q7]
theorem wrK_new (kn : Nat → Bool) {n v u : Nat} (hv : v < 5) (hu : u ≤ 5) (h0 : ∀ u, u ≤ 5 → kn (6 * n + u) = false) : wrK kn n v (6 * n + u) = (decide (u = v) || decide (u = 5)) := by
  rw [wrK_at]
  by_cases q5 : u = 5
  · subst q5; simp
  · by_cases qv : u = v
    · subst qv; simp
    · rw [if_neg (by omega), if_neg (by omega), h0 u hu]; simp [q5, qv]
end STEP
