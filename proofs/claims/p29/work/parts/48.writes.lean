/-! no machine: the calls that write one word -/
section WRITES
variable {n cm : Nat} {a : Nat → Nat → Int32} {kn : Nat → Bool} {os : List Nat} {v : Nat} {cs : CS} {xs : List Nat}
theorem wPlan_no {a : Nat → Nat → Int32} {kn : Nat → Bool} {i : Nat} (h5 : ¬ a 1 i = 5) (h6 : ¬ a 1 i = 6) : wPlan a kn i := fun k p h => absurd h (fun z => z.elim h5 h6)
/-- a word that is none of a cake's -/
theorem rel_word (R : tRel n cm a kn cs) (hn : n < 240) (hv : v < 5) (kd sb ck wsb wck : Int32) (hk2 : ¬ kd = 2) (e3 : (if kd = 3 ∨ kd = 5 ∨ kd = 6 then -1 else sb) = wsb) (e4 : (if kd = 3 ∨ kd = 5 ∨ kd = 6 then sb else ck) = wck)
    (hK : wKind cm (wrA a n v kd sb ck) n) (hPl : wPlan (wrA a n v kd sb ck) (wrK kn n v) n) :
    tRel (n + 1) cm (wrA a n v kd sb ck) (wrK kn n v) (cWr cs (nI v) kd wsb wck) := by
  have T := R.inv
  have hk1 : ∀ u, u ≤ 5 → wrK kn n v (6 * n + u) = (decide (u = v) || decide (u = 5)) := fun u hu => wrK_new kn hv hu (fun u hu => T.fresh n u (Nat.le_refl n) hu)
  have jv : jn (nI v) = v := jn_nI (by omega)
  refine rel_step R hn hv (fun k i g1 g2 hi => ?_) (fun i u hi hu => wrK_old kn hv hi hu) hk1 (fun i u hi hu => by rw [wrK_at, if_neg (by omega), if_neg (by omega)]) (fun u hu => by rw [wrA_at]; simp) (by rw [wrA_at]; simp) (by rw [wrA_at]; simp) hK hPl (Nat.le_refl _) T.hcm (fun k hk => by rw [wrA_at]; simp) (fun k hk => by rw [wrA_at]; simp) (fun k h1 h2 => absurd h1 (by omega)) (fun j hj => by rw [wrA_at]; simp) (fun u hu => ?_) (fun k hk => ?_) (fun k hk => ?_) (fun r f hr hf => ?_) R.cn ?_
  · have hne : ¬ i = n := by omega
    rw [wrA_at]
    have e : k = 1 ∨ k = 2 ∨ k = 3 ∨ k = 4 ∨ k = 5 ∨ k = 6 ∨ k = 7 ∨ k = 8 := by omega
    rcases e with e | e | e | e | e | e | e | e <;> subst e <;> simp [hne]
  · show upA cs.1 10 (jn (nI v)) (cs.1 10 (jn (nI v)) + 1) 10 u = _
    rw [jv, upA_at, wrA_at]
    by_cases q : u = v
    · subst q; simp [R.clk hu]
    · simp [q, R.clk hu]
  · show upA cs.1 10 (jn (nI v)) (cs.1 10 (jn (nI v)) + 1) 11 k = _
    rw [upA_at, wrA_at]; simp [R.rec hk]
  · show upA cs.1 10 (jn (nI v)) (cs.1 10 (jn (nI v)) + 1) 12 k = _
    rw [upA_at, wrA_at]; simp [R.day hk]
  · show upA cs.1 10 (jn (nI v)) (cs.1 10 (jn (nI v)) + 1) (20 + r) f = _
    rw [upA_at, if_neg (by omega)]
  · show insA (mkW kd (cs.1 10 (jn (nI v)) + 1) (nI v) wsb wck) cs.2.2 = _
    rw [rec_new (kn := wrK kn n v) (wrA a n v kd sb ck) hv hk1 (kd := kd) (st := cs.1 10 (jn (nI v)) + 1) (sb := sb) (ck := ck) (by rw [wrA_at]; simp) (by rw [wrA_at]; simp) (by rw [wrA_at, jv, R.clk hv]; simp) (by rw [wrA_at]; simp) (by rw [wrA_at]; simp) hk2 e3 e4]
theorem oz_put (R : tRel n cm a kn cs) (f t : Int32) : tOp [1, 3] (cPut cs f t) (mPut n cm a kn f t) := by
  have hn := R.inv.hn
  unfold cPut mPut
  rw [n5, n40, R.len]
  cases hf : inB f 0 4 with
  | false => exact tOp_same R rfl (by decide)
  | true =>
    cases ht : inB t 0 39 with
    | false => exact tOp_same R rfl (by decide)
    | true =>
      obtain ⟨jf, hjf, rfl⟩ := in4 hf
      obtain ⟨jt, hjt, rfl⟩ := in39 ht
      rw [jn_nI (show jf < 2 ^ 31 by omega), jn_nI (show jt < 2 ^ 31 by omega), (R.look hjf).1 jt hjt]
      have hrm : roomOk n 1 = !fullB n 1 := room_full hn 1 (by omega)
      rw [hrm]
      by_cases q : placeB a kn n jf (nI jt) = nI jf
      · rw [if_pos q, decide_eq_true q]
        exact tOp_same R rfl (by decide)
      · rw [if_neg q, decide_eq_false q]
        cases hfl : fullB n 1 with
        | true => exact tOp_same R rfl (by decide)
        | false =>
          have hlt : n < 240 := by unfold fullB at hfl; rw [decide_eq_false_iff_not] at hfl; omega
          refine tOp_wr (by rw [R.clk hjf]) ?_
          exact rel_word R hlt hjf 0 (nI jt) (-1) (nI jt) (-1) (by decide) (by rw [if_neg (by decide)]) (by rw [if_neg (by decide)]) (Or.inl ⟨by rw [wrA_at]; simp, jt, hjt, by rw [wrA_at]; simp⟩) (wPlan_no (by rw [wrA_at]; simp) (by rw [wrA_at]; simp))
theorem oz_take (R : tRel n cm a kn cs) (f t : Int32) : tOp [1, 3] (cTake cs f t) (mTake n cm a kn f t) := by
  have hn := R.inv.hn
  unfold cTake mTake
  rw [n5, n40, R.len]
  cases hf : inB f 0 4 with
  | false => exact tOp_same R rfl (by decide)
  | true =>
    cases ht : inB t 0 39 with
    | false => exact tOp_same R rfl (by decide)
    | true =>
      obtain ⟨jf, hjf, rfl⟩ := in4 hf
      obtain ⟨jt, hjt, rfl⟩ := in39 ht
      rw [jn_nI (show jf < 2 ^ 31 by omega), jn_nI (show jt < 2 ^ 31 by omega), (R.look hjf).1 jt hjt]
      have hrm : roomOk n 1 = !fullB n 1 := room_full hn 1 (by omega)
      rw [hrm]
      by_cases q : placeB a kn n jf (nI jt) = -1
      · rw [if_pos q, decide_eq_true q]
        exact tOp_same R rfl (by decide)
      · rw [if_neg q, decide_eq_false q]
        cases hfl : fullB n 1 with
        | true => exact tOp_same R rfl (by decide)
        | false =>
          have hlt : n < 240 := by unfold fullB at hfl; rw [decide_eq_false_iff_not] at hfl; omega
          refine tOp_wr rfl ?_
          exact rel_word R hlt hjf 1 (nI jt) (-1) (nI jt) (-1) (by decide) (by rw [if_neg (by decide)]) (by rw [if_neg (by decide)]) (Or.inr (Or.inl ⟨by rw [wrA_at]; simp, ⟨jt, hjt, by rw [wrA_at]; simp⟩, Or.inl (by rw [wrA_at]; simp)⟩)) (wPlan_no (by rw [wrA_at]; simp) (by rw [wrA_at]; simp))
theorem oz_guest (R : tRel n cm a kn cs) (f g d1 d2 ds : Int32) : tOp [1, 2, 3] (cGuest cs f g d1 d2 ds) (mGuest n cm a kn f g d1 d2 ds) := by
  have hn := R.inv.hn
  unfold cGuest mGuest
  rw [n5, n8, rOk_in, rOk_in, rOk_in, R.len]
  cases hf : inB f 0 4 with
  | false => exact tOp_same R rfl (by decide)
  | true =>
    cases hg : inB g 0 7 with
    | false => exact tOp_same R rfl (by decide)
    | true =>
      cases h1 : inB d1 0 99 with
      | false => exact tOp_same R rfl (by decide)
      | true =>
        cases h2 : inB d2 d1 99 with
        | false => exact tOp_same R rfl (by decide)
        | true =>
          cases h3 : inB ds 0 255 with
          | false => exact tOp_same R rfl (by decide)
          | true =>
            have hrm : roomOk n 1 = !fullB n 1 := room_full hn 1 (by omega)
            rw [hrm]
            cases hfl : fullB n 1 with
            | true => exact tOp_same R rfl (by decide)
            | false =>
              have hlt : n < 240 := by unfold fullB at hfl; rw [decide_eq_false_iff_not] at hfl; omega
              obtain ⟨jf, hjf, rfl⟩ := in4 hf
              obtain ⟨jg, hjg, rfl⟩ := in7 hg
              have jv : jn (nI jf) = jf := jn_nI (by omega)
              rw [jv]
              have T := R.inv
              refine tOp_wr ?_ ?_
              · show cs.1 10 jf + 1 = a 10 jf + 1
                rw [R.clk hjf]
              · show tRel (n + 1) cm (wrA (upA (upA (upA a 6 n d1) 7 n d2) 8 n ds) n jf 2 (nI jg) (-1)) (wrK kn n jf) (upA cs.1 10 jf (cs.1 10 jf + 1), cs.2.1, insA (upd (upd (upd (mkW 2 (cs.1 10 jf + 1) (nI jf) (nI jg) (-1)) 5 d1) 6 d2) 7 ds) cs.2.2)
                have hk1 : ∀ u, u ≤ 5 → wrK kn n jf (6 * n + u) = (decide (u = jf) || decide (u = 5)) := fun u hu => wrK_new kn hjf hu (fun u hu => T.fresh n u (Nat.le_refl n) hu)
                refine rel_step R hlt hjf (fun k i g1 g2 hi => ?_) (fun i u hi hu => wrK_old kn hjf hi hu) hk1 (fun i u hi hu => by rw [wrK_at, if_neg (by omega), if_neg (by omega)]) (fun u hu => by rw [wrA_at]; simp [upA_at]) (by rw [wrA_at]; simp) (by rw [wrA_at]; simp [upA_at]) (Or.inr (Or.inr (Or.inl ⟨by rw [wrA_at]; simp, jg, hjg, by rw [wrA_at]; simp⟩))) (wPlan_no (by rw [wrA_at]; simp) (by rw [wrA_at]; simp)) (Nat.le_refl _) T.hcm (fun k hk => by rw [wrA_at]; simp [upA_at]) (fun k hk => by rw [wrA_at]; simp [upA_at]) (fun k h1 h2 => absurd h1 (by omega)) (fun j hj => by rw [wrA_at]; simp [upA_at]) (fun u hu => ?_) (fun k hk => ?_) (fun k hk => ?_) (fun r f hr hf => ?_) R.cn ?_
                · have hne : ¬ i = n := by omega
                  rw [wrA_at]
                  have e : k = 1 ∨ k = 2 ∨ k = 3 ∨ k = 4 ∨ k = 5 ∨ k = 6 ∨ k = 7 ∨ k = 8 := by omega
                  rcases e with e | e | e | e | e | e | e | e <;> subst e <;> simp [hne, upA_at]
                · show upA cs.1 10 jf (cs.1 10 jf + 1) 10 u = _
                  rw [upA_at, wrA_at]
                  by_cases q : u = jf
                  · subst q; simp [R.clk hu, upA_at]
                  · simp [q, R.clk hu, upA_at]
                · show upA cs.1 10 jf (cs.1 10 jf + 1) 11 k = _
                  rw [upA_at, wrA_at]; simp [R.rec hk, upA_at]
                · show upA cs.1 10 jf (cs.1 10 jf + 1) 12 k = _
                  rw [upA_at, wrA_at]; simp [R.day hk, upA_at]
                · show upA cs.1 10 jf (cs.1 10 jf + 1) (20 + r) f = _
                  rw [upA_at, if_neg (by omega)]
                · show insA (upd (upd (upd (mkW 2 (cs.1 10 jf + 1) (nI jf) (nI jg) (-1)) 5 d1) 6 d2) 7 ds) cs.2.2 = _
                  congr 1
                  have e8 : (1 : Int32) <<< (nI jf &&& 31) = b5 (fun u => wrK kn n jf (6 * n + u)) := (b5_one ⟨jf, hjf⟩).trans (b5_cg (fun u hu => by
                    rw [hk1 u (by omega)]
                    have : ¬ u = 5 := by omega
                    simp [this]))
                  funext k
                  unfold recW
                  rw [← e8]
                  simp only [wrA_at, upA_at, upd, mkW]
                  by_cases q0 : k = 0
                  · subst q0; simp
                  · by_cases q1 : k = 1
                    · subst q1; simp [R.clk hjf]
                    · by_cases q2 : k = 2
                      · subst q2; simp
                      · by_cases q3 : k = 3
                        · subst q3; simp
                        · by_cases q4 : k = 4
                          · subst q4; simp
                          · by_cases q5 : k = 5
                            · subst q5; simp
                            · by_cases q6 : k = 6
                              · subst q6; simp
                              · by_cases q7 : k = 7
                                · subst q7; simp
                                · simp [q0, q1, q2, q3, q4, q5, q6, q7]
theorem oz_setNeed (R : tRel n cm a kn cs) (r o x : Int32) : tOp [1, 2] (cSetNeed cs r o x) (mSetNeed n cm a kn r o x) := by
  unfold cSetNeed mSetNeed
  rw [n6, n8, rOk_in]
  cases hr : inB r 0 5 with
  | false => exact tOp_same R rfl (by decide)
  | true =>
    cases ho : inB o 0 7 with
    | false => exact tOp_same R rfl (by decide)
    | true =>
      cases hx : inB x 0 3 with
      | false => exact tOp_same R rfl (by decide)
      | true =>
        obtain ⟨jr, hjr, rfl⟩ := in5 hr
        obtain ⟨jo, hjo, rfl⟩ := in7 ho
        obtain ⟨jx, hjx, rfl⟩ := inB_at (k := 3) (by omega) rfl hx
        rw [jn_nI (show jr < 2 ^ 31 by omega), jn_nI (show jo < 2 ^ 31 by omega)]
        refine tOp_wr (R.need hjr hjo) ?_
        show tRel n cm (upA a 11 (8 * jr + jo) (nI jx)) kn (upA cs.1 (20 + jr) jo (nI jx), cs.2)
        obtain ⟨T, ⟨os, O, e⟩, ecn, eclk, erec, eday, eneed⟩ := R
        have hz : ∀ z, z ≠ 11 → upA a 11 (8 * jr + jo) (nI jx) z = a z := fun z hz => upA_k hz
        obtain ⟨t1, t2, t3, t4, t5, t6, t7, t8, t9, t10⟩ := T
        have hrec : recW (upA a 11 (8 * jr + jo) (nI jx)) kn = recW a kn := by
          funext i
          exact recW_cg (fun k g1 g2 => by rw [hz k (by omega)]) (fun u hu => rfl)
        refine ⟨⟨t1, t2, t3, t4, t5, t6, t7, t8, fun j hj => ?_, t10⟩, ⟨os, O, by rw [hrec]; exact e⟩, ecn, fun v hv => ?_, fun k hk => ?_, fun k hk => ?_, fun r9 f9 hr9 hf9 => ?_⟩
        · rw [upA_at, if_pos rfl]
          by_cases q : j = 8 * jr + jo
          · rw [if_pos q]; exact ⟨jx, hjx, rfl⟩
          · rw [if_neg q]; exact t9 j hj
        · show upA cs.1 (20 + jr) jo (nI jx) 10 v = _
          rw [upA_at, if_neg (by omega), hz 10 (by omega)]; exact eclk v hv
        · show upA cs.1 (20 + jr) jo (nI jx) 11 k = _
          rw [upA_at, if_neg (by omega), hz 13 (by omega)]; exact erec k hk
        · show upA cs.1 (20 + jr) jo (nI jx) 12 k = _
          rw [upA_at, if_neg (by omega), hz 14 (by omega)]; exact eday k hk
        · show upA cs.1 (20 + jr) jo (nI jx) (20 + r9) f9 = _
          rw [upA_at, upA_at, if_pos rfl]
          by_cases q : r9 = jr
          · rw [q, if_pos rfl]
            by_cases q2 : f9 = jo
            · rw [q2, if_pos rfl, if_pos rfl]
            · rw [if_neg q2, if_neg (by omega)]; exact eneed jr f9 hjr hf9
          · rw [if_neg (by omega), if_neg (by omega)]; exact eneed r9 f9 hr9 hf9
theorem oz_plan (R : tRel n cm a kn cs) (f r d : Int32) : tOp [1, 2, 3] (cPlan cs f r d) (mPlan n cm a kn f r d) := by
  have hn := R.inv.hn
  have hcm := R.inv.hcm
  unfold cPlan mPlan
  rw [n5, n6, rOk_in, R.len, R.cn]
  cases hf : inB f 0 4 with
  | false => exact tOp_same R rfl (by decide)
  | true =>
    cases hr : inB r 0 5 with
    | false => exact tOp_same R rfl (by decide)
    | true =>
      cases hd : inB d 0 99 with
      | false => exact tOp_same R rfl (by decide)
      | true =>
        obtain ⟨jf, hjf, rfl⟩ := in4 hf
        obtain ⟨jr, hjr, rfl⟩ := in5 hr
        have jv : jn (nI jf) = jf := jn_nI (by omega)
        rw [jv, jn_nI (show jr < 2 ^ 31 by omega), dis_eq R (R.look hjf) hjr]
        have hrm : roomOk n 1 = !fullB n 1 := room_full hn 1 (by omega)
        rw [hrm]
        cases hdis : dislikedB a kn n jf jr d with
        | true => exact tOp_same R rfl (by decide)
        | false =>
          by_cases hc : cm = 20
          · subst hc
            exact tOp_same R rfl (by decide)
          · have hc2 : ¬ 20 ≤ cm := by omega
            rw [if_neg hc2, decide_eq_false hc]
            cases hfl : fullB n 1 with
            | true =>
              exact tOp_same R rfl (by decide)
            | false =>
              have hlt : n < 240 := by unfold fullB at hfl; rw [decide_eq_false_iff_not] at hfl; omega
              refine tOp_wr rfl ?_
              have T := R.inv
              have hk1 : ∀ u, u ≤ 5 → wrK kn n jf (6 * n + u) = (decide (u = jf) || decide (u = 5)) := fun u hu => wrK_new kn hjf hu (fun u hu => T.fresh n u (Nat.le_refl n) hu)
              show tRel (n + 1) (cm + 1) (wrA (upA (upA (upA a 13 cm (nI jr)) 14 cm d) 15 cm (nI n)) n jf 3 (nI cm) (-1)) (wrK kn n jf) (cWr (upA (upA cs.1 11 cm (nI jr)) 12 cm d, cm + 1, cs.2.2) (nI jf) 3 (-1) (nI cm))
              refine rel_step R hlt hjf (fun k i g1 g2 hi => ?_) (fun i u hi hu => wrK_old kn hjf hi hu) hk1 (fun i u hi hu => by rw [wrK_at, if_neg (by omega), if_neg (by omega)]) (fun u hu => by rw [wrA_at]; simp [upA_at]) (by rw [wrA_at]; simp) (by rw [wrA_at]; simp [upA_at]) (Or.inr (Or.inr (Or.inr (Or.inl ⟨by rw [wrA_at]; simp, cm, by omega, by rw [wrA_at]; simp, by rw [wrA_at]; simp [upA_at]⟩)))) (wPlan_no (by rw [wrA_at]; simp) (by rw [wrA_at]; simp)) (by omega) (by omega) (fun k hk => ?_) (fun k hk => ?_) (fun k h1 h2 => ?_) (fun j hj => by rw [wrA_at]; simp [upA_at]) (fun u hu => ?_) (fun k hk => ?_) (fun k hk => ?_) (fun r f hr hf => ?_) rfl ?_
              · have hne : ¬ i = n := by omega
                rw [wrA_at]
                have e : k = 1 ∨ k = 2 ∨ k = 3 ∨ k = 4 ∨ k = 5 ∨ k = 6 ∨ k = 7 ∨ k = 8 := by omega
                rcases e with e | e | e | e | e | e | e | e <;> subst e <;> simp [hne, upA_at]
              · have : ¬ k = cm := by omega
                rw [wrA_at]; simp [upA_at, this]
              · have : ¬ k = cm := by omega
                rw [wrA_at]; simp [upA_at, this]
              · have : k = cm := by omega
                subst this
                exact ⟨by rw [wrA_at]; simp [upA_at], by rw [wrA_at]; simp, by rw [wrA_at]; simp, jr, hjr, by rw [wrA_at]; simp [upA_at]⟩
              · show upA (upA (upA cs.1 11 cm (nI jr)) 12 cm d) 10 (jn (nI jf)) (upA (upA cs.1 11 cm (nI jr)) 12 cm d 10 (jn (nI jf)) + 1) 10 u = _
                rw [jv, upA_at, wrA_at]
                by_cases q : u = jf
                · subst q; simp [R.clk hu, upA_at]
                · simp [q, R.clk hu, upA_at]
              · show upA (upA (upA cs.1 11 cm (nI jr)) 12 cm d) 10 (jn (nI jf)) (upA (upA cs.1 11 cm (nI jr)) 12 cm d 10 (jn (nI jf)) + 1) 11 k = _
                rw [upA_at, upA_at, upA_at, wrA_at]
                by_cases q : k = cm
                · simp [q, upA_at]
                · simp [q, upA_at, R.rec (show k < cm by omega)]
              · show upA (upA (upA cs.1 11 cm (nI jr)) 12 cm d) 10 (jn (nI jf)) (upA (upA cs.1 11 cm (nI jr)) 12 cm d 10 (jn (nI jf)) + 1) 12 k = _
                rw [upA_at, upA_at, upA_at, wrA_at]
                by_cases q : k = cm
                · simp [q, upA_at]
                · simp [q, upA_at, R.day (show k < cm by omega)]
              · show upA (upA (upA cs.1 11 cm (nI jr)) 12 cm d) 10 (jn (nI jf)) (upA (upA cs.1 11 cm (nI jr)) 12 cm d 10 (jn (nI jf)) + 1) (20 + r) f = _
                rw [upA_at, if_neg (by omega), upA_at, if_neg (by omega), upA_at, if_neg (by omega)]
              · show insA (mkW 3 (upA (upA cs.1 11 cm (nI jr)) 12 cm d 10 (jn (nI jf)) + 1) (nI jf) (-1) (nI cm)) cs.2.2 = _
                rw [rec_new (kn := wrK kn n jf) (wrA (upA (upA (upA a 13 cm (nI jr)) 14 cm d) 15 cm (nI n)) n jf 3 (nI cm) (-1)) hjf hk1 (kd := 3) (st := upA (upA cs.1 11 cm (nI jr)) 12 cm d 10 (jn (nI jf)) + 1) (sb := nI cm) (ck := -1) (wsb := -1) (wck := nI cm) (by rw [wrA_at]; simp) (by rw [wrA_at]; simp) (by rw [wrA_at, jv]; simp [upA_at, R.clk hjf]) (by rw [wrA_at]; simp) (by rw [wrA_at]; simp) (by decide) rfl rfl]
/-- a DROP or a BAKE of a cake whose plan the writer knows -/
theorem wPlan_new (T : tInv n cm a kn) (hv : v < 5) {jk p : Nat} (hk : jk < cm) (e15 : a 15 jk = nI p) (hp : p < n) (hkp : kn (6 * p + v) = true) (kd ck : Int32) : wPlan (wrA a n v kd (nI jk) ck) (wrK kn n v) n := by
  intro k p' _ e4 e5 hk20 hp'
  have hn := T.hn
  have hcm := T.hcm
  rw [wrA_at] at e4 e5
  have e4 : nI jk = nI k := by simpa using e4
  have e5 : a 15 k = nI p' := by simpa using e5
  have : jk = k := (nI_eq (by omega) (by omega)).mp e4
  subst this
  rw [e15] at e5
  have : p = p' := (nI_eq (by omega) (by omega)).mp e5
  subst this
  obtain ⟨c, hc, ec⟩ := T.2.1 v hv
  have hs := T.2.2.2.2.1 p v hp hv hkp
  have c1 : (a 10 v + 1).toInt = (c : Int) + 1 := by rw [ec, nI_1, nI_toInt (by omega)]; omega
  have c0 : (a 10 v).toInt = (c : Int) := by rw [ec, nI_toInt (by omega)]
  have hne : ¬ p = n := by omega
  refine ⟨?_, fun u hu hku => ?_⟩
  · rw [lat_iff]
    left
    have x1 : wrA a n v kd (nI jk) ck 3 p = a 3 p := by rw [wrA_at]; simp [hne]
    have x2 : wrA a n v kd (nI jk) ck 3 n = a 10 v + 1 := by rw [wrA_at]; simp
    rw [x1, x2, c1]; omega
  · rw [wrK_new kn hv hu (fun u hu => T.fresh n u (Nat.le_refl n) hu), Bool.or_eq_true, decide_eq_true_eq, decide_eq_true_eq] at hku
    rw [wrK_old kn hv hp hu]
    rcases hku with q | q
    · rw [q]; exact hkp
    · rw [q]; exact T.all p hp
end WRITES
