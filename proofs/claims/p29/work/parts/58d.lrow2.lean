/-! the law's own body: rows, and the steps of its loops -/
abbrev lwW (p : Program) (l : Launch) (e : Env) (s : State) (m : MethodId) (b9 : Nat) (below : List Frame) (meth : Method) (c : Code) (H : Heap) (locs : List Loc) (cells slots : Nat) (g : JFrame) : Prop :=
  W p l e room_1 s m #[Value.ref b9] below meth c H locs cells slots (lw_Z below #[Value.ref b9] s) g
theorem lA_in (q : Nat → Nat) {k : Nat} (h : k ≤ 10) : q k ∈ lA q := by
  have e : k = 0 ∨ k = 1 ∨ k = 2 ∨ k = 3 ∨ k = 4 ∨ k = 5 ∨ k = 6 ∨ k = 7 ∨ k = 8 ∨ k = 9 ∨ k = 10 := by omega
  rcases e with e | e | e | e | e | e | e | e | e | e | e <;> subst e <;> simp [lA]
section LROW2
variable {p : Program} {l : Launch} {e9 : Env} {R : Room} {s : State} {m : MethodId} {args : Array Value} {below : List Frame} {meth : Method} {c : Code} {H : Heap} {locs : List Loc} {cells slots : Nat} {Q : State → Prop}
variable {cc : ByteArray} {pc nL : Nat} {ls : Array Slot} {rest : List Value} {Ts : List Cond} {own : String} {D : va_G}
variable {u q : Nat → Nat} {cI cII : ClassId} {A0 : Nat → Prop} {cs : CS} {G : FF}
/-- the law puts an int into a row of its own -/
theorem ix_ast (F : CallFix p m c cc nL s args Ts own) (hK : va_K D vwCl (cT cI cII) s) (hN : (lA q).Nodup) (hA : va_P D vwCl (lX q cI G) H) (hC : sW D u cI cII A0 (fun y => y ∈ lA q) cs H) (hS : va_S A0 s.heap H locs) (k len : Nat) (hk : k ≤ 10) (hAk : A0 (q k)) (hpl : (lX q cI G)[k]? = some (q k, .inl (cI, len, .inl (G k)))) {i x : Int32} (j : Nat) (hi : i = nI j) (hj : j < len) (hlen : len < 2 ^ 31)
    (hset : (lX q cI G).set k (q k, .inl (cI, len, .inl (upd (G k) j x))) = lX q cI (upA G k j x)) (hdg : decode cc pc = .ok (.iastore, 1))
    (kk : ∀ (H1 : Heap) (locs1 : List Loc), va_P D vwCl (lX q cI (upA G k j x)) H1 → sW D u cI cII A0 (fun y => y ∈ lA q) cs H1 → va_S A0 s.heap H1 locs1 → W p l e9 R s m args below meth c H1 locs1 cells slots Q (F0 m (pc + 1) ls rest)) : W p l e9 R s m args below meth c H locs cells slots Q (F0 m pc ls (.int x :: .int i :: .ref (q k) :: rest)) :=
  la_ast F hK hN hA hS k len hAk hpl j hi hj hlen hset hdg (fun H1 locs1 h1 o h3 => kk H1 locs1 h1 (hC.kept (fun x _ hb => o x (fun z => hb (by rw [z]; exact lA_in q hk)))) h3)
end LROW2
section LSTEPS
variable {n cm : Nat} {a : Nat → Nat → Int32} {kn : Nat → Bool} {f fo z j ck : Nat} {X : Int32 × List Nat} {L L2 : List Nat} {F : FF}
theorem li_same (h : foldU (liStep a kn n f fo) X j = (nI z, L2)) (c : placeB a kn n f (nI (fo + 8 * j)) = -1 ∨ ¬ keeperB a kn n f (nI (fo + 8 * j)) = -1) : foldU (liStep a kn n f fo) X (j + 1) = (nI z, L2) := by
  rw [foldU_s, h]
  unfold liStep
  by_cases h1 : nI z ≤ 0
  · rw [if_pos h1]
  · rw [if_neg h1]
    by_cases h2 : placeB a kn n f (nI (fo + 8 * j)) = -1
    · rw [if_pos h2]
    · rw [if_neg h2, if_neg (c.resolve_left h2)]
theorem li_more (h : foldU (liStep a kn n f fo) X j = (nI z, L2)) (h0 : ¬ z = 0) (hz : z < 2 ^ 31) (hp : ¬ placeB a kn n f (nI (fo + 8 * j)) = -1) (hk : keeperB a kn n f (nI (fo + 8 * j)) = -1) : foldU (liStep a kn n f fo) X (j + 1) = (nI (z - 1), L2 ++ [fo + 8 * j]) := by
  rw [foldU_s, h]
  unfold liStep
  rw [if_neg (nI_nle (by omega) hz), if_neg hp, if_pos hk]
  show (nI z + -1, L2 ++ [fo + 8 * j]) = _
  rw [show nI z + -1 = nI (z - 1) from sb_m1 (by omega)]
theorem li_end (h : foldU (liStep a kn n f fo) X j = (nI z, L2)) (hj : j ≤ 5) (c : j = 5 ∨ z = 0) : foldU (liStep a kn n f fo) X 5 = (nI z, L2) := by
  rcases c with q | q
  · rw [← q]; exact h
  · have := li_stop a kn n f fo X j (by rw [h, q]; show (0 : Int32) ≤ 0; decide) (5 - j)
    rw [show j + (5 - j) = 5 by omega, h] at this
    exact this
theorem lk_one (hL : L = foldU (lkStep a kn n f ck) [] fo) (h : foldU (liStep a kn n f fo) (lackB a kn n f ck fo, L) 5 = (nI z, L2)) : L2 = foldU (lkStep a kn n f ck) [] (fo + 1) := by
  rw [foldU_s, ← hL]
  unfold lkStep
  rw [h]
theorem lkp_yes {k : Int32} {t : Nat} (hL : L = foldU (kpStep a kn n f k) [] t) (h : keeperB a kn n f (nI t) = k) : L ++ [t] = foldU (kpStep a kn n f k) [] (t + 1) := by
  rw [foldU_s, ← hL]
  unfold kpStep
  rw [if_pos h]
theorem lkp_no {k : Int32} {t : Nat} (hL : L = foldU (kpStep a kn n f k) [] t) (h : ¬ keeperB a kn n f (nI t) = k) : L = foldU (kpStep a kn n f k) [] (t + 1) := by
  rw [foldU_s, ← hL]
  unfold kpStep
  rw [if_neg h]
theorem lkp_len {k : Int32} {t : Nat} (hL : L = foldU (kpStep a kn n f k) [] t) (ht : t ≤ 40) : L.length ≤ (keptL a kn n f k).length := by
  have := kept_le (a := a) (kn := kn) (n := n) (f := f) k (40 - t) t
  rw [show t + (40 - t) = 40 by omega, ← hL] at this
  exact this
theorem up_self (F : FF) (k j : Nat) : upA F k j (F k j) = F := by
  funext z i
  rw [upA_at]
  by_cases h1 : z = k
  · rw [if_pos h1]
    by_cases h2 : i = j
    · rw [if_pos h2, h1, h2]
    · rw [if_neg h2, h1]
  · rw [if_neg h1]
end LSTEPS
