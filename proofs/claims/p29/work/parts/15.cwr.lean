/-! writing methods of the class -/
theorem arrV_congr {cI : ClassId} {N : Nat} {f g : Nat → Value} (h : ∀ j, j < N → f j = g j) : arrV cI N f = arrV cI N g := by
  unfold arrV
  congr 2
  funext j
  exact h j.val j.isLt
def cAd (u : Nat → Nat) : List Nat := [u 32, u 0, u 1, u 2, u 3, u 4, u 5, u 6, u 7, u 30, u 31, u 10, u 11, u 12, u 13, u 20, u 21, u 22, u 23, u 24, u 25]
def cG (u : Nat → Nat) (L : List Nat) (z : Nat) : Nat → Prop := fun x => (x ∈ cAd u ∨ x ∈ L) ∨ z ≤ x
theorem cAd_map (u : Nat → Nat) (cI cII : ClassId) (V : Nat → Nat → Int32) (pc sp : Int32) (cc : Nat) (e : Option Nat) (sz : Nat) (b : Nat → Nat → Int32) (L : List Nat) (w : Nat → Nat → Int32) (nx : Nat → Option Nat) : (cW u cI cII V pc sp cc e sz b L w nx).map (fun x => x.1) = cAd u ++ L := by
  unfold cW wX va_pl
  rw [List.map_append, List.map_map]
  congr 1
  exact List.map_id' L
theorem cD {u : Nat → Nat} {L : List Nat} {A : Nat → Prop} (hN : (cAd u ++ L).Nodup) (hA : ∀ x, x ∈ cAd u ∨ x ∈ L → A x) (cI cII : ClassId) (V : Nat → Nat → Int32) (pc sp : Int32) (cc : Nat) (e : Option Nat) (sz : Nat) (b : Nat → Nat → Int32) (w : Nat → Nat → Int32) (nx : Nat → Option Nat) : va_D A (cW u cI cII V pc sp cc e sz b L w nx) := by
  have g : ∀ (i : Nat) (p : Nat × va_E), (cW u cI cII V pc sp cc e sz b L w nx)[i]? = some p → (cAd u ++ L)[i]? = some p.1 := fun i p hp => by
    rw [← cAd_map u cI cII V pc sp cc e sz b L w nx, List.getElem?_map, hp]; rfl
  refine ⟨fun i j p r hi hj hpr => ?_, fun k p hk => hA _ (List.mem_append.mp (List.mem_of_getElem? (g k p hk)))⟩
  have h1 := g i p hi
  have h2 := g j r hj
  have hlt : i < (cAd u ++ L).length := (List.getElem?_eq_some_iff.mp h1).1
  exact (List.getElem?_inj hlt hN).mp (by rw [h1, h2, hpr])
def upW (w : Nat → Nat → Int32) (a k : Nat) (x : Int32) : Nat → Nat → Int32 := fun z => if z = a then upd (w a) k x else w z
abbrev PostC : Type := Int32 → Nat → (Nat → Nat → Int32) → Int32 → Int32 → Nat → Option Nat → Nat → (Nat → Nat → Int32) → List Nat → (Nat → Nat → Int32) → (Nat → Option Nat) → Prop
def kI (r : Int32) (_ : Nat) : Option Value := some (.int r)
def kV (_ : Int32) (_ : Nat) : Option Value := none
def kR (_ : Int32) (a : Nat) : Option Value := some (.ref a)
def cw_P (D : va_G) (cI cII : ClassId) (z0 : Nat) (W : va_W) (av : List Value) : Array Value → State → Prop := va_Pc av (fun U => U.heap.size = z0 ∧ va_P D vwCl W U.heap ∧ va_K D vwCl (cT cI cII) U)
def cw_Q (D : va_G) (u : Nat → Nat) (cI cII : ClassId) (z0 : Nat) (L0 : List Nat) (rr : Int32 → Nat → Option Value) (Post : PostC) : Array Value → State → Outcome → State → Prop := fun _ st o t =>
  (∃ (r : Int32) (ra : Nat) (V : Nat → Nat → Int32) (pq sp : Int32) (cn : Nat) (e : Option Nat) (sz : Nat) (b : Nat → Nat → Int32) (L : List Nat) (w : Nat → Nat → Int32) (nx : Nat → Option Nat), o = .returned (rr r ra) ∧ Post r ra V pq sp cn e sz b L w nx ∧ va_P D vwCl (cW u cI cII V pq sp cn e sz b L w nx) t.heap) ∧ va_F (cG u L0 z0) st t
def cw_Met (l : Launch) (y : MethodName) (ws : List Cond) (fr mc ms lo : Nat) (D : va_G) (u : Nat → Nat) (cI cII : ClassId) (z0 : Nat) (L0 : List Nat) (W : va_W) (av : List Value) (rr : Int32 → Nat → Option Value) (Post : PostC) : Prop :=
  Met l y ws { frames := fr, cells := mc, slots := ms, locals := lo } (cw_P D cI cII z0 W av) (cw_Q D u cI cII z0 L0 rr Post) mc ms (cG u L0 z0)
abbrev cwW (p : Program) (l : Launch) (e : Env) (fr mc ms lo : Nat) (s : State) (m : MethodId) (av : List Value) (below : List Frame) (meth : Method) (c : Code) (H : Heap) (locs : List Loc) (cells slots : Nat) (D : va_G) (u : Nat → Nat) (cI cII : ClassId) (z0 : Nat) (L0 : List Nat) (rr : Int32 → Nat → Option Value) (Post : PostC) (g : JFrame) : Prop :=
  W p l e { frames := fr, cells := mc, slots := ms, locals := lo } s m av.toArray below meth c H locs cells slots (MQ below (cw_Q D u cI cII z0 L0 rr Post) av.toArray s mc ms (cG u L0 z0)) g
theorem cw_start {l : Launch} {y : MethodName} {ws ws' : List Cond} {fr mc ms lo : Nat} {D : va_G} {u : Nat → Nat} {cI cII : ClassId} {z0 : Nat} {L0 : List Nat} {w : va_W} {av : List Value} {rr : Int32 → Nat → Option Value} {Post : PostC} {cc : ByteArray} {maxL : Nat} {ret : Option FieldType}
    (hw : ws = Cond.code y cc maxL ret :: ws') (hy : plainName y.cls = true) (hlen : (lg_sl av).length ≤ maxL)
    (body : ∀ (p : Program) (e : Env) (s : State) (m : MethodId) (below : List Frame) (meth : Method) (c : Code), CallFix p m c cc maxL s av.toArray ws y.cls → meth.sig.returnType = ret → meth.locks = false → va_K D vwCl (cT cI cII) s → s.heap.size = z0 → ∀ (H : Heap) (locs : List Loc), va_P D vwCl w H → va_S (cG u L0 z0) s.heap H locs → z0 ≤ H.size → ∀ ls : Array Slot, lv_has ls maxL (lv_args 0 av) →
      cwW p l e fr mc ms lo s m av below meth c H locs 0 0 D u cI cII z0 L0 rr Post (F0 m 0 ls [])) : cw_Met l y ws fr mc ms lo D u cI cII z0 L0 w av rr Post := by
  refine Met.ofW (cc := cc) (maxL := maxL) (ret := ret) hy hw ?_
  intro p e s m args below meth c s₁ B hml hv
  obtain ⟨rfl, hz, hP, hK⟩ := hv
  have hl := lv_entry av (n := maxL) hlen
  rw [lg_entry_eq]
  generalize (lg_sl av ++ List.replicate (maxL - (lg_sl av).length) Slot.unset).toArray = ls at hl ⊢
  exact body p e s m below meth c ⟨B.exec, B.bytes, hml, findClass_of_methodNamed B.named, atoms_spec (ws := ws) B.pre⟩ B.returns B.notSynchronized hK hz s.heap [] hP va_S.rf (Nat.le_of_eq hz.symm) ls hl
section CWROW
variable {p : Program} {l : Launch} {e9 : Env} {R : Room} {s : State} {m : MethodId} {args : Array Value} {below : List Frame} {meth : Method} {c : Code} {H : Heap} {locs : List Loc} {cells slots : Nat} {Q : State → Prop}
variable {cc bytes : ByteArray} {pc nL nn index maxL mc ms : Nat} {ls : Array Slot} {rest st0 : List Value} {Ts ws : List Cond} {own C : String} {D : va_G} {tys : List (ClassId × FieldType)} {A : Nat → Prop} {H0 : Heap} {y : MethodName} {ret : Option FieldType} {fr lo bb : Nat}
variable {u : Nat → Nat} {cI cII : ClassId} {V : Nat → Nat → Int32} {pq sp : Int32} {cn : Nat} {e : Option Nat} {sz : Nat} {b : Nat → Nat → Int32} {L L0 : List Nat} {w : Nat → Nat → Int32} {nx : Nat → Option Nat} {z0 : Nat} {rr : Int32 → Nat → Option Value} {Post : PostC}
theorem vv_ast (F : CallFix p m c cc nL s args Ts own) (hK : va_K D vwCl (cT cI cII) s) (hN : (cAd u ++ L).Nodup) (hA : ∀ x, x ∈ cAd u ∨ x ∈ L → A x) (hP : va_P D vwCl (cW u cI cII V pq sp cn e sz b L w nx) H) (hS : va_S A H0 H locs) (k pl len : Nat) (hpl : (cW u cI cII V pq sp cn e sz b L w nx)[pl]? = some (u k, .inl (cI, len, .inl (V k)))) {i x : Int32} (j : Nat) (hi : i = nI j) (hj : j < len) (hlen : len < 2 ^ 31)
    (hset : (cW u cI cII V pq sp cn e sz b L w nx).set pl (u k, .inl (cI, len, .inl (upd (V k) j x))) = cW u cI cII (upA V k j x) pq sp cn e sz b L w nx) (hdg : decode cc pc = .ok (.iastore, 1))
    (kk : ∀ (H1 : Heap) (locs1 : List Loc), va_P D vwCl (cW u cI cII (upA V k j x) pq sp cn e sz b L w nx) H1 → va_S A H0 H1 locs1 → W p l e9 R s m args below meth c H1 locs1 cells slots Q (F0 m (pc + 1) ls rest)) : W p l e9 R s m args below meth c H locs cells slots Q (F0 m pc ls (.int x :: .int i :: .ref (u k) :: rest)) := by
  subst hi
  refine va_iast F.1 F.2.1 hK hP (cD hN hA cI cII V pq sp cn e sz b w nx) hS pl 0 hpl rfl (vp_in_nI hj hlen) hdg (fun H1 locs1 hP1 _ hS1 => kk H1 locs1 ?_ hS1)
  rw [nI_clamp (Nat.lt_trans hj hlen), hset] at hP1
  exact hP1
theorem cp_ast (F : CallFix p m c cc nL s args Ts own) (hK : va_K D vwCl (cT cI cII) s) (hN : (cAd u ++ L).Nodup) (hA : ∀ x, x ∈ cAd u ∨ x ∈ L → A x) (hP : va_P D vwCl (cW u cI cII V pq sp cn e sz b L w nx) H) (hS : va_S A H0 H locs) (k pl len : Nat) (hpl : (cW u cI cII V pq sp cn e sz b L w nx)[pl]? = some (u k, .inl (cI, len, .inl (b k)))) {i x : Int32} (j : Nat) (hi : i = nI j) (hj : j < len) (hlen : len < 2 ^ 31)
    (hset : (cW u cI cII V pq sp cn e sz b L w nx).set pl (u k, .inl (cI, len, .inl (upd (b k) j x))) = cW u cI cII V pq sp cn e sz (upA b k j x) L w nx) (hdg : decode cc pc = .ok (.iastore, 1))
    (kk : ∀ (H1 : Heap) (locs1 : List Loc), va_P D vwCl (cW u cI cII V pq sp cn e sz (upA b k j x) L w nx) H1 → va_S A H0 H1 locs1 → W p l e9 R s m args below meth c H1 locs1 cells slots Q (F0 m (pc + 1) ls rest)) : W p l e9 R s m args below meth c H locs cells slots Q (F0 m pc ls (.int x :: .int i :: .ref (u k) :: rest)) := by
  subst hi
  refine va_iast F.1 F.2.1 hK hP (cD hN hA cI cII V pq sp cn e sz b w nx) hS pl 0 hpl rfl (vp_in_nI hj hlen) hdg (fun H1 locs1 hP1 _ hS1 => kk H1 locs1 ?_ hS1)
  rw [nI_clamp (Nat.lt_trans hj hlen), hset] at hP1
  exact hP1
theorem cp_row (F : CallFix p m c cc nL s args Ts own) (hK : va_K D vwCl (cT cI cII) s) (hN : (cAd u ++ L).Nodup) (hA : ∀ x, x ∈ cAd u ∨ x ∈ L → A x) (hP : va_P D vwCl (cW u cI cII V pq sp cn e sz b L w nx) H) (hS : va_S A H0 H locs) (r : Nat) (hr : r < 6) {i x : Int32} (j : Nat) (hi : i = nI j) (hj : j < 8) (hdg : decode cc pc = .ok (.iastore, 1))
    (kk : ∀ (H1 : Heap) (locs1 : List Loc), va_P D vwCl (cW u cI cII V pq sp cn e sz (upA b (20 + r) j x) L w nx) H1 → va_S A H0 H1 locs1 → W p l e9 R s m args below meth c H1 locs1 cells slots Q (F0 m (pc + 1) ls rest)) : W p l e9 R s m args below meth c H locs cells slots Q (F0 m pc ls (.int x :: .int i :: .ref (u (20 + r)) :: rest)) := by
  match r, hr with
  | 0, _ => exact cp_ast F hK hN hA hP hS 20 15 8 rfl j hi hj (by omega) rfl hdg kk
  | 1, _ => exact cp_ast F hK hN hA hP hS 21 16 8 rfl j hi hj (by omega) rfl hdg kk
  | 2, _ => exact cp_ast F hK hN hA hP hS 22 17 8 rfl j hi hj (by omega) rfl hdg kk
  | 3, _ => exact cp_ast F hK hN hA hP hS 23 18 8 rfl j hi hj (by omega) rfl hdg kk
  | 4, _ => exact cp_ast F hK hN hA hP hS 24 19 8 rfl j hi hj (by omega) rfl hdg kk
  | 5, _ => exact cp_ast F hK hN hA hP hS 25 20 8 rfl j hi hj (by omega) rfl hdg kk
theorem vv_put (F : CallFix p m c cc nL s args Ts own) (hK : va_K D vwCl tys s) (hin : ∀ w ∈ wsX00, w ∈ Ts) (hN : (cAd u ++ L).Nodup) (hA : ∀ x, x ∈ cAd u ∨ x ∈ L → A x) (hP : va_P D vwCl (cW u cI cII V pq sp cn e sz b L w nx) H) (hS : va_S A H0 H locs) (k : Nat) (pq' sp' : Int32) {x : Int32} (hset : (vS u pq sp).set k (.int x) = vS u pq' sp') (hk : k < 10) (hlink : Cond.fieldLink own index (TX0 k).1 (TX0 k).2.1 (TX0 k).2.2.1 ∈ Ts) (hfin : (TX0 k).2.2.2 = false) (hd : parseFieldDescriptor (TX0 k).2.2.1 = some .int) (hdg : decode cc pc = .ok (.putfield index, 3))
    (kk : ∀ (H1 : Heap) (locs1 : List Loc), va_P D vwCl (cW u cI cII V pq' sp' cn e sz b L w nx) H1 → va_S A H0 H1 locs1 → W p l e9 R s m args below meth c H1 locs1 cells slots Q (F0 m (pc + 3) ls rest)) : W p l e9 R s m args below meth c H locs cells slots Q (F0 m pc ls (.int x :: .ref (u 32) :: rest)) := by
  refine va_put (ref := (TX0 k).1) (C := RX0) (T := TX0) (N := 10) (ci := 0) (ty := .int) (v := .int x) F.1 F.2.1 F.2.2.2.2 hin tyX0 tyX0_ok nmX0 F.2.2.2.1 hK hP (cD hN hA cI cII V pq sp cn e sz b w nx) hS 0 rfl rfl k hk (F.2.2.2.2 _ hlink) (fun _ x => x) hfin hd rfl rfl (by show k < 10; exact hk) hdg (fun H1 locs1 hP1 _ hS1 => kk H1 locs1 ?_ hS1)
  rw [hset] at hP1
  exact hP1
theorem op_put (F : CallFix p m c cc nL s args Ts own) (hK : va_K D vwCl tys s) (hin : ∀ w ∈ wsX30, w ∈ Ts) (hN : (cAd u ++ L).Nodup) (hA : ∀ x, x ∈ cAd u ∨ x ∈ L → A x) (hP : va_P D vwCl (cW u cI cII V pq sp cn e sz b L w nx) H) (hS : va_S A H0 H locs) (cn' : Nat) (hlink : Cond.fieldLink own index "FridgeGossip" "cakeCount" "I" ∈ Ts) (hdg : decode cc pc = .ok (.putfield index, 3))
    (kk : ∀ (H1 : Heap) (locs1 : List Loc), va_P D vwCl (cW u cI cII V pq sp cn' e sz b L w nx) H1 → va_S A H0 H1 locs1 → W p l e9 R s m args below meth c H1 locs1 cells slots Q (F0 m (pc + 3) ls rest)) : W p l e9 R s m args below meth c H locs cells slots Q (F0 m pc ls (.int (nI cn') :: .ref (u 30) :: rest)) :=
  va_put (ref := (TX3 6).1) (C := RX3) (T := TX3) (N := 7) (ci := 3) (ty := .int) (v := .int (nI cn')) F.1 F.2.1 F.2.2.2.2 hin tyX3 tyX3_ok nmX3 F.2.2.2.1 hK hP (cD hN hA cI cII V pq sp cn e sz b w nx) hS 9 rfl rfl 6 (by decide) (F.2.2.2.2 _ hlink) (fun _ x => x) rfl rfl rfl rfl (by show 6 < 7; decide) hdg (fun H1 locs1 hP1 _ hS1 => kk H1 locs1 hP1 hS1)
theorem kp_size (F : CallFix p m c cc nL s args Ts own) (hK : va_K D vwCl tys s) (hin : ∀ w ∈ wsX20, w ∈ Ts) (hN : (cAd u ++ L).Nodup) (hA : ∀ x, x ∈ cAd u ∨ x ∈ L → A x) (hP : va_P D vwCl (cW u cI cII V pq sp cn e sz b L w nx) H) (hS : va_S A H0 H locs) (sz' : Nat) (hlink : Cond.fieldLink own index "FridgeGossip$WordChain" "size" "I" ∈ Ts) (hdg : decode cc pc = .ok (.putfield index, 3))
    (kk : ∀ (H1 : Heap) (locs1 : List Loc), va_P D vwCl (cW u cI cII V pq sp cn e sz' b L w nx) H1 → va_S A H0 H1 locs1 → W p l e9 R s m args below meth c H1 locs1 cells slots Q (F0 m (pc + 3) ls rest)) : W p l e9 R s m args below meth c H locs cells slots Q (F0 m pc ls (.int (nI sz') :: .ref (u 31) :: rest)) :=
  va_put (ref := (TX2 1).1) (C := RX2) (T := TX2) (N := 2) (ci := 2) (ty := .int) (v := .int (nI sz')) F.1 F.2.1 F.2.2.2.2 hin tyX2 tyX2_ok nmX2 F.2.2.2.1 hK hP (cD hN hA cI cII V pq sp cn e sz b w nx) hS 10 rfl rfl 1 (by decide) (F.2.2.2.2 _ hlink) (fun _ x => x) rfl rfl rfl rfl (by show 1 < 2; decide) hdg (fun H1 locs1 hP1 _ hS1 => kk H1 locs1 hP1 hS1)
theorem kp_first (F : CallFix p m c cc nL s args Ts own) (hK : va_K D vwCl tys s) (hin : ∀ w ∈ wsX20, w ∈ Ts) (hN : (cAd u ++ L).Nodup) (hA : ∀ x, x ∈ cAd u ∨ x ∈ L → A x) (hP : va_P D vwCl (cW u cI cII V pq sp cn e sz b L w nx) H) (hS : va_S A H0 H locs) (x : Nat) (hlink : Cond.fieldLink own index "FridgeGossip$WordChain" "earliest" "LFridgeGossip$Word;" ∈ Ts) (hdg : decode cc pc = .ok (.putfield index, 3))
    (kk : ∀ (H1 : Heap) (locs1 : List Loc), va_P D vwCl (cW u cI cII V pq sp cn (some x) sz b L w nx) H1 → va_S A H0 H1 locs1 → W p l e9 R s m args below meth c H1 locs1 cells slots Q (F0 m (pc + 3) ls rest)) : W p l e9 R s m args below meth c H locs cells slots Q (F0 m pc ls (.ref x :: .ref (u 31) :: rest)) :=
  va_put (ref := (TX2 0).1) (C := RX2) (T := TX2) (N := 2) (ci := 2) (ty := .object "FridgeGossip$Word") (v := .ref x) F.1 F.2.1 F.2.2.2.2 hin tyX2 tyX2_ok nmX2 F.2.2.2.1 hK hP (cD hN hA cI cII V pq sp cn e sz b w nx) hS 10 rfl rfl 0 (by decide) (F.2.2.2.2 _ hlink) (fun _ x => x) rfl (by decide +kernel) rfl rfl (by show 0 < 2; decide) hdg (fun H1 locs1 hP1 _ hS1 => kk H1 locs1 hP1 hS1)
theorem wE_up {w : Nat → Nat → Int32} {nx : Nat → Option Nat} {a k : Nat} {x : Int32} (hk : k < 9) : ∀ z, va_up (wE w nx) a (.inr (1, (wF (w a) (nx a)).set k (.int x))) z = wE (upW w a k x) nx z := by
  intro z
  by_cases h : z = a
  · subst h
    rw [va_up_self]
    unfold wE
    have e : upW w z k x z = upd (w z) k x := by simp [upW]
    rw [e]
    match k, hk with
    | 0, _ => simp [wF, upd]
    | 1, _ => simp [wF, upd]
    | 2, _ => simp [wF, upd]
    | 3, _ => simp [wF, upd]
    | 4, _ => simp [wF, upd]
    | 5, _ => simp [wF, upd]
    | 6, _ => simp [wF, upd]
    | 7, _ => simp [wF, upd]
    | 8, _ => simp [wF, upd]
  · rw [va_up_ne _ _ h]
    unfold wE
    have e : upW w a k x z = w z := by simp [upW, h]
    rw [e]
theorem wE_nx {w : Nat → Nat → Int32} {nx : Nat → Option Nat} {a : Nat} {o : Option Nat} : ∀ z, va_up (wE w nx) a (.inr (1, (wF (w a) (nx a)).set 9 (va_rf o))) z = wE w (va_up nx a o) z := by
  intro z
  by_cases h : z = a
  · subst h
    rw [va_up_self]
    unfold wE
    rw [va_up_self]
    rfl
  · rw [va_up_ne _ _ h]
    unfold wE
    rw [va_up_ne _ _ h]
theorem wp_put {a : Nat} (F : CallFix p m c cc nL s args Ts own) (hK : va_K D vwCl tys s) (hin : ∀ w ∈ wsX10, w ∈ Ts) (hN : (cAd u ++ L).Nodup) (hA : ∀ x, x ∈ cAd u ∨ x ∈ L → A x) (hP : va_P D vwCl (cW u cI cII V pq sp cn e sz b L w nx) H) (hS : va_S A H0 H locs) (ha : a ∈ L) (k : Nat) {x : Int32} (hk9 : k < 9) (hlink : Cond.fieldLink own index (TX1 k).1 (TX1 k).2.1 (TX1 k).2.2.1 ∈ Ts) (hfin : (TX1 k).2.2.2 = false) (hd : parseFieldDescriptor (TX1 k).2.2.1 = some .int) (hdg : decode cc pc = .ok (.putfield index, 3))
    (kk : ∀ (H1 : Heap) (locs1 : List Loc), va_P D vwCl (cW u cI cII V pq sp cn e sz b L (upW w a k x) nx) H1 → va_S A H0 H1 locs1 → W p l e9 R s m args below meth c H1 locs1 cells slots Q (F0 m (pc + 3) ls rest)) : W p l e9 R s m args below meth c H locs cells slots Q (F0 m pc ls (.int x :: .ref a :: rest)) := by
  have hD := cD hN hA cI cII V pq sp cn e sz b w nx
  obtain ⟨q, hq⟩ := va_pl_get (X := vX u cI V pq sp ++ cX u cI cII cn e sz b) (f := wE w nx) ha
  refine va_put (ref := (TX1 k).1) (C := RX1) (T := TX1) (N := 10) (ci := 1) (ty := .int) (v := .int x) (fs := wF (w a) (nx a)) F.1 F.2.1 F.2.2.2.2 hin tyX1 tyX1_ok nmX1 F.2.2.2.1 hK hP hD hS q hq rfl k (by omega) (F.2.2.2.2 _ hlink) (fun _ x => x) hfin hd rfl rfl (by show k < 10; omega) hdg (fun H1 locs1 hP1 _ hS1 => kk H1 locs1 ?_ hS1)
  have e : (cW u cI cII V pq sp cn e sz b L w nx).set q (a, .inr (1, (wF (w a) (nx a)).set k (.int x))) = cW u cI cII V pq sp cn e sz b L (upW w a k x) nx := by
    refine (va_pl_set hD ha hq).trans ?_
    rw [va_pl_congr (wE_up hk9)]
    rfl
  rw [e] at hP1
  exact hP1
theorem wp_next {a : Nat} {o : Option Nat} (F : CallFix p m c cc nL s args Ts own) (hK : va_K D vwCl tys s) (hin : ∀ w ∈ wsX10, w ∈ Ts) (hN : (cAd u ++ L).Nodup) (hA : ∀ x, x ∈ cAd u ∨ x ∈ L → A x) (hP : va_P D vwCl (cW u cI cII V pq sp cn e sz b L w nx) H) (hS : va_S A H0 H locs) (ha : a ∈ L) (hlink : Cond.fieldLink own index "FridgeGossip$Word" "next" "LFridgeGossip$Word;" ∈ Ts) (hdg : decode cc pc = .ok (.putfield index, 3))
    (kk : ∀ (H1 : Heap) (locs1 : List Loc), va_P D vwCl (cW u cI cII V pq sp cn e sz b L w (va_up nx a o)) H1 → va_S A H0 H1 locs1 → W p l e9 R s m args below meth c H1 locs1 cells slots Q (F0 m (pc + 3) ls rest)) : W p l e9 R s m args below meth c H locs cells slots Q (F0 m pc ls (va_rf o :: .ref a :: rest)) := by
  have hD := cD hN hA cI cII V pq sp cn e sz b w nx
  obtain ⟨q, hq⟩ := va_pl_get (X := vX u cI V pq sp ++ cX u cI cII cn e sz b) (f := wE w nx) ha
  refine va_put (ref := (TX1 9).1) (C := RX1) (T := TX1) (N := 10) (ci := 1) (ty := .object "FridgeGossip$Word") (v := va_rf o) (fs := wF (w a) (nx a)) F.1 F.2.1 F.2.2.2.2 hin tyX1 tyX1_ok nmX1 F.2.2.2.1 hK hP hD hS q hq rfl 9 (by decide) (F.2.2.2.2 _ hlink) (fun _ x => x) rfl (by decide +kernel) (by cases o <;> rfl) (by cases o <;> rfl) (by show 9 < 10; decide) hdg (fun H1 locs1 hP1 _ hS1 => kk H1 locs1 ?_ hS1)
  have e : (cW u cI cII V pq sp cn e sz b L w nx).set q (a, .inr (1, (wF (w a) (nx a)).set 9 (va_rf o))) = cW u cI cII V pq sp cn e sz b L w (va_up nx a o) := by
    refine (va_pl_set hD ha hq).trans ?_
    rw [va_pl_congr wE_nx]
    rfl
  rw [e] at hP1
  exact hP1
theorem cw_blind {W : va_W} {av : List Value} : FrameBlind (cw_P D cI cII z0 W av) := fun a U g mk h => ⟨h.1, h.2.1, h.2.2.1, va_K.moved (u := U) (U := U.calling g mk a) (Vm.Alike.refl U.vm) h.2.2.2⟩
theorem cw_run {g : JFrame} {aa : Array Value} (hr : va_Run p l e9 R s m args below meth c H locs cells slots mc ms (F0 m pc ls st0) rest (cw_Q D u cI cII H.size L rr Post aa) (cG u L H.size)) (hS : va_S A H0 H locs) (hA : ∀ x, cG u L H.size x → A x)
    (kk : ∀ (r : Int32) (ra : Nat) (V : Nat → Nat → Int32) (pq sp : Int32) (cn : Nat) (e : Option Nat) (sz : Nat) (b : Nat → Nat → Int32) (L1 : List Nat) (w : Nat → Nat → Int32) (nx : Nat → Option Nat) (H1 : Heap) (locs1 : List Loc), Post r ra V pq sp cn e sz b L1 w nx → va_P D vwCl (cW u cI cII V pq sp cn e sz b L1 w nx) H1 → H.size ≤ H1.size → (∀ x : Nat, x < H.size → ¬ (x ∈ cAd u ∨ x ∈ L) → H1[x]? = H[x]?) → va_S A H0 H1 locs1 → W p l e9 R s m args below meth c H1 locs1 (cells + mc) (slots + ms) Q (F0 m (pc + 3) ls ((rr r ra).toList ++ rest))) : W p l e9 R s m args below meth c H locs cells slots Q (F0 m pc ls st0) := by
  intro T hT X
  obtain ⟨v, st₀, t, T', Lc, h0, X', hL, e1, e2, ⟨⟨r, ra, V, pq, sp, cn, e, sz, b, L1, w, nx, hv, hp, hP⟩, hz, hk⟩, st⟩ := hr T hT X
  cases hv
  rw [h0] at hz hk
  obtain ⟨t2, a1, b1⟩ := kk r ra V pq sp cn e sz b L1 w nx T'.heap (locs ++ Lc) hp (by rw [e1]; exact hP) (by rw [e1]; exact hz) (fun x h1 h2 => by rw [e1]; exact hk x h1 (fun q => q.elim h2 (fun q => absurd q (Nat.not_le.mpr h1))))
    ⟨Nat.le_trans hS.1 (by rw [e1]; exact hz), fun x h1 h2 => by rw [e1, hk x (Nat.lt_of_lt_of_le h1 hS.1) (fun z => h2 (hA x z))]; exact hS.2.1 x h1 h2, fun z hz => by
      rcases List.mem_append.mp hz with y | y
      · exact hS.2.2 z y
      · exact hA _ (hL z y)⟩ T' rfl X'
  exact ⟨t2, st t2 a1, b1⟩
theorem cw_callV (F : CallFix p m c cc nL s args Ts own) (hK : va_K D vwCl (cT cI cII) s) (As : List Value) {wd : va_W} (hM : cw_Met l y ws fr mc ms lo D u cI cII H.size L wd (.ref bb :: As) rr Post) (cw : CallW R s args own C index y bytes maxL ret ws { frames := fr, cells := mc, slots := ms, locals := lo } mc ms nn)
    (hrc : ∃ cellB : Cell, H[bb]? = some cellB ∧ cellB.vm.isStatics = false ∧ s.vm.findClass C = some cellB.cls) (hP : va_P D vwCl wd H) (hS : va_S A H0 H locs) (hA : ∀ x, cG u L H.size x → A x) (hn : As.length = nn) (hsize : ls.size = nL) (hst : st0 = As.reverse ++ .ref bb :: rest) (hW : 2 * (F0 m pc ls st0).monitorRoom + (rest.map fun v => v.category).sum ≤ 8) (hcs : cells + mc ≤ R.cells ∧ slots + ms ≤ R.slots) (hdg : decode cc pc = .ok (.invokevirtual index, 3))
    (kk : ∀ (r : Int32) (ra : Nat) (V : Nat → Nat → Int32) (pq sp : Int32) (cn : Nat) (e : Option Nat) (sz : Nat) (b : Nat → Nat → Int32) (L1 : List Nat) (w : Nat → Nat → Int32) (nx : Nat → Option Nat) (H1 : Heap) (locs1 : List Loc), Post r ra V pq sp cn e sz b L1 w nx → va_P D vwCl (cW u cI cII V pq sp cn e sz b L1 w nx) H1 → H.size ≤ H1.size → (∀ x : Nat, x < H.size → ¬ (x ∈ cAd u ∨ x ∈ L) → H1[x]? = H[x]?) → va_S A H0 H1 locs1 → W p l e9 R s m args below meth c H1 locs1 (cells + mc) (slots + ms) Q (F0 m (pc + 3) ls ((rr r ra).toList ++ rest))) : W p l e9 R s m args below meth c H locs cells slots Q (F0 m pc ls st0) :=
  cw_run (g := F0 m pc ls st0) (va_runV (g := F0 m pc ls st0) F hM cw ⟨cw_blind, hrc, fun U hU hW => ⟨rfl, by rw [hU], by rw [hU]; exact hP, va_K.moved hW.alike hK⟩⟩ rfl hn hsize hst hW hdg hcs) hS hA kk
theorem cw_reti {v : Int32} (F : CallFix p m c cc nL s args Ts own) (hr : meth.sig.returnType = some .int) (hlocks : meth.locks = false) (hP : va_P D vwCl (cW u cI cII V pq sp cn e sz b L w nx) H) (hS : va_S (cG u L0 z0) s.heap H locs) (hpost : Post v 0 V pq sp cn e sz b L w nx) (hc : cells ≤ mc) (hs : slots ≤ ms) (hdg : decode cc pc = .ok (.ireturn, 1)) :
    W p l e9 R s m args below meth c H locs cells slots (MQ below (cw_Q D u cI cII z0 L0 kI Post) args s mc ms (cG u L0 z0)) (F0 m pc ls [.int v]) :=
  W.widen hc hs (W.iret F.1 F.2.1 hr (fun t ht hW => ⟨⟨v, 0, V, pq, sp, cn, e, sz, b, L, w, nx, rfl, hpost, by rw [ht]; exact hP⟩, hS.F ht⟩) hS.2.2 hdg hlocks)
theorem cw_retv (F : CallFix p m c cc nL s args Ts own) (hr : meth.sig.returnType = none) (hlocks : meth.locks = false) (hP : va_P D vwCl (cW u cI cII V pq sp cn e sz b L w nx) H) (hS : va_S (cG u L0 z0) s.heap H locs) (hpost : Post 0 0 V pq sp cn e sz b L w nx) (hc : cells ≤ mc) (hs : slots ≤ ms) (hdg : decode cc pc = .ok (.return_, 1)) :
    W p l e9 R s m args below meth c H locs cells slots (MQ below (cw_Q D u cI cII z0 L0 kV Post) args s mc ms (cG u L0 z0)) (F0 m pc ls []) :=
  W.widen hc hs (W.vret F.1 F.2.1 hr (fun t ht hW => ⟨⟨0, 0, V, pq, sp, cn, e, sz, b, L, w, nx, rfl, hpost, by rw [ht]; exact hP⟩, hS.F ht⟩) hS.2.2 hdg hlocks)
theorem cw_reta {a : Nat} {C9 : String} (F : CallFix p m c cc nL s args Ts own) (hr : meth.sig.returnType = some (.object C9)) (hlocks : meth.locks = false) (hP : va_P D vwCl (cW u cI cII V pq sp cn e sz b L w nx) H) (hS : va_S (cG u L0 z0) s.heap H locs) (hpost : Post 0 a V pq sp cn e sz b L w nx) (hc : cells ≤ mc) (hs : slots ≤ ms) (hdg : decode cc pc = .ok (.areturn, 1)) :
    W p l e9 R s m args below meth c H locs cells slots (MQ below (cw_Q D u cI cII z0 L0 kR Post) args s mc ms (cG u L0 z0)) (F0 m pc ls [.ref a]) :=
  W.widen hc hs (W.aret F.1 F.2.1 hr (Or.inl ⟨_, rfl⟩) (Or.inr ⟨_, rfl⟩) (fun t ht hW => ⟨⟨0, a, V, pq, sp, cn, e, sz, b, L, w, nx, rfl, hpost, by rw [ht]; exact hP⟩, hS.F ht⟩) hS.2.2 hdg hlocks)
end CWROW
theorem cG_in {u : Nat → Nat} {L L0 : List Nat} {z0 : Nat} (h : ∀ a, a ∈ L → a ∈ L0 ∨ z0 ≤ a) : ∀ x, x ∈ cAd u ∨ x ∈ L → cG u L0 z0 x := fun x hx => hx.elim (fun q => Or.inl (Or.inl q)) (fun q => (h x q).elim (fun r => Or.inl (Or.inr r)) Or.inr)
theorem cG_sub {u : Nat → Nat} {L L0 : List Nat} {z0 z1 : Nat} (h : ∀ a, a ∈ L → a ∈ L0 ∨ z0 ≤ a) (hz : z0 ≤ z1) : ∀ x, cG u L z1 x → cG u L0 z0 x := fun x hx => hx.elim (cG_in h x) (fun q => Or.inr (Nat.le_trans hz q))
def cEq (r : Int32) (V : Nat → Nat → Int32) (pq sp : Int32) (cn : Nat) (e : Option Nat) (sz : Nat) (b : Nat → Nat → Int32) (L : List Nat) (w : Nat → Nat → Int32) (nx : Nat → Option Nat) : PostC := fun r' _ V' pq' sp' cn' e' sz' b' L' w' nx' => r' = r ∧ V' = V ∧ pq' = pq ∧ sp' = sp ∧ cn' = cn ∧ e' = e ∧ sz' = sz ∧ b' = b ∧ L' = L ∧ w' = w ∧ nx' = nx
