/-! the class's world: the view u 32 and its rows u 0 .. u 7, the object u 30, the chain u 31, its rows u 10 .. u 13, u 20 .. u 25, the words L -/
def vS (u : Nat → Nat) (pc sp : Int32) : List Value := [.ref (u 0), .ref (u 1), .ref (u 2), .ref (u 3), .ref (u 4), .ref (u 5), .ref (u 6), .ref (u 7), .int pc, .int sp]
def vX (u : Nat → Nat) (cI : ClassId) (V : Nat → Nat → Int32) (pc sp : Int32) : va_W := [(u 32, .inr (0, vS u pc sp)), (u 0, .inl (cI, 40, .inl (V 0))), (u 1, .inl (cI, 40, .inl (V 1))), (u 2, .inl (cI, 40, .inl (V 2))), (u 3, .inl (cI, 8, .inl (V 3))), (u 4, .inl (cI, 8, .inl (V 4))), (u 5, .inl (cI, 8, .inl (V 5))), (u 6, .inl (cI, 20, .inl (V 6))), (u 7, .inl (cI, 20, .inl (V 7)))]
def oS (u : Nat → Nat) (cc : Nat) : List Value := [.ref (u 31), .ref (u 32), .ref (u 10), .ref (u 13), .ref (u 11), .ref (u 12), .int (nI cc)]
def kS (e : Option Nat) (sz : Nat) : List Value := [va_rf e, .int (nI sz)]
def nG (u : Nat → Nat) : Nat → Option Nat := fun i => if i < 6 then some (u (20 + i)) else none
def cX (u : Nat → Nat) (cI cII : ClassId) (cc : Nat) (e : Option Nat) (sz : Nat) (b : Nat → Nat → Int32) : va_W := [(u 30, .inr (3, oS u cc)), (u 31, .inr (2, kS e sz)), (u 10, .inl (cI, 5, .inl (b 10))), (u 11, .inl (cI, 20, .inl (b 11))), (u 12, .inl (cI, 20, .inl (b 12))), (u 13, .inl (cII, 6, .inr (.inr (.inr (.inr (nG u)))))),
  (u 20, .inl (cI, 8, .inl (b 20))), (u 21, .inl (cI, 8, .inl (b 21))), (u 22, .inl (cI, 8, .inl (b 22))), (u 23, .inl (cI, 8, .inl (b 23))), (u 24, .inl (cI, 8, .inl (b 24))), (u 25, .inl (cI, 8, .inl (b 25)))]
def wF (x : Nat → Int32) (o : Option Nat) : List Value := [.int (x 0), .int (x 1), .int (x 2), .int (x 3), .int (x 4), .int (x 5), .int (x 6), .int (x 7), .int (x 8), va_rf o]
def wE (w : Nat → Nat → Int32) (nx : Nat → Option Nat) : Nat → va_E := fun a => .inr (1, wF (w a) (nx a))
def wX (L : List Nat) (w : Nat → Nat → Int32) (nx : Nat → Option Nat) : va_W := va_pl L (wE w nx)
def cW (u : Nat → Nat) (cI cII : ClassId) (V : Nat → Nat → Int32) (pc sp : Int32) (cc : Nat) (e : Option Nat) (sz : Nat) (b : Nat → Nat → Int32) (L : List Nat) (w : Nat → Nat → Int32) (nx : Nat → Option Nat) : va_W := (vX u cI V pc sp ++ cX u cI cII cc e sz b) ++ wX L w nx
def cT (cI cII : ClassId) : List (ClassId × FieldType) := [(cI, .int), (cII, .array .int)]
theorem va_left {D : va_G} {cl : List vw_C} {X Y : va_W} {H : Heap} (h : va_P D cl (X ++ Y) H) : va_P D cl X H := fun k q hk => h k q (by rw [List.getElem?_append_left (List.getElem?_eq_some_iff.mp hk).1]; exact hk)
theorem va_right {D : va_G} {cl : List vw_C} {X Y : va_W} {H : Heap} (h : va_P D cl (X ++ Y) H) : va_P D cl Y H := fun k q hk => h (X.length + k) q (by rw [List.getElem?_append_right (by omega)]; rw [show X.length + k - X.length = k by omega]; exact hk)
theorem va_mem {D : va_G} {cl : List vw_C} {X : va_W} {H : Heap} : va_P D cl X H ↔ ∀ q, q ∈ X → va_at D cl q H := by
  constructor
  · intro h q hq
    obtain ⟨k, hk⟩ := List.getElem?_of_mem hq
    exact h k q hk
  · intro h k q hk
    exact h q (List.mem_of_getElem? hk)
section CP
variable {D : va_G} {H : Heap} {u : Nat → Nat} {cI cII : ClassId} {V : Nat → Nat → Int32} {pc sp : Int32} {cc : Nat} {e : Option Nat} {sz : Nat} {b : Nat → Nat → Int32} {L : List Nat} {w : Nat → Nat → Int32} {nx : Nat → Option Nat}
theorem cPv (h : va_P D vwCl (cW u cI cII V pc sp cc e sz b L w nx) H) : va_P D vwCl (vX u cI V pc sp) H := va_left (va_left h)
theorem cPc (h : va_P D vwCl (cW u cI cII V pc sp cc e sz b L w nx) H) : va_P D vwCl (cX u cI cII cc e sz b) H := va_right (va_left h)
theorem cPw (h : va_P D vwCl (cW u cI cII V pc sp cc e sz b L w nx) H) : va_P D vwCl (wX L w nx) H := va_right h
theorem cP_mk (h1 : va_P D vwCl (vX u cI V pc sp) H) (h2 : va_P D vwCl (cX u cI cII cc e sz b) H) (h3 : va_P D vwCl (wX L w nx) H) : va_P D vwCl (cW u cI cII V pc sp cc e sz b L w nx) H := (h1.app h2).app h3
theorem cPr (h : va_P D vwCl (cX u cI cII cc e sz b) H) {j : Nat} (hj : j < 6) : va_P D vwCl [(u (20 + j), .inl (cI, 8, .inl (b (20 + j))))] H := by
  match j, hj with
  | 0, _ => exact h.sub [6] rfl
  | 1, _ => exact h.sub [7] rfl
  | 2, _ => exact h.sub [8] rfl
  | 3, _ => exact h.sub [9] rfl
  | 4, _ => exact h.sub [10] rfl
  | 5, _ => exact h.sub [11] rfl
theorem cP1 (h : va_P D vwCl (wX L w nx) H) {a : Nat} (ha : a ∈ L) : va_P D vwCl [(a, .inr (1, wF (w a) (nx a)))] H := by
  refine va_mem.mpr (fun q hq => ?_)
  rw [List.mem_singleton] at hq
  subst hq
  exact va_mem.mp h _ (List.mem_map.mpr ⟨a, ha, rfl⟩)
end CP
section CROW
variable {p : Program} {l : Launch} {e : Env} {R : Room} {s : State} {m : MethodId} {args : Array Value} {below : List Frame} {meth : Method} {c : Code} {H : Heap} {locs : List Loc} {cells slots : Nat} {Q : State → Prop}
variable {cc : ByteArray} {pc nL index : Nat} {ls : Array Slot} {rest : List Value} {Ts : List Cond} {own : String} {D : va_G} {tys : List (ClassId × FieldType)} {off : Int} {tgt : Nat}
variable {u : Nat → Nat} {cI cII : ClassId} {V : Nat → Nat → Int32} {pq sp : Int32} {cn : Nat} {er : Option Nat} {sz : Nat} {b : Nat → Nat → Int32} {L : List Nat} {w : Nat → Nat → Int32} {nx : Nat → Option Nat}
theorem lw_V {v v' : Value} (h : v = v') (k : W p l e R s m args below meth c H locs cells slots Q (F0 m pc ls (v' :: rest))) : W p l e R s m args below meth c H locs cells slots Q (F0 m pc ls (v :: rest)) := by
  rw [h]; exact k
theorem lw_aload_nR {o : Option Nat} (hx : p.tables.exec = Jvm.exec) (hb : c.code = cc) {k : Fin 4} {i : Nat} (hdg : decode cc pc = .ok (.aload_n k, 1)) (hi : (k : Nat) = i) (hl : ls[i]? = some (.val (va_rf o))) (kk : W p l e R s m args below meth c H locs cells slots Q (F0 m (pc + 1) ls (va_rf o :: rest))) : W p l e R s m args below meth c H locs cells slots Q (F0 m pc ls rest) := by
  cases o with
  | none => exact lv_aload_nN hx hb hdg hi hl kk
  | some x => exact lv_aload_n hx hb hdg hi hl kk
theorem lw_aloadR {o : Option Nat} (hx : p.tables.exec = Jvm.exec) (hb : c.code = cc) {i : Nat} (hdg : decode cc pc = .ok (.aload i, 2)) (hl : ls[i]? = some (.val (va_rf o))) (kk : W p l e R s m args below meth c H locs cells slots Q (F0 m (pc + 2) ls (va_rf o :: rest))) : W p l e R s m args below meth c H locs cells slots Q (F0 m pc ls rest) := by
  cases o with
  | none => exact lv_aloadN hx hb hdg hl kk
  | some x => exact lv_aload hx hb hdg hl kk
theorem lw_astore_nR {o : Option Nat} (hx : p.tables.exec = Jvm.exec) (hb : c.code = cc) {k : Fin 4} {i nL : Nat} {lv lv' : List (Nat × Value)} (hdg : decode cc pc = .ok (.astore_n k, 1)) (hi : (k : Nat) = i) (h : lv_has ls nL lv) (hn : i < nL) (hl : (i, va_rf o) :: lv.filter (fun q => !(q.1 == i) && !(q.1 + 1 == i && q.2.category == 2)) = lv')
    (kk : ∀ ls' : Array Slot, lv_has ls' nL lv' → W p l e R s m args below meth c H locs cells slots Q (F0 m (pc + 1) ls' rest)) : W p l e R s m args below meth c H locs cells slots Q (F0 m pc ls (va_rf o :: rest)) := by
  cases o with
  | none => exact lv_astore_nN hx hb hdg hi h hn hl kk
  | some x => exact lv_astore_n hx hb hdg hi h hn hl kk
theorem lw_astoreR {o : Option Nat} (hx : p.tables.exec = Jvm.exec) (hb : c.code = cc) {i nL : Nat} {lv lv' : List (Nat × Value)} (hdg : decode cc pc = .ok (.astore i, 2)) (h : lv_has ls nL lv) (hn : i < nL) (hl : (i, va_rf o) :: lv.filter (fun q => !(q.1 == i) && !(q.1 + 1 == i && q.2.category == 2)) = lv')
    (kk : ∀ ls' : Array Slot, lv_has ls' nL lv' → W p l e R s m args below meth c H locs cells slots Q (F0 m (pc + 2) ls' rest)) : W p l e R s m args below meth c H locs cells slots Q (F0 m pc ls (va_rf o :: rest)) := by
  cases o with
  | none => exact lv_astoreN hx hb hdg h hn hl kk
  | some x => exact lv_astore hx hb hdg h hn hl kk
theorem lw_ifnullR {o : Option Nat} (hx : p.tables.exec = Jvm.exec) (hb : c.code = cc) (hdg : decode cc pc = .ok (.ifnull off, 3)) (ht : (pc : Int) + off = (tgt : Int))
    (kt : o = none → W p l e R s m args below meth c H locs cells slots Q (F0 m tgt ls rest)) (kf : ∀ x, o = some x → W p l e R s m args below meth c H locs cells slots Q (F0 m (pc + 3) ls rest)) : W p l e R s m args below meth c H locs cells slots Q (F0 m pc ls (va_rf o :: rest)) := by
  cases o with
  | none => exact lv_ifnullN hx hb hdg ht (kt rfl)
  | some x => exact lv_ifnull hx hb hdg (kf x rfl)
theorem lw_ifnonnullR {o : Option Nat} (hx : p.tables.exec = Jvm.exec) (hb : c.code = cc) (hdg : decode cc pc = .ok (.ifnonnull off, 3)) (ht : (pc : Int) + off = (tgt : Int))
    (kt : ∀ x, o = some x → W p l e R s m args below meth c H locs cells slots Q (F0 m tgt ls rest)) (kf : o = none → W p l e R s m args below meth c H locs cells slots Q (F0 m (pc + 3) ls rest)) : W p l e R s m args below meth c H locs cells slots Q (F0 m pc ls (va_rf o :: rest)) := by
  cases o with
  | none => exact lv_ifnonnullN hx hb hdg (kf rfl)
  | some x => exact lv_ifnonnull hx hb hdg ht (kt x rfl)
theorem vg_get {v : Value} (F : CallFix p m c cc nL s args Ts own) (hK : va_K D vwCl tys s) (hin : ∀ w ∈ wsX00, w ∈ Ts) (hV : va_P D vwCl (vX u cI V pq sp) H) (k : Nat) (hk : k < 10) (hlink : Cond.fieldLink own index (TX0 k).1 (TX0 k).2.1 (TX0 k).2.2.1 ∈ Ts) (hv : (vS u pq sp)[k]? = some v) (hdg : decode cc pc = .ok (.getfield index, 3))
    (kk : W p l e R s m args below meth c H locs cells slots Q (F0 m (pc + 3) ls (v :: rest))) : W p l e R s m args below meth c H locs cells slots Q (F0 m pc ls (.ref (u 32) :: rest)) :=
  va_get (ref := (TX0 k).1) (C := RX0) (T := TX0) (N := 10) (ci := 0) F.1 F.2.1 F.2.2.2.2 hin F.2.2.2.1 hK hV 0 rfl rfl k hk (F.2.2.2.2 _ hlink) (fun _ x => x) hv hdg kk
theorem og_get {v : Value} (F : CallFix p m c cc nL s args Ts own) (hK : va_K D vwCl tys s) (hin : ∀ w ∈ wsX30, w ∈ Ts) (hC : va_P D vwCl (cX u cI cII cn er sz b) H) (k : Nat) (hk : k < 7) (hlink : Cond.fieldLink own index (TX3 k).1 (TX3 k).2.1 (TX3 k).2.2.1 ∈ Ts) (hv : (oS u cn)[k]? = some v) (hdg : decode cc pc = .ok (.getfield index, 3))
    (kk : W p l e R s m args below meth c H locs cells slots Q (F0 m (pc + 3) ls (v :: rest))) : W p l e R s m args below meth c H locs cells slots Q (F0 m pc ls (.ref (u 30) :: rest)) :=
  va_get (ref := (TX3 k).1) (C := RX3) (T := TX3) (N := 7) (ci := 3) F.1 F.2.1 F.2.2.2.2 hin F.2.2.2.1 hK hC 0 rfl rfl k hk (F.2.2.2.2 _ hlink) (fun _ x => x) hv hdg kk
theorem kg_get {v : Value} (F : CallFix p m c cc nL s args Ts own) (hK : va_K D vwCl tys s) (hin : ∀ w ∈ wsX20, w ∈ Ts) (hC : va_P D vwCl (cX u cI cII cn er sz b) H) (k : Nat) (hk : k < 2) (hlink : Cond.fieldLink own index (TX2 k).1 (TX2 k).2.1 (TX2 k).2.2.1 ∈ Ts) (hv : (kS er sz)[k]? = some v) (hdg : decode cc pc = .ok (.getfield index, 3))
    (kk : W p l e R s m args below meth c H locs cells slots Q (F0 m (pc + 3) ls (v :: rest))) : W p l e R s m args below meth c H locs cells slots Q (F0 m pc ls (.ref (u 31) :: rest)) :=
  va_get (ref := (TX2 k).1) (C := RX2) (T := TX2) (N := 2) (ci := 2) F.1 F.2.1 F.2.2.2.2 hin F.2.2.2.1 hK hC 1 rfl rfl k hk (F.2.2.2.2 _ hlink) (fun _ x => x) hv hdg kk
theorem wg_get {v : Value} {a : Nat} (F : CallFix p m c cc nL s args Ts own) (hK : va_K D vwCl tys s) (hin : ∀ w ∈ wsX10, w ∈ Ts) (hW : va_P D vwCl (wX L w nx) H) (ha : a ∈ L) (k : Nat) (hk : k < 10) (hlink : Cond.fieldLink own index (TX1 k).1 (TX1 k).2.1 (TX1 k).2.2.1 ∈ Ts) (hv : (wF (w a) (nx a))[k]? = some v) (hdg : decode cc pc = .ok (.getfield index, 3))
    (kk : W p l e R s m args below meth c H locs cells slots Q (F0 m (pc + 3) ls (v :: rest))) : W p l e R s m args below meth c H locs cells slots Q (F0 m pc ls (.ref a :: rest)) :=
  va_get (ref := (TX1 k).1) (C := RX1) (T := TX1) (N := 10) (ci := 1) F.1 F.2.1 F.2.2.2.2 hin F.2.2.2.1 hK (cP1 hW ha) 0 rfl rfl k hk (F.2.2.2.2 _ hlink) (fun _ x => x) hv hdg kk
theorem cg_ald {X : va_W} {f : Nat → Int32} {a : Nat} (F : CallFix p m c cc nL s args Ts own) (hK : va_K D vwCl (cT cI cII) s) (hP : va_P D vwCl X H) (pl len : Nat) (hpl : X[pl]? = some (a, .inl (cI, len, .inl f))) {i : Int32} (j : Nat) (hi : i = nI j) (hj : j < len) (hlen : len < 2 ^ 31) (hdg : decode cc pc = .ok (.iaload, 1))
    (kk : W p l e R s m args below meth c H locs cells slots Q (F0 m (pc + 1) ls (.int (f j) :: rest))) : W p l e R s m args below meth c H locs cells slots Q (F0 m pc ls (.int i :: .ref a :: rest)) := by
  subst hi
  refine va_iald F.1 F.2.1 hK hP pl 0 hpl rfl (vp_in_nI hj hlen) hdg ?_
  rw [nI_clamp (Nat.lt_trans hj hlen)]
  exact kk
theorem cg_aald (F : CallFix p m c cc nL s args Ts own) (hK : va_K D vwCl (cT cI cII) s) (hC : va_P D vwCl (cX u cI cII cn er sz b) H) {i : Int32} (j : Nat) (hi : i = nI j) (hj : j < 6) (hdg : decode cc pc = .ok (.aaload, 1))
    (kk : W p l e R s m args below meth c H locs cells slots Q (F0 m (pc + 1) ls (.ref (u (20 + j)) :: rest))) : W p l e R s m args below meth c H locs cells slots Q (F0 m pc ls (.int i :: .ref (u 13) :: rest)) := by
  subst hi
  have hlt : (nI j).toNatClampNeg < 6 := by rw [nI_clamp (by omega)]; exact hj
  have hin := vp_in_nI hj (by omega : 6 < 2 ^ 31)
  refine W.aald (v := .ref (u (20 + j))) (ty := .array .int) F.1 F.2.1 (hC 5 _ rfl) ((hK.2 1 _ rfl).1 6 (fun j => va_rf (nG u j))) rfl (fun q => by cases q) (by show ¬ (nI j < 0 ∨ (arrV _ _ _).slots.size ≤ _); rw [arrV_size]; exact hin) ?_ rfl rfl hdg kk
  show (arrV _ _ _).slots[_]? = _
  rw [arrV_read _ _ hlt, nI_clamp (by omega)]
  simp [nG, hj, va_rf]
theorem vg_rc (hK : va_K D vwCl tys s) (hV : va_P D vwCl (vX u cI V pq sp) H) : ∃ cellB : Cell, H[u 32]? = some cellB ∧ cellB.vm.isStatics = false ∧ s.vm.findClass RX0 = some cellB.cls := va_recv hK hV (ci := 0) (q := (RX0, TX0, 10)) (q0 := 0) rfl rfl
theorem og_rc (hK : va_K D vwCl tys s) (hC : va_P D vwCl (cX u cI cII cn er sz b) H) : ∃ cellB : Cell, H[u 30]? = some cellB ∧ cellB.vm.isStatics = false ∧ s.vm.findClass RX3 = some cellB.cls := va_recv hK hC (ci := 3) (q := (RX3, TX3, 7)) (q0 := 0) rfl rfl
theorem kg_rc (hK : va_K D vwCl tys s) (hC : va_P D vwCl (cX u cI cII cn er sz b) H) : ∃ cellB : Cell, H[u 31]? = some cellB ∧ cellB.vm.isStatics = false ∧ s.vm.findClass RX2 = some cellB.cls := va_recv hK hC (ci := 2) (q := (RX2, TX2, 2)) (q0 := 1) rfl rfl
theorem wg_rc {a : Nat} (hK : va_K D vwCl tys s) (hW : va_P D vwCl (wX L w nx) H) (ha : a ∈ L) : ∃ cellB : Cell, H[a]? = some cellB ∧ cellB.vm.isStatics = false ∧ s.vm.findClass RX1 = some cellB.cls := va_recv hK (cP1 hW ha) (ci := 1) (q := (RX1, TX1, 10)) (q0 := 0) rfl rfl
end CROW
