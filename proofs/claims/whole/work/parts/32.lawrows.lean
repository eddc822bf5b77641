/-! the law's wrappers: a call of the class, its answer in the long array, what it throws as a number -/
def wzX (o : Nat) (cJ : ClassId) (g : Nat → Int64) : va_W := [(o, .inl (cJ, 1, .inr (.inl g)))]
def wzG (u : Nat → Nat) (L : List Nat) (z o : Nat) : Nat → Prop := fun x => cG u L z x ∨ x = o
def wzN (U : State) : Prop := va_Nc "java/lang/IllegalArgumentException" "java/lang/IndexOutOfBoundsException" U ∧ va_Nc "java/lang/IllegalStateException" "java/lang/IndexOutOfBoundsException" U ∧ va_Nc "java/lang/IllegalStateException" "java/lang/IllegalArgumentException" U
theorem wzN.moved {u U : State} (h : u.vm.Alike U.vm) (hx : wzN u) : wzN U := ⟨hx.1.moved h, hx.2.1.moved h, hx.2.2.moved h⟩
def wzc : List Nat → Nat → Int32 → Int32
  | [], _, _ => 0
  | a :: r, k, i => if k = a then i else wzc r k (i + 1)
/-- what the wrapper answers of a call's code, by the exceptions that it catches -/
def wzcode (l : List Nat) (k : Nat) : Int32 := if k = 0 then 0 else wzc l k 1
def wz_P (D : va_G) (u : Nat → Nat) (cI cII cJ : ClassId) (sa : Nat → Nat) (z0 : Nat) (L0 : List Nat) (o : Nat) (W : va_W) (av : List Value) : Array Value → State → Prop := va_Pc av (fun U => U.heap.size = z0 ∧ va_P D vwCl W U.heap ∧ (∃ g, va_P D vwCl (wzX o cJ g) U.heap) ∧ va_K D vwCl (cT cI cII) U ∧ va_K D vwCl [(cJ, .long)] U ∧ xF (cG u L0 z0) sa U ∧ wzN U)
def wz_Q (D : va_G) (u : Nat → Nat) (cI cII cJ : ClassId) (z0 : Nat) (L0 : List Nat) (o : Nat) (xs : List Nat) (op : OP) : Array Value → State → Outcome → State → Prop := fun _ st oc t =>
  (∃ (V : Nat → Nat → Int32) (pq sp : Int32) (cn : Nat) (e : Option Nat) (sz : Nat) (b : Nat → Nat → Int32) (L : List Nat) (w : Nat → Nat → Int32) (nx : Nat → Option Nat) (g : Nat → Int64), oc = .returned (some (.int (wzcode xs op.1))) ∧ aS u L0 z0 op.2.2 0 0 V pq sp cn e sz b L w nx ∧ (op.1 = 0 → g 0 = op.2.1.toInt64) ∧ va_P D vwCl (cW u cI cII V pq sp cn e sz b L w nx) t.heap ∧ va_P D vwCl (wzX o cJ g) t.heap) ∧ va_F (wzG u L0 z0 o) st t
def wz_Met (l : Launch) (y : MethodName) (ws : List Cond) (fr mc ms lo : Nat) (D : va_G) (u : Nat → Nat) (cI cII cJ : ClassId) (sa : Nat → Nat) (z0 : Nat) (L0 : List Nat) (o : Nat) (W : va_W) (av : List Value) (xs : List Nat) (op : OP) : Prop :=
  vx_Met l y ws { frames := fr, cells := mc, slots := ms, locals := lo } (wz_P D u cI cII cJ sa z0 L0 o W av) (wz_Q D u cI cII cJ z0 L0 o xs op) (fun _ _ _ => False) mc ms (wzG u L0 z0 o)
abbrev wzW (p : Program) (l : Launch) (e : Env) (fr mc ms lo : Nat) (s : State) (m : MethodId) (av : List Value) (below : List Frame) (meth : Method) (c : Code) (H : Heap) (locs : List Loc) (cells slots : Nat) (D : va_G) (u : Nat → Nat) (cI cII cJ : ClassId) (z0 : Nat) (L0 : List Nat) (o : Nat) (xs : List Nat) (op : OP) (g : JFrame) : Prop :=
  W p l e { frames := fr, cells := mc, slots := ms, locals := lo } s m av.toArray below meth c H locs cells slots (vx_MQ below (wz_Q D u cI cII cJ z0 L0 o xs op) (fun _ _ _ => False) av.toArray s mc ms (wzG u L0 z0 o)) g
theorem wz_start {l : Launch} {y : MethodName} {ws ws' : List Cond} {fr mc ms lo : Nat} {D : va_G} {u : Nat → Nat} {cI cII cJ : ClassId} {sa : Nat → Nat} {z0 : Nat} {L0 : List Nat} {o : Nat} {w : va_W} {av : List Value} {xs : List Nat} {op : OP} {cc : ByteArray} {maxL : Nat} {ret : Option FieldType} {hh : List (Nat × Nat × Nat × Nat)}
    (hw : ws = Cond.codeWith y cc maxL ret hh :: ws') (hy : plainName y.cls = true) (hlen : (lg_sl av).length ≤ maxL)
    (body : ∀ (p : Program) (e : Env) (s : State) (m : MethodId) (below : List Frame) (meth : Method) (c : Code), CallFix p m c cc maxL s av.toArray ws y.cls → meth.sig.returnType = ret → meth.locks = false → c.exceptionTable.toList = tableOf hh → va_K D vwCl (cT cI cII) s → va_K D vwCl [(cJ, .long)] s → wzN s → s.heap.size = z0 → ∀ (H : Heap) (locs : List Loc) (g : Nat → Int64), va_P D vwCl w H → va_P D vwCl (wzX o cJ g) H → va_S (wzG u L0 z0 o) s.heap H locs → z0 ≤ H.size → xF (cG u L0 z0) sa s → H = s.heap → ∀ ls : Array Slot, lv_has ls maxL (lv_args 0 av) →
      wzW p l e fr mc ms lo s m av below meth c H locs 0 0 D u cI cII cJ z0 L0 o xs op (F0 m 0 ls [])) : wz_Met l y ws fr mc ms lo D u cI cII cJ sa z0 L0 o w av xs op := by
  refine vx_ofWH (cc := cc) (maxL := maxL) (ret := ret) (hh := hh) hy hw ?_
  intro p e s m args below meth c s₁ B hml hv
  obtain ⟨rfl, hz, hP, ⟨g, hO⟩, hK, hJ, hX, hN⟩ := hv
  have ht : c.exceptionTable.toList = tableOf hh := vx_table (x := y) B (atoms_spec (ws := ws) B.pre _ (by rw [hw]; exact List.mem_cons_self))
  have hl := lv_entry av (n := maxL) hlen
  rw [lg_entry_eq]
  generalize (lg_sl av ++ List.replicate (maxL - (lg_sl av).length) Slot.unset).toArray = ls at hl ⊢
  exact body p e s m below meth c ⟨B.exec, B.bytes, hml, findClass_of_methodNamed B.named, atoms_spec (ws := ws) B.pre⟩ B.returns B.notSynchronized ht hK hJ hN hz s.heap [] g hP hO va_S.rf (Nat.le_of_eq hz.symm) hX rfl ls hl
theorem wz_blind {D : va_G} {u : Nat → Nat} {cI cII cJ : ClassId} {sa : Nat → Nat} {z0 : Nat} {L0 : List Nat} {o : Nat} {W : va_W} {av : List Value} : FrameBlind (wz_P D u cI cII cJ sa z0 L0 o W av) := fun a U g mk h => ⟨h.1, h.2.1, h.2.2.1, h.2.2.2.1, va_K.moved (u := U) (U := U.calling g mk a) (Vm.Alike.refl U.vm) h.2.2.2.2.1, va_K.moved (u := U) (U := U.calling g mk a) (Vm.Alike.refl U.vm) h.2.2.2.2.2.1, xF.same (u := U) (U := U.calling g mk a) rfl rfl h.2.2.2.2.2.2.1, wzN.moved (u := U) (U := U.calling g mk a) (Vm.Alike.refl U.vm) h.2.2.2.2.2.2.2⟩
section LWROW
variable {p : Program} {l : Launch} {e9 : Env} {R : Room} {s : State} {m : MethodId} {args : Array Value} {below : List Frame} {meth : Method} {c : Code} {H : Heap} {locs : List Loc} {cells slots : Nat} {Q : State → Prop}
variable {cc bytes : ByteArray} {pc nL nn index maxL mc ms mc9 ms9 : Nat} {ls : Array Slot} {rest st0 : List Value} {Ts ws : List Cond} {own C : String} {D : va_G} {y : MethodName} {ret : Option FieldType} {fr lo bb o : Nat}
variable {u : Nat → Nat} {cI cII cJ : ClassId} {sa : Nat → Nat} {V : Nat → Nat → Int32} {pq sp : Int32} {cn : Nat} {e : Option Nat} {sz : Nat} {b : Nat → Nat → Int32} {L L0 : List Nat} {w : Nat → Nat → Int32} {nx : Nat → Option Nat} {z0 : Nat} {rr rr9 : Int32 → Nat → Option Value} {Post9 : PostC} {PX9 : PostX} {xs : List Nat} {op : OP} {g : Nat → Int64}
/-- the wrapper's call of the class -/
theorem wz_callV (F : CallFix p m c cc nL s args Ts own) (hK : va_K D vwCl (cT cI cII) s) (hX : xF (cG u L z0) sa s) (hz : s.heap.size = z0) (hH : H = s.heap) (hoA : ¬ (o ∈ cAd u ∨ o ∈ L)) (As : List Value) {wd : va_W} (hM : xc_Met l y ws fr mc9 ms9 lo D u cI cII sa z0 L wd (.ref bb :: As) rr9 Post9 PX9) (cw : CallW R s args own C index y bytes maxL ret ws { frames := fr, cells := mc9, slots := ms9, locals := lo } mc9 ms9 nn)
    (hrc : ∃ cellB : Cell, H[bb]? = some cellB ∧ cellB.vm.isStatics = false ∧ s.vm.findClass C = some cellB.cls) (hP : va_P D vwCl wd H) (hO : va_P D vwCl (wzX o cJ g) H) (hS : va_S (wzG u L z0 o) s.heap H locs)
    (hn : As.length = nn) (hsize : ls.size = nL) (hst : st0 = As.reverse ++ .ref bb :: rest) (hW : 2 * (F0 m pc ls st0).monitorRoom + (rest.map fun v => v.category).sum ≤ 8) (hcs : cells + mc9 ≤ R.cells ∧ slots + ms9 ≤ R.slots) (hdg : decode cc pc = .ok (.invokevirtual index, 3))
    (kx : ∀ (E : String) (ce : Cell) (q9 : Addr) (V : Nat → Nat → Int32) (pq sp : Int32) (cn : Nat) (e : Option Nat) (sz : Nat) (b : Nat → Nat → Int32) (L1 : List Nat) (w : Nat → Nat → Int32) (nx : Nat → Option Nat) (H1 : Heap) (locs1 : List Loc), PX9 E 0 0 V pq sp cn e sz b L1 w nx → va_P D vwCl (cW u cI cII V pq sp cn e sz b L1 w nx) H1 → va_P D vwCl (wzX o cJ g) H1 → va_S (wzG u L z0 o) s.heap H1 locs1 → H1[q9]? = some ce → ce.vm = .none → s.vm.findClass E = some ce.cls → vx_W p l e9 R s m args below meth c H1 locs1 (cells + mc9) (slots + ms9) Q (F0 m pc ls rest) q9)
    (kk : ∀ (r : Int32) (ra : Nat) (V : Nat → Nat → Int32) (pq sp : Int32) (cn : Nat) (e : Option Nat) (sz : Nat) (b : Nat → Nat → Int32) (L1 : List Nat) (w : Nat → Nat → Int32) (nx : Nat → Option Nat) (H1 : Heap) (locs1 : List Loc), Post9 r ra V pq sp cn e sz b L1 w nx → va_P D vwCl (cW u cI cII V pq sp cn e sz b L1 w nx) H1 → va_P D vwCl (wzX o cJ g) H1 → va_S (wzG u L z0 o) s.heap H1 locs1 → W p l e9 R s m args below meth c H1 locs1 (cells + mc9) (slots + ms9) Q (F0 m (pc + 3) ls ((rr9 r ra).toList ++ rest))) :
    W p l e9 R s m args below meth c H locs cells slots Q (F0 m pc ls st0) := by
  have hr : vx_Run p l e9 R s m args below meth c H locs cells slots mc9 ms9 (F0 m pc ls st0) rest (cw_Q D u cI cII z0 L rr9 Post9 (.ref bb :: As).toArray) (xc_X D u cI cII z0 L PX9) (cG u L z0) := vx_runV (g := F0 m pc ls st0) F hM cw ⟨xc_blind, hrc, fun U hU hW => ⟨rfl, by rw [hU, hH]; exact hz, by rw [hU]; exact hP, va_K.moved hW.alike hK, xF.step hW (fun a h1 h2 => by rw [hU, hH]) (fun q h => h) hX⟩⟩ rfl hn hsize hst hW hdg hcs
  have hoz : o < H.size := vx_lt hO (k := 0) rfl
  have hfr : ∀ {st₀ t T' : State} {Lc : List Loc}, st₀.heap = H → T'.heap = t.heap → (∀ q ∈ Lc, cG u L z0 q.base) → va_F (cG u L z0) st₀ t → va_P D vwCl (wzX o cJ g) T'.heap ∧ va_S (wzG u L z0 o) s.heap T'.heap (locs ++ Lc) := by
    intro st₀ t T' Lc h0 e1 hL hF
    obtain ⟨k1, k2, k3⟩ := vx_keep (A1 := cG u L z0) (A0 := wzG u L z0 o) h0 e1 hS (fun q _ h => Or.inl h) (fun q h => Or.inl h) hL hF
    refine ⟨va_P.kept hO (fun k q hk => ?_), k3⟩
    have hq : q.1 = o := by
      cases k with
      | zero => cases hk; rfl
      | succ k => cases hk
    rw [hq]
    refine k2 o hoz (fun z => ?_)
    rcases z with z | z
    · exact hoA z
    · rw [hH, hz] at hoz; exact absurd z (Nat.not_le.mpr hoz)
  intro T hT X
  rcases hr T hT X with ⟨v, st₀, t, T', Lc, h0, X', hL, e1, e2, ⟨⟨r, ra, V, pq, sp, cn, e, sz, b, L1, w, nx, hv, hp, hP⟩, hF⟩, st⟩ | ⟨q, st₀, t, T', Lc, E, ce, h0, X', hL, e1, e2, ⟨⟨V, pq, sp, cn, e, sz, b, L1, w, nx, hp, hP⟩, hF⟩, hce, hcv, hcl, st⟩
  · cases hv
    obtain ⟨k1, k2⟩ := hfr h0 e1 hL hF
    obtain ⟨t2, a1, b1⟩ := kk r ra V pq sp cn e sz b L1 w nx T'.heap (locs ++ Lc) hp (by rw [e1]; exact hP) k1 k2 T' rfl X'
    exact ⟨t2, st t2 a1, b1⟩
  · obtain ⟨k1, k2⟩ := hfr h0 e1 hL hF
    obtain ⟨t2, a1, b1⟩ := kx E ce q V pq sp cn e sz b L1 w nx T'.heap (locs ++ Lc) hp (by rw [e1]; exact hP) k1 k2 (by rw [e1]; exact hce) hcv hcl T' rfl X'
    exact ⟨t2, st.trans a1, b1⟩
/-- the answer goes into the long array -/
theorem wz_put (F : CallFix p m c cc nL s args Ts own) (hJ : va_K D vwCl [(cJ, .long)] s) (hO : va_P D vwCl (wzX o cJ g) H) {W0 : va_W} (hP : va_P D vwCl W0 H) (hoW : ∀ (k : Nat) (q : Nat × va_E), W0[k]? = some q → q.1 ≠ o) (hS : va_S (wzG u L z0 o) s.heap H locs) {x : Int64} (hdg : decode cc pc = .ok (.lastore, 1))
    (kk : ∀ (H1 : Heap) (locs1 : List Loc), va_P D vwCl W0 H1 → va_P D vwCl (wzX o cJ (vp_updL g 0 x)) H1 → va_S (wzG u L z0 o) s.heap H1 locs1 → W p l e9 R s m args below meth c H1 locs1 cells slots Q (F0 m (pc + 1) ls rest)) : W p l e9 R s m args below meth c H locs cells slots Q (F0 m pc ls (.long x :: .int 0 :: .ref o :: rest)) := by
  refine W.last F.1 F.2.1 (hO 0 _ rfl) ((hJ.2 0 _ rfl).1 1 (fun j => .long (g j))) (fun q => by cases q) (by show ¬ ((0 : Int32) < 0 ∨ (arrV _ _ _).slots.size ≤ _); rw [arrV_size]; exact (by unfold vp_in; decide : vp_in 0 1)) rfl rfl hdg fun H1 e z oq => ?_
  refine kk H1 _ (va_P.kept hP (fun k q hk => oq _ (hoW k q hk))) (fun k q hk => ?_) (hS.put z oq (Or.inr rfl))
  cases k with
  | succ k => cases hk
  | zero =>
    cases hk
    show H1[o]? = some (vp_cell _ _)
    rw [e]
    rw [vp_cell_l, vp_cell_l, arrV_store]
    rw [show Int32.toNatClampNeg 0 = 0 from by decide]
    congr 2
    funext q
    by_cases hq : q = 0
    · subst hq
      simp [updV, vp_updL]
    · simp [updV, vp_updL, hq]
/-- the wrapper's end -/
theorem wz_ret {v : Int32} (F : CallFix p m c cc nL s args Ts own) (hr : meth.sig.returnType = some .int) (hlocks : meth.locks = false) (hv : v = wzcode xs op.1) (hA : aS u L z0 op.2.2 0 0 V pq sp cn e sz b L0 w nx) (hg : op.1 = 0 → g 0 = op.2.1.toInt64) (hP : va_P D vwCl (cW u cI cII V pq sp cn e sz b L0 w nx) H) (hO : va_P D vwCl (wzX o cJ g) H) (hS : va_S (wzG u L z0 o) s.heap H locs) (hc : cells ≤ mc) (hs : slots ≤ ms) (hdg : decode cc pc = .ok (.ireturn, 1)) :
    W p l e9 R s m args below meth c H locs cells slots (vx_MQ below (wz_Q D u cI cII cJ z0 L o xs op) (fun _ _ _ => False) args s mc ms (wzG u L z0 o)) (F0 m pc ls [.int v]) :=
  vx_ret (W.widen hc hs (W.iret F.1 F.2.1 hr (fun t ht hW => ⟨⟨V, pq, sp, cn, e, sz, b, L0, w, nx, g, by rw [hv], hA, hg, by rw [ht]; exact hP, by rw [ht]; exact hO⟩, hS.F ht⟩) hS.2.2 hdg hlocks))
theorem wz_hoW (hoA : ¬ (o ∈ cAd u ∨ o ∈ L)) (hoz : o < z0) {cs : CS} (hA : aS u L z0 cs 0 0 V pq sp cn e sz b L0 w nx) : ∀ (k : Nat) (q : Nat × va_E), (cW u cI cII V pq sp cn e sz b L0 w nx)[k]? = some q → q.1 ≠ o :=
  (cD (A := fun x => x ≠ o) hA.2.2.2.2.2.2.1 (fun x hx => hx.elim (fun q r => hoA (Or.inl (r ▸ q))) (fun q r => (hA.2.2.2.2.2.2.2 x q).elim (fun z => hoA (Or.inr (r ▸ z))) (fun z => by rw [r] at z; exact absurd hoz (Nat.not_lt.mpr z)))) cI cII _ _ _ _ _ _ _ _ _).2
end LWROW
theorem eName_1 : eName 1 = "java/lang/IndexOutOfBoundsException" := rfl
theorem eName_2 : eName 2 = "java/lang/IllegalArgumentException" := rfl
theorem eName_3 : eName 3 = "java/lang/IllegalStateException" := rfl
