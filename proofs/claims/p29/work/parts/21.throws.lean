/-! what the class throws: the state's part that a throw reads, contracts of methods that may throw -/
def eNm : List String := ["java/lang/RuntimeException", "java/lang/Exception"]
def xTx : List (Nat × String) := [(156, "there is none of this number"), (159, "an argument is out of its range"), (161, "there would be more words than there can be"), (163, "the fridge does not see the cake open"), (55, "the fridge sees the thing in itself"), (72, "the fridge sees the thing nowhere"), (86, "a fridge can't meet itself"), (124, "a guest of this day dislikes a food of the recipe"), (126, "there are as many cakes as there can be"), (143, "the cake lacks something")]
def xWd : List Cond := [.declares (Bundle.initS "java/lang/RuntimeException"), .declares (Bundle.initS "java/lang/Exception"), .declares (Bundle.initS Bundle.tN), .castable "java/lang/IndexOutOfBoundsException" "java/lang/IndexOutOfBoundsException", .castable "java/lang/IllegalArgumentException" "java/lang/IllegalArgumentException", .castable "java/lang/IllegalStateException" "java/lang/IllegalStateException"]
theorem xWd_on : ∀ w ∈ xWd, w.onTables = true := by decide +kernel
def xE (U : State) : Prop := ∀ w ∈ xWd, va_Nw w U
theorem xE.same {u U : State} (h : u.vm = U.vm) (hx : xE u) : xE U := fun w hw => va_Nw.same (xWd_on w hw) h (hx w hw)
theorem xE.warm {s U : State} (hW : s.WarmedH U.vm) (hx : xE s) : xE U := by
  intro w hw
  have h := hx w hw
  simp only [xWd, List.mem_cons, List.not_mem_nil, or_false] at hw
  rcases hw with rfl | rfl | rfl | rfl | rfl | rfl
  · exact va_Nw.warmD hW h
  · exact va_Nw.warmD hW h
  · exact va_Nw.warmD hW h
  · exact va_Nw.warmC hW h
  · exact va_Nw.warmC hW h
  · exact va_Nw.warmC hW h
/-- all that a throw reads beside its own words -/
def xF (A : Nat → Prop) (sa : Nat → Nat) (U : State) : Prop := xE U ∧ (vx_Zq Bundle.tN "UNASSIGNED_STACK" Bundle.steD A U U.heap ∧ vx_Zq Bundle.tN "SUPPRESSED_SENTINEL" Bundle.listD A U U.heap) ∧ ∀ (i : Nat) (q : Nat × String), xTx[i]? = some q → vk_R RX3 q.1 q.2 (sa i) U
theorem xF.same {A : Nat → Prop} {sa : Nat → Nat} {u U : State} (h : u.vm = U.vm) (hh : U.heap = u.heap) (hx : xF A sa u) : xF A sa U :=
  ⟨hx.1.same h, by rw [hh]; exact ⟨vx_Zq.moved (h ▸ Vm.Alike.refl u.vm) hx.2.1.1, vx_Zq.moved (h ▸ Vm.Alike.refl u.vm) hx.2.1.2⟩, fun i q hq => (hx.2.2 i q hq).same h.symm⟩
/-- over steps that write in A alone, for what is no more than A -/
theorem xF.step {A B : Nat → Prop} {sa : Nat → Nat} {s U : State} (hW : s.WarmedH U.vm) (hq : ∀ a : Nat, a < s.heap.size → ¬ A a → U.heap[a]? = s.heap[a]?) (hAB : ∀ q, B q → A q) (hx : xF A sa s) : xF B sa U :=
  ⟨hx.1.warm hW, ⟨((hx.2.1.1.kept hq).narrow hAB).moved hW.alike, ((hx.2.1.2.kept hq).narrow hAB).moved hW.alike⟩, fun i q hi => (hx.2.2 i q hi).warm hW⟩
theorem cG_nar {u : Nat → Nat} {L L0 : List Nat} {z0 z1 : Nat} (h : ∀ a, a ∈ L → a ∈ L0 ∨ z0 ≤ a) (hz : z0 ≤ z1) : ∀ q, cG u L z1 q → cG u L0 z0 q := cG_sub h hz
abbrev PostX : Type := String → PostC
/-- how a call that throws E leaves the world -/
def xc_X (D : va_G) (u : Nat → Nat) (cI cII : ClassId) (z0 : Nat) (L0 : List Nat) (PX : PostX) : String → State → State → Prop := fun E st t =>
  (∃ (V : Nat → Nat → Int32) (pq sp : Int32) (cn : Nat) (e : Option Nat) (sz : Nat) (b : Nat → Nat → Int32) (L : List Nat) (w : Nat → Nat → Int32) (nx : Nat → Option Nat), PX E 0 0 V pq sp cn e sz b L w nx ∧ va_P D vwCl (cW u cI cII V pq sp cn e sz b L w nx) t.heap) ∧ va_F (cG u L0 z0) st t
def xc_P (D : va_G) (u : Nat → Nat) (cI cII : ClassId) (sa : Nat → Nat) (z0 : Nat) (L0 : List Nat) (W : va_W) (av : List Value) : Array Value → State → Prop := va_Pc av (fun U => U.heap.size = z0 ∧ va_P D vwCl W U.heap ∧ va_K D vwCl (cT cI cII) U ∧ xF (cG u L0 z0) sa U)
def xc_Met (l : Launch) (y : MethodName) (ws : List Cond) (fr mc ms lo : Nat) (D : va_G) (u : Nat → Nat) (cI cII : ClassId) (sa : Nat → Nat) (z0 : Nat) (L0 : List Nat) (W : va_W) (av : List Value) (rr : Int32 → Nat → Option Value) (Post : PostC) (PX : PostX) : Prop :=
  vx_Met l y ws { frames := fr, cells := mc, slots := ms, locals := lo } (xc_P D u cI cII sa z0 L0 W av) (cw_Q D u cI cII z0 L0 rr Post) (xc_X D u cI cII z0 L0 PX) mc ms (cG u L0 z0)
abbrev xcW (p : Program) (l : Launch) (e : Env) (fr mc ms lo : Nat) (s : State) (m : MethodId) (av : List Value) (below : List Frame) (meth : Method) (c : Code) (H : Heap) (locs : List Loc) (cells slots : Nat) (D : va_G) (u : Nat → Nat) (cI cII : ClassId) (z0 : Nat) (L0 : List Nat) (rr : Int32 → Nat → Option Value) (Post : PostC) (PX : PostX) (g : JFrame) : Prop :=
  W p l e { frames := fr, cells := mc, slots := ms, locals := lo } s m av.toArray below meth c H locs cells slots (vx_MQ below (cw_Q D u cI cII z0 L0 rr Post) (xc_X D u cI cII z0 L0 PX) av.toArray s mc ms (cG u L0 z0)) g
theorem xc_start {l : Launch} {y : MethodName} {ws ws' : List Cond} {fr mc ms lo : Nat} {D : va_G} {u : Nat → Nat} {cI cII : ClassId} {sa : Nat → Nat} {z0 : Nat} {L0 : List Nat} {w : va_W} {av : List Value} {rr : Int32 → Nat → Option Value} {Post : PostC} {PX : PostX} {cc : ByteArray} {maxL : Nat} {ret : Option FieldType}
    (hw : ws = Cond.code y cc maxL ret :: ws') (hy : plainName y.cls = true) (hlen : (lg_sl av).length ≤ maxL)
    (body : ∀ (p : Program) (e : Env) (s : State) (m : MethodId) (below : List Frame) (meth : Method) (c : Code), CallFix p m c cc maxL s av.toArray ws y.cls → meth.sig.returnType = ret → meth.locks = false → va_K D vwCl (cT cI cII) s → s.heap.size = z0 → ∀ (H : Heap) (locs : List Loc), va_P D vwCl w H → va_S (cG u L0 z0) s.heap H locs → z0 ≤ H.size → xF (cG u L0 z0) sa s → (∀ x ∈ c.exceptionTable.toList, False) → ∀ ls : Array Slot, lv_has ls maxL (lv_args 0 av) →
      xcW p l e fr mc ms lo s m av below meth c H locs 0 0 D u cI cII z0 L0 rr Post PX (F0 m 0 ls [])) : xc_Met l y ws fr mc ms lo D u cI cII sa z0 L0 w av rr Post PX := by
  refine vx_ofW (cc := cc) (maxL := maxL) (ret := ret) hy hw ?_
  intro p e s m args below meth c s₁ B hml ht hv
  obtain ⟨rfl, hz, hP, hK, hX⟩ := hv
  have hl := lv_entry av (n := maxL) hlen
  rw [lg_entry_eq]
  generalize (lg_sl av ++ List.replicate (maxL - (lg_sl av).length) Slot.unset).toArray = ls at hl ⊢
  exact body p e s m below meth c ⟨B.exec, B.bytes, hml, findClass_of_methodNamed B.named, atoms_spec (ws := ws) B.pre⟩ B.returns B.notSynchronized hK hz s.heap [] hP va_S.rf (Nat.le_of_eq hz.symm) hX ht ls hl
theorem xc_blind {D : va_G} {u : Nat → Nat} {cI cII : ClassId} {sa : Nat → Nat} {z0 : Nat} {L0 : List Nat} {W : va_W} {av : List Value} : FrameBlind (xc_P D u cI cII sa z0 L0 W av) := fun a U g mk h => ⟨h.1, h.2.1, h.2.2.1, va_K.moved (u := U) (U := U.calling g mk a) (Vm.Alike.refl U.vm) h.2.2.2.1, xF.same (u := U) (U := U.calling g mk a) rfl rfl h.2.2.2.2⟩
section XCROW
variable {p : Program} {l : Launch} {e9 : Env} {R : Room} {s : State} {m : MethodId} {args : Array Value} {below : List Frame} {meth : Method} {c : Code} {H : Heap} {locs : List Loc} {cells slots : Nat} {Q : State → Prop}
variable {cc bytes : ByteArray} {pc nL nn index maxL mc ms mc9 ms9 : Nat} {ls : Array Slot} {rest st0 : List Value} {Ts ws : List Cond} {own C : String} {D : va_G} {y : MethodName} {ret : Option FieldType} {fr lo bb : Nat}
variable {u : Nat → Nat} {cI cII : ClassId} {sa : Nat → Nat} {V : Nat → Nat → Int32} {pq sp : Int32} {cn : Nat} {e : Option Nat} {sz : Nat} {b : Nat → Nat → Int32} {L L0 : List Nat} {w : Nat → Nat → Int32} {nx : Nat → Option Nat} {z0 : Nat} {rr rr9 : Int32 → Nat → Option Value} {Post Post9 : PostC} {PX PX9 : PostX}
/-- throw new X("..") -/
theorem xt_throw (F : CallFix p m c cc nL s args Ts own) (hl9 : l.stackTraces = false) (hP : va_P D vwCl (cW u cI cII V pq sp cn e sz b L w nx) H) (hS : va_S (cG u L0 z0) s.heap H locs) (hX : xF (cG u L0 z0) sa s) (hout : ∀ x ∈ c.exceptionTable.toList, False) (hlocks : meth.locks = false) (hsz : ls.size = nL)
    (cls : String) (ik is ic ix : Nat) (text : String) (how : own = RX3) (hcls : Bundle.fit cls = true) (htx : xTx[ix]? = some (is, text))
    (hk : Cond.classLink RX3 ik cls ∈ Ts) (hini : Cond.initialized cls ∈ Ts) (hat : ∀ x ∈ (vx_atS RX3 ic cls eNm).filter goodWord, x ∈ Ts) (hat2 : ∀ x ∈ (vx_atS RX3 ic cls eNm).filter (fun x => !goodWord x), x ∈ xWd)
    (hgood : ∀ x ∈ Cond.classLink RX3 ik cls :: Cond.initialized cls :: vx_atS RX3 ic cls eNm, vx_ot x = true)
    (d0 : decode cc pc = .ok (.new ik, 3)) (d3 : decode cc (pc + 3) = .ok (.dup, 1)) (d4 : decode cc (pc + 4) = .ok (.ldc is, 2)) (d6 : decode cc (pc + 6) = .ok (.invokespecial ic, 3)) (d9 : decode cc (pc + 9) = .ok (.athrow, 1))
    (hR : 5 < R.frames ∧ (rest.map fun v => v.category).sum + 82 ≤ R.locals ∧ cells + 1 ≤ R.cells ∧ slots + 6 ≤ R.slots) (hpost : PX cls 0 0 V pq sp cn e sz b L w nx) (hc : cells + 1 ≤ mc) (hs : slots + 6 ≤ ms) :
    W p l e9 R s m args below meth c H locs cells slots (vx_MQ below (cw_Q D u cI cII z0 L0 rr Post) (xc_X D u cI cII z0 L0 PX) args s mc ms (cG u L0 z0)) (F0 m pc ls rest) := by
  subst how
  obtain ⟨f1, f2, f3, f4, f5⟩ := F
  exact vx_throwS f1 f2 hl9 (own := RX3) (names := eNm) f4 hcls (by decide +kernel) (f5 _ hk) (f5 _ hini) (hX.2.2 ix (is, text) htx) (vx_hat (fun x hx => f5 x (hat x hx)) hat2 (fun x hx => va_Nw.use (xWd_on x hx) (hX.1 x hx))) hgood hX.2.1.1 hX.2.1.2 hS (hsz.trans f3.symm) d0 d3 d4 d6 d9
    (fun x hx => (hout x hx).elim) hR.1 hR.2.1 hR.2.2.1 hR.2.2.2 hlocks
    (fun t _ h1 h2 => ⟨⟨V, pq, sp, cn, e, sz, b, L, w, nx, hpost, va_P.kept hP (fun k q hk => h2 _ (hP k q hk).lt)⟩, Nat.le_trans hS.1 h1, fun q hq hn => by rw [h2 q (Nat.lt_of_lt_of_le hq hS.1)]; exact hS.2.1 q hq hn⟩) hS.2.2 hc hs
/-- a call that may throw; what it throws goes on -/
theorem xc_run {aa : Array Value} (hr : vx_Run p l e9 R s m args below meth c H locs cells slots mc9 ms9 (F0 m pc ls st0) rest (cw_Q D u cI cII H.size L rr9 Post9 aa) (xc_X D u cI cII H.size L PX9) (cG u L H.size)) (hS : va_S (cG u L0 z0) s.heap H locs) (hA : ∀ x, cG u L H.size x → cG u L0 z0 x) (hout : ∀ x ∈ c.exceptionTable.toList, False) (hlocks : meth.locks = false)
    (hpx : ∀ (E : String) (V : Nat → Nat → Int32) (pq sp : Int32) (cn : Nat) (e : Option Nat) (sz : Nat) (b : Nat → Nat → Int32) (L1 : List Nat) (w : Nat → Nat → Int32) (nx : Nat → Option Nat), PX9 E 0 0 V pq sp cn e sz b L1 w nx → PX E 0 0 V pq sp cn e sz b L1 w nx) (hc : cells + mc9 ≤ mc) (hs : slots + ms9 ≤ ms)
    (kk : ∀ (r : Int32) (ra : Nat) (V : Nat → Nat → Int32) (pq sp : Int32) (cn : Nat) (e : Option Nat) (sz : Nat) (b : Nat → Nat → Int32) (L1 : List Nat) (w : Nat → Nat → Int32) (nx : Nat → Option Nat) (H1 : Heap) (locs1 : List Loc), Post9 r ra V pq sp cn e sz b L1 w nx → va_P D vwCl (cW u cI cII V pq sp cn e sz b L1 w nx) H1 → H.size ≤ H1.size → (∀ x : Nat, x < H.size → ¬ (x ∈ cAd u ∨ x ∈ L) → H1[x]? = H[x]?) → va_S (cG u L0 z0) s.heap H1 locs1 → W p l e9 R s m args below meth c H1 locs1 (cells + mc9) (slots + ms9) (vx_MQ below (cw_Q D u cI cII z0 L0 rr Post) (xc_X D u cI cII z0 L0 PX) args s mc ms (cG u L0 z0)) (F0 m (pc + 3) ls ((rr9 r ra).toList ++ rest))) :
    W p l e9 R s m args below meth c H locs cells slots (vx_MQ below (cw_Q D u cI cII z0 L0 rr Post) (xc_X D u cI cII z0 L0 PX) args s mc ms (cG u L0 z0)) (F0 m pc ls st0) := by
  intro T hT X
  have hfr : ∀ {st₀ t T' : State} {Lc : List Loc}, st₀.heap = H → T'.heap = t.heap → (∀ q ∈ Lc, cG u L H.size q.base) → va_F (cG u L H.size) st₀ t → H.size ≤ T'.heap.size ∧ (∀ x : Nat, x < H.size → ¬ (x ∈ cAd u ∨ x ∈ L) → T'.heap[x]? = H[x]?) ∧ va_S (cG u L0 z0) s.heap T'.heap (locs ++ Lc) := by
    intro st₀ t T' Lc h0 e1 hL hF
    obtain ⟨k1, k2, k3⟩ := vx_keep (A1 := cG u L H.size) h0 e1 hS (fun q _ h => hA q h) hA hL hF
    exact ⟨k1, fun x h1 h2 => k2 x h1 (fun q => q.elim h2 (fun q => absurd q (Nat.not_le.mpr h1))), k3⟩
  rcases hr T hT X with ⟨v, st₀, t, T', Lc, h0, X', hL, e1, e2, ⟨⟨r, ra, V, pq, sp, cn, e, sz, b, L1, w, nx, hv, hp, hP⟩, hF⟩, st⟩ | ⟨q, st₀, t, T', Lc, E, ce, h0, X', hL, e1, e2, ⟨⟨V, pq, sp, cn, e, sz, b, L1, w, nx, hp, hP⟩, hF⟩, hce, hcv, hcl, st⟩
  · cases hv
    obtain ⟨k1, k2, k3⟩ := hfr h0 e1 hL hF
    obtain ⟨t2, a1, b1⟩ := kk r ra V pq sp cn e sz b L1 w nx T'.heap (locs ++ Lc) hp (by rw [e1]; exact hP) k1 k2 k3 T' rfl X'
    exact ⟨t2, st t2 a1, b1⟩
  · obtain ⟨k1, k2, k3⟩ := hfr h0 e1 hL hF
    obtain ⟨t2, a1, b1⟩ := vx_out (Qc := cw_Q D u cI cII z0 L0 rr Post) (XC := xc_X D u cI cII z0 L0 PX) (free := cG u L0 z0) (args := args) (pc := pc) (ls := ls) (rest := rest) (H := T'.heap) (locs := locs ++ Lc) (cells := cells + mc9) (slots := slots + ms9) (p := p) (l := l) (e := e9) (R := R) (below := below) (m := m) (fun x hx => (hout x hx).elim) hlocks (by rw [e1]; exact hce) hcv hcl
      (fun t9 ht9 _ => ⟨⟨V, pq, sp, cn, e, sz, b, L1, w, nx, hpx E V pq sp cn e sz b L1 w nx hp, by rw [ht9, e1]; exact hP⟩, by rw [ht9]; exact k3.1, fun q9 h1 h2 => by rw [ht9]; exact k3.2.1 q9 h1 h2⟩) k3.2.2 hc hs T' rfl X'
    exact ⟨t2, st.trans a1, b1⟩
theorem xc_callV (F : CallFix p m c cc nL s args Ts own) (hK : va_K D vwCl (cT cI cII) s) (hX : xF (cG u L0 z0) sa s) (hz : z0 ≤ H.size) (As : List Value) {wd : va_W} (hM : xc_Met l y ws fr mc9 ms9 lo D u cI cII sa H.size L wd (.ref bb :: As) rr9 Post9 PX9) (cw : CallW R s args own C index y bytes maxL ret ws { frames := fr, cells := mc9, slots := ms9, locals := lo } mc9 ms9 nn)
    (hrc : ∃ cellB : Cell, H[bb]? = some cellB ∧ cellB.vm.isStatics = false ∧ s.vm.findClass C = some cellB.cls) (hP : va_P D vwCl wd H) (hS : va_S (cG u L0 z0) s.heap H locs) (hA : ∀ x, cG u L H.size x → cG u L0 z0 x) (hout : ∀ x ∈ c.exceptionTable.toList, False) (hlocks : meth.locks = false)
    (hpx : ∀ (E : String) (V : Nat → Nat → Int32) (pq sp : Int32) (cn : Nat) (e : Option Nat) (sz : Nat) (b : Nat → Nat → Int32) (L1 : List Nat) (w : Nat → Nat → Int32) (nx : Nat → Option Nat), PX9 E 0 0 V pq sp cn e sz b L1 w nx → PX E 0 0 V pq sp cn e sz b L1 w nx) (hn : As.length = nn) (hsize : ls.size = nL) (hst : st0 = As.reverse ++ .ref bb :: rest) (hW : 2 * (F0 m pc ls st0).monitorRoom + (rest.map fun v => v.category).sum ≤ 8) (hcs : cells + mc9 ≤ R.cells ∧ slots + ms9 ≤ R.slots) (hc : cells + mc9 ≤ mc) (hs : slots + ms9 ≤ ms) (hdg : decode cc pc = .ok (.invokevirtual index, 3))
    (kk : ∀ (r : Int32) (ra : Nat) (V : Nat → Nat → Int32) (pq sp : Int32) (cn : Nat) (e : Option Nat) (sz : Nat) (b : Nat → Nat → Int32) (L1 : List Nat) (w : Nat → Nat → Int32) (nx : Nat → Option Nat) (H1 : Heap) (locs1 : List Loc), Post9 r ra V pq sp cn e sz b L1 w nx → va_P D vwCl (cW u cI cII V pq sp cn e sz b L1 w nx) H1 → H.size ≤ H1.size → (∀ x : Nat, x < H.size → ¬ (x ∈ cAd u ∨ x ∈ L) → H1[x]? = H[x]?) → va_S (cG u L0 z0) s.heap H1 locs1 → W p l e9 R s m args below meth c H1 locs1 (cells + mc9) (slots + ms9) (vx_MQ below (cw_Q D u cI cII z0 L0 rr Post) (xc_X D u cI cII z0 L0 PX) args s mc ms (cG u L0 z0)) (F0 m (pc + 3) ls ((rr9 r ra).toList ++ rest))) :
    W p l e9 R s m args below meth c H locs cells slots (vx_MQ below (cw_Q D u cI cII z0 L0 rr Post) (xc_X D u cI cII z0 L0 PX) args s mc ms (cG u L0 z0)) (F0 m pc ls st0) :=
  xc_run (vx_runV (g := F0 m pc ls st0) F hM cw ⟨xc_blind, hrc, fun U hU hW => ⟨rfl, by rw [hU], by rw [hU]; exact hP, va_K.moved hW.alike hK, xF.step hW (fun a h1 h2 => by rw [hU]; exact hS.2.1 a h1 h2) hA hX⟩⟩ rfl hn hsize hst hW hdg hcs) hS hA hout hlocks hpx hc hs kk
theorem xc_callS (F : CallFix p m c cc nL s args Ts own) (hK : va_K D vwCl (cT cI cII) s) (hX : xF (cG u L0 z0) sa s) (hz : z0 ≤ H.size) (As : List Value) {wd : va_W} (hM : xc_Met l y ws fr mc9 ms9 lo D u cI cII sa H.size L wd As rr9 Post9 PX9) (cw : CallB R s args own index y bytes maxL ret ws { frames := fr, cells := mc9, slots := ms9, locals := lo } mc9 ms9 nn ∧ (Cond.static y).before args s = true)
    (hP : va_P D vwCl wd H) (hS : va_S (cG u L0 z0) s.heap H locs) (hA : ∀ x, cG u L H.size x → cG u L0 z0 x) (hout : ∀ x ∈ c.exceptionTable.toList, False) (hlocks : meth.locks = false)
    (hpx : ∀ (E : String) (V : Nat → Nat → Int32) (pq sp : Int32) (cn : Nat) (e : Option Nat) (sz : Nat) (b : Nat → Nat → Int32) (L1 : List Nat) (w : Nat → Nat → Int32) (nx : Nat → Option Nat), PX9 E 0 0 V pq sp cn e sz b L1 w nx → PX E 0 0 V pq sp cn e sz b L1 w nx) (hn : As.length = nn) (hsize : ls.size = nL) (hst : st0 = As.reverse ++ rest) (hW : 2 * (F0 m pc ls st0).monitorRoom + (rest.map fun v => v.category).sum ≤ 8) (hcs : cells + mc9 ≤ R.cells ∧ slots + ms9 ≤ R.slots) (hc : cells + mc9 ≤ mc) (hs : slots + ms9 ≤ ms) (hdg : decode cc pc = .ok (.invokestatic index, 3))
    (kk : ∀ (r : Int32) (ra : Nat) (V : Nat → Nat → Int32) (pq sp : Int32) (cn : Nat) (e : Option Nat) (sz : Nat) (b : Nat → Nat → Int32) (L1 : List Nat) (w : Nat → Nat → Int32) (nx : Nat → Option Nat) (H1 : Heap) (locs1 : List Loc), Post9 r ra V pq sp cn e sz b L1 w nx → va_P D vwCl (cW u cI cII V pq sp cn e sz b L1 w nx) H1 → H.size ≤ H1.size → (∀ x : Nat, x < H.size → ¬ (x ∈ cAd u ∨ x ∈ L) → H1[x]? = H[x]?) → va_S (cG u L0 z0) s.heap H1 locs1 → W p l e9 R s m args below meth c H1 locs1 (cells + mc9) (slots + ms9) (vx_MQ below (cw_Q D u cI cII z0 L0 rr Post) (xc_X D u cI cII z0 L0 PX) args s mc ms (cG u L0 z0)) (F0 m (pc + 3) ls ((rr9 r ra).toList ++ rest))) :
    W p l e9 R s m args below meth c H locs cells slots (vx_MQ below (cw_Q D u cI cII z0 L0 rr Post) (xc_X D u cI cII z0 L0 PX) args s mc ms (cG u L0 z0)) (F0 m pc ls st0) :=
  xc_run (vx_runS (g := F0 m pc ls st0) F hM cw ⟨xc_blind, fun U hU hW => ⟨rfl, by rw [hU], by rw [hU]; exact hP, va_K.moved hW.alike hK, xF.step hW (fun a h1 h2 => by rw [hU]; exact hS.2.1 a h1 h2) hA hX⟩⟩ rfl hn hsize hst hW hdg hcs) hS hA hout hlocks hpx hc hs kk
end XCROW
theorem xg_IX : ∀ x ∈ Cond.classLink RX3 154 "java/lang/IndexOutOfBoundsException" :: Cond.initialized "java/lang/IndexOutOfBoundsException" :: vx_atS RX3 158 "java/lang/IndexOutOfBoundsException" eNm, vx_ot x = true := by decide +kernel
theorem xg_IA : ∀ x ∈ Cond.classLink RX3 84 "java/lang/IllegalArgumentException" :: Cond.initialized "java/lang/IllegalArgumentException" :: vx_atS RX3 88 "java/lang/IllegalArgumentException" eNm, vx_ot x = true := by decide +kernel
theorem xg_IS : ∀ x ∈ Cond.classLink RX3 53 "java/lang/IllegalStateException" :: Cond.initialized "java/lang/IllegalStateException" :: vx_atS RX3 57 "java/lang/IllegalStateException" eNm, vx_ot x = true := by decide +kernel
theorem xn_IX : ∀ x ∈ (vx_atS RX3 158 "java/lang/IndexOutOfBoundsException" eNm).filter (fun x => !goodWord x), x ∈ xWd := by decide +kernel
theorem xn_IA : ∀ x ∈ (vx_atS RX3 88 "java/lang/IllegalArgumentException" eNm).filter (fun x => !goodWord x), x ∈ xWd := by decide +kernel
theorem xn_IS : ∀ x ∈ (vx_atS RX3 57 "java/lang/IllegalStateException" eNm).filter (fun x => !goodWord x), x ∈ xWd := by decide +kernel
