/-! writing methods of the reference: what they leave, cell by cell -/
def upA (a : Nat → Nat → Int32) (k j : Nat) (x : Int32) : Nat → Nat → Int32 := fun z => if z = k then upd (a k) j x else a z
def upK (kn : Nat → Bool) (j : Nat) (b : Bool) : Nat → Bool := fun i => if i = j then b else kn i
def set17 (a : Nat → Nat → Int32) (r : Nat → Int32) : Nat → Nat → Int32 := fun z => if z = 17 then r else a z
theorem upA_s (a : Nat → Nat → Int32) (k j : Nat) (x : Int32) : upA a k j x k j = x := by simp [upA, pk_us]
theorem upA_k {a : Nat → Nat → Int32} {k j z : Nat} {x : Int32} (h : z ≠ k) : upA a k j x z = a z := by simp [upA, h]
theorem upK_bI (kn : Nat → Bool) (j : Nat) (b : Bool) : upd (fun i => bI (kn i)) j (bI b) = fun i => bI (upK kn j b i) := by
  funext i
  by_cases h : i = j
  · subst h; simp [upK, pk_us]
  · rw [pk_un h]; simp [upK, h]
theorem set17_up (a : Nat → Nat → Int32) (r : Nat → Int32) (j : Nat) (x : Int32) : upA (set17 a r) 17 j x = set17 a (upd r j x) := by
  funext z
  by_cases h : z = 17
  · subst h; simp [upA, set17]
  · simp [upA, set17, h]
theorem set17_self (a : Nat → Nat → Int32) : set17 a (a 17) = a := by
  funext z
  by_cases h : z = 17
  · subst h; simp [set17]
  · simp [set17, h]
def mAd (h : Nat) (q : Nat → Nat) : List Nat := [h, q 1, q 2, q 3, q 4, q 5, q 6, q 7, q 8, q 9, q 10, q 11, q 13, q 14, q 15, q 17]
def mF (h : Nat) (q : Nat → Nat) : Nat → Prop := fun x => x ∈ mAd h q
theorem mD {h : Nat} {q : Nat → Nat} {A : Nat → Prop} (hN : (mAd h q).Nodup) (hA : ∀ x, x ∈ mAd h q → A x) (cI cZ : ClassId) (n cm : Nat) (th : Int32) (lm : Nat) (a : Nat → Nat → Int32) (kn : Nat → Bool) : va_D A (mW h q cI cZ n cm th lm a kn) := by
  have e : (mW h q cI cZ n cm th lm a kn).map (fun x => x.1) = mAd h q := rfl
  have g : ∀ (i : Nat) (p : Nat × va_E), (mW h q cI cZ n cm th lm a kn)[i]? = some p → (mAd h q)[i]? = some p.1 := fun i p hp => by
    rw [← e, List.getElem?_map, hp]; rfl
  refine ⟨fun i j p r hi hj hpr => ?_, fun k p hk => hA _ (List.mem_of_getElem? (g k p hk))⟩
  have h1 := g i p hi
  have h2 := g j r hj
  have hlt : i < (mAd h q).length := (List.getElem?_eq_some_iff.mp h1).1
  exact (List.getElem?_inj hlt hN).mp (by rw [h1, h2, hpr])
abbrev PostT : Type := Int32 → Nat → Nat → Int32 → Nat → (Nat → Nat → Int32) → (Nat → Bool) → Prop
def rI (r : Int32) : Option Value := some (.int r)
def rV (_ : Int32) : Option Value := none
def wr_P (D : va_G) (tys : List (ClassId × FieldType)) (ws : va_W) (av : List Value) : Array Value → State → Prop := va_Pc av (fun U => va_P D vwCl ws U.heap ∧ va_K D vwCl tys U)
def wr_Q (D : va_G) (h : Nat) (q : Nat → Nat) (cI cZ : ClassId) (rr : Int32 → Option Value) (Post : PostT) : Array Value → State → Outcome → State → Prop := fun _ st o t =>
  (∃ (r : Int32) (n cm : Nat) (th : Int32) (lm : Nat) (a : Nat → Nat → Int32) (kn : Nat → Bool), o = .returned (rr r) ∧ Post r n cm th lm a kn ∧ va_P D vwCl (mW h q cI cZ n cm th lm a kn) t.heap) ∧ va_F (mF h q) st t
def wr_Met (l : Launch) (y : MethodName) (ws : List Cond) (fr lo : Nat) (D : va_G) (h : Nat) (q : Nat → Nat) (cI cZ : ClassId) (w : va_W) (av : List Value) (rr : Int32 → Option Value) (Post : PostT) : Prop :=
  Met l y ws { frames := fr, cells := 0, slots := 0, locals := lo } (wr_P D (mT cI cZ) w av) (wr_Q D h q cI cZ rr Post) 0 0 (mF h q)
abbrev wrW (p : Program) (l : Launch) (e : Env) (fr lo : Nat) (s : State) (m : MethodId) (av : List Value) (below : List Frame) (meth : Method) (c : Code) (H : Heap) (locs : List Loc) (D : va_G) (h : Nat) (q : Nat → Nat) (cI cZ : ClassId) (rr : Int32 → Option Value) (Post : PostT) (g : JFrame) : Prop :=
  W p l e { frames := fr, cells := 0, slots := 0, locals := lo } s m av.toArray below meth c H locs 0 0 (MQ below (wr_Q D h q cI cZ rr Post) av.toArray s 0 0 (mF h q)) g
theorem wr_start {l : Launch} {y : MethodName} {ws ws' : List Cond} {fr lo : Nat} {D : va_G} {h : Nat} {q : Nat → Nat} {cI cZ : ClassId} {w : va_W} {av : List Value} {rr : Int32 → Option Value} {Post : PostT} {cc : ByteArray} {maxL : Nat} {ret : Option FieldType}
    (hw : ws = Cond.code y cc maxL ret :: ws') (hy : plainName y.cls = true) (hlen : (lg_sl av).length ≤ maxL)
    (body : ∀ (p : Program) (e : Env) (s : State) (m : MethodId) (below : List Frame) (meth : Method) (c : Code), CallFix p m c cc maxL s av.toArray ws y.cls → meth.sig.returnType = ret → meth.locks = false → va_K D vwCl (mT cI cZ) s → ∀ (H : Heap) (locs : List Loc), va_P D vwCl w H → va_S (mF h q) s.heap H locs → ∀ ls : Array Slot, lv_has ls maxL (lv_args 0 av) →
      wrW p l e fr lo s m av below meth c H locs D h q cI cZ rr Post (F0 m 0 ls [])) : wr_Met l y ws fr lo D h q cI cZ w av rr Post := by
  refine Met.ofW (cc := cc) (maxL := maxL) (ret := ret) hy hw ?_
  intro p e s m args below meth c s₁ B hml hv
  obtain ⟨rfl, hP, hK⟩ := hv
  have hl := lv_entry av (n := maxL) hlen
  rw [lg_entry_eq]
  generalize (lg_sl av ++ List.replicate (maxL - (lg_sl av).length) Slot.unset).toArray = ls at hl ⊢
  exact body p e s m below meth c ⟨B.exec, B.bytes, hml, findClass_of_methodNamed B.named, atoms_spec (ws := ws) B.pre⟩ B.returns B.notSynchronized hK s.heap [] hP va_S.rf ls hl
section WROW
variable {p : Program} {l : Launch} {e : Env} {R : Room} {s : State} {m : MethodId} {args : Array Value} {below : List Frame} {meth : Method} {c : Code} {H : Heap} {locs : List Loc} {cells slots : Nat} {Q : State → Prop}
variable {cc bytes : ByteArray} {pc nL nn index maxL : Nat} {ls : Array Slot} {rest st0 : List Value} {Ts ws : List Cond} {own C : String} {D : va_G} {tys : List (ClassId × FieldType)} {A : Nat → Prop} {H0 : Heap} {y : MethodName} {ret : Option FieldType} {fr lo b : Nat}
variable {h : Nat} {q : Nat → Nat} {cI cZ : ClassId} {n cm : Nat} {th : Int32} {lm : Nat} {a : Nat → Nat → Int32} {kn : Nat → Bool} {rr : Int32 → Option Value} {Post : PostT}
theorem mp_put (F : CallFix p m c cc nL s args Ts RX4) (hK : va_K D vwCl tys s) (hin : ∀ w ∈ wsX40, w ∈ Ts) (hN : (mAd h q).Nodup) (hA : ∀ x, x ∈ mAd h q → A x) (hP : va_P D vwCl (mW h q cI cZ n cm th lm a kn) H) (hS : va_S A H0 H locs) (k : Nat) (n' cm' : Nat) (th' : Int32) (lm' : Nat) {x : Int32} (hset : (mS q n cm th lm).set k (.int x) = mS q n' cm' th' lm') (hk : k < 19) (hlink : Cond.fieldLink RX4 index (TX4 k).1 (TX4 k).2.1 (TX4 k).2.2.1 ∈ Ts) (hfin : (TX4 k).2.2.2 = false) (hd : parseFieldDescriptor (TX4 k).2.2.1 = some .int) (hdg : decode cc pc = .ok (.putfield index, 3))
    (kk : ∀ (H1 : Heap) (locs1 : List Loc), va_P D vwCl (mW h q cI cZ n' cm' th' lm' a kn) H1 → va_S A H0 H1 locs1 → W p l e R s m args below meth c H1 locs1 cells slots Q (F0 m (pc + 3) ls rest)) : W p l e R s m args below meth c H locs cells slots Q (F0 m pc ls (.int x :: .ref h :: rest)) := by
  refine va_put (ref := (TX4 k).1) (C := RX4) (T := TX4) (N := 19) (ci := 4) (ty := .int) (v := .int x) F.1 F.2.1 F.2.2.2.2 hin tyX4 tyX4_ok nmX4 F.2.2.2.1 hK hP (mD hN hA cI cZ n cm th lm a kn) hS 0 rfl rfl k hk (F.2.2.2.2 _ hlink) (fun _ x => x) hfin hd rfl rfl (by show k < 19; exact hk) hdg (fun H1 locs1 hP1 _ hS1 => kk H1 locs1 ?_ hS1)
  rw [hset] at hP1
  exact hP1
theorem mp_ast (F : CallFix p m c cc nL s args Ts own) (hK : va_K D vwCl (mT cI cZ) s) (hN : (mAd h q).Nodup) (hA : ∀ x, x ∈ mAd h q → A x) (hP : va_P D vwCl (mW h q cI cZ n cm th lm a kn) H) (hS : va_S A H0 H locs) (k pl len : Nat) (hpl : (mW h q cI cZ n cm th lm a kn)[pl]? = some (q k, .inl (cI, len, .inl (a k)))) {i x : Int32} (j : Nat) (hi : i = nI j) (hj : j < len) (hlen : len < 2 ^ 31)
    (hset : (mW h q cI cZ n cm th lm a kn).set pl (q k, .inl (cI, len, .inl (upd (a k) j x))) = mW h q cI cZ n cm th lm (upA a k j x) kn) (hdg : decode cc pc = .ok (.iastore, 1))
    (kk : ∀ (H1 : Heap) (locs1 : List Loc), va_P D vwCl (mW h q cI cZ n cm th lm (upA a k j x) kn) H1 → va_S A H0 H1 locs1 → W p l e R s m args below meth c H1 locs1 cells slots Q (F0 m (pc + 1) ls rest)) : W p l e R s m args below meth c H locs cells slots Q (F0 m pc ls (.int x :: .int i :: .ref (q k) :: rest)) := by
  subst hi
  refine va_iast F.1 F.2.1 hK hP (mD hN hA cI cZ n cm th lm a kn) hS pl 0 hpl rfl (vp_in_nI hj hlen) hdg (fun H1 locs1 hP1 _ hS1 => kk H1 locs1 ?_ hS1)
  rw [nI_clamp (Nat.lt_trans hj hlen), hset] at hP1
  exact hP1
theorem mp_zst (F : CallFix p m c cc nL s args Ts own) (hK : va_K D vwCl (mT cI cZ) s) (hN : (mAd h q).Nodup) (hA : ∀ x, x ∈ mAd h q → A x) (hP : va_P D vwCl (mW h q cI cZ n cm th lm a kn) H) (hS : va_S A H0 H locs) {i x : Int32} (j : Nat) (bb : Bool) (hi : i = nI j) (hj : j < 1440) (hb : x = bI bb) (hdg : decode cc pc = .ok (.bastore, 1))
    (kk : ∀ (H1 : Heap) (locs1 : List Loc), va_P D vwCl (mW h q cI cZ n cm th lm a (upK kn j bb)) H1 → va_S A H0 H1 locs1 → W p l e R s m args below meth c H1 locs1 cells slots Q (F0 m (pc + 1) ls rest)) : W p l e R s m args below meth c H locs cells slots Q (F0 m pc ls (.int x :: .int i :: .ref (q 9) :: rest)) := by
  subst hi
  subst hb
  refine va_zast F.1 F.2.1 hK hP (mD hN hA cI cZ n cm th lm a kn) hS 9 1 rfl rfl (vp_in_nI hj (by omega)) hdg (fun H1 locs1 hP1 _ hS1 => kk H1 locs1 ?_ hS1)
  have e : vp_nar .boolean (bI bb) = bI bb := by cases bb <;> rfl
  rw [nI_clamp (by omega), e, upK_bI] at hP1
  exact hP1
theorem wr_blind {w : va_W} {av : List Value} : FrameBlind (wr_P D tys w av) := fun a U g mk h => ⟨h.1, h.2.1, va_K.moved (u := U) (U := U.calling g mk a) (Vm.Alike.refl U.vm) h.2.2⟩
theorem wr_run {g : JFrame} {aa : Array Value} (hr : va_Run p l e R s m args below meth c H locs cells slots 0 0 (F0 m pc ls st0) rest (wr_Q D h q cI cZ rr Post aa) (mF h q)) (hS : va_S A H0 H locs) (hA : ∀ x, x ∈ mAd h q → A x)
    (kk : ∀ (r : Int32) (n cm : Nat) (th : Int32) (lm : Nat) (a : Nat → Nat → Int32) (kn : Nat → Bool) (H1 : Heap) (locs1 : List Loc), Post r n cm th lm a kn → va_P D vwCl (mW h q cI cZ n cm th lm a kn) H1 → H.size ≤ H1.size → (∀ x : Nat, x < H.size → ¬ mF h q x → H1[x]? = H[x]?) → va_S A H0 H1 locs1 → W p l e R s m args below meth c H1 locs1 cells slots Q (F0 m (pc + 3) ls ((rr r).toList ++ rest))) : W p l e R s m args below meth c H locs cells slots Q (F0 m pc ls st0) := by
  intro T hT X
  obtain ⟨v, st₀, t, T', L, h0, X', hL, e1, e2, ⟨⟨r, n, cm, th, lm, a, kn, hv, hp, hP⟩, hz, hk⟩, st⟩ := hr T hT X
  cases hv
  rw [h0] at hz hk
  obtain ⟨t2, a1, b1⟩ := kk r n cm th lm a kn T'.heap (locs ++ L) hp (by rw [e1]; exact hP) (by rw [e1]; exact hz) (fun x h1 h2 => by rw [e1]; exact hk x h1 h2)
    ⟨Nat.le_trans hS.1 (by rw [e1]; exact hz), fun x h1 h2 => by rw [e1, hk x (Nat.lt_of_lt_of_le h1 hS.1) (fun z => h2 (hA x z))]; exact hS.2.1 x h1 h2, fun z hz => by
      rcases List.mem_append.mp hz with y | y
      · exact hS.2.2 z y
      · exact hA _ (hL z y)⟩ T' rfl X'
  exact ⟨t2, st t2 a1, b1⟩
theorem wr_callV (F : CallFix p m c cc nL s args Ts own) (hK : va_K D vwCl (mT cI cZ) s) (As : List Value) {w : va_W} (hM : wr_Met l y ws fr lo D h q cI cZ w (.ref b :: As) rr Post) (cw : CallW R s args own C index y bytes maxL ret ws { frames := fr, cells := 0, slots := 0, locals := lo } 0 0 nn)
    (hrc : ∃ cellB : Cell, H[b]? = some cellB ∧ cellB.vm.isStatics = false ∧ s.vm.findClass C = some cellB.cls) (hP : va_P D vwCl w H) (hS : va_S A H0 H locs) (hA : ∀ x, x ∈ mAd h q → A x) (hn : As.length = nn) (hsize : ls.size = nL) (hst : st0 = As.reverse ++ .ref b :: rest) (hW : 2 * (F0 m pc ls st0).monitorRoom + (rest.map fun v => v.category).sum ≤ 8) (hcs : cells ≤ R.cells ∧ slots ≤ R.slots) (hdg : decode cc pc = .ok (.invokevirtual index, 3))
    (kk : ∀ (r : Int32) (n cm : Nat) (th : Int32) (lm : Nat) (a : Nat → Nat → Int32) (kn : Nat → Bool) (H1 : Heap) (locs1 : List Loc), Post r n cm th lm a kn → va_P D vwCl (mW h q cI cZ n cm th lm a kn) H1 → H.size ≤ H1.size → (∀ x : Nat, x < H.size → ¬ mF h q x → H1[x]? = H[x]?) → va_S A H0 H1 locs1 → W p l e R s m args below meth c H1 locs1 cells slots Q (F0 m (pc + 3) ls ((rr r).toList ++ rest))) : W p l e R s m args below meth c H locs cells slots Q (F0 m pc ls st0) :=
  wr_run (g := F0 m pc ls st0) (va_runV (g := F0 m pc ls st0) F hM cw ⟨wr_blind, hrc, fun U hU hW => ⟨rfl, by rw [hU]; exact hP, va_K.moved hW.alike hK⟩⟩ rfl hn hsize hst hW hdg ⟨hcs.1, hcs.2⟩) hS hA kk
theorem wr_callVi (F : CallFix p m c cc nL s args Ts own) (hK : va_K D vwCl (mT cI cZ) s) (As : List Value) {w : va_W} (hM : wr_Met l y ws fr lo D h q cI cZ w (.ref b :: As) rI Post) (cw : CallW R s args own C index y bytes maxL ret ws { frames := fr, cells := 0, slots := 0, locals := lo } 0 0 nn)
    (hrc : ∃ cellB : Cell, H[b]? = some cellB ∧ cellB.vm.isStatics = false ∧ s.vm.findClass C = some cellB.cls) (hP : va_P D vwCl w H) (hS : va_S A H0 H locs) (hA : ∀ x, x ∈ mAd h q → A x) (hn : As.length = nn) (hsize : ls.size = nL) (hst : st0 = As.reverse ++ .ref b :: rest) (hW : 2 * (F0 m pc ls st0).monitorRoom + (rest.map fun v => v.category).sum ≤ 8) (hcs : cells ≤ R.cells ∧ slots ≤ R.slots) (hdg : decode cc pc = .ok (.invokevirtual index, 3))
    (kk : ∀ (r : Int32) (n cm : Nat) (th : Int32) (lm : Nat) (a : Nat → Nat → Int32) (kn : Nat → Bool) (H1 : Heap) (locs1 : List Loc), Post r n cm th lm a kn → va_P D vwCl (mW h q cI cZ n cm th lm a kn) H1 → va_S A H0 H1 locs1 → W p l e R s m args below meth c H1 locs1 cells slots Q (F0 m (pc + 3) ls (.int r :: rest))) : W p l e R s m args below meth c H locs cells slots Q (F0 m pc ls st0) :=
  wr_callV F hK As hM cw hrc hP hS hA hn hsize hst hW hcs hdg (fun r n cm th lm a kn H1 locs1 h1 h2 _ _ h3 => kk r n cm th lm a kn H1 locs1 h1 h2 h3)
theorem wr_callVv (F : CallFix p m c cc nL s args Ts own) (hK : va_K D vwCl (mT cI cZ) s) (As : List Value) {w : va_W} (hM : wr_Met l y ws fr lo D h q cI cZ w (.ref b :: As) rV Post) (cw : CallW R s args own C index y bytes maxL ret ws { frames := fr, cells := 0, slots := 0, locals := lo } 0 0 nn)
    (hrc : ∃ cellB : Cell, H[b]? = some cellB ∧ cellB.vm.isStatics = false ∧ s.vm.findClass C = some cellB.cls) (hP : va_P D vwCl w H) (hS : va_S A H0 H locs) (hA : ∀ x, x ∈ mAd h q → A x) (hn : As.length = nn) (hsize : ls.size = nL) (hst : st0 = As.reverse ++ .ref b :: rest) (hW : 2 * (F0 m pc ls st0).monitorRoom + (rest.map fun v => v.category).sum ≤ 8) (hcs : cells ≤ R.cells ∧ slots ≤ R.slots) (hdg : decode cc pc = .ok (.invokevirtual index, 3))
    (kk : ∀ (r : Int32) (n cm : Nat) (th : Int32) (lm : Nat) (a : Nat → Nat → Int32) (kn : Nat → Bool) (H1 : Heap) (locs1 : List Loc), Post r n cm th lm a kn → va_P D vwCl (mW h q cI cZ n cm th lm a kn) H1 → va_S A H0 H1 locs1 → W p l e R s m args below meth c H1 locs1 cells slots Q (F0 m (pc + 3) ls rest)) : W p l e R s m args below meth c H locs cells slots Q (F0 m pc ls st0) :=
  wr_callV F hK As hM cw hrc hP hS hA hn hsize hst hW hcs hdg (fun r n cm th lm a kn H1 locs1 h1 h2 _ _ h3 => kk r n cm th lm a kn H1 locs1 h1 h2 h3)
theorem wr_reti {v : Int32} (F : CallFix p m c cc nL s args Ts own) (hr : meth.sig.returnType = some .int) (hlocks : meth.locks = false) (hP : va_P D vwCl (mW h q cI cZ n cm th lm a kn) H) (hS : va_S (mF h q) s.heap H locs) (hpost : Post v n cm th lm a kn) (hdg : decode cc pc = .ok (.ireturn, 1)) :
    W p l e R s m args below meth c H locs 0 0 (MQ below (wr_Q D h q cI cZ rI Post) args s 0 0 (mF h q)) (F0 m pc ls [.int v]) :=
  W.iret F.1 F.2.1 hr (fun t ht hW => ⟨⟨v, n, cm, th, lm, a, kn, rfl, hpost, by rw [ht]; exact hP⟩, hS.F ht⟩) hS.2.2 hdg hlocks
theorem wr_retz {v : Int32} (F : CallFix p m c cc nL s args Ts own) (hr : meth.sig.returnType = some .boolean) (hlocks : meth.locks = false) (hP : va_P D vwCl (mW h q cI cZ n cm th lm a kn) H) (hS : va_S (mF h q) s.heap H locs) (bb : Bool) (hbb : v = bI bb) (hpost : Post v n cm th lm a kn) (hdg : decode cc pc = .ok (.ireturn, 1)) :
    W p l e R s m args below meth c H locs 0 0 (MQ below (wr_Q D h q cI cZ rI Post) args s 0 0 (mF h q)) (F0 m pc ls [.int v]) :=
  W.zret F.1 F.2.1 hr (by rw [hbb]; exact bI_nar bb) (fun t ht hW => ⟨⟨v, n, cm, th, lm, a, kn, rfl, hpost, by rw [ht]; exact hP⟩, hS.F ht⟩) hS.2.2 hdg hlocks
theorem wr_retv (F : CallFix p m c cc nL s args Ts own) (hr : meth.sig.returnType = none) (hlocks : meth.locks = false) (hP : va_P D vwCl (mW h q cI cZ n cm th lm a kn) H) (hS : va_S (mF h q) s.heap H locs) (hpost : Post 0 n cm th lm a kn) (hdg : decode cc pc = .ok (.return_, 1)) :
    W p l e R s m args below meth c H locs 0 0 (MQ below (wr_Q D h q cI cZ rV Post) args s 0 0 (mF h q)) (F0 m pc ls []) :=
  W.vret F.1 F.2.1 hr (fun t ht hW => ⟨⟨0, n, cm, th, lm, a, kn, rfl, hpost, by rw [ht]; exact hP⟩, hS.F ht⟩) hS.2.2 hdg hlocks
end WROW
