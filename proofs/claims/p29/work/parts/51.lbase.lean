/-! the law's arrays and numbers: q the addresses of its rows (0 n, 1 a, 2 s, 3 k, 4 e, 5 c, 6 r, 7 q, 8 v, 9 w, 10 u), F what they hold -/
def oI : Option Nat → Int32
  | none => -1
  | some j => nI j
def md (x y : Int32) : Int32 := x - x / y * y
abbrev FF : Type := Nat → Nat → Int32
def lX (q : Nat → Nat) (cI : ClassId) (F : FF) : va_W := [(q 0, .inl (cI, 2, .inl (F 0))), (q 1, .inl (cI, 64, .inl (F 1))), (q 2, .inl (cI, 64, .inl (F 2))), (q 3, .inl (cI, 64, .inl (F 3))), (q 4, .inl (cI, 64, .inl (F 4))), (q 5, .inl (cI, 5, .inl (F 5))), (q 6, .inl (cI, 48, .inl (F 6))), (q 7, .inl (cI, 20, .inl (F 7))), (q 8, .inl (cI, 40, .inl (F 8))), (q 9, .inl (cI, 40, .inl (F 9))), (q 10, .inl (cI, 40, .inl (F 10)))]
def lA (q : Nat → Nat) : List Nat := [q 0, q 1, q 2, q 3, q 4, q 5, q 6, q 7, q 8, q 9, q 10]
theorem lX_map (q : Nat → Nat) (cI : ClassId) (F : FF) : (lX q cI F).map (fun x => x.1) = lA q := rfl
theorem lX_ad {q : Nat → Nat} {cI : ClassId} {F : FF} {i : Nat} {x : Nat × va_E} (h : (lX q cI F)[i]? = some x) : x.1 ∈ lA q := by
  rw [← lX_map q cI F]
  exact List.mem_map.mpr ⟨x, List.mem_of_getElem? h, rfl⟩
theorem lD {q : Nat → Nat} {A : Nat → Prop} (hN : (lA q).Nodup) (hA : ∀ x, x ∈ lA q → A x) (cI : ClassId) (F : FF) : va_D A (lX q cI F) := by
  have g : ∀ (i : Nat) (p : Nat × va_E), (lX q cI F)[i]? = some p → (lA q)[i]? = some p.1 := fun i p hp => by
    rw [← lX_map q cI F, List.getElem?_map, hp]; rfl
  refine ⟨fun i j p r hi hj hpr => ?_, fun k p hk => hA _ (lX_ad hk)⟩
  have h1 := g i p hi
  have h2 := g j r hj
  have hlt : i < (lA q).length := (List.getElem?_eq_some_iff.mp h1).1
  exact (List.getElem?_inj hlt hN).mp (by rw [h1, h2, hpr])
theorem nI_nlt0 {n : Nat} (h : n < 2 ^ 31) : ¬ nI n < 0 := nI_pos h
theorem nI_ge0 {n : Nat} (h : n < 2 ^ 31) : 0 ≤ nI n := nI_pos' h
theorem md_N {a d : Nat} (ha : a < 2 ^ 31) (h0 : 0 < d) (hd : d < 2 ^ 31) : md (nI a) (nI d) = nI (a % d) := pk_rem ha h0 hd
section LROW
variable {p : Program} {l : Launch} {e9 : Env} {R : Room} {s : State} {m : MethodId} {args : Array Value} {below : List Frame} {meth : Method} {c : Code} {H : Heap} {locs : List Loc} {cells slots : Nat} {Q : State → Prop}
variable {cc bytes : ByteArray} {pc nL nn index maxL : Nat} {ls : Array Slot} {rest st0 : List Value} {Ts ws : List Cond} {own : String} {off : Int} {tgt : Nat} {D : va_G} {y : MethodName} {ret : Option FieldType} {fr lo : Nat} {A : Nat → Prop} {H0 : Heap}
variable {q : Nat → Nat} {cI cII : ClassId} {G F' : FF}
theorem lw_rem (hx : p.tables.exec = Jvm.exec) (hb : c.code = cc) {x y : Int32} (hdg : decode cc pc = .ok (.irem, 1)) (hne : ¬ y = 0) (k : W p l e9 R s m args below meth c H locs cells slots Q (F0 m (pc + 1) ls (.int (md x y) :: rest))) : W p l e9 R s m args below meth c H locs cells slots Q (F0 m pc ls (.int y :: .int x :: rest)) :=
  lv_irem hx hb hdg hne k
theorem lw_divN (hx : p.tables.exec = Jvm.exec) (hb : c.code = cc) {i j : Nat} (hi : i < 2 ^ 31) (h0 : 0 < j) (hj : j < 2 ^ 31) (hdg : decode cc pc = .ok (.idiv, 1)) (k : W p l e9 R s m args below meth c H locs cells slots Q (F0 m (pc + 1) ls (.int (nI (i / j)) :: rest))) : W p l e9 R s m args below meth c H locs cells slots Q (F0 m pc ls (.int (nI j) :: .int (nI i) :: rest)) :=
  lv_idiv hx hb hdg (nI_ne0 h0 hj) (by rw [pk_div hi h0 hj]; exact k)
theorem lw_remN (hx : p.tables.exec = Jvm.exec) (hb : c.code = cc) {i j : Nat} (hi : i < 2 ^ 31) (h0 : 0 < j) (hj : j < 2 ^ 31) (hdg : decode cc pc = .ok (.irem, 1)) (k : W p l e9 R s m args below meth c H locs cells slots Q (F0 m (pc + 1) ls (.int (nI (i % j)) :: rest))) : W p l e9 R s m args below meth c H locs cells slots Q (F0 m pc ls (.int (nI j) :: .int (nI i) :: rest)) :=
  lv_irem hx hb hdg (nI_ne0 h0 hj) (by rw [pk_rem hi h0 hj]; exact k)
theorem lw_olt (hx : p.tables.exec = Jvm.exec) (hb : c.code = cc) {o : Option Nat} (ho : ∀ x, o = some x → x < 2 ^ 31) (hdg : decode cc pc = .ok (.ifCond .lt off, 3)) (ht : (pc : Int) + off = (tgt : Int))
    (kt : o = none → W p l e9 R s m args below meth c H locs cells slots Q (F0 m tgt ls rest)) (kf : ∀ x, o = some x → W p l e9 R s m args below meth c H locs cells slots Q (F0 m (pc + 3) ls rest)) : W p l e9 R s m args below meth c H locs cells slots Q (F0 m pc ls (.int (oI o) :: rest)) := by
  cases o with
  | none => exact lv_if_lt hx hb hdg ht (fun _ => kt rfl) (fun z => absurd (show (-1 : Int32) < 0 by decide) z)
  | some x => exact lv_if_lt hx hb hdg ht (fun z => absurd z (nI_nlt0 (ho x rfl))) (fun _ => kf x rfl)
theorem lw_oge (hx : p.tables.exec = Jvm.exec) (hb : c.code = cc) {o : Option Nat} (ho : ∀ x, o = some x → x < 2 ^ 31) (hdg : decode cc pc = .ok (.ifCond .ge off, 3)) (ht : (pc : Int) + off = (tgt : Int))
    (kt : ∀ x, o = some x → W p l e9 R s m args below meth c H locs cells slots Q (F0 m tgt ls rest)) (kf : o = none → W p l e9 R s m args below meth c H locs cells slots Q (F0 m (pc + 3) ls rest)) : W p l e9 R s m args below meth c H locs cells slots Q (F0 m pc ls (.int (oI o) :: rest)) := by
  cases o with
  | none => exact lv_if_ge hx hb hdg ht (fun z => absurd z (by show ¬ (0 : Int32) ≤ -1; decide)) (fun _ => kf rfl)
  | some x => exact lv_if_ge hx hb hdg ht (fun _ => kt x rfl) (fun z => absurd (nI_ge0 (ho x rfl)) z)
/-- an int goes into a row -/
theorem la_ast (F : CallFix p m c cc nL s args Ts own) (hK : va_K D vwCl (cT cI cII) s) (hN : (lA q).Nodup) (hP : va_P D vwCl (lX q cI G) H) (hS : va_S A H0 H locs) (k len : Nat) (hAk : A (q k)) (hpl : (lX q cI G)[k]? = some (q k, .inl (cI, len, .inl (G k)))) {i x : Int32} (j : Nat) (hi : i = nI j) (hj : j < len) (hlen : len < 2 ^ 31)
    (hset : (lX q cI G).set k (q k, .inl (cI, len, .inl (upd (G k) j x))) = lX q cI (upA G k j x)) (hdg : decode cc pc = .ok (.iastore, 1))
    (kk : ∀ (H1 : Heap) (locs1 : List Loc), va_P D vwCl (lX q cI (upA G k j x)) H1 → (∀ y : Nat, y ≠ q k → H1[y]? = H[y]?) → va_S A H0 H1 locs1 → W p l e9 R s m args below meth c H1 locs1 cells slots Q (F0 m (pc + 1) ls rest)) : W p l e9 R s m args below meth c H locs cells slots Q (F0 m pc ls (.int x :: .int i :: .ref (q k) :: rest)) := by
  subst hi
  have hD := lD (A := fun _ => True) hN (fun _ _ => trivial) cI G
  refine W.iast F.1 F.2.1 (hP k _ hpl) ((hK.2 0 _ rfl).1 len (fun j => .int (G k j))) (fun z => by cases z) (by show ¬ (nI j < 0 ∨ (arrV _ _ _).slots.size ≤ _); rw [arrV_size]; exact vp_in_nI hj hlen) rfl rfl hdg fun H1 e z oq => ?_
  refine kk H1 _ ?_ oq (hS.put z oq hAk)
  rw [← hset]
  refine hP.set hD hpl ?_ oq
  show H1[q k]? = some (vp_cell _ _)
  rw [e]
  rw [vp_cell_i, vp_cell_i, arrV_store, nI_clamp (Nat.lt_trans hj hlen)]
  congr 2
  funext z
  by_cases hz : z = j
  · subst hz
    simp [updV, upd]
  · simp [updV, upd, hz]
end LROW
/-! methods of the law that write its rows -/
def la_P (D : va_G) (cI cII : ClassId) (q : Nat → Nat) (F : FF) (av : List Value) : Array Value → State → Prop := va_Pc av (fun U => va_P D vwCl (lX q cI F) U.heap ∧ va_K D vwCl (cT cI cII) U)
def la_Q (D : va_G) (cI : ClassId) (q : Nat → Nat) (fs : List Nat) (F' : FF) : Array Value → State → Outcome → State → Prop := fun _ st o t => o = .returned none ∧ va_P D vwCl (lX q cI F') t.heap ∧ va_F (fun x => x ∈ fs) st t
def la_Met (l : Launch) (y : MethodName) (ws : List Cond) (fr lo : Nat) (D : va_G) (cI cII : ClassId) (q : Nat → Nat) (fs : List Nat) (F : FF) (av : List Value) (F' : FF) : Prop :=
  Met l y ws { frames := fr, cells := 0, slots := 0, locals := lo } (la_P D cI cII q F av) (la_Q D cI q fs F') 0 0 (fun x => x ∈ fs)
abbrev laW (p : Program) (l : Launch) (e : Env) (fr lo : Nat) (s : State) (m : MethodId) (av : List Value) (below : List Frame) (meth : Method) (c : Code) (H : Heap) (locs : List Loc) (D : va_G) (cI : ClassId) (q : Nat → Nat) (fs : List Nat) (F' : FF) (g : JFrame) : Prop :=
  W p l e { frames := fr, cells := 0, slots := 0, locals := lo } s m av.toArray below meth c H locs 0 0 (MQ below (la_Q D cI q fs F') av.toArray s 0 0 (fun x => x ∈ fs)) g
theorem la_start {l : Launch} {y : MethodName} {ws ws' : List Cond} {fr lo : Nat} {D : va_G} {cI cII : ClassId} {q : Nat → Nat} {fs : List Nat} {F9 F' : FF} {av : List Value} {cc : ByteArray} {maxL : Nat} {ret : Option FieldType}
    (hw : ws = Cond.code y cc maxL ret :: ws') (hy : plainName y.cls = true) (hlen : (lg_sl av).length ≤ maxL)
    (body : ∀ (p : Program) (e : Env) (s : State) (m : MethodId) (below : List Frame) (meth : Method) (c : Code), CallFix p m c cc maxL s av.toArray ws y.cls → meth.sig.returnType = ret → meth.locks = false → va_K D vwCl (cT cI cII) s → ∀ (H : Heap) (locs : List Loc), va_P D vwCl (lX q cI F9) H → va_S (fun x => x ∈ fs) s.heap H locs → ∀ ls : Array Slot, lv_has ls maxL (lv_args 0 av) →
      laW p l e fr lo s m av below meth c H locs D cI q fs F' (F0 m 0 ls [])) : la_Met l y ws fr lo D cI cII q fs F9 av F' := by
  refine Met.ofW (cc := cc) (maxL := maxL) (ret := ret) hy hw ?_
  intro p e s m args below meth c s₁ B hml hv
  obtain ⟨rfl, hP, hK⟩ := hv
  have hl := lv_entry av (n := maxL) hlen
  rw [lg_entry_eq]
  generalize (lg_sl av ++ List.replicate (maxL - (lg_sl av).length) Slot.unset).toArray = ls at hl ⊢
  exact body p e s m below meth c ⟨B.exec, B.bytes, hml, findClass_of_methodNamed B.named, atoms_spec (ws := ws) B.pre⟩ B.returns B.notSynchronized hK s.heap [] hP va_S.rf ls hl
section LAROW
variable {p : Program} {l : Launch} {e9 : Env} {R : Room} {s : State} {m : MethodId} {args : Array Value} {below : List Frame} {meth : Method} {c : Code} {H : Heap} {locs : List Loc} {cells slots : Nat} {Q : State → Prop}
variable {cc bytes : ByteArray} {pc nL nn index maxL : Nat} {ls : Array Slot} {rest st0 : List Value} {Ts ws : List Cond} {own : String} {D : va_G} {y : MethodName} {ret : Option FieldType} {fr lo : Nat} {A : Nat → Prop} {H0 : Heap}
variable {q : Nat → Nat} {fs : List Nat} {cI cII : ClassId} {G F' : FF}
theorem la_blind {av : List Value} : FrameBlind (la_P D cI cII q G av) := fun a U g mk h => ⟨h.1, h.2.1, va_K.moved (u := U) (U := U.calling g mk a) (Vm.Alike.refl U.vm) h.2.2⟩
theorem la_callS (F : CallFix p m c cc nL s args Ts own) (hK : va_K D vwCl (cT cI cII) s) (As : List Value) (hM : la_Met l y ws fr lo D cI cII q fs G As F') (cw : CallB R s args own index y bytes maxL ret ws { frames := fr, cells := 0, slots := 0, locals := lo } 0 0 nn ∧ (Cond.static y).before args s = true)
    (hP : va_P D vwCl (lX q cI G) H) (hS : va_S A H0 H locs) (hA : ∀ x, x ∈ fs → A x) (hn : As.length = nn) (hsize : ls.size = nL) (hst : st0 = As.reverse ++ rest) (hW : 2 * (F0 m pc ls st0).monitorRoom + (rest.map fun v => v.category).sum ≤ 8) (hcs : cells ≤ R.cells ∧ slots ≤ R.slots) (hdg : decode cc pc = .ok (.invokestatic index, 3))
    (kk : ∀ (H1 : Heap) (locs1 : List Loc), va_P D vwCl (lX q cI F') H1 → H.size ≤ H1.size → (∀ x : Nat, x < H.size → ¬ x ∈ fs → H1[x]? = H[x]?) → va_S A H0 H1 locs1 → W p l e9 R s m args below meth c H1 locs1 cells slots Q (F0 m (pc + 3) ls rest)) : W p l e9 R s m args below meth c H locs cells slots Q (F0 m pc ls st0) := by
  have hr := va_runS (g := F0 m pc ls st0) (e := e9) (below := below) (meth := meth) (H := H) (locs := locs) (cells := cells) (slots := slots) F hM cw ⟨la_blind, fun U hU hW => ⟨rfl, by rw [hU]; exact hP, va_K.moved hW.alike hK⟩⟩ rfl hn hsize hst hW hdg ⟨hcs.1, hcs.2⟩
  intro T hT X
  obtain ⟨v, st₀, t, T', L, h0, X', hL, e1, e2, ⟨hv, hP, hz, hk⟩, st⟩ := hr T hT X
  cases hv
  rw [h0] at hz hk
  obtain ⟨t2, a1, b1⟩ := kk T'.heap (locs ++ L) (by rw [e1]; exact hP) (by rw [e1]; exact hz) (fun x h1 h2 => by rw [e1]; exact hk x h1 h2)
    ⟨Nat.le_trans hS.1 (by rw [e1]; exact hz), fun x h1 h2 => by rw [e1, hk x (Nat.lt_of_lt_of_le h1 hS.1) (fun z => h2 (hA x z))]; exact hS.2.1 x h1 h2, fun z hz => by
      rcases List.mem_append.mp hz with y | y
      · exact hS.2.2 z y
      · exact hA _ (hL z y)⟩ T' rfl X'
  exact ⟨t2, st t2 a1, b1⟩
theorem la_ret (F : CallFix p m c cc nL s args Ts own) (hr : meth.sig.returnType = none) (hlocks : meth.locks = false) (hP : va_P D vwCl (lX q cI G) H) (hS : va_S (fun x => x ∈ fs) s.heap H locs) (he : G = F') (hdg : decode cc pc = .ok (.return_, 1)) :
    W p l e9 R s m args below meth c H locs 0 0 (MQ below (la_Q D cI q fs F') args s 0 0 (fun x => x ∈ fs)) (F0 m pc ls []) :=
  W.vret F.1 F.2.1 hr (fun t ht hW => ⟨rfl, by rw [ht, ← he]; exact hP, hS.F ht⟩) hS.2.2 hdg hlocks
end LAROW
theorem ggL_lays_L_next : GoodIn wsL_lays wsL_next := goodIn_r _ [4] (by decide +kernel) (by decide +kernel)
theorem gL_lays_L_next : GoodIn wsL_lays (va_wsS RL 7 yL_next wsL_next) := goodIn_app (goodIn_of _ (by decide +kernel)) ggL_lays_L_next
theorem ggL_first_L_guests : GoodIn wsL_first wsL_guests := goodIn_r _ [8] (by decide +kernel) (by decide +kernel)
theorem gL_first_L_guests : GoodIn wsL_first (va_wsS RL 15 yL_guests wsL_guests) := goodIn_app (goodIn_of _ (by decide +kernel)) ggL_first_L_guests
theorem ggL_first_L_bits : GoodIn wsL_first wsL_bits := goodIn_r _ [11] (by decide +kernel) (by decide +kernel)
theorem gL_first_L_bits : GoodIn wsL_first (va_wsS RL 19 yL_bits wsL_bits) := goodIn_app (goodIn_of _ (by decide +kernel)) ggL_first_L_bits
theorem ggL_first_L_isOpen : GoodIn wsL_first wsL_isOpen := goodIn_r _ [14] (by decide +kernel) (by decide +kernel)
theorem gL_first_L_isOpen : GoodIn wsL_first (va_wsS RL 29 yL_isOpen wsL_isOpen) := goodIn_app (goodIn_of _ (by decide +kernel)) ggL_first_L_isOpen
theorem ggL_kept_L_first : GoodIn wsL_kept wsL_first := goodIn_r _ [4, 5, 6, 7, 8, 9, 10, 3, 11, 12, 13, 14, 15, 16, 17] (by decide +kernel) (by decide +kernel)
theorem gL_kept_L_first : GoodIn wsL_kept (va_wsS RL 33 yL_first wsL_first) := goodIn_app (goodIn_of _ (by decide +kernel)) ggL_kept_L_first
theorem ggL_lacks_L_kept : GoodIn wsL_lacks wsL_kept := goodIn_r _ [4, 5, 6, 3, 7, 8, 9, 10, 11, 12, 13, 14, 15, 16, 17, 18, 19, 20] (by decide +kernel) (by decide +kernel)
theorem gL_lacks_L_kept : GoodIn wsL_lacks (va_wsS RL 37 yL_kept wsL_kept) := goodIn_app (goodIn_of _ (by decide +kernel)) ggL_lacks_L_kept
theorem ggL_lacks_L_isOpen : GoodIn wsL_lacks wsL_isOpen := goodIn_r _ [20] (by decide +kernel) (by decide +kernel)
theorem gL_lacks_L_isOpen : GoodIn wsL_lacks (va_wsS RL 29 yL_isOpen wsL_isOpen) := goodIn_app (goodIn_of _ (by decide +kernel)) ggL_lacks_L_isOpen
theorem ggL_isDisliked_L_guests : GoodIn wsL_isDisliked wsL_guests := goodIn_r _ [4] (by decide +kernel) (by decide +kernel)
theorem gL_isDisliked_L_guests : GoodIn wsL_isDisliked (va_wsS RL 15 yL_guests wsL_guests) := goodIn_app (goodIn_of _ (by decide +kernel)) ggL_isDisliked_L_guests
theorem ggL_claims_L_next : GoodIn wsL_claims wsL_next := goodIn_r _ [4] (by decide +kernel) (by decide +kernel)
theorem gL_claims_L_next : GoodIn wsL_claims (va_wsS RL 7 yL_next wsL_next) := goodIn_app (goodIn_of _ (by decide +kernel)) ggL_claims_L_next
