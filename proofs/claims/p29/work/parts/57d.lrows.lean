/-! the law's own calls: rows -/
section LCALL
variable {p : Program} {l : Launch} {e9 : Env} {R : Room} {s : State} {m : MethodId} {args : Array Value} {below : List Frame} {meth : Method} {c : Code} {H : Heap} {locs : List Loc} {cells slots : Nat} {Q : State → Prop}
variable {cc bytes : ByteArray} {pc nL nn index maxL mc9 ms9 : Nat} {ls : Array Slot} {rest st0 : List Value} {Ts ws : List Cond} {own : String} {D : va_G} {y : MethodName} {ret : Option FieldType} {fr lo : Nat} {hh : List (Nat × Nat × Nat × Nat)}
variable {u q : Nat → Nat} {cI cII : ClassId} {sa : Nat → Nat} {A0 : Nat → Prop} {cs cs' : CS} {val : Int32} {n cm : Nat} {a : Nat → Nat → Int32} {kn : Nat → Bool} {G : FF}
/-- the class told something -/
theorem ix_tell (F : CallFix p m c cc nL s args Ts own) (hK : va_K D vwCl (cT cI cII) s) (hX : xF A0 sa s) (hfr : ∀ x, s.heap.size ≤ x → A0 x) (hA : va_P D vwCl (lX q cI G) H) (hC : sW D u cI cII A0 (fun y => y ∈ lA q) cs H) (R9 : tRel n cm a kn cs) (hS : va_S A0 s.heap H locs) (As : List Value) (hM : sMet l y ws fr mc9 ms9 lo D u cI cII sa As cs (0, val, cs'))
    (cw : CallW R s args own RX3 index y bytes maxL ret ws { frames := fr, cells := mc9, slots := ms9, locals := lo } mc9 ms9 nn) (hn : As.length = nn) (hsize : ls.size = nL) (hst : st0 = As.reverse ++ .ref (u 30) :: rest) (hW : 2 * (F0 m pc ls st0).monitorRoom + (rest.map fun v => v.category).sum ≤ 8) (hcs : cells + mc9 ≤ R.cells ∧ slots + ms9 ≤ R.slots) (hdg : decode cc pc = .ok (.invokevirtual index, 3))
    (kk : ∀ (H1 : Heap) (locs1 : List Loc), va_P D vwCl (lX q cI G) H1 → sW D u cI cII A0 (fun y => y ∈ lA q) cs' H1 → va_S A0 s.heap H1 locs1 → W p l e9 R s m args below meth c H1 locs1 (cells + mc9) (slots + ms9) Q (F0 m (pc + 3) ls (.int val :: rest))) :
    W p l e9 R s m args below meth c H locs cells slots Q (F0 m pc ls st0) :=
  sx_callV F hK hX (fun x hx => hfr x (Nat.le_trans hS.1 hx)) hC (lX_lt hA) R9 hS As hM rfl cw hn hsize hst hW hcs hdg (fun H1 locs1 h1 _ h3 h4 => kk H1 locs1 (hA.kept (fun k x hx => h3 x.1 (lX_ad hx))) h1 h4)
/-- does -/
theorem ix_does {op : OP} (F : CallFix p m c cc nL s args Ts own) (hK : va_K D vwCl (cT cI cII) s) (hX : xF A0 sa s) (hNz : wzN s) (hfr : ∀ x, s.heap.size ≤ x → A0 x) (hA : va_P D vwCl (lX q cI G) H) (hC : sW D u cI cII A0 (fun y => y ∈ lA q) cs H) (R9 : tRel n cm a kn cs) (hS : va_S A0 s.heap H locs) (As : List Value)
    (hM : ∀ (V : Nat → Nat → Int32) (pq sp : Int32) (cn : Nat) (e : Option Nat) (sz : Nat) (b : Nat → Nat → Int32) (L : List Nat) (w : Nat → Nat → Int32) (nx : Nat → Option Nat) (z0 : Nat), (b, cn, L.map w) = cs → (cAd u ++ L).Nodup → chn nx L → e = L.head? → sz = L.length → (∀ x, x ∈ L → okW (w x)) → cn ≤ 20 → (∀ k, k < cn → ∃ r, r < 6 ∧ b 11 k = nI r) → dz_Met l y ws fr mc9 ms9 lo D u cI cII sa z0 L (cW u cI cII V pq sp cn e sz b L w nx) As op)
    (hv : dzO op = (0, val, cs')) (cw : vx_CSW R s args own index y bytes maxL ret hh ws { frames := fr, cells := mc9, slots := ms9, locals := lo } mc9 ms9 nn) (hn : As.length = nn) (hsize : ls.size = nL) (hst : st0 = As.reverse ++ rest) (hW : 2 * (F0 m pc ls st0).monitorRoom + (rest.map fun v => v.category).sum ≤ 8) (hcs : cells + mc9 ≤ R.cells ∧ slots + ms9 ≤ R.slots) (hdg : decode cc pc = .ok (.invokestatic index, 3))
    (kk : ∀ (H1 : Heap) (locs1 : List Loc), va_P D vwCl (lX q cI G) H1 → sW D u cI cII A0 (fun y => y ∈ lA q) cs' H1 → va_S A0 s.heap H1 locs1 → W p l e9 R s m args below meth c H1 locs1 (cells + mc9) (slots + ms9) Q (F0 m (pc + 3) ls (.int val :: rest))) :
    W p l e9 R s m args below meth c H locs cells slots Q (F0 m pc ls st0) := by
  obtain ⟨V, pq, sp, cn, e, sz, b, L, w, nx, h1, h2, h3, h4, h5, h6, h7⟩ := hC
  subst h1
  have hfr2 : ∀ x, H.size ≤ x → A0 x := fun x hx => hfr x (Nat.le_trans hS.1 hx)
  have hcg : ∀ x, cG u L H.size x → A0 x := fun x z => z.elim (fun z => (h6 x z).1) (hfr2 x)
  have hMM := hM V pq sp cn e sz b L w nx H.size rfl h5 h4 h2 h3 (rel_ok R9) (rel_cn R9) (rel_rc R9)
  have hr : vx_Run p l e9 R s m args below meth c H locs cells slots mc9 ms9 (F0 m pc ls st0) rest (cw_Q D u cI cII H.size L kI (pPost u L H.size (dzO op)) As.toArray) (xc_X D u cI cII H.size L (pPX u L H.size (dzO op))) (cG u L H.size) := vx_runSX (g := F0 m pc ls st0) F hMM cw ⟨dz_blind, fun U hU hW => ⟨rfl, by rw [hU], by rw [hU]; exact h7, va_K.moved hW.alike hK, xF.step hW (fun a h1 h2 => by rw [hU]; exact hS.2.1 a h1 h2) hcg hX, hNz.moved hW.alike⟩⟩ rfl hn hsize hst hW hdg hcs
  rw [hv] at hr
  exact sx_core (op := (0, val, cs')) rfl hr hfr2 (lX_lt hA) h6 hS (fun H1 locs1 h1 _ h3 h4 => kk H1 locs1 (hA.kept (fun k x hx => h3 x.1 (lX_ad hx))) h1 h4)
/-- isSeen: it's all as it should be -/
theorem ix_seen (hfl : l.stackTraces = false) (F : CallFix p m c cc nL s args Ts own) (hK : va_K D vwCl (cT cI cII) s) (hX : xF A0 sa s) (hfr : ∀ x, s.heap.size ≤ x → A0 x) (hNq : (lA q).Nodup) (hA : va_P D vwCl (lX q cI G) H) (hC : sW D u cI cII A0 (fun y => y ∈ lA q) cs H) (R9 : tRel n cm a kn cs) (E : lT n cm a kn G) (hS : va_S A0 s.heap H locs) (x : Nat) (hx9 : x < 134217728)
    (cw : CallB R s args own index yL_isSeen cL_isSeen 21 (some .boolean) wvL_isSeen { frames := 8, cells := 400, slots := 2600, locals := 164 } 400 2600 10 ∧ (Cond.static yL_isSeen).before args s = true) (hsize : ls.size = nL) (hst : st0 = [.ref (u 30), .ref (q 0), .ref (q 1), .ref (q 2), .ref (q 3), .ref (q 4), .ref (q 5), .ref (q 6), .ref (q 7), .int (nI x)].reverse ++ rest) (hW : 2 * (F0 m pc ls st0).monitorRoom + (rest.map fun v => v.category).sum ≤ 8) (hcs : cells + 400 ≤ R.cells ∧ slots + 2600 ≤ R.slots) (hdg : decode cc pc = .ok (.invokestatic index, 3))
    (kk : ∀ (H1 : Heap) (locs1 : List Loc), va_P D vwCl (lX q cI G) H1 → sW D u cI cII A0 (fun y => y ∈ lA q) cs H1 → va_S A0 s.heap H1 locs1 → W p l e9 R s m args below meth c H1 locs1 (cells + 400) (slots + 2600) Q (F0 m (pc + 3) ls (.int 1 :: rest))) :
    W p l e9 R s m args below meth c H locs cells slots Q (F0 m pc ls st0) := by
  obtain ⟨V, pq, sp, cn, e, sz, b, L, w, nx, h1, h2, h3, h4, h5, h6, h7⟩ := hC
  subst h1
  have hfr2 : ∀ x, H.size ≤ x → A0 x := fun x hx => hfr x (Nat.le_trans hS.1 hx)
  have hcg : ∀ x, cG u L H.size x → A0 x := fun x z => z.elim (fun z => (h6 x z).1) (hfr2 x)
  have hMM := lm_isSeen hfl (D := D) (cI := cI) (cII := cII) (sa := sa) (u := u) (q := q) (V := V) (pq := pq) (sp := sp) (z0 := H.size) (F9 := G) h5 h4 h2 h3 hNq (fun y hy z => (h6 y z).2 hy) R9 E x hx9
  have hr := vx_runS (g := F0 m pc ls st0) (p := p) (e := e9) (below := below) (meth := meth) (H := H) (locs := locs) (cells := cells) (slots := slots) (rest := rest) F hMM cw ⟨xc_blind, fun U hU hW => ⟨rfl, by rw [hU], by rw [hU]; exact h7.app hA, va_K.moved hW.alike hK, xF.step hW (fun a h1 h2 => by rw [hU]; exact hS.2.1 a h1 h2) hcg hX⟩⟩ rfl rfl hsize hst hW hdg hcs
  exact sx_core (op := (0, 1, (b, cn, L.map w))) rfl hr hfr2 (lX_lt hA) h6 hS (fun H1 locs1 h1 _ h3 h4 => kk H1 locs1 (hA.kept (fun k x hx => h3 x.1 (lX_ad hx))) h1 h4)
end LCALL
