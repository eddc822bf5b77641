/-! Arrays.fill, and the call of it on a row of the view -/
def upR (V : Nat → Nat → Int32) (k : Nat) (f : Nat → Int32) : Nat → Nat → Int32 := fun z => if z = k then f else V z
def fl_P (D : va_G) (cI cII : ClassId) (a n : Nat) (f : Nat → Int32) (x : Int32) : Array Value → State → Prop := va_Pc [.ref a, .int x] (fun U => va_P D vwCl [(a, .inl (cI, n, .inl f))] U.heap ∧ va_K D vwCl (cT cI cII) U)
def fl_Q (D : va_G) (cI : ClassId) (a n : Nat) (x : Int32) : Array Value → State → Outcome → State → Prop := fun _ st o t => o = .returned none ∧ va_P D vwCl [(a, .inl (cI, n, .inl (fun _ => x)))] t.heap ∧ t.heap.size = st.heap.size ∧ ∀ q : Nat, q ≠ a → t.heap[q]? = st.heap[q]?
set_option maxHeartbeats 4000000 in
set_option maxRecDepth 100000 in
theorem cc_fill (l : Launch) (D : va_G) (cI cII : ClassId) (a n : Nat) (hn : n < 2 ^ 31) (f : Nat → Int32) (x : Int32) : Met l yJ7_fill_53178 wsJ7_fill_53178 { frames := 0, cells := 0, slots := 0, locals := 0 } (fl_P D cI cII a n f x) (fl_Q D cI a n x) 0 0 (fun q => q = a) := by
  refine Met.ofW (cc := cJ7_fill_53178) (maxL := 4) (ret := none) (by decide +kernel) rfl ?_
  intro p e s m args below meth c s₁ B hml hv
  obtain ⟨rfl, hP, hK⟩ := hv
  have hx := B.exec
  have hb := B.bytes
  have hr := B.returns
  have hlocks := B.notSynchronized
  have hl := lv_entry ([.ref a, .int x]) (n := 4) (Nat.le_of_ble_eq_true rfl)
  rw [lg_entry_eq]
  generalize (lg_sl ([.ref a, .int x]) ++ List.replicate (4 - (lg_sl ([.ref a, .int x])).length) Slot.unset).toArray = ls at hl ⊢
  have hl : lv_has ls 4 [(0, .ref a), (1, .int x)] := hl
  refine lv_iconst (v := 0) hx hb dJ7_fill_53178_0 (by decide) ?_
  refine lv_istore_n (lv' := [(2, .int 0), (0, .ref a), (1, .int x)]) hx hb dJ7_fill_53178_1 rfl hl (by decide) rfl (fun ls hl => ?_)
  refine lv_aload_n hx hb dJ7_fill_53178_2 rfl (lv_at hl 1 rfl) ?_
  refine va_alen (v := nI n) hx hb hK hP 0 0 rfl rfl rfl dJ7_fill_53178_3 ?_
  refine lv_istore_n (lv' := [(3, .int (nI n)), (2, .int 0), (0, .ref a), (1, .int x)]) hx hb dJ7_fill_53178_4 rfl hl (by decide) rfl (fun ls hl => ?_)
  have Lp : ∀ (k9 i : Nat) (f2 : Nat → Int32) (H : Heap) (locs : List Loc) (ls : Array Slot), n - i < k9 → i ≤ n → (∀ j, j < i → f2 j = x) → va_P D vwCl [(a, .inl (cI, n, .inl f2))] H → H.size = s.heap.size → (∀ q : Nat, q ≠ a → H[q]? = s.heap[q]?) → (∀ q ∈ locs, q.base = a) → lv_has ls 4 [(2, .int (nI i)), (3, .int (nI n)), (0, .ref a), (1, .int x)] →
      W p l e { frames := 0, cells := 0, slots := 0, locals := 0 } s m [Value.ref a, Value.int x].toArray below meth c H locs 0 0 (MQ below (fl_Q D cI a n x) [Value.ref a, Value.int x].toArray s 0 0 (fun q => q = a)) (F0 m 5 ls []) := by
    intro k9
    induction k9 with
    | zero => intro i f2 H locs ls hk; exact absurd hk (Nat.not_lt_zero _)
    | succ k9 ih =>
      intro i f2 H locs ls hk hi hf hP hsz hfr hlo hl
      refine lv_iload_n hx hb dJ7_fill_53178_5 rfl (lv_at hl 0 rfl) ?_
      refine lv_iload_n hx hb dJ7_fill_53178_6 rfl (lv_at hl 1 rfl) ?_
      refine lw_ge (tgt := 20) hx hb i n (by omega) hn dJ7_fill_53178_7 (by decide) (fun c1 => ?_) (fun c1 => ?_)
      · refine W.vret hx hb hr (fun t ht hW => ⟨rfl, ?_, by rw [ht]; exact hsz, fun q hq => by rw [ht]; exact hfr q hq⟩) hlo dJ7_fill_53178_20
        rw [ht]
        intro k q hk2
        have h0 : k < 1 := (List.getElem?_eq_some_iff.mp hk2).1
        have h1 := hP 0 _ rfl
        rw [show k = 0 by omega] at hk2
        cases hk2
        show H[a]? = some (vp_cell cI (n, .inl (fun _ => x)))
        have h2 : H[a]? = some (vp_cell cI (n, .inl f2)) := h1
        rw [h2, vp_cell_i, vp_cell_i, arrV_congr (fun j hj => by rw [hf j (by omega)])]
      · refine lv_aload_n hx hb dJ7_fill_53178_10 rfl (lv_at hl 2 rfl) ?_
        refine lv_iload_n hx hb dJ7_fill_53178_11 rfl (lv_at hl 0 rfl) ?_
        refine lv_iload_n hx hb dJ7_fill_53178_12 rfl (lv_at hl 3 rfl) ?_
        refine W.iast hx hb (hP 0 _ rfl) ((hK.2 0 _ rfl).1 n (fun j => .int (f2 j))) (fun q => by cases q) (by show ¬ (nI i < 0 ∨ (arrV _ _ _).slots.size ≤ _); rw [arrV_size]; exact vp_in_nI c1 hn) rfl rfl dJ7_fill_53178_13 (fun H1 e1 z oq => ?_)
        refine W.eq (g2 := F0 m 14 ls []) rfl ?_
        refine lv_iinc (v := nI (i + 1)) (lv' := [(2, .int (nI (i + 1))), (3, .int (nI n)), (0, .ref a), (1, .int x)]) hx hb dJ7_fill_53178_14 hl (k := 0) rfl (show nI i + Int32.ofInt 1 = _ from nI_add i 1) (by decide) rfl (fun ls hl => ?_)
        refine lv_goto (tgt := 5) hx hb dJ7_fill_53178_17 (by decide) ?_
        refine ih (i + 1) (upd f2 i x) H1 _ ls (by omega) (by omega) (fun j hj => ?_) ?_ (z.trans hsz) (fun q hq => (oq q hq).trans (hfr q hq)) (fun q hq => ?_) hl
        · by_cases h : j = i
          · subst h; exact pk_us
          · rw [pk_un h]; exact hf j (by omega)
        · intro k q hk2
          have h0 : k < 1 := (List.getElem?_eq_some_iff.mp hk2).1
          rw [show k = 0 by omega] at hk2
          cases hk2
          show H1[a]? = some (vp_cell cI (n, .inl (upd f2 i x)))
          rw [e1, nI_clamp (by omega)]
          rw [vp_cell_i, vp_cell_i, arrV_store]
          congr 2
          funext j
          by_cases h : j = i
          · subst h; rw [pk_us]; simp [updV]
          · rw [pk_un h]; simp [updV, h]
        · rcases List.mem_append.mp hq with h | h
          · exact hlo q h
          · rw [List.mem_singleton] at h; rw [h]
  exact Lp (n + 1) 0 f s.heap [] ls (by omega) (Nat.zero_le _) (fun j hj => absurd hj (Nat.not_lt_zero _)) hP rfl (fun _ _ => rfl) (fun q h => absurd h List.not_mem_nil) (lv_sub hl [1, 0, 2, 3] rfl)
section FILL
variable {p : Program} {l : Launch} {e9 : Env} {R : Room} {s : State} {m : MethodId} {args : Array Value} {below : List Frame} {meth : Method} {c : Code} {H : Heap} {locs : List Loc} {cells slots : Nat} {Q : State → Prop}
variable {cc : ByteArray} {pc nL index : Nat} {ls : Array Slot} {rest : List Value} {Ts : List Cond} {own : String} {D : va_G} {A : Nat → Prop} {H0 : Heap}
variable {u : Nat → Nat} {cI cII : ClassId} {V : Nat → Nat → Int32} {pq sp : Int32} {cn : Nat} {e : Option Nat} {sz : Nat} {b : Nat → Nat → Int32} {L : List Nat} {w : Nat → Nat → Int32} {nx : Nat → Option Nat}
theorem fl_call (F : CallFix p m c cc nL s args Ts own) (hK : va_K D vwCl (cT cI cII) s) (hN : (cAd u ++ L).Nodup) (hA : ∀ x, x ∈ cAd u ∨ x ∈ L → A x) (hP : va_P D vwCl (cW u cI cII V pq sp cn e sz b L w nx) H) (hS : va_S A H0 H locs) (k pl len : Nat) (hlen : len < 2 ^ 31) (hpl : (cW u cI cII V pq sp cn e sz b L w nx)[pl]? = some (u k, .inl (cI, len, .inl (V k)))) (hk : u k ∈ cAd u) {x : Int32}
    (hset : (cW u cI cII V pq sp cn e sz b L w nx).set pl (u k, .inl (cI, len, .inl (fun _ => x))) = cW u cI cII (upR V k (fun _ => x)) pq sp cn e sz b L w nx)
    (cw : CallB R s args own index yJ7_fill_53178 cJ7_fill_53178 4 none wsJ7_fill_53178 { frames := 0, cells := 0, slots := 0, locals := 0 } 0 0 2 ∧ (Cond.static yJ7_fill_53178).before args s = true) (hsize : ls.size = nL) (hW : 2 * (F0 m pc ls (.int x :: .ref (u k) :: rest)).monitorRoom + (rest.map fun v => v.category).sum ≤ 8) (hcs : cells ≤ R.cells ∧ slots ≤ R.slots) (hdg : decode cc pc = .ok (.invokestatic index, 3))
    (kk : ∀ (H1 : Heap) (locs1 : List Loc), va_P D vwCl (cW u cI cII (upR V k (fun _ => x)) pq sp cn e sz b L w nx) H1 → va_S A H0 H1 locs1 → W p l e9 R s m args below meth c H1 locs1 cells slots Q (F0 m (pc + 3) ls rest)) : W p l e9 R s m args below meth c H locs cells slots Q (F0 m pc ls (.int x :: .ref (u k) :: rest)) := by
  have hP1 : va_P D vwCl [(u k, .inl (cI, len, .inl (V k)))] H := by
    intro k2 q2 h2
    have h0 : k2 < 1 := (List.getElem?_eq_some_iff.mp h2).1
    rw [show k2 = 0 by omega] at h2
    cases h2
    exact hP pl _ hpl
  have hr : va_Run p l e9 R s m args below meth c H locs cells slots 0 0 (F0 m pc ls (.int x :: .ref (u k) :: rest)) rest (fl_Q D cI (u k) len x ([.ref (u k), .int x] : List Value).toArray) (fun q => q = u k) := va_runS (As := [.ref (u k), .int x]) (rest := rest) (g := F0 m pc ls (.int x :: .ref (u k) :: rest)) F (cc_fill l D cI cII (u k) len hlen (V k) x) cw ⟨fun a U g mk h => ⟨h.1, h.2.1, va_K.moved (u := U) (U := U.calling g mk a) (Vm.Alike.refl U.vm) h.2.2⟩, fun U hU hW => ⟨rfl, by rw [hU]; exact hP1, va_K.moved hW.alike hK⟩⟩ rfl rfl hsize rfl hW hdg ⟨hcs.1, hcs.2⟩
  intro T hT X
  obtain ⟨v, st₀, t, T', Lc, h0, X', hL, e1, e2, ⟨hv, hq, hz, hk3⟩, st⟩ := hr T hT X
  cases hv
  rw [h0] at hz hk3
  have hAk : A (u k) := hA _ (Or.inl hk)
  have hPn := hP.set (cD hN hA cI cII V pq sp cn e sz b w nx) hpl (show va_at D vwCl (u k, .inl (cI, len, .inl (fun _ => x))) T'.heap from by rw [e1]; exact hq 0 _ rfl) (fun q hq2 => by rw [e1]; exact hk3 q hq2)
  rw [hset] at hPn
  obtain ⟨t2, a1, b1⟩ := kk T'.heap (locs ++ Lc) hPn ⟨by rw [e1, hz]; exact hS.1, fun q h1 h2 => by rw [e1, hk3 q (fun z => h2 (by rw [z]; exact hAk))]; exact hS.2.1 q h1 h2, fun z hz2 => by
    rcases List.mem_append.mp hz2 with y | y
    · exact hS.2.2 z y
    · rw [hL z y]; exact hAk⟩ T' rfl X'
  exact ⟨t2, st t2 a1, b1⟩
end FILL
set_option maxHeartbeats 4000000 in
set_option maxRecDepth 100000 in
theorem cc_X0_forget {l : Launch} {D : va_G} {cI cII : ClassId} {u : Nat → Nat} {V : Nat → Nat → Int32} {pq sp : Int32} {cn : Nat} {e : Option Nat} {sz : Nat} {b : Nat → Nat → Int32} {L : List Nat} {w : Nat → Nat → Int32} {nx : Nat → Option Nat} {z0 : Nat} (hN : (cAd u ++ L).Nodup)   : cw_Met l yX0_forget wsX0_forget 1 0 0 23 D u cI cII z0 L (cW u cI cII V pq sp cn e sz b L w nx) [.ref (u 32)] kV (cEq 0 fgV 0 0 cn e sz b L w nx) := by
  suffices h9 : ∀ L0, L0 = L → cw_Met l yX0_forget wsX0_forget 1 0 0 23 D u cI cII z0 L0 (cW u cI cII V pq sp cn e sz b L w nx) [.ref (u 32)] kV (cEq 0 fgV 0 0 cn e sz b L w nx) by exact h9 _ rfl
  intro L0 hL0
  have hLz : ∀ a, a ∈ L → a ∈ L0 ∨ z0 ≤ a := fun a z => Or.inl (by rw [hL0]; exact z)
  refine cw_start rfl (by decide +kernel) (Nat.le_of_ble_eq_true rfl) (fun p e9 s m below meth c F hr hlocks hK hz H locs hP hS hz9 ls hl => ?_)
  have hl : lv_has ls 1 [(0, .ref (u 32))] := hl
  have hx := F.1
  have hb := F.2.1
  have hinV : ∀ w ∈ wsX00, w ∈ wsX0_forget := by decide +kernel
  refine lv_aload_n hx hb dX0_forget_0 rfl (lv_at hl 0 rfl) ?_
  refine vg_get F hK hinV (cPv hP) 0 (by decide) (by decide +kernel) rfl dX0_forget_1 ?_
  refine lv_iconst (v := (-1)) hx hb dX0_forget_4 (by decide) ?_
  refine fl_call F hK hN (cG_in hLz) hP hS 0 1 40 (by decide) rfl (by simp [cAd]) rfl (va_cwS 2 F.2.2.2.2 gX0_forget_J7_fill_53178 rfl rfl rfl (by decide +kernel) ⟨Nat.le_of_ble_eq_true rfl, Nat.le_of_ble_eq_true rfl⟩) hl.1 (lv_room (Nat.le_of_ble_eq_true rfl)) ⟨Nat.zero_le _, Nat.zero_le _⟩ dX0_forget_5 (fun H locs hP hS => ?_)
  refine lv_aload_n hx hb dX0_forget_8 rfl (lv_at hl 0 rfl) ?_
  refine vg_get F hK hinV (cPv hP) 1 (by decide) (by decide +kernel) rfl dX0_forget_9 ?_
  refine lv_iconst (v := 0) hx hb dX0_forget_12 (by decide) ?_
  refine fl_call F hK hN (cG_in hLz) hP hS 1 2 40 (by decide) rfl (by simp [cAd]) rfl (va_cwS 2 F.2.2.2.2 gX0_forget_J7_fill_53178 rfl rfl rfl (by decide +kernel) ⟨Nat.le_of_ble_eq_true rfl, Nat.le_of_ble_eq_true rfl⟩) hl.1 (lv_room (Nat.le_of_ble_eq_true rfl)) ⟨Nat.zero_le _, Nat.zero_le _⟩ dX0_forget_13 (fun H locs hP hS => ?_)
  refine lv_aload_n hx hb dX0_forget_16 rfl (lv_at hl 0 rfl) ?_
  refine vg_get F hK hinV (cPv hP) 2 (by decide) (by decide +kernel) rfl dX0_forget_17 ?_
  refine lv_iconst (v := (-1)) hx hb dX0_forget_20 (by decide) ?_
  refine fl_call F hK hN (cG_in hLz) hP hS 2 3 40 (by decide) rfl (by simp [cAd]) rfl (va_cwS 2 F.2.2.2.2 gX0_forget_J7_fill_53178 rfl rfl rfl (by decide +kernel) ⟨Nat.le_of_ble_eq_true rfl, Nat.le_of_ble_eq_true rfl⟩) hl.1 (lv_room (Nat.le_of_ble_eq_true rfl)) ⟨Nat.zero_le _, Nat.zero_le _⟩ dX0_forget_21 (fun H locs hP hS => ?_)
  refine lv_aload_n hx hb dX0_forget_24 rfl (lv_at hl 0 rfl) ?_
  refine vg_get F hK hinV (cPv hP) 3 (by decide) (by decide +kernel) rfl dX0_forget_25 ?_
  refine lv_iconst (v := 0) hx hb dX0_forget_28 (by decide) ?_
  refine fl_call F hK hN (cG_in hLz) hP hS 3 4 8 (by decide) rfl (by simp [cAd]) rfl (va_cwS 2 F.2.2.2.2 gX0_forget_J7_fill_53178 rfl rfl rfl (by decide +kernel) ⟨Nat.le_of_ble_eq_true rfl, Nat.le_of_ble_eq_true rfl⟩) hl.1 (lv_room (Nat.le_of_ble_eq_true rfl)) ⟨Nat.zero_le _, Nat.zero_le _⟩ dX0_forget_29 (fun H locs hP hS => ?_)
  refine lv_aload_n hx hb dX0_forget_32 rfl (lv_at hl 0 rfl) ?_
  refine vg_get F hK hinV (cPv hP) 4 (by decide) (by decide +kernel) rfl dX0_forget_33 ?_
  refine lv_iconst (v := (-1)) hx hb dX0_forget_36 (by decide) ?_
  refine fl_call F hK hN (cG_in hLz) hP hS 4 5 8 (by decide) rfl (by simp [cAd]) rfl (va_cwS 2 F.2.2.2.2 gX0_forget_J7_fill_53178 rfl rfl rfl (by decide +kernel) ⟨Nat.le_of_ble_eq_true rfl, Nat.le_of_ble_eq_true rfl⟩) hl.1 (lv_room (Nat.le_of_ble_eq_true rfl)) ⟨Nat.zero_le _, Nat.zero_le _⟩ dX0_forget_37 (fun H locs hP hS => ?_)
  refine lv_aload_n hx hb dX0_forget_40 rfl (lv_at hl 0 rfl) ?_
  refine vg_get F hK hinV (cPv hP) 5 (by decide) (by decide +kernel) rfl dX0_forget_41 ?_
  refine lv_iconst (v := 0) hx hb dX0_forget_44 (by decide) ?_
  refine fl_call F hK hN (cG_in hLz) hP hS 5 6 8 (by decide) rfl (by simp [cAd]) rfl (va_cwS 2 F.2.2.2.2 gX0_forget_J7_fill_53178 rfl rfl rfl (by decide +kernel) ⟨Nat.le_of_ble_eq_true rfl, Nat.le_of_ble_eq_true rfl⟩) hl.1 (lv_room (Nat.le_of_ble_eq_true rfl)) ⟨Nat.zero_le _, Nat.zero_le _⟩ dX0_forget_45 (fun H locs hP hS => ?_)
  refine lv_aload_n hx hb dX0_forget_48 rfl (lv_at hl 0 rfl) ?_
  refine vg_get F hK hinV (cPv hP) 6 (by decide) (by decide +kernel) rfl dX0_forget_49 ?_
  refine lv_iconst (v := 0) hx hb dX0_forget_52 (by decide) ?_
  refine fl_call F hK hN (cG_in hLz) hP hS 6 7 20 (by decide) rfl (by simp [cAd]) rfl (va_cwS 2 F.2.2.2.2 gX0_forget_J7_fill_53178 rfl rfl rfl (by decide +kernel) ⟨Nat.le_of_ble_eq_true rfl, Nat.le_of_ble_eq_true rfl⟩) hl.1 (lv_room (Nat.le_of_ble_eq_true rfl)) ⟨Nat.zero_le _, Nat.zero_le _⟩ dX0_forget_53 (fun H locs hP hS => ?_)
  refine lv_aload_n hx hb dX0_forget_56 rfl (lv_at hl 0 rfl) ?_
  refine vg_get F hK hinV (cPv hP) 7 (by decide) (by decide +kernel) rfl dX0_forget_57 ?_
  refine lv_iconst (v := 0) hx hb dX0_forget_60 (by decide) ?_
  refine fl_call F hK hN (cG_in hLz) hP hS 7 8 20 (by decide) rfl (by simp [cAd]) rfl (va_cwS 2 F.2.2.2.2 gX0_forget_J7_fill_53178 rfl rfl rfl (by decide +kernel) ⟨Nat.le_of_ble_eq_true rfl, Nat.le_of_ble_eq_true rfl⟩) hl.1 (lv_room (Nat.le_of_ble_eq_true rfl)) ⟨Nat.zero_le _, Nat.zero_le _⟩ dX0_forget_61 (fun H locs hP hS => ?_)
  refine lv_aload_n hx hb dX0_forget_64 rfl (lv_at hl 0 rfl) ?_
  refine lv_iconst (v := 0) hx hb dX0_forget_65 (by decide) ?_
  refine vv_put F hK hinV hN (cG_in hLz) hP hS 8 0 sp rfl (by decide) (by decide +kernel) rfl rfl dX0_forget_66 (fun H locs hP hS => ?_)
  refine lv_aload_n hx hb dX0_forget_69 rfl (lv_at hl 0 rfl) ?_
  refine lv_iconst (v := 0) hx hb dX0_forget_70 (by decide) ?_
  refine vv_put F hK hinV hN (cG_in hLz) hP hS 9 0 0 rfl (by decide) (by decide +kernel) rfl rfl dX0_forget_71 (fun H locs hP hS => ?_)
  have hP : va_P D vwCl (cW u cI cII fgV 0 0 cn e sz b L w nx) H := hP
  exact cw_retv F hr hlocks hP hS (⟨rfl, rfl, rfl, rfl, rfl, rfl, rfl, rfl, rfl, rfl, rfl⟩) (by omega) (by omega) dX0_forget_74
set_option maxHeartbeats 4000000 in
set_option maxRecDepth 100000 in
theorem cc_X0_read {l : Launch} {D : va_G} {cI cII : ClassId} {u : Nat → Nat} {V : Nat → Nat → Int32} {pq sp : Int32} {cn : Nat} {e : Option Nat} {sz : Nat} {b : Nat → Nat → Int32} {L : List Nat} {w : Nat → Nat → Int32} {nx : Nat → Option Nat} {z0 : Nat} (hN : (cAd u ++ L).Nodup) (fr : Int32) (hch : chn nx L) (he : e = L.head?) (hok : ∀ x, x ∈ L → okW (w x)) : cw_Met l yX0_read wsX0_read 4 0 0 95 D u cI cII z0 L (cW u cI cII V pq sp cn e sz b L w nx) [.ref (u 32), .ref (u 31), .int fr, .ref (u 12)] kV (cEq 0 (rdV w fr (b 12) L).1 (rdV w fr (b 12) L).2.1 (rdV w fr (b 12) L).2.2 cn e sz b L w nx) := by
  suffices h9 : ∀ L0, L0 = L → cw_Met l yX0_read wsX0_read 4 0 0 95 D u cI cII z0 L0 (cW u cI cII V pq sp cn e sz b L w nx) [.ref (u 32), .ref (u 31), .int fr, .ref (u 12)] kV (cEq 0 (rdV w fr (b 12) L).1 (rdV w fr (b 12) L).2.1 (rdV w fr (b 12) L).2.2 cn e sz b L w nx) by exact h9 _ rfl
  intro L0 hL0
  have hLz : ∀ a, a ∈ L → a ∈ L0 ∨ z0 ≤ a := fun a z => Or.inl (by rw [hL0]; exact z)
  refine cw_start rfl (by decide +kernel) (Nat.le_of_ble_eq_true rfl) (fun p e9 s m below meth c F hr hlocks hK hz H locs hP hS hz9 ls hl => ?_)
  have hl : lv_has ls 5 [(0, .ref (u 32)), (1, .ref (u 31)), (2, .int fr), (3, .ref (u 12))] := hl
  have hx := F.1
  have hb := F.2.1
  have hinV : ∀ w ∈ wsX00, w ∈ wsX0_read := by decide +kernel
  have hinK : ∀ w ∈ wsX20, w ∈ wsX0_read := by decide +kernel
  have hinW : ∀ w ∈ wsX10, w ∈ wsX0_read := by decide +kernel
  refine lv_aload_n hx hb dX0_read_0 rfl (lv_at hl 0 rfl) ?_
  refine cw_callV F hK [] (cc_X0_forget hN  ) (cwV 0 F.2.2.2.2 gX0_read_X0_forget rfl rfl rfl (by decide +kernel) ⟨Nat.le_of_ble_eq_true rfl, Nat.le_of_ble_eq_true rfl⟩) (vg_rc hK (cPv hP)) hP hS (cG_sub hLz (Nat.le_trans (Nat.le_of_eq hz.symm) hS.1)) rfl hl.1 rfl (lv_room (Nat.le_of_ble_eq_true rfl)) ⟨Nat.zero_le _, Nat.zero_le _⟩ dX0_read_1 (fun r_w_1 ra_w_1 V_w_1 pc_w_1 sp_w_1 cc_w_1 e_w_1 sz_w_1 b_w_1 L_w_1 w_w_1 nx_w_1 H locs hp_w_1 hP hsz_w_1 hfr_w_1 hS => ?_)
  obtain ⟨e1_w_1, e2_w_1, e3_w_1, e4_w_1, e5_w_1, e6_w_1, e7_w_1, e8_w_1, e9_w_1, e10_w_1, e11_w_1⟩ := hp_w_1
  rw [e2_w_1, e3_w_1, e4_w_1, e5_w_1, e6_w_1, e7_w_1, e8_w_1, e9_w_1, e10_w_1, e11_w_1] at hP
  refine lv_aload_n hx hb dX0_read_4 rfl (lv_at hl 1 rfl) ?_
  refine kg_get F hK hinK (cPc hP) 0 (by decide) (by decide +kernel) rfl dX0_read_5 ?_
  refine lw_V (v' := va_rf L.head?) (by rw [he]) ?_
  refine lw_astoreR (lv' := [(4, va_rf (L.head?)), (0, .ref (u 32)), (1, .ref (u 31)), (2, .int fr), (3, .ref (u 12))]) hx hb dX0_read_8 hl (by decide) rfl (fun ls hl => ?_)
  have L10_u_2 : ∀ (k9u_2 : Nat) (M : List Nat) (V2 : Nat → Nat → Int32) (pq2 : Int32) (sp2 : Int32) (H : Heap) (locs : List Loc) (ls : Array Slot), M.length < k9u_2 → (∀ z, z ∈ M → z ∈ L) → chn nx M → (∀ z, z ∈ M → okW (w z)) → rd1 w fr M (V2, pq2, sp2) = rd1 w fr L (fgV, 0, 0) → va_P D vwCl (cW u cI cII V2 pq2 sp2 cn e sz b L w nx) H → va_S (cG u L0 z0) s.heap H locs → lv_has ls 5 [(4, va_rf (M.head?)), (0, .ref (u 32)), (1, .ref (u 31)), (2, .int fr), (3, .ref (u 12))] → cwW p l e9 4 0 0 95 s m [.ref (u 32), .ref (u 31), .int fr, .ref (u 12)] below meth c H locs 0 0 D u cI cII z0 L0 kV (cEq 0 (rdV w fr (b 12) L).1 (rdV w fr (b 12) L).2.1 (rdV w fr (b 12) L).2.2 cn e sz b L w nx) (F0 m 10 ls []) := by
    intro k9u_2
    induction k9u_2 with
    | zero => intro M V2 pq2 sp2 H locs ls hk; exact absurd hk (Nat.not_lt_zero _)
    | succ k9u_2 ihu_2 =>
      intro M V2 pq2 sp2 H locs ls hk hsub hch9 hok9 hf hP hS hl
      refine lw_aloadR hx hb dX0_read_10 (lv_at hl 0 rfl) ?_
      refine lw_ifnullR (tgt := 41) hx hb dX0_read_12 (by decide) (fun c_3 => ?_) (fun x c_3 => ?_)
      · skip
        rw [c_3] at hl
        have hl : lv_has ls 5 [(4, .null), (0, .ref (u 32)), (1, .ref (u 31)), (2, .int fr), (3, .ref (u 12))] := hl
        have hM : M = [] := by cases M with | nil => rfl | cons z M2 => cases c_3
        subst hM
        have hd1 : rd1 w fr L (fgV, 0, 0) = (V2, pq2, sp2) := hf.symm
        refine lv_aload_n hx hb dX0_read_41 rfl (lv_at hl 2 rfl) ?_
        refine kg_get F hK hinK (cPc hP) 0 (by decide) (by decide +kernel) rfl dX0_read_42 ?_
        refine lw_V (v' := va_rf L.head?) (by rw [he]) ?_
        refine lw_astoreR (lv' := [(4, va_rf (L.head?)), (0, .ref (u 32)), (1, .ref (u 31)), (2, .int fr), (3, .ref (u 12))]) hx hb dX0_read_45 hl (by decide) rfl (fun ls hl => ?_)
        have L47_u_4 : ∀ (k9u_4 : Nat) (M : List Nat) (V2 : Nat → Nat → Int32) (H : Heap) (locs : List Loc) (ls : Array Slot), M.length < k9u_4 → (∀ z, z ∈ M → z ∈ L) → chn nx M → (∀ z, z ∈ M → okW (w z)) → kR2 V2 → rd2 w fr (b 12) M V2 = rd2 w fr (b 12) L (rd1 w fr L (fgV, 0, 0)).1 → va_P D vwCl (cW u cI cII V2 pq2 sp2 cn e sz b L w nx) H → va_S (cG u L0 z0) s.heap H locs → lv_has ls 5 [(4, va_rf (M.head?)), (0, .ref (u 32)), (1, .ref (u 31)), (2, .int fr), (3, .ref (u 12))] → cwW p l e9 4 0 0 95 s m [.ref (u 32), .ref (u 31), .int fr, .ref (u 12)] below meth c H locs 0 0 D u cI cII z0 L0 kV (cEq 0 (rdV w fr (b 12) L).1 (rdV w fr (b 12) L).2.1 (rdV w fr (b 12) L).2.2 cn e sz b L w nx) (F0 m 47 ls []) := by
          intro k9u_4
          induction k9u_4 with
          | zero => intro M V2 H locs ls hk; exact absurd hk (Nat.not_lt_zero _)
          | succ k9u_4 ihu_4 =>
            intro M V2 H locs ls hk hsub hch9 hok9 hk2 hf hP hS hl
            refine lw_aloadR hx hb dX0_read_47 (lv_at hl 0 rfl) ?_
            refine lw_ifnullR (tgt := 96) hx hb dX0_read_49 (by decide) (fun c_5 => ?_) (fun x c_5 => ?_)
            · skip
              rw [c_5] at hl
              have hl : lv_has ls 5 [(4, .null), (0, .ref (u 32)), (1, .ref (u 31)), (2, .int fr), (3, .ref (u 12))] := hl
              have hM : M = [] := by cases M with | nil => rfl | cons z M2 => cases c_5
              subst hM
              exact cw_retv F hr hlocks hP hS (⟨rfl, hf, by show _ = (rd1 w fr L (fgV, 0, 0)).2.1; rw [hd1], by show _ = (rd1 w fr L (fgV, 0, 0)).2.2; rw [hd1], rfl, rfl, rfl, rfl, rfl, rfl, rfl⟩) (by omega) (by omega) dX0_read_96
            · skip
              rw [c_5] at hl
              have hl : lv_has ls 5 [(4, .ref x), (0, .ref (u 32)), (1, .ref (u 31)), (2, .int fr), (3, .ref (u 12))] := hl
              obtain ⟨M2, rfl⟩ : ∃ M2, M = x :: M2 := by cases M with | nil => cases c_5 | cons z M2 => cases c_5; exact ⟨M2, rfl⟩
              refine lv_aload hx hb dX0_read_52 (lv_at hl 0 rfl) ?_
              refine wg_get F hK hinW (cPw hP) (hsub x List.mem_cons_self) 0 (by decide) (by decide +kernel) rfl dX0_read_54 ?_
              refine lv_iconst (v := 4) hx hb dX0_read_57 (by decide) ?_
              refine lv_icmp_ne (tgt := 86) hx hb dX0_read_58 (by decide) (fun c_6 => ?_) (fun c_6 => ?_)
              · skip
                refine lv_aload hx hb dX0_read_86 (lv_at hl 0 rfl) ?_
                refine wg_get F hK hinW (cPw hP) (hsub x List.mem_cons_self) 9 (by decide) (by decide +kernel) rfl dX0_read_88 ?_
                refine lw_V (v' := va_rf M2.head?) (by rw [hch9.1]) ?_
                refine lw_astoreR (lv' := [(4, va_rf (M2.head?)), (0, .ref (u 32)), (1, .ref (u 31)), (2, .int fr), (3, .ref (u 12))]) hx hb dX0_read_91 hl (by decide) rfl (fun ls hl => ?_)
                refine lv_goto (tgt := 47) hx hb dX0_read_93 (by decide) ?_
                exact ihu_4  M2 V2 _ _ ls (by have z := hk; simp at z; omega) (fun z hz => hsub z (List.mem_cons_of_mem _ hz)) (hch9.2) (fun z hz => hok9 z (List.mem_cons_of_mem _ hz)) (hk2) (by rw [← hf]; simp [rd2, c_6]) hP hS (lv_sub hl [0, 1, 2, 3, 4] rfl)
              · skip
                refine lv_aload hx hb dX0_read_61 (lv_at hl 0 rfl) ?_
                refine wg_get F hK hinW (cPw hP) (hsub x List.mem_cons_self) 8 (by decide) (by decide +kernel) rfl dX0_read_63 ?_
                refine lv_iload_n hx hb dX0_read_66 rfl (lv_at hl 3 rfl) ?_
                refine lv_iand hx hb dX0_read_67 ?_
                refine lv_if_eq (tgt := 86) hx hb dX0_read_68 (by decide) (fun c_7 => ?_) (fun c_7 => ?_)
                · skip
                  refine lv_aload hx hb dX0_read_86 (lv_at hl 0 rfl) ?_
                  refine wg_get F hK hinW (cPw hP) (hsub x List.mem_cons_self) 9 (by decide) (by decide +kernel) rfl dX0_read_88 ?_
                  refine lw_V (v' := va_rf M2.head?) (by rw [hch9.1]) ?_
                  refine lw_astoreR (lv' := [(4, va_rf (M2.head?)), (0, .ref (u 32)), (1, .ref (u 31)), (2, .int fr), (3, .ref (u 12))]) hx hb dX0_read_91 hl (by decide) rfl (fun ls hl => ?_)
                  refine lv_goto (tgt := 47) hx hb dX0_read_93 (by decide) ?_
                  exact ihu_4  M2 V2 _ _ ls (by have z := hk; simp at z; omega) (fun z hz => hsub z (List.mem_cons_of_mem _ hz)) (hch9.2) (fun z hz => hok9 z (List.mem_cons_of_mem _ hz)) (hk2) (by rw [← hf]; simp [rd2, c_6, c_7]) hP hS (lv_sub hl [0, 1, 2, 3, 4] rfl)
                · skip
                  obtain ⟨j3, hj3, ej3⟩ := (hok9 x List.mem_cons_self).2.1 (Or.inr (Or.inr c_6))
                  obtain ⟨j4, hj4, ej4⟩ := (hok9 x List.mem_cons_self).2.2.2 (Or.inr (Or.inl c_6))
                  have nj3 : jn (w x 3) = j3 := by rw [ej3]; exact jn_nI (by omega)
                  have nj4 : jn (w x 4) = j4 := by rw [ej4]; exact jn_nI (by omega)
                  refine lv_aload_n hx hb dX0_read_71 rfl (lv_at hl 1 rfl) ?_
                  refine lv_aload hx hb dX0_read_72 (lv_at hl 0 rfl) ?_
                  refine wg_get F hK hinW (cPw hP) (hsub x List.mem_cons_self) 3 (by decide) (by decide +kernel) rfl dX0_read_74 ?_
                  refine lv_aload hx hb dX0_read_77 (lv_at hl 0 rfl) ?_
                  refine wg_get F hK hinW (cPw hP) (hsub x List.mem_cons_self) 4 (by decide) (by decide +kernel) rfl dX0_read_79 ?_
                  refine lv_aload_n hx hb dX0_read_82 rfl (lv_at hl 4 rfl) ?_
                  refine cw_callV F hK [.int (nI j3), .int (nI j4), .ref (u 12)] (cc_X0_hearKeep hN j3 j4 (by first | assumption | omega) (by first | assumption | omega) (hk2 j3)) (cwV 3 F.2.2.2.2 gX0_read_X0_hearKeep rfl rfl rfl (by decide +kernel) ⟨Nat.le_of_ble_eq_true rfl, Nat.le_of_ble_eq_true rfl⟩) (vg_rc hK (cPv hP)) hP hS (cG_sub hLz (Nat.le_trans (Nat.le_of_eq hz.symm) hS.1)) rfl hl.1 (by first | (rw [ej3, ej4]; done) | (rw [ej3, ej4]; rfl)) (lv_room (Nat.le_of_ble_eq_true rfl)) ⟨Nat.zero_le _, Nat.zero_le _⟩ dX0_read_83 (fun r_w_8 ra_w_8 V_w_8 pc_w_8 sp_w_8 cc_w_8 e_w_8 sz_w_8 b_w_8 L_w_8 w_w_8 nx_w_8 H locs hp_w_8 hP hsz_w_8 hfr_w_8 hS => ?_)
                  obtain ⟨e1_w_8, e2_w_8, e3_w_8, e4_w_8, e5_w_8, e6_w_8, e7_w_8, e8_w_8, e9_w_8, e10_w_8, e11_w_8⟩ := hp_w_8
                  rw [e2_w_8, e3_w_8, e4_w_8, e5_w_8, e6_w_8, e7_w_8, e8_w_8, e9_w_8, e10_w_8, e11_w_8] at hP
                  refine lv_aload hx hb dX0_read_86 (lv_at hl 0 rfl) ?_
                  refine wg_get F hK hinW (cPw hP) (hsub x List.mem_cons_self) 9 (by decide) (by decide +kernel) rfl dX0_read_88 ?_
                  refine lw_V (v' := va_rf M2.head?) (by rw [hch9.1]) ?_
                  refine lw_astoreR (lv' := [(4, va_rf (M2.head?)), (0, .ref (u 32)), (1, .ref (u 31)), (2, .int fr), (3, .ref (u 12))]) hx hb dX0_read_91 hl (by decide) rfl (fun ls hl => ?_)
                  refine lv_goto (tgt := 47) hx hb dX0_read_93 (by decide) ?_
                  exact ihu_4  M2 (hkV V2 (b 12) j3 j4) _ _ ls (by have z := hk; simp at z; omega) (fun z hz => hsub z (List.mem_cons_of_mem _ hz)) (hch9.2) (fun z hz => hok9 z (List.mem_cons_of_mem _ hz)) (kR2_hk hk2 _ _ _ hj4) (by rw [← hf]; simp [rd2, c_6, c_7, nj3, nj4]) hP hS (lv_sub hl [0, 1, 2, 3, 4] rfl)
        exact L47_u_4 _ L V2 _ _ ls (Nat.lt_succ_self _) (fun _ z => z) (hch) (hok) (by have z := rd1_2 w fr L (fgV, 0, 0); rw [hd1] at z; intro t; rw [show V2 2 = fgV 2 from z]; exact Or.inl rfl) (by rw [hd1]) hP hS (lv_sub hl [0, 1, 2, 3, 4] rfl)
      · skip
        rw [c_3] at hl
        have hl : lv_has ls 5 [(4, .ref x), (0, .ref (u 32)), (1, .ref (u 31)), (2, .int fr), (3, .ref (u 12))] := hl
        obtain ⟨M2, rfl⟩ : ∃ M2, M = x :: M2 := by cases M with | nil => cases c_3 | cons z M2 => cases c_3; exact ⟨M2, rfl⟩
        refine lv_aload hx hb dX0_read_15 (lv_at hl 0 rfl) ?_
        refine wg_get F hK hinW (cPw hP) (hsub x List.mem_cons_self) 8 (by decide) (by decide +kernel) rfl dX0_read_17 ?_
        refine lv_iload_n hx hb dX0_read_20 rfl (lv_at hl 3 rfl) ?_
        refine lv_iand hx hb dX0_read_21 ?_
        refine lv_if_eq (tgt := 31) hx hb dX0_read_22 (by decide) (fun c_9 => ?_) (fun c_9 => ?_)
        · skip
          refine lv_aload hx hb dX0_read_31 (lv_at hl 0 rfl) ?_
          refine wg_get F hK hinW (cPw hP) (hsub x List.mem_cons_self) 9 (by decide) (by decide +kernel) rfl dX0_read_33 ?_
          refine lw_V (v' := va_rf M2.head?) (by rw [hch9.1]) ?_
          refine lw_astoreR (lv' := [(4, va_rf (M2.head?)), (0, .ref (u 32)), (1, .ref (u 31)), (2, .int fr), (3, .ref (u 12))]) hx hb dX0_read_36 hl (by decide) rfl (fun ls hl => ?_)
          refine lv_goto (tgt := 10) hx hb dX0_read_38 (by decide) ?_
          exact ihu_2  M2 V2 pq2 sp2 _ _ ls (by have z := hk; simp at z; omega) (fun z hz => hsub z (List.mem_cons_of_mem _ hz)) (hch9.2) (fun z hz => hok9 z (List.mem_cons_of_mem _ hz)) (by rw [← hf]; simp [rd1, c_9]) hP hS (lv_sub hl [0, 1, 2, 3, 4] rfl)
        · skip
          refine lv_aload_n hx hb dX0_read_25 rfl (lv_at hl 1 rfl) ?_
          refine lv_aload hx hb dX0_read_26 (lv_at hl 0 rfl) ?_
          refine cw_callV F hK [.ref x] (cc_X0_hear hN x (hsub x List.mem_cons_self) ((hok9 x List.mem_cons_self))) (cwV 1 F.2.2.2.2 gX0_read_X0_hear rfl rfl rfl (by decide +kernel) ⟨Nat.le_of_ble_eq_true rfl, Nat.le_of_ble_eq_true rfl⟩) (vg_rc hK (cPv hP)) hP hS (cG_sub hLz (Nat.le_trans (Nat.le_of_eq hz.symm) hS.1)) rfl hl.1 rfl (lv_room (Nat.le_of_ble_eq_true rfl)) ⟨Nat.zero_le _, Nat.zero_le _⟩ dX0_read_28 (fun r_w_10 ra_w_10 V_w_10 pc_w_10 sp_w_10 cc_w_10 e_w_10 sz_w_10 b_w_10 L_w_10 w_w_10 nx_w_10 H locs hp_w_10 hP hsz_w_10 hfr_w_10 hS => ?_)
          obtain ⟨e1_w_10, e2_w_10, e3_w_10, e4_w_10, e5_w_10, e6_w_10, e7_w_10, e8_w_10, e9_w_10, e10_w_10, e11_w_10⟩ := hp_w_10
          rw [e2_w_10, e3_w_10, e4_w_10, e5_w_10, e6_w_10, e7_w_10, e8_w_10, e9_w_10, e10_w_10, e11_w_10] at hP
          refine lv_aload hx hb dX0_read_31 (lv_at hl 0 rfl) ?_
          refine wg_get F hK hinW (cPw hP) (hsub x List.mem_cons_self) 9 (by decide) (by decide +kernel) rfl dX0_read_33 ?_
          refine lw_V (v' := va_rf M2.head?) (by rw [hch9.1]) ?_
          refine lw_astoreR (lv' := [(4, va_rf (M2.head?)), (0, .ref (u 32)), (1, .ref (u 31)), (2, .int fr), (3, .ref (u 12))]) hx hb dX0_read_36 hl (by decide) rfl (fun ls hl => ?_)
          refine lv_goto (tgt := 10) hx hb dX0_read_38 (by decide) ?_
          exact ihu_2  M2 ((hrS (V2, pq2, sp2) (w x)).1) ((hrS (V2, pq2, sp2) (w x)).2.1) ((hrS (V2, pq2, sp2) (w x)).2.2) _ _ ls (by have z := hk; simp at z; omega) (fun z hz => hsub z (List.mem_cons_of_mem _ hz)) (hch9.2) (fun z hz => hok9 z (List.mem_cons_of_mem _ hz)) (by rw [← hf]; simp [rd1, c_9]) hP hS (lv_sub hl [0, 1, 2, 3, 4] rfl)
  exact L10_u_2 _ L fgV 0 0 _ _ ls (Nat.lt_succ_self _) (fun _ z => z) (hch) (hok) (rfl) hP hS (lv_sub hl [0, 1, 2, 3, 4] rfl)
set_option maxHeartbeats 4000000 in
set_option maxRecDepth 100000 in
theorem cc_X2_shareAmong {l : Launch} {D : va_G} {cI cII : ClassId} {u : Nat → Nat} {V : Nat → Nat → Int32} {pq sp : Int32} {cn : Nat} {e : Option Nat} {sz : Nat} {b : Nat → Nat → Int32} {L : List Nat} {w : Nat → Nat → Int32} {nx : Nat → Option Nat} {z0 : Nat} (hN : (cAd u ++ L).Nodup) (fr : Int32) (hch : chn nx L) (he : e = L.head?) : cw_Met l yX2_shareAmong wsX2_shareAmong 0 0 0 0 D u cI cII z0 L (cW u cI cII V pq sp cn e sz b L w nx) [.ref (u 31), .int fr] kI (cEq (nI (shF fr L (0, w)).1) V pq sp cn e sz b L (shF fr L (0, w)).2 nx) := by
  suffices h9 : ∀ L0, L0 = L → cw_Met l yX2_shareAmong wsX2_shareAmong 0 0 0 0 D u cI cII z0 L0 (cW u cI cII V pq sp cn e sz b L w nx) [.ref (u 31), .int fr] kI (cEq (nI (shF fr L (0, w)).1) V pq sp cn e sz b L (shF fr L (0, w)).2 nx) by exact h9 _ rfl
  intro L0 hL0
  have hLz : ∀ a, a ∈ L → a ∈ L0 ∨ z0 ≤ a := fun a z => Or.inl (by rw [hL0]; exact z)
  refine cw_start rfl (by decide +kernel) (Nat.le_of_ble_eq_true rfl) (fun p e9 s m below meth c F hr hlocks hK hz H locs hP hS hz9 ls hl => ?_)
  have hl : lv_has ls 5 [(0, .ref (u 31)), (1, .int fr)] := hl
  have hx := F.1
  have hb := F.2.1
  have hinK : ∀ w ∈ wsX20, w ∈ wsX2_shareAmong := by decide +kernel
  have hinW : ∀ w ∈ wsX10, w ∈ wsX2_shareAmong := by decide +kernel
  refine lv_iconst (v := 0) hx hb dX2_shareAmong_0 (by decide) ?_
  refine lv_istore_n (lv' := [(2, .int 0), (0, .ref (u 31)), (1, .int fr)]) hx hb dX2_shareAmong_1 rfl hl (by decide) rfl (fun ls hl => ?_)
  refine lv_aload_n hx hb dX2_shareAmong_2 rfl (lv_at hl 1 rfl) ?_
  refine kg_get F hK hinK (cPc hP) 0 (by decide) (by decide +kernel) rfl dX2_shareAmong_3 ?_
  refine lw_V (v' := va_rf L.head?) (by rw [he]) ?_
  refine lw_astore_nR (lv' := [(3, va_rf (L.head?)), (2, .int 0), (0, .ref (u 31)), (1, .int fr)]) hx hb dX2_shareAmong_6 rfl hl (by decide) rfl (fun ls hl => ?_)
  have L7_u_1 : ∀ (k9u_1 : Nat) (M : List Nat) (y : Nat) (w2 : Nat → Nat → Int32) (H : Heap) (locs : List Loc) (ls : Array Slot), M.length < k9u_1 → (∀ z, z ∈ M → z ∈ L) → chn nx M → shF fr M (y, w2) = shF fr L (0, w) → va_P D vwCl (cW u cI cII V pq sp cn e sz b L w2 nx) H → va_S (cG u L0 z0) s.heap H locs → lv_has ls 5 [(2, .int (nI y)), (3, va_rf (M.head?)), (0, .ref (u 31)), (1, .int fr)] → cwW p l e9 0 0 0 0 s m [.ref (u 31), .int fr] below meth c H locs 0 0 D u cI cII z0 L0 kI (cEq (nI (shF fr L (0, w)).1) V pq sp cn e sz b L (shF fr L (0, w)).2 nx) (F0 m 7 ls []) := by
    intro k9u_1
    induction k9u_1 with
    | zero => intro M y w2 H locs ls hk; exact absurd hk (Nat.not_lt_zero _)
    | succ k9u_1 ihu_1 =>
      intro M y w2 H locs ls hk hsub hch9 hf hP hS hl
      refine lw_aload_nR hx hb dX2_shareAmong_7 rfl (lv_at hl 1 rfl) ?_
      refine lw_ifnullR (tgt := 51) hx hb dX2_shareAmong_8 (by decide) (fun c_2 => ?_) (fun x c_2 => ?_)
      · skip
        rw [c_2] at hl
        have hl : lv_has ls 5 [(2, .int (nI y)), (3, .null), (0, .ref (u 31)), (1, .int fr)] := hl
        have hM : M = [] := by cases M with | nil => rfl | cons z M2 => cases c_2
        subst hM
        refine lv_iload_n hx hb dX2_shareAmong_51 rfl (lv_at hl 0 rfl) ?_
        exact cw_reti F hr hlocks hP hS (⟨by rw [← hf]; rfl, rfl, rfl, rfl, rfl, rfl, rfl, rfl, rfl, by rw [← hf]; rfl, rfl⟩) (by omega) (by omega) dX2_shareAmong_52
      · skip
        rw [c_2] at hl
        have hl : lv_has ls 5 [(2, .int (nI y)), (3, .ref x), (0, .ref (u 31)), (1, .int fr)] := hl
        obtain ⟨M2, rfl⟩ : ∃ M2, M = x :: M2 := by cases M with | nil => cases c_2 | cons z M2 => cases c_2; exact ⟨M2, rfl⟩
        refine lv_aload_n hx hb dX2_shareAmong_11 rfl (lv_at hl 1 rfl) ?_
        refine wg_get F hK hinW (cPw hP) (hsub x List.mem_cons_self) 8 (by decide) (by decide +kernel) rfl dX2_shareAmong_12 ?_
        refine lv_iload_n hx hb dX2_shareAmong_15 rfl (lv_at hl 3 rfl) ?_
        refine lv_iand hx hb dX2_shareAmong_16 ?_
        refine lv_istore (lv' := [(4, .int (w2 x 8 &&& fr)), (2, .int (nI y)), (3, .ref x), (0, .ref (u 31)), (1, .int fr)]) hx hb dX2_shareAmong_17 hl (by decide) rfl (fun ls hl => ?_)
        refine lv_iload hx hb dX2_shareAmong_19 (lv_at hl 0 rfl) ?_
        refine lv_if_eq (tgt := 43) hx hb dX2_shareAmong_21 (by decide) (fun c_3 => ?_) (fun c_3 => ?_)
        · skip
          refine lv_aload_n hx hb dX2_shareAmong_43 rfl (lv_at hl 2 rfl) ?_
          refine wg_get F hK hinW (cPw hP) (hsub x List.mem_cons_self) 9 (by decide) (by decide +kernel) rfl dX2_shareAmong_44 ?_
          refine lw_V (v' := va_rf M2.head?) (by rw [hch9.1]) ?_
          refine lw_astore_nR (lv' := [(3, va_rf (M2.head?)), (4, .int (w2 x 8 &&& fr)), (2, .int (nI y)), (0, .ref (u 31)), (1, .int fr)]) hx hb dX2_shareAmong_47 rfl hl (by decide) rfl (fun ls hl => ?_)
          refine lv_goto (tgt := 7) hx hb dX2_shareAmong_48 (by decide) ?_
          exact ihu_1  M2 y w2 _ _ ls (by have z := hk; simp at z; omega) (fun z hz => hsub z (List.mem_cons_of_mem _ hz)) (hch9.2) (by rw [← hf]; simp [shF, c_3]) hP hS (lv_sub hl [2, 0, 3, 4] rfl)
        · skip
          refine lv_iload hx hb dX2_shareAmong_24 (lv_at hl 0 rfl) ?_
          refine lv_iload_n hx hb dX2_shareAmong_26 rfl (lv_at hl 4 rfl) ?_
          refine lv_icmp_eq (tgt := 43) hx hb dX2_shareAmong_27 (by decide) (fun c_4 => ?_) (fun c_4 => ?_)
          · skip
            refine lv_aload_n hx hb dX2_shareAmong_43 rfl (lv_at hl 2 rfl) ?_
            refine wg_get F hK hinW (cPw hP) (hsub x List.mem_cons_self) 9 (by decide) (by decide +kernel) rfl dX2_shareAmong_44 ?_
            refine lw_V (v' := va_rf M2.head?) (by rw [hch9.1]) ?_
            refine lw_astore_nR (lv' := [(3, va_rf (M2.head?)), (4, .int (w2 x 8 &&& fr)), (2, .int (nI y)), (0, .ref (u 31)), (1, .int fr)]) hx hb dX2_shareAmong_47 rfl hl (by decide) rfl (fun ls hl => ?_)
            refine lv_goto (tgt := 7) hx hb dX2_shareAmong_48 (by decide) ?_
            exact ihu_1  M2 y w2 _ _ ls (by have z := hk; simp at z; omega) (fun z hz => hsub z (List.mem_cons_of_mem _ hz)) (hch9.2) (by rw [← hf]; simp [shF, c_3, c_4]) hP hS (lv_sub hl [2, 0, 3, 4] rfl)
          · skip
            refine lv_aload_n hx hb dX2_shareAmong_30 rfl (lv_at hl 2 rfl) ?_
            refine lv_dup hx hb dX2_shareAmong_31 rfl ?_
            refine wg_get F hK hinW (cPw hP) (hsub x List.mem_cons_self) 8 (by decide) (by decide +kernel) rfl dX2_shareAmong_32 ?_
            refine lv_iload_n hx hb dX2_shareAmong_35 rfl (lv_at hl 4 rfl) ?_
            refine lv_ior hx hb dX2_shareAmong_36 ?_
            refine wp_put F hK hinW hN (cG_in hLz) hP hS (hsub x List.mem_cons_self) 8 (by decide) (by decide +kernel) rfl rfl dX2_shareAmong_37 (fun H locs hP hS => ?_)
            refine lv_iinc (v := nI (y + 1)) (lv' := [(2, .int (nI (y + 1))), (4, .int (w2 x 8 &&& fr)), (3, .ref x), (0, .ref (u 31)), (1, .int fr)]) hx hb dX2_shareAmong_40 hl (k := 1) rfl (show nI y + Int32.ofInt 1 = _ from nI_add y 1) (by decide) rfl (fun ls hl => ?_)
            refine lv_aload_n hx hb dX2_shareAmong_43 rfl (lv_at hl 2 rfl) ?_
            refine wg_get F hK hinW (cPw hP) (hsub x List.mem_cons_self) 9 (by decide) (by decide +kernel) rfl dX2_shareAmong_44 ?_
            refine lw_V (v' := va_rf M2.head?) (by rw [hch9.1]) ?_
            refine lw_astore_nR (lv' := [(3, va_rf (M2.head?)), (2, .int (nI (y + 1))), (4, .int (w2 x 8 &&& fr)), (0, .ref (u 31)), (1, .int fr)]) hx hb dX2_shareAmong_47 rfl hl (by decide) rfl (fun ls hl => ?_)
            refine lv_goto (tgt := 7) hx hb dX2_shareAmong_48 (by decide) ?_
            exact ihu_1  M2 (y + 1) (upW w2 x 8 (w2 x 8 ||| fr)) _ _ ls (by have z := hk; simp at z; omega) (fun z hz => hsub z (List.mem_cons_of_mem _ hz)) (hch9.2) (by rw [← hf]; simp [shF, c_3, c_4]) hP hS (lv_sub hl [1, 0, 3, 4] rfl)
  exact L7_u_1 _ L 0 w _ _ ls (Nat.lt_succ_self _) (fun _ z => z) (hch) (rfl) hP hS (lv_sub hl [1, 0, 2, 3] rfl)
set_option maxHeartbeats 4000000 in
set_option maxRecDepth 100000 in
theorem cc_X3_lookAs {l : Launch} {D : va_G} {cI cII : ClassId} {u : Nat → Nat} {V : Nat → Nat → Int32} {pq sp : Int32} {cn : Nat} {e : Option Nat} {sz : Nat} {b : Nat → Nat → Int32} {L : List Nat} {w : Nat → Nat → Int32} {nx : Nat → Option Nat} {z0 : Nat} (hN : (cAd u ++ L).Nodup) (f : Nat) (hch : chn nx L) (he : e = L.head?) (hok : ∀ x, x ∈ L → okW (w x)) : cw_Met l yX3_lookAs wsX3_lookAs 5 0 0 119 D u cI cII z0 L (cW u cI cII V pq sp cn e sz b L w nx) [.ref (u 30), .int (nI f)] kV (cEq 0 (rdV w ((1 : Int32) <<< (nI f &&& 31)) (b 12) L).1 (rdV w ((1 : Int32) <<< (nI f &&& 31)) (b 12) L).2.1 (rdV w ((1 : Int32) <<< (nI f &&& 31)) (b 12) L).2.2 cn e sz b L w nx) := by
  suffices h9 : ∀ L0, L0 = L → cw_Met l yX3_lookAs wsX3_lookAs 5 0 0 119 D u cI cII z0 L0 (cW u cI cII V pq sp cn e sz b L w nx) [.ref (u 30), .int (nI f)] kV (cEq 0 (rdV w ((1 : Int32) <<< (nI f &&& 31)) (b 12) L).1 (rdV w ((1 : Int32) <<< (nI f &&& 31)) (b 12) L).2.1 (rdV w ((1 : Int32) <<< (nI f &&& 31)) (b 12) L).2.2 cn e sz b L w nx) by exact h9 _ rfl
  intro L0 hL0
  have hLz : ∀ a, a ∈ L → a ∈ L0 ∨ z0 ≤ a := fun a z => Or.inl (by rw [hL0]; exact z)
  refine cw_start rfl (by decide +kernel) (Nat.le_of_ble_eq_true rfl) (fun p e9 s m below meth c F hr hlocks hK hz H locs hP hS hz9 ls hl => ?_)
  have hl : lv_has ls 2 [(0, .ref (u 30)), (1, .int (nI f))] := hl
  have hx := F.1
  have hb := F.2.1
  have hinO : ∀ w ∈ wsX30, w ∈ wsX3_lookAs := by decide +kernel
  refine lv_aload_n hx hb dX3_lookAs_0 rfl (lv_at hl 0 rfl) ?_
  refine og_get F hK hinO (cPc hP) 1 (by decide) (by decide +kernel) rfl dX3_lookAs_1 ?_
  refine lv_aload_n hx hb dX3_lookAs_4 rfl (lv_at hl 0 rfl) ?_
  refine og_get F hK hinO (cPc hP) 0 (by decide) (by decide +kernel) rfl dX3_lookAs_5 ?_
  refine lv_iconst (v := 1) hx hb dX3_lookAs_8 (by decide) ?_
  refine lv_iload_n hx hb dX3_lookAs_9 rfl (lv_at hl 1 rfl) ?_
  refine lv_ishl hx hb dX3_lookAs_10 ?_
  refine lv_aload_n hx hb dX3_lookAs_11 rfl (lv_at hl 0 rfl) ?_
  refine og_get F hK hinO (cPc hP) 5 (by decide) (by decide +kernel) rfl dX3_lookAs_12 ?_
  refine cw_callV F hK [.ref (u 31), .int (1 <<< (nI f &&& 31)), .ref (u 12)] (cc_X0_read hN (1 <<< (nI f &&& 31)) (by first | assumption | omega) (by first | assumption | omega) (by first | assumption | omega)) (cwV 3 F.2.2.2.2 gX3_lookAs_X0_read rfl rfl rfl (by decide +kernel) ⟨Nat.le_of_ble_eq_true rfl, Nat.le_of_ble_eq_true rfl⟩) (vg_rc hK (cPv hP)) hP hS (cG_sub hLz (Nat.le_trans (Nat.le_of_eq hz.symm) hS.1)) rfl hl.1 rfl (lv_room (Nat.le_of_ble_eq_true rfl)) ⟨Nat.zero_le _, Nat.zero_le _⟩ dX3_lookAs_15 (fun r_w_1 ra_w_1 V_w_1 pc_w_1 sp_w_1 cc_w_1 e_w_1 sz_w_1 b_w_1 L_w_1 w_w_1 nx_w_1 H locs hp_w_1 hP hsz_w_1 hfr_w_1 hS => ?_)
  obtain ⟨e1_w_1, e2_w_1, e3_w_1, e4_w_1, e5_w_1, e6_w_1, e7_w_1, e8_w_1, e9_w_1, e10_w_1, e11_w_1⟩ := hp_w_1
  rw [e2_w_1, e3_w_1, e4_w_1, e5_w_1, e6_w_1, e7_w_1, e8_w_1, e9_w_1, e10_w_1, e11_w_1] at hP
  exact cw_retv F hr hlocks hP hS (⟨rfl, rfl, rfl, rfl, rfl, rfl, rfl, rfl, rfl, rfl, rfl⟩) (by omega) (by omega) dX3_lookAs_18
set_option maxHeartbeats 4000000 in
set_option maxRecDepth 100000 in
theorem cc_X3_lookByAll {l : Launch} {D : va_G} {cI cII : ClassId} {u : Nat → Nat} {V : Nat → Nat → Int32} {pq sp : Int32} {cn : Nat} {e : Option Nat} {sz : Nat} {b : Nat → Nat → Int32} {L : List Nat} {w : Nat → Nat → Int32} {nx : Nat → Option Nat} {z0 : Nat} (hN : (cAd u ++ L).Nodup)  (hch : chn nx L) (he : e = L.head?) (hok : ∀ x, x ∈ L → okW (w x)) : cw_Met l yX3_lookByAll wsX3_lookByAll 5 0 0 119 D u cI cII z0 L (cW u cI cII V pq sp cn e sz b L w nx) [.ref (u 30)] kV (cEq 0 (rdV w 31 (b 12) L).1 (rdV w 31 (b 12) L).2.1 (rdV w 31 (b 12) L).2.2 cn e sz b L w nx) := by
  suffices h9 : ∀ L0, L0 = L → cw_Met l yX3_lookByAll wsX3_lookByAll 5 0 0 119 D u cI cII z0 L0 (cW u cI cII V pq sp cn e sz b L w nx) [.ref (u 30)] kV (cEq 0 (rdV w 31 (b 12) L).1 (rdV w 31 (b 12) L).2.1 (rdV w 31 (b 12) L).2.2 cn e sz b L w nx) by exact h9 _ rfl
  intro L0 hL0
  have hLz : ∀ a, a ∈ L → a ∈ L0 ∨ z0 ≤ a := fun a z => Or.inl (by rw [hL0]; exact z)
  refine cw_start rfl (by decide +kernel) (Nat.le_of_ble_eq_true rfl) (fun p e9 s m below meth c F hr hlocks hK hz H locs hP hS hz9 ls hl => ?_)
  have hl : lv_has ls 1 [(0, .ref (u 30))] := hl
  have hx := F.1
  have hb := F.2.1
  have hinO : ∀ w ∈ wsX30, w ∈ wsX3_lookByAll := by decide +kernel
  refine lv_aload_n hx hb dX3_lookByAll_0 rfl (lv_at hl 0 rfl) ?_
  refine og_get F hK hinO (cPc hP) 1 (by decide) (by decide +kernel) rfl dX3_lookByAll_1 ?_
  refine lv_aload_n hx hb dX3_lookByAll_4 rfl (lv_at hl 0 rfl) ?_
  refine og_get F hK hinO (cPc hP) 0 (by decide) (by decide +kernel) rfl dX3_lookByAll_5 ?_
  refine lv_bipush (v := 31) hx hb dX3_lookByAll_8 (by decide) ?_
  refine lv_aload_n hx hb dX3_lookByAll_10 rfl (lv_at hl 0 rfl) ?_
  refine og_get F hK hinO (cPc hP) 5 (by decide) (by decide +kernel) rfl dX3_lookByAll_11 ?_
  refine cw_callV F hK [.ref (u 31), .int 31, .ref (u 12)] (cc_X0_read hN 31 (by first | assumption | omega) (by first | assumption | omega) (by first | assumption | omega)) (cwV 3 F.2.2.2.2 gX3_lookByAll_X0_read rfl rfl rfl (by decide +kernel) ⟨Nat.le_of_ble_eq_true rfl, Nat.le_of_ble_eq_true rfl⟩) (vg_rc hK (cPv hP)) hP hS (cG_sub hLz (Nat.le_trans (Nat.le_of_eq hz.symm) hS.1)) rfl hl.1 rfl (lv_room (Nat.le_of_ble_eq_true rfl)) ⟨Nat.zero_le _, Nat.zero_le _⟩ dX3_lookByAll_14 (fun r_w_1 ra_w_1 V_w_1 pc_w_1 sp_w_1 cc_w_1 e_w_1 sz_w_1 b_w_1 L_w_1 w_w_1 nx_w_1 H locs hp_w_1 hP hsz_w_1 hfr_w_1 hS => ?_)
  obtain ⟨e1_w_1, e2_w_1, e3_w_1, e4_w_1, e5_w_1, e6_w_1, e7_w_1, e8_w_1, e9_w_1, e10_w_1, e11_w_1⟩ := hp_w_1
  rw [e2_w_1, e3_w_1, e4_w_1, e5_w_1, e6_w_1, e7_w_1, e8_w_1, e9_w_1, e10_w_1, e11_w_1] at hP
  exact cw_retv F hr hlocks hP hS (⟨rfl, rfl, rfl, rfl, rfl, rfl, rfl, rfl, rfl, rfl, rfl⟩) (by omega) (by omega) dX3_lookByAll_17
