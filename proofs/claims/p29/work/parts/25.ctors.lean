/-! constructors: the world of a fresh object with its new arrays -/
def ct_A (a z0 : Nat) : Nat → Prop := fun x => x = a ∨ z0 ≤ x
def ct_P (D : va_G) (tys : List (ClassId × FieldType)) (z0 a ci : Nat) (fs : List Value) : Array Value → State → Prop := va_Pc [.ref a] (fun U => U.heap.size = z0 ∧ va_P D vwCl [(a, .inr (ci, fs))] U.heap ∧ va_K D vwCl tys U)
def ct_Q (D : va_G) (z0 a : Nat) (WW : (Nat → Nat) → va_W) : Array Value → State → Outcome → State → Prop := fun _ s o t => o = .returned none ∧ (∃ q : Nat → Nat, va_P D vwCl (WW q) t.heap ∧ va_D (ct_A a z0) (WW q)) ∧ va_F (ct_A a z0) s t
theorem ct_arI (cA : ClassId) (n : Nat) : vp_cell cA (n, .inl (fun _ => 0)) = arrV cA n (fun _ => defaultValue .int) := (vp_cell_i cA n (fun _ => 0)).trans (congrArg (arrV cA n) (funext fun _ => rfl))
theorem ct_arZ (cA : ClassId) (n : Nat) : vp_cell cA (n, .inl (fun _ => 0)) = arrV cA n (fun _ => defaultValue .boolean) := (vp_cell_i cA n (fun _ => 0)).trans (congrArg (arrV cA n) (funext fun _ => rfl))
theorem ct_one {A : Nat → Prop} {a : Nat} {e : va_E} (h : A a) : va_D A [(a, e)] := ⟨fun i j p q h1 h2 _ => by
      have q1 := (List.getElem?_eq_some_iff.mp h1).1
      have q2 := (List.getElem?_eq_some_iff.mp h2).1
      simp at q1 q2
      omega, fun k q hk => by
      have q1 : k < 1 := (List.getElem?_eq_some_iff.mp hk).1
      rw [show k = 0 by omega] at hk
      cases hk
      exact h⟩
theorem ct_eqI {D : va_G} {tys : List (ClassId × FieldType)} {s : State} {cA c0 : ClassId} (h : va_K D vwCl (tys ++ [(cA, .int)]) s) (k : Nat) (hk : tys[k]? = some (c0, .int)) : cA = c0 := by
  have h1 := (h.2 tys.length (cA, .int) (by rw [List.getElem?_append_right (Nat.le_refl _), Nat.sub_self]; rfl)).2
  have h2 := (h.2 k (c0, .int) (by rw [List.getElem?_append_left (List.getElem?_eq_some_iff.mp hk).1]; exact hk)).2
  exact Option.some.inj (Eq.trans (Eq.symm h1) h2)
theorem ct_eqZ {D : va_G} {tys : List (ClassId × FieldType)} {s : State} {cA c0 : ClassId} (h : va_K D vwCl (tys ++ [(cA, .boolean)]) s) (k : Nat) (hk : tys[k]? = some (c0, .boolean)) : cA = c0 := by
  have h1 := (h.2 tys.length (cA, .boolean) (by rw [List.getElem?_append_right (Nat.le_refl _), Nat.sub_self]; rfl)).2
  have h2 := (h.2 k (c0, .boolean) (by rw [List.getElem?_append_left (List.getElem?_eq_some_iff.mp hk).1]; exact hk)).2
  exact Option.some.inj (Eq.trans (Eq.symm h1) h2)
set_option maxHeartbeats 4000000 in
set_option maxRecDepth 100000 in
theorem cc_X2_init (l : Launch) (D : va_G) (cI cII : ClassId) (z0 a : Nat) : Met l yX2_init wsX2_init { frames := 1, cells := 0, slots := 0, locals := 12 } (ct_P D (cT cI cII) z0 a 2 [.null, .int 0]) (ct_Q D z0 a (fun q => [(a, .inr (2, kS none 0))])) 0 0 (ct_A a z0) := by
  refine Met.ofW (cc := cX2_init) (maxL := 1) (ret := none) (by decide +kernel) rfl ?_
  intro p e s m args below meth c s₁ B hml hv
  obtain ⟨rfl, hz, hP, hK⟩ := hv
  have hx := B.exec
  have hb := B.bytes
  have hr := B.returns
  have hts := atoms_spec (ws := wsX2_init) B.pre
  have hown : s.vm.findClass RX2 = some m.cls := findClass_of_methodNamed B.named
  have hlocks := B.notSynchronized
  have hin : meth.name = "<init>" := (name_of_methodNamed B.named B.method).1
  have hD : va_D (ct_A a z0) [(a, .inr (2, [.null, .int 0]))] := ct_one (Or.inl rfl)
  have hS : va_S (ct_A a z0) s.heap s.heap [] := va_S.rf
  have hinX : ∀ w ∈ wsX20, w ∈ wsX2_init := by decide +kernel
  have hl := lv_entry ([.ref a]) (n := 1) (Nat.le_of_ble_eq_true rfl)
  rw [lg_entry_eq]
  generalize (lg_sl ([.ref a]) ++ List.replicate (1 - (lg_sl ([.ref a])).length) Slot.unset).toArray = ls at hl ⊢
  have hl : lv_has ls 1 [(0, .ref a)] := hl
  refine lv_aload_n hx hb dX2_init_0 rfl (lv_at hl 0 rfl) ?_
  refine W.objInit hx hb hown (hts (.methodLink RX2 1 objectInit) (by decide +kernel)) (hts (.instanceMethod objectInit) (by decide +kernel)) (hts (.code objectInit ⟨#[0xb1]⟩ 1 none) (by decide +kernel)) rfl (by rw [hml]; exact hl.1) rfl dX2_init_1 (Nat.le_of_ble_eq_true rfl) (Nat.le_of_ble_eq_true rfl) ?_
  refine W.eq (g2 := F0 m 4 ls []) rfl ?_
  refine lv_aload_n hx hb dX2_init_4 rfl (lv_at hl 0 rfl) ?_
  refine lv_null hx hb dX2_init_5 ?_
  refine va_put (D := D) (ci := 2) (v := .null) (ty := (.object "FridgeGossip$Word")) (C := RX2) (T := TX2) (N := 2) hx hb hts hinX tyX2 tyX2_ok nmX2 hown hK hP hD hS 0 rfl rfl 0 (by decide) (hts (.fieldLink RX2 7 "FridgeGossip$WordChain" "earliest" "LFridgeGossip$Word;") (by decide +kernel)) (fun _ h9 => h9) rfl (by decide +kernel) rfl rfl (Nat.le_of_ble_eq_true rfl) dX2_init_6 (fun H locs hP hD hS => ?_)
  have hP : va_P D vwCl [(a, .inr (2, [.null, .int 0]))] H := hP
  have hD : va_D (ct_A a z0) [(a, .inr (2, [.null, .int 0]))] := hD
  refine lv_aload_n hx hb dX2_init_9 rfl (lv_at hl 0 rfl) ?_
  refine lv_iconst (v := 0) hx hb dX2_init_10 (by decide) ?_
  refine va_put (D := D) (ci := 2) (v := .int 0) (ty := .int) (C := RX2) (T := TX2) (N := 2) hx hb hts hinX tyX2 tyX2_ok nmX2 hown hK hP hD hS 0 rfl rfl 1 (by decide) (hts (.fieldLink RX2 13 "FridgeGossip$WordChain" "size" "I") (by decide +kernel)) (fun _ h9 => h9) rfl (by decide +kernel) rfl rfl (Nat.le_of_ble_eq_true rfl) dX2_init_11 (fun H locs hP hD hS => ?_)
  have hP : va_P D vwCl [(a, .inr (2, [.null, .int 0]))] H := hP
  have hD : va_D (ct_A a z0) [(a, .inr (2, [.null, .int 0]))] := hD
  exact W.vret hx hb hr (fun t ht hW => ⟨rfl, ⟨(fun _ => 0), by rw [ht]; exact hP, hD⟩, hS.F ht⟩) hS.2.2 dX2_init_14
