/-! a constructor is called on the newest object -/
section CTCALL
variable {p : Program} {l : Launch} {e9 : Env} {R : Room} {s : State} {m : MethodId} {args : Array Value} {below : List Frame} {meth : Method} {c : Code} {H : Heap} {locs : List Loc} {cells slots : Nat} {Q : State → Prop}
variable {cc bytes : ByteArray} {pc nL index maxL mc ms : Nat} {ls : Array Slot} {rest : List Value} {Ts ws : List Cond} {own : String} {D : va_G} {A : Nat → Prop} {H0 : Heap} {y : MethodName} {ret : Option FieldType} {rm : Room} {host : String}
theorem ct_call {tys : List (ClassId × FieldType)} {ws1 : va_W} {q ci : Nat} {fs : List Value} {WW : (Nat → Nat) → va_W} (F : CallFix p m c cc nL s args Ts own) (hK : va_K D vwCl tys s) (hP : va_P D vwCl (ws1 ++ [(q, .inr (ci, fs))]) H) (hD : va_D A (ws1 ++ [(q, .inr (ci, fs))])) (hS : va_S A H0 H locs) (hA : ∀ x, H0.size ≤ x → A x)
    (hM : Met l y ws rm (ct_P D tys H.size q ci fs) (ct_Q D H.size q WW) mc ms (ct_A q H.size)) (cw : va_CN R s args own index y host bytes maxL none ws rm mc ms 0 ∧ y.name = "<init>" ∧ (Cond.instanceMethod y).before args s = true) (hsize : ls.size = nL) (hW : 2 * (F0 m pc ls (.ref q :: rest)).monitorRoom + (rest.map fun v => v.category).sum ≤ 8) (hcs : cells + mc ≤ R.cells ∧ slots + ms ≤ R.slots) (hdg : decode cc pc = .ok (.invokespecial index, 3))
    (kk : ∀ (qq : Nat → Nat) (H1 : Heap) (locs1 : List Loc), va_P D vwCl (ws1 ++ WW qq) H1 → va_D A (ws1 ++ WW qq) → va_S A H0 H1 locs1 → W p l e9 R s m args below meth c H1 locs1 (cells + mc) (slots + ms) Q (F0 m (pc + 3) ls rest)) : W p l e9 R s m args below meth c H locs cells slots Q (F0 m pc ls (.ref q :: rest)) := by
  have h0 : va_P D vwCl [(q, .inr (ci, fs))] H := va_right hP
  have h1 : va_P D vwCl ws1 H := va_left hP
  have hlast : (ws1 ++ [(q, (.inr (ci, fs) : va_E))])[ws1.length]? = some (q, .inr (ci, fs)) := by rw [List.getElem?_append_right (Nat.le_refl _), Nat.sub_self]; rfl
  have hAq : A q := hD.2 _ _ hlast
  have hne : ∀ (k : Nat) (x : Nat × va_E), ws1[k]? = some x → x.1 ≠ q := fun k x hk hq => by
    have hlt := (List.getElem?_eq_some_iff.mp hk).1
    have := hD.1 k ws1.length x _ (by rw [List.getElem?_append_left hlt]; exact hk) hlast hq
    omega
  have hr : va_Run p l e9 R s m args below meth c H locs cells slots mc ms (F0 m pc ls (.ref q :: rest)) rest (ct_Q D H.size q WW (Value.ref q :: []).toArray) (ct_A q H.size) := va_runIN (As := []) (rest := rest) (g := F0 m pc ls (.ref q :: rest)) F hM cw ⟨fun a U g mk h => ⟨h.1, h.2.1, h.2.2.1, va_K.moved (u := U) (U := U.calling g mk a) (Vm.Alike.refl U.vm) h.2.2.2⟩, fun U hU hW => ⟨rfl, by rw [hU], by rw [hU]; exact h0, va_K.moved hW.alike hK⟩⟩ rfl rfl hsize rfl hW hdg hcs
  intro T hT X
  obtain ⟨v, st₀, t, T', Lc, hh0, X', hL, e1, e2, ⟨hv, ⟨qq, hq, hqD⟩, hz, hk3⟩, stp⟩ := hr T hT X
  cases hv
  rw [hh0] at hz hk3
  have hlt : ∀ (k : Nat) (x : Nat × va_E), ws1[k]? = some x → x.1 < H.size := fun k x hk => (h1 k x hk).lt
  have hPk : va_P D vwCl ws1 T'.heap := h1.kept (fun k x hk => by
    rw [e1]
    exact hk3 x.1 (hlt k x hk) (fun z => z.elim (hne k x hk) (fun z => absurd (hlt k x hk) (Nat.not_lt.mpr z))))
  have hsub : ∀ x, ct_A q H.size x → A x := fun x z => z.elim (fun r => r ▸ hAq) (fun r => hA x (Nat.le_trans hS.1 r))
  have hD1 : va_D A ws1 := ⟨fun i j p r hi hj hpr => hD.1 i j p r (by rw [List.getElem?_append_left (List.getElem?_eq_some_iff.mp hi).1]; exact hi) (by rw [List.getElem?_append_left (List.getElem?_eq_some_iff.mp hj).1]; exact hj) hpr, fun k x hk => hD.2 k x (by rw [List.getElem?_append_left (List.getElem?_eq_some_iff.mp hk).1]; exact hk)⟩
  obtain ⟨t2, a1, b1⟩ := kk qq T'.heap (locs ++ Lc) (va_P.app hPk (by rw [e1]; exact hq)) (va_D.app hD1 (hqD.weaken (fun k x hk z => hsub _ z)) (fun i j x r hi hj hxr => by
      rcases hqD.2 j r hj with z | z
      · exact hne i x hi (hxr.trans z)
      · have := hlt i x hi; omega)) ⟨Nat.le_trans hS.1 (by rw [e1]; exact hz), fun x g1 g2 => by rw [e1, hk3 x (Nat.lt_of_lt_of_le g1 hS.1) (fun z => g2 (hsub x z))]; exact hS.2.1 x g1 g2, fun z hz2 => by
    rcases List.mem_append.mp hz2 with y | y
    · exact hS.2.2 z y
    · exact hsub _ (hL z y)⟩ T' rfl X'
  exact ⟨t2, stp t2 a1, b1⟩
end CTCALL
