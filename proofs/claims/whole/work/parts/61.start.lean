/-! the law's loop, and its start -/
theorem ct_eqJ {D : va_G} {tys : List (ClassId × FieldType)} {s : State} {cA c0 : ClassId} (h : va_K D vwCl (tys ++ [(cA, .long)]) s) (k : Nat) (hk : tys[k]? = some (c0, .long)) : cA = c0 := by
  have h1 := (h.2 tys.length (cA, .long) (by rw [List.getElem?_append_right (Nat.le_refl _), Nat.sub_self]; rfl)).2
  have h2 := (h.2 k (c0, .long) (by rw [List.getElem?_append_left (List.getElem?_eq_some_iff.mp hk).1]; exact hk)).2
  exact Option.some.inj (Eq.trans (Eq.symm h1) h2)
theorem ct_arJ (cA : ClassId) (n : Nat) : vp_cell cA (n, .inr (.inl (fun _ => 0))) = arrV cA n (fun _ => defaultValue .long) := (vp_cell_l cA n (fun _ => 0)).trans (congrArg (arrV cA n) (funext fun _ => rfl))
theorem vD_nodup {A : Nat → Prop} {ws : va_W} (hD : va_D A ws) : (ws.map (fun x => x.1)).Nodup := by
  refine List.pairwise_iff_getElem.mpr (fun i j hi hj hij e => ?_)
  rw [List.length_map] at hi hj
  rw [List.getElem_map, List.getElem_map] at e
  have := hD.1 i j ws[i] ws[j] (List.getElem?_eq_getElem hi) (List.getElem?_eq_getElem hj) e
  omega
theorem vD_in {A : Nat → Prop} {ws : va_W} (hD : va_D A ws) {x : Nat} (hx : x ∈ ws.map (fun x => x.1)) : A x := by
  obtain ⟨y, hy, e⟩ := List.mem_map.mp hx
  obtain ⟨i, hi⟩ := List.mem_iff_getElem?.mp hy
  rw [← e]
  exact hD.2 i y hi
/-- the tie at the start -/
theorem rel_0 (w : Nat → Nat → Int32) : tRel 0 0 (fun _ _ => 0) (fun _ => false) ((fun _ _ => 0), 0, ([] : List Nat).map w) := by
  refine ⟨⟨⟨by omega, by omega, fun k hk => absurd hk (Nat.not_lt_zero _), fun i hi => absurd hi (Nat.not_lt_zero _), fun k hk => absurd hk (Nat.not_lt_zero _)⟩, fun v hv => ⟨0, by omega, rfl⟩, fun i hi => absurd hi (Nat.not_lt_zero _), fun i hi => absurd hi (Nat.not_lt_zero _), fun i v hi => absurd hi (Nat.not_lt_zero _), fun i hi => absurd hi (Nat.not_lt_zero _), fun i hi => absurd hi (Nat.not_lt_zero _), fun k hk => absurd hk (Nat.not_lt_zero _), fun j hj => ⟨0, by omega, rfl⟩, fun i u _ _ => rfl⟩, ⟨[], ⟨rfl, List.nodup_nil, fun i => ⟨fun h => absurd h List.not_mem_nil, fun h => absurd h (Nat.not_lt_zero _)⟩, List.Pairwise.nil⟩, rfl⟩, rfl, fun v hv => rfl, fun k hk => rfl, fun k hk => rfl, fun r f hr hf => rfl⟩
theorem lwI_0 {s0 : Heap} {D : va_G} {cI cII cZ cJ : ClassId} {u : Nat → Nat} {h : Nat} {q : Nat → Nat} {o : Nat} {H : Heap} {locs : List Loc}
    (hP : va_P D vwCl ((cW u cI cII (fun _ _ => 0) 0 0 0 none 0 (fun _ _ => 0) [] (fun _ _ => 0) (fun _ => none) ++ mW h q cI cZ 0 0 0 0 (fun _ _ => 0) (fun _ => false)) ++ wzX o cJ (fun _ => 0)) H) (hD : va_D (fun x => s0.size ≤ x) ((cW u cI cII (fun _ _ => 0) 0 0 0 none 0 (fun _ _ => 0) [] (fun _ _ => 0) (fun _ => none) ++ mW h q cI cZ 0 0 0 0 (fun _ _ => 0) (fun _ => false)) ++ wzX o cJ (fun _ => 0))) (hS : va_S (fun x => s0.size ≤ x) s0 H locs) : lwI s0 D cI cII cZ cJ u h q o H locs := by
  have e : ((cW u cI cII (fun _ _ => 0) 0 0 0 none 0 (fun _ _ => 0) [] (fun _ _ => 0) (fun _ => none) ++ mW h q cI cZ 0 0 0 0 (fun _ _ => 0) (fun _ => false)) ++ wzX o cJ (fun _ => 0)).map (fun x => x.1) = ((cAd u ++ []) ++ mAd h q) ++ [o] := by
    rw [List.map_append, List.map_append, cAd_map]; rfl
  have hN := vD_nodup hD
  have hA : ∀ x, x ∈ ((cAd u ++ []) ++ mAd h q) ++ [o] → s0.size ≤ x := fun x hx => vD_in hD (by rw [e]; exact hx)
  rw [e] at hN
  obtain ⟨n1, -, n3⟩ := List.nodup_append.mp hN
  obtain ⟨n4, n5, n6⟩ := List.nodup_append.mp n1
  refine ⟨0, 0, (fun _ _ => 0), (fun _ => false), 0, 0, (fun _ _ => 0), 0, 0, 0, none, 0, (fun _ _ => 0), [], (fun _ _ => 0), (fun _ => none), (fun _ => 0), rel_0 _, ⟨n4, fun x hx => ?_, fun x hx => ⟨?_, fun z => ?_, ?_⟩, ?_, fun z => ?_, n5⟩, rfl, rfl, trivial, va_left (va_left hP), va_right (va_left hP), va_right hP, hS⟩
  · refine hA x (List.mem_append_left _ (List.mem_append_left _ ?_))
    exact hx.elim (fun z => List.mem_append_left _ z) (fun z => absurd z List.not_mem_nil)
  · exact hA x (List.mem_append_left _ (List.mem_append_right _ hx))
  · exact z.elim (fun z => n6 x (List.mem_append_left _ z) x hx rfl) (fun z => absurd z List.not_mem_nil)
  · exact n3 x (List.mem_append_right _ hx) o (by simp)
  · exact hA o (by simp)
  · exact z.elim (fun z => n3 o (List.mem_append_left _ (List.mem_append_left _ z)) o (by simp) rfl) (fun z => absurd z List.not_mem_nil)
section CTI
variable {p : Program} {l : Launch} {e9 : Env} {R : Room} {s : State} {m : MethodId} {args : Array Value} {below : List Frame} {meth : Method} {c : Code} {H : Heap} {locs : List Loc} {cells slots : Nat} {Q : State → Prop}
variable {cc bytes : ByteArray} {pc nL index maxL mc ms : Nat} {ls : Array Slot} {rest : List Value} {Ts ws : List Cond} {own : String} {D : va_G} {A : Nat → Prop} {H0 : Heap} {y : MethodName} {rm : Room}
/-- a constructor called by another class -/
theorem ct_callI {ws1 : va_W} {q ci : Nat} {fs : List Value} {WW : (Nat → Nat) → va_W} {Pc : Array Value → State → Prop} (F : CallFix p m c cc nL s args Ts own) (hP : va_P D vwCl (ws1 ++ [(q, .inr (ci, fs))]) H) (hD : va_D A (ws1 ++ [(q, .inr (ci, fs))])) (hS : va_S A H0 H locs) (hA : ∀ x, H0.size ≤ x → A x)
    (hM : Met l y ws rm Pc (ct_Q D H.size q WW) mc ms (ct_A q H.size)) (cw : CallB R s args own index y bytes maxL none ws rm mc ms 0 ∧ y.name = "<init>" ∧ (Cond.instanceMethod y).before args s = true) (hpre : PreS s H Pc [.ref q]) (hsize : ls.size = nL) (hW : 2 * (F0 m pc ls (.ref q :: rest)).monitorRoom + (rest.map fun v => v.category).sum ≤ 8) (hcs : cells + mc ≤ R.cells ∧ slots + ms ≤ R.slots) (hdg : decode cc pc = .ok (.invokespecial index, 3))
    (kk : ∀ (qq : Nat → Nat) (H1 : Heap) (locs1 : List Loc), va_P D vwCl (ws1 ++ WW qq) H1 → va_D A (ws1 ++ WW qq) → va_S A H0 H1 locs1 → W p l e9 R s m args below meth c H1 locs1 (cells + mc) (slots + ms) Q (F0 m (pc + 3) ls rest)) : W p l e9 R s m args below meth c H locs cells slots Q (F0 m pc ls (.ref q :: rest)) := by
  have h1 : va_P D vwCl ws1 H := va_left hP
  have hlast : (ws1 ++ [(q, (.inr (ci, fs) : va_E))])[ws1.length]? = some (q, .inr (ci, fs)) := by rw [List.getElem?_append_right (Nat.le_refl _), Nat.sub_self]; rfl
  have hAq : A q := hD.2 _ _ hlast
  have hne : ∀ (k : Nat) (x : Nat × va_E), ws1[k]? = some x → x.1 ≠ q := fun k x hk hq => by
    have hlt := (List.getElem?_eq_some_iff.mp hk).1
    have := hD.1 k ws1.length x _ (by rw [List.getElem?_append_left hlt]; exact hk) hlast hq
    omega
  have hr : va_Run p l e9 R s m args below meth c H locs cells slots mc ms (F0 m pc ls (.ref q :: rest)) rest (ct_Q D H.size q WW (Value.ref q :: []).toArray) (ct_A q H.size) := va_runI (As := []) (rest := rest) (g := F0 m pc ls (.ref q :: rest)) F hM cw hpre rfl rfl hsize rfl hW hdg hcs
  intro T hT X
  obtain ⟨v, st₀, t, T', Lc, hh0, X', hL, e1, e2, ⟨hv, ⟨qq, hq, hqD⟩, hz, hk3⟩, stp⟩ := hr T hT X
  cases hv
  rw [hh0] at hz hk3
  have hlt : ∀ (k : Nat) (x : Nat × va_E), ws1[k]? = some x → x.1 < H.size := fun k x hk => (h1 k x hk).lt
  have hPk : va_P D vwCl ws1 T'.heap := h1.kept (fun k x hk => by
    rw [e1]
    exact hk3 x.1 (hlt k x hk) (fun z => z.elim (hne k x hk) (fun z => absurd (hlt k x hk) (Nat.not_lt.mpr z))))
  have hsub : ∀ x, ct_A q H.size x → A x := fun x z => z.elim (fun r => r ▸ hAq) (fun r => hA x (Nat.le_trans hS.1 r))
  have hD1 : va_D A ws1 := ⟨fun i j p r hi hj hpr => hD.1 i j p r (by rw [List.getElem?_append_left (List.getElem?_eq_some_iff.mp hi).1]; exact hi) (by rw [List.getElem?_append_left (List.getElem?_eq_some_iff.mp hj).1]; exact hj) hpr, fun k x hk => hD.2 k x (by rw [List.getElem?_append_left (List.getElem?_eq_some_iff.mp hk).1]; exact hk)⟩
  obtain ⟨t2, a1, b1⟩ := kk qq T'.heap (locs ++ Lc) (va_P.app hPk (by rw [e1]; exact hq)) (va_D.app hD1 (hqD.weaken (fun k x hk z => hsub _ z)) (fun i j x r hi hj hxr => by
      rcases hqD.2 j r hj with z | z
      · exact hne i x hi (hxr.trans z)
      · have := hlt i x hi; omega)) ⟨Nat.le_trans hS.1 (by rw [e1]; exact hz), fun x g1 g2 => by rw [e1, hk3 x (Nat.lt_of_lt_of_le g1 hS.1) (fun z => g2 (hsub x z))]; exact hS.2.1 x g1 g2, fun z hz2 => by
    rcases List.mem_append.mp hz2 with y | y
    · exact hS.2.2 z y
    · exact hsub _ (hL z y)⟩ T' rfl X'
  exact ⟨t2, stp t2 a1, b1⟩
end CTI
set_option maxHeartbeats 4000000 in
theorem lw_exit {p : Program} {l : Launch} {e9 : Env} {s : State} {m : MethodId} {below : List Frame} {meth : Method} {c : Code} {b9 L9 : Nat} {xs : Nat → Int32} {D : va_G} {cI cII cZ cJ : ClassId} {u : Nat → Nat} {h : Nat} {q : Nat → Nat} {o : Nat} (F : CallFix p m c cL_law 7 s #[Value.ref b9] lw_tbl RL) (hr : meth.sig.returnType = ret) (hlocks : meth.locks = false) (hsx : va_X b9 L9 xs s s.heap) (hb9 : b9 < s.heap.size) (hL : L9 ≤ 3072) {k : Nat} {H : Heap} {locs : List Loc} {ls : Array Slot} (hk0 : L9 < 6 * k + 6) (hk : 6 * k ≤ L9 + 5) (I : lwI s.heap D cI cII cZ cJ u h q o H locs) (hl : lv_has ls 7 [(0, .ref b9), (1, .ref (u 30)), (2, .ref h), (3, .ref o), (4, .int (nI (6 * k)))]) : W p l e9 room_1 s m #[Value.ref b9] below meth c H locs (38 + 46 * k) (3835 + 440 * k) (lw_Z below #[Value.ref b9] s) (F0 m 23 ls []) := by
  have hx := F.1
  have hb := F.2.1
  have hS : va_S (fun x => s.heap.size ≤ x) s.heap H locs := by
    obtain ⟨n, cm, a, kn, th, lm, V, pq, sp, cn, e, sz, b, L, w, nx, g, R, CC, he, hsz, hch, hP, hM, hO, hS⟩ := I
    exact hS
  refine lv_iload hx hb dL_law_23 (lv_at hl 4 rfl) ?_
  refine lv_aload_n hx hb dL_law_25 rfl (lv_at hl 0 rfl) ?_
  refine va_slen (A := fun x => s.heap.size ≤ x) hx hb hsx hb9 (Nat.not_le.mpr hb9) hS dL_law_26 ?_
  refine lv_bipush (v := 6) hx hb dL_law_27 (by decide) ?_
  refine lv_isub hx hb dL_law_29 ?_
  have e6 : (Int32.ofNat L9 - 6 : Int32).toInt = (L9 : Int) - 6 := pk_sub_toInt (a := L9) (b := 6) (by omega) (by omega)
  refine lv_icmp_gt (tgt := 1850) hx hb dL_law_30 (by decide) (fun q9 => ?_) (fun q9 => ?_)
  · refine lv_iconst (v := 1) hx hb dL_law_1850 (by decide) ?_
    refine va_forget (fun z hz => hS.2.2 z hz) ?_
    refine W.widen (k := 601024) (n := 7293034) (by omega) (by omega) ?_
    exact lw_ret hx hb hr hlocks dL_law_1851
  · rw [Int32.lt_iff_toInt_lt, e6, nI_toInt (by omega)] at q9
    omega
set_option maxHeartbeats 4000000 in
theorem lw_loop {p : Program} {l : Launch} {e9 : Env} {s : State} {m : MethodId} {below : List Frame} {meth : Method} {c : Code} {b9 L9 : Nat} {xs : Nat → Int32} {D : va_G} {cI cII cZ cJ : ClassId} {sa : Nat → Nat} {u : Nat → Nat} {h : Nat} {q : Nat → Nat} {o : Nat} (hfl : l.stackTraces = false) (F : CallFix p m c cL_law 7 s #[Value.ref b9] lw_tbl RL) (hK : va_K D vwCl (cT cI cII) s) (hZ : va_K D vwCl (mT cI cZ) s) (hJ : va_K D vwCl [(cJ, .long)] s) (hN : wzN s) (hX : ∀ A : Nat → Prop, (∀ a : Nat, a < s.heap.size → ¬ A a) → xF A sa s) (hsx : va_X b9 L9 xs s s.heap) (hb9 : b9 < s.heap.size) (hL : L9 ≤ 3072)  (hr : meth.sig.returnType = ret) (hlocks : meth.locks = false) : ∀ (r k : Nat) (H : Heap) (locs : List Loc) (ls : Array Slot), L9 < r + 6 * k → 6 * k ≤ L9 + 5 → lwI s.heap D cI cII cZ cJ u h q o H locs → lv_has ls 7 [(0, .ref b9), (1, .ref (u 30)), (2, .ref h), (3, .ref o), (4, .int (nI (6 * k)))] → W p l e9 room_1 s m #[Value.ref b9] below meth c H locs (38 + 46 * k) (3835 + 440 * k) (lw_Z below #[Value.ref b9] s) (F0 m 23 ls []) := by
  have hx := F.1
  have hb := F.2.1
  intro r
  induction r with
  | zero =>
    intro k H locs ls hr0 hk I hl
    exact lw_exit F hr hlocks hsx hb9 hL (by omega) hk I hl
  | succ r ih =>
    intro k H locs ls hr0 hk I hl
    by_cases hlast : L9 < 6 * k + 6
    · exact lw_exit F hr hlocks hsx hb9 hL hlast hk I hl
    · have hi : 6 * k + 6 ≤ L9 := by omega
      have hS : va_S (fun x => s.heap.size ≤ x) s.heap H locs := by
        obtain ⟨n, cm, a, kn, th, lm, V, pq, sp, cn, e, sz, b, L, w, nx, g, R, CC, he, hsz, hch, hP, hM, hO, hS⟩ := I
        exact hS
      refine lv_iload hx hb dL_law_23 (lv_at hl 4 rfl) ?_
      refine lv_aload_n hx hb dL_law_25 rfl (lv_at hl 0 rfl) ?_
      refine va_slen (A := fun x => s.heap.size ≤ x) hx hb hsx hb9 (Nat.not_le.mpr hb9) hS dL_law_26 ?_
      refine lv_bipush (v := 6) hx hb dL_law_27 (by decide) ?_
      refine lv_isub hx hb dL_law_29 ?_
      have e6 : (Int32.ofNat L9 - 6 : Int32).toInt = (L9 : Int) - 6 := pk_sub_toInt (a := L9) (b := 6) (by omega) (by omega)
      refine lv_icmp_gt (tgt := 1850) hx hb dL_law_30 (by decide) (fun q9 => ?_) (fun q9 => ?_)
      · rw [Int32.lt_iff_toInt_lt, e6, nI_toInt (by omega)] at q9
        omega
      · refine lv_aload_n hx hb dL_law_33 rfl (lv_at hl 0 rfl) ?_
        refine lv_iload hx hb dL_law_34 (lv_at hl 4 rfl) ?_
        refine va_sld (A := fun x => s.heap.size ≤ x) hx hb hsx hb9 (Nat.not_le.mpr hb9) hS (vp_in_nI (n := 6 * k) (by omega) (by omega)) dL_law_36 ?_
        refine lw_E (xs (6 * k)) (by rw [nI_clamp (by omega)]) ?_
        refine lv_bipush (v := 31) hx hb dL_law_37 (by decide) ?_
        refine lv_iand hx hb dL_law_39 ?_
        obtain ⟨j, hj, ej⟩ := pk_andE (xs (6 * k)) (m := 31) 5 (by decide)
        refine lw_E (nI j) ej ?_
        have hj : j < 32 := hj
        have fin : ∀ (H1 : Heap) (locs1 : List Loc) (ls1 : Array Slot), lwI s.heap D cI cII cZ cJ u h q o H1 locs1 → lv_has ls1 7 [(0, .ref b9), (1, .ref (u 30)), (2, .ref h), (3, .ref o), (4, .int (nI (6 * k)))] → W p l e9 room_1 s m #[Value.ref b9] below meth c H1 locs1 (38 + 46 * k + 46) (3835 + 440 * k + 440) (lw_Z below #[Value.ref b9] s) (F0 m 1844 ls1 []) := by
          intro H1 locs1 ls1 I1 hl1
          refine lv_iinc (v := nI (6 * k + 6)) (lv' := [(4, .int (nI (6 * k + 6))), (0, .ref b9), (1, .ref (u 30)), (2, .ref h), (3, .ref o)]) hx hb dL_law_1844 hl1 (k := 4) rfl (show nI (6 * k) + Int32.ofInt 6 = _ from nI_add (6 * k) 6) (by decide) rfl (fun ls hl => ?_)
          refine lv_goto (tgt := 23) hx hb dL_law_1847 (by decide) ?_
          have z := ih (k + 1) H1 locs1 ls (by omega) (by omega) I1 (lv_sub (by rw [show 6 * k + 6 = 6 * (k + 1) by omega] at hl; exact hl) [1, 2, 3, 4, 0] rfl)
          rw [show 38 + 46 * (k + 1) = 38 + 46 * k + 46 by omega, show 3835 + 440 * (k + 1) = 3835 + 440 * k + 440 by omega] at z
          exact z
        by_cases q0 : j = 0
        · subst q0
          refine lv_tableIn (tgt := 160) (off := 120) hx hb dL_law_40 (by decide +kernel) (by decide +kernel) (by decide +kernel) (by decide) ?_
          exact lq_put hfl F hK hZ hJ hN hX hsx hb9 hL I hi (by omega) (by omega) hl fin
        by_cases q1 : j = 1
        · subst q1
          refine lv_tableIn (tgt := 228) (off := 188) hx hb dL_law_40 (by decide +kernel) (by decide +kernel) (by decide +kernel) (by decide) ?_
          exact lq_take hfl F hK hZ hJ hN hX hsx hb9 hL I hi (by omega) (by omega) hl fin
        by_cases q2 : j = 2
        · subst q2
          refine lv_tableIn (tgt := 296) (off := 256) hx hb dL_law_40 (by decide +kernel) (by decide +kernel) (by decide +kernel) (by decide) ?_
          exact lq_where hfl F hK hZ hJ hN hX hsx hb9 hL I hi (by omega) (by omega) hl fin
        by_cases q3 : j = 3
        · subst q3
          refine lv_tableIn (tgt := 364) (off := 324) hx hb dL_law_40 (by decide +kernel) (by decide +kernel) (by decide +kernel) (by decide) ?_
          exact lq_whereByAll hfl F hK hZ hJ hN hX hsx hb9 hL I hi (by omega) (by omega) hl fin
        by_cases q4 : j = 4
        · subst q4
          refine lv_tableIn (tgt := 420) (off := 380) hx hb dL_law_40 (by decide +kernel) (by decide +kernel) (by decide +kernel) (by decide) ?_
          exact lq_count hfl F hK hZ hJ hN hX hsx hb9 hL I hi (by omega) (by omega) hl fin
        by_cases q5 : j = 5
        · subst q5
          refine lv_tableIn (tgt := 488) (off := 448) hx hb dL_law_40 (by decide +kernel) (by decide +kernel) (by decide +kernel) (by decide) ?_
          exact lq_countByAll hfl F hK hZ hJ hN hX hsx hb9 hL I hi (by omega) (by omega) hl fin
        by_cases q6 : j = 6
        · subst q6
          refine lv_tableIn (tgt := 544) (off := 504) hx hb dL_law_40 (by decide +kernel) (by decide +kernel) (by decide +kernel) (by decide) ?_
          exact lq_claims hfl F hK hZ hJ hN hX hsx hb9 hL I hi (by omega) (by omega) hl fin
        by_cases q7 : j = 7
        · subst q7
          refine lv_tableIn (tgt := 612) (off := 572) hx hb dL_law_40 (by decide +kernel) (by decide +kernel) (by decide +kernel) (by decide) ?_
          exact lq_meet hfl F hK hZ hJ hN hX hsx hb9 hL I hi (by omega) (by omega) hl fin
        by_cases q8 : j = 8
        · subst q8
          refine lv_tableIn (tgt := 680) (off := 640) hx hb dL_law_40 (by decide +kernel) (by decide +kernel) (by decide +kernel) (by decide) ?_
          exact lq_words hfl F hK hZ hJ hN hX hsx hb9 hL I hi (by omega) (by omega) hl fin
        by_cases q9 : j = 9
        · subst q9
          refine lv_tableIn (tgt := 693) (off := 653) hx hb dL_law_40 (by decide +kernel) (by decide +kernel) (by decide +kernel) (by decide) ?_
          exact lq_known hfl F hK hZ hJ hN hX hsx hb9 hL I hi (by omega) (by omega) hl fin
        by_cases q10 : j = 10
        · subst q10
          refine lv_tableIn (tgt := 749) (off := 709) hx hb dL_law_40 (by decide +kernel) (by decide +kernel) (by decide +kernel) (by decide) ?_
          exact lq_clock hfl F hK hZ hJ hN hX hsx hb9 hL I hi (by omega) (by omega) hl fin
        by_cases q11 : j = 11
        · subst q11
          refine lv_tableIn (tgt := 805) (off := 765) hx hb dL_law_40 (by decide +kernel) (by decide +kernel) (by decide +kernel) (by decide) ?_
          exact lq_guest hfl F hK hZ hJ hN hX hsx hb9 hL I hi (by omega) (by omega) hl fin
        by_cases q12 : j = 12
        · subst q12
          refine lv_tableIn (tgt := 909) (off := 869) hx hb dL_law_40 (by decide +kernel) (by decide +kernel) (by decide +kernel) (by decide) ?_
          exact lq_guests hfl F hK hZ hJ hN hX hsx hb9 hL I hi (by omega) (by omega) hl fin
        by_cases q13 : j = 13
        · subst q13
          refine lv_tableIn (tgt := 977) (off := 937) hx hb dL_law_40 (by decide +kernel) (by decide +kernel) (by decide +kernel) (by decide) ?_
          exact lq_setNeed hfl F hK hZ hJ hN hX hsx hb9 hL I hi (by omega) (by omega) hl fin
        by_cases q14 : j = 14
        · subst q14
          refine lv_tableIn (tgt := 1057) (off := 1017) hx hb dL_law_40 (by decide +kernel) (by decide +kernel) (by decide +kernel) (by decide) ?_
          exact lq_plan hfl F hK hZ hJ hN hX hsx hb9 hL I hi (by omega) (by omega) hl fin
        by_cases q15 : j = 15
        · subst q15
          refine lv_tableIn (tgt := 1137) (off := 1097) hx hb dL_law_40 (by decide +kernel) (by decide +kernel) (by decide +kernel) (by decide) ?_
          exact lq_keep hfl F hK hZ hJ hN hX hsx hb9 hL I hi (by omega) (by omega) hl fin
        by_cases q16 : j = 16
        · subst q16
          refine lv_tableIn (tgt := 1205) (off := 1165) hx hb dL_law_40 (by decide +kernel) (by decide +kernel) (by decide +kernel) (by decide) ?_
          exact lq_drop hfl F hK hZ hJ hN hX hsx hb9 hL I hi (by omega) (by omega) hl fin
        by_cases q17 : j = 17
        · subst q17
          refine lv_tableIn (tgt := 1273) (off := 1233) hx hb dL_law_40 (by decide +kernel) (by decide +kernel) (by decide +kernel) (by decide) ?_
          exact lq_bake hfl F hK hZ hJ hN hX hsx hb9 hL I hi (by omega) (by omega) hl fin
        by_cases q18 : j = 18
        · subst q18
          refine lv_tableIn (tgt := 1341) (off := 1301) hx hb dL_law_40 (by decide +kernel) (by decide +kernel) (by decide +kernel) (by decide) ?_
          exact lq_cakes hfl F hK hZ hJ hN hX hsx hb9 hL I hi (by omega) (by omega) hl fin
        by_cases q19 : j = 19
        · subst q19
          refine lv_tableIn (tgt := 1354) (off := 1314) hx hb dL_law_40 (by decide +kernel) (by decide +kernel) (by decide +kernel) (by decide) ?_
          exact lq_cake hfl F hK hZ hJ hN hX hsx hb9 hL I hi (by omega) (by omega) hl fin
        by_cases q20 : j = 20
        · subst q20
          refine lv_tableIn (tgt := 1422) (off := 1382) hx hb dL_law_40 (by decide +kernel) (by decide +kernel) (by decide +kernel) (by decide) ?_
          exact lq_keptFor hfl F hK hZ hJ hN hX hsx hb9 hL I hi (by omega) (by omega) hl fin
        by_cases q21 : j = 21
        · subst q21
          refine lv_tableIn (tgt := 1490) (off := 1450) hx hb dL_law_40 (by decide +kernel) (by decide +kernel) (by decide +kernel) (by decide) ?_
          exact lq_keptByAll hfl F hK hZ hJ hN hX hsx hb9 hL I hi (by omega) (by omega) hl fin
        by_cases q22 : j = 22
        · subst q22
          refine lv_tableIn (tgt := 1546) (off := 1506) hx hb dL_law_40 (by decide +kernel) (by decide +kernel) (by decide +kernel) (by decide) ?_
          exact lq_lacks hfl F hK hZ hJ hN hX hsx hb9 hL I hi (by omega) (by omega) hl fin
        by_cases q23 : j = 23
        · subst q23
          refine lv_tableIn (tgt := 1626) (off := 1586) hx hb dL_law_40 (by decide +kernel) (by decide +kernel) (by decide +kernel) (by decide) ?_
          exact lq_isUnfit hfl F hK hZ hJ hN hX hsx hb9 hL I hi (by omega) (by omega) hl fin
        by_cases q24 : j = 24
        · subst q24
          refine lv_tableIn (tgt := 1701) (off := 1661) hx hb dL_law_40 (by decide +kernel) (by decide +kernel) (by decide +kernel) (by decide) ?_
          exact lq_isSpoilt hfl F hK hZ hJ hN hX hsx hb9 hL I hi (by omega) (by omega) hl fin
        by_cases q25 : j = 25
        · subst q25
          refine lv_tableIn (tgt := 1776) (off := 1736) hx hb dL_law_40 (by decide +kernel) (by decide +kernel) (by decide +kernel) (by decide) ?_
          exact lq_missing hfl F hK hZ hJ hN hX hsx hb9 hL I hi (by omega) (by omega) hl fin
        refine lv_tableOut (tgt := 1844) hx hb dL_law_40 (Or.inr (by rw [nI_toInt (by omega)]; omega)) (by decide) ?_
        exact W.widen (by omega) (by omega) (fin H locs ls I hl)
set_option maxHeartbeats 4000000 in
theorem whole_start {p : Program} {e : Env} {s : State} {m : MethodId} {below : List Frame} {meth : Method} {c : Code} (l : Launch) (hflags : l.flags = flags0) {b L : Nat} {xs : Nat → Int32} (hL : L ≤ 3072) (C0 : lw_At p s m meth c b L xs) : W p l e room_1 s m #[Value.ref b] below meth c s.heap [] 0 0 (lw_Z below #[Value.ref b] s) (entryFrame m ([Value.ref b] : List Value).toArray 7) := by
  obtain ⟨hx, hb, hr, hml, hown, hts, hsx, hb9, hlocks, hgv⟩ := C0
  obtain ⟨D, cI, cII, cZ, cJ, hK, hZ, hJ⟩ := st_K hts
  obtain ⟨hN, hao, hn1, hn2⟩ := st_N hts hgv
  obtain ⟨sa, hX⟩ := st_F hts hgv
  have hfl : l.stackTraces = false := by unfold Launch.stackTraces; rw [hflags]; decide
  have F : CallFix p m c cL_law 7 s #[Value.ref b] lw_tbl RL := ⟨hx, hb, hml, hown, hts⟩
  have hl := lv_entry ([.ref b]) (n := 7) (Nat.le_of_ble_eq_true rfl)
  rw [lg_entry_eq]
  generalize (lg_sl ([.ref b]) ++ List.replicate (7 - (lg_sl ([.ref b])).length) Slot.unset).toArray = ls at hl ⊢
  have hl : lv_has ls 7 [(0, .ref b)] := hl
  have hS : va_S (fun x => s.heap.size ≤ x) s.heap s.heap [] := va_S.rf
  have hP : va_P D vwCl [] s.heap := fun k q hk => by cases hk
  have hD : va_D (fun x => s.heap.size ≤ x) [] := ⟨fun i j p q hi => (by cases hi), fun k q hk => (by cases hk)⟩
  refine va_new (A := fun x => s.heap.size ≤ x) (ws := []) (tys := cT cI cII) (ci := 3) (fs := [.null, .null, .null, .null, .null, .null, .int 0]) (C := RX3) (T := TX3) (N := 7) hx hb hts st_in3 tyX3 tyX3_ok hown (hts (.classLink RL 8 RX3) (List.mem_of_getElem? (i := 54) (by decide +kernel))) (hts (.instantiable RX3 7) st_ci.2.2.2.1) (hts (.initialized RX3) (List.mem_of_getElem? (i := 40) (by decide +kernel))) hK hP hD hS (fun x h => h) rfl (fun j hj => by rcases (show j = 0 ∨ j = 1 ∨ j = 2 ∨ j = 3 ∨ j = 4 ∨ j = 5 ∨ j = 6 by omega) with rfl | rfl | rfl | rfl | rfl | rfl | rfl <;> rfl) (Nat.le_of_ble_eq_true rfl) (Nat.le_of_ble_eq_true rfl) dL_law_0 (fun q1 H hP hD hS => ?_)
  refine lv_dup hx hb dL_law_3 rfl ?_
  refine ct_callI (A := fun x => s.heap.size ≤ x) (ws1 := []) (q := q1) (Pc := ct_P3 D cI cII H.size q1) F hP hD hS (fun x h => h) (cc_X3_init l D cI cII H.size q1) (cwI 0 hts gL_X3_init rfl rfl rfl (hts (.initialized RX3) (List.mem_of_getElem? (i := 40) (by decide +kernel))) (hts (.methodLink RL 92 yX3_init) (List.mem_of_getElem? (i := 56) (by decide +kernel))) (hts (.instanceMethod yX3_init) (List.mem_of_getElem? (i := 57) (by decide +kernel))) rfl (by decide +kernel) ⟨(Nat.le_of_ble_eq_true rfl), (Nat.le_of_ble_eq_true rfl)⟩)
    ⟨fun a U g mk h => ⟨h.1, h.2.1, h.2.2.1, va_K.moved (u := U) (U := U.calling g mk a) (Vm.Alike.refl U.vm) h.2.2.2.1, va_AOA.moved (u := U) (U := U.calling g mk a) (Vm.Alike.refl U.vm) h.2.2.2.2.1, va_Nw.same (u := U) (U := U.calling g mk a) rfl rfl h.2.2.2.2.2.1, va_Nw.same (u := U) (U := U.calling g mk a) rfl rfl h.2.2.2.2.2.2⟩, fun U hU hW => ⟨rfl, by rw [hU], by rw [hU]; exact hP, va_K.moved hW.alike hK, va_AOA.moved hW.alike hao, va_Nw.warmM hW hn1, va_Nw.warmM hW hn2⟩⟩ hl.1 (lv_room (Nat.le_of_ble_eq_true rfl)) ⟨(Nat.le_of_ble_eq_true rfl), (Nat.le_of_ble_eq_true rfl)⟩ dL_law_4 (fun qq H locs hP hD hS => ?_)
  refine lv_astore_n (lv' := [(1, .ref q1), (0, .ref b)]) hx hb dL_law_7 rfl hl (by decide) rfl (fun ls hl => ?_)
  refine va_new (A := fun x => s.heap.size ≤ x) (ws := [] ++ cW (ctU q1 qq) cI cII (fun _ _ => 0) 0 0 0 none 0 (fun _ _ => 0) [] (fun _ _ => 0) (fun _ => none)) (tys := mT cI cZ) (ci := 4) (fs := [.int 0, .null, .null, .null, .null, .null, .null, .null, .null, .null, .null, .null, .int 0, .null, .null, .null, .int 0, .null, .int 0]) (C := RX4) (T := TX4) (N := 19) hx hb hts st_in4 tyX4 tyX4_ok hown (hts (.classLink RL 93 RX4) (List.mem_of_getElem? (i := 616) (by decide +kernel))) (hts (.instantiable RX4 19) st_ci.2.2.2.2) (hts (.initialized RX4) (List.mem_of_getElem? (i := 43) (by decide +kernel))) hZ hP hD hS (fun x h => h) rfl (fun j hj => by rcases (show j = 0 ∨ j = 1 ∨ j = 2 ∨ j = 3 ∨ j = 4 ∨ j = 5 ∨ j = 6 ∨ j = 7 ∨ j = 8 ∨ j = 9 ∨ j = 10 ∨ j = 11 ∨ j = 12 ∨ j = 13 ∨ j = 14 ∨ j = 15 ∨ j = 16 ∨ j = 17 ∨ j = 18 by omega) with rfl | rfl | rfl | rfl | rfl | rfl | rfl | rfl | rfl | rfl | rfl | rfl | rfl | rfl | rfl | rfl | rfl | rfl | rfl <;> rfl) (Nat.le_of_ble_eq_true rfl) (Nat.le_of_ble_eq_true rfl) dL_law_8 (fun q2 H hP hD hS => ?_)
  refine lv_dup hx hb dL_law_11 rfl ?_
  refine ct_callI (A := fun x => s.heap.size ≤ x) (ws1 := [] ++ cW (ctU q1 qq) cI cII (fun _ _ => 0) 0 0 0 none 0 (fun _ _ => 0) [] (fun _ _ => 0) (fun _ => none)) (q := q2) (Pc := ct_P D (mT cI cZ) H.size q2 4 [.int 0, .null, .null, .null, .null, .null, .null, .null, .null, .null, .null, .null, .int 0, .null, .null, .null, .int 0, .null, .int 0]) F hP hD hS (fun x h => h) (cc_X4_init l D cI cZ H.size q2) (cwI 0 hts gL_X4_init rfl rfl rfl (hts (.initialized RX4) (List.mem_of_getElem? (i := 43) (by decide +kernel))) (hts (.methodLink RL 95 yX4_init) (List.mem_of_getElem? (i := 618) (by decide +kernel))) (hts (.instanceMethod yX4_init) (List.mem_of_getElem? (i := 619) (by decide +kernel))) rfl (by decide +kernel) ⟨(Nat.le_of_ble_eq_true rfl), (Nat.le_of_ble_eq_true rfl)⟩)
    ⟨fun a U g mk h => ⟨h.1, h.2.1, h.2.2.1, va_K.moved (u := U) (U := U.calling g mk a) (Vm.Alike.refl U.vm) h.2.2.2⟩, fun U hU hW => ⟨rfl, by rw [hU], by rw [hU]; exact va_right hP, va_K.moved hW.alike hZ⟩⟩ hl.1 (lv_room (Nat.le_of_ble_eq_true rfl)) ⟨(Nat.le_of_ble_eq_true rfl), (Nat.le_of_ble_eq_true rfl)⟩ dL_law_12 (fun qm H locs hP hD hS => ?_)
  refine lv_astore_n (lv' := [(2, .ref q2), (1, .ref q1), (0, .ref b)]) hx hb dL_law_15 rfl hl (by decide) rfl (fun ls hl => ?_)
  refine lv_iconst (v := 1) hx hb dL_law_16 (by decide) ?_
  refine va_newa (A := fun x => s.heap.size ≤ x) (atype := .long) (n := (1 : Int32)) (ws := ([] ++ cW (ctU q1 qq) cI cII (fun _ _ => 0) 0 0 0 none 0 (fun _ _ => 0) [] (fun _ _ => 0) (fun _ => none)) ++ mW q2 qm cI cZ 0 0 0 0 (fun _ _ => 0) (fun _ => false)) (tys := [(cJ, .long)]) (a0 := (1, .inr (.inl (fun _ => 0)))) (N' := 1) (ty := .long) hx hb (hts (.arrayClass .long) st_ca.2.2.1) rfl hJ hP hD hS (fun x h => h) (fun cA => ct_arJ cA 1) (by decide) (by decide) (Nat.le_of_ble_eq_true rfl) (Nat.le_of_ble_eq_true rfl) (Nat.le_of_ble_eq_true rfl) dL_law_17 (fun q3 cA H hK9 hP hD hS => ?_)
  have hcA := ct_eqJ hK9 0 rfl
  subst hcA
  refine lv_astore_n (lv' := [(3, .ref q3), (2, .ref q2), (1, .ref q1), (0, .ref b)]) hx hb dL_law_19 rfl hl (by decide) rfl (fun ls hl => ?_)
  refine lv_iconst (v := 0) hx hb dL_law_20 (by decide) ?_
  refine lv_istore (lv' := [(4, .int (nI 0)), (3, .ref q3), (2, .ref q2), (1, .ref q1), (0, .ref b)]) hx hb dL_law_21 hl (by decide) rfl (fun ls hl => ?_)
  have hl : lv_has ls 7 [(0, .ref b), (1, .ref (ctU q1 qq 30)), (2, .ref q2), (3, .ref q3), (4, .int (nI (6 * 0)))] := lv_sub hl [4, 3, 2, 1, 0] rfl
  have I : lwI s.heap D cI cII cZ cA (ctU q1 qq) q2 qm q3 H locs := lwI_0 hP hD hS
  exact lw_loop hfl F hK hZ hJ hN hX hsx hb9 hL hr hlocks (L + 1) 0 H locs ls (by omega) (by omega) I hl
