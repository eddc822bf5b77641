/-! the start -/
theorem vD_nodup {A : Nat → Prop} {ws : va_W} (hD : va_D A ws) : (ws.map (fun x => x.1)).Nodup := by
  refine List.pairwise_iff_getElem.mpr (fun i j hi hj hij e => ?_)
  rw [List.length_map] at hi hj
  rw [List.getElem_map, List.getElem_map] at e
  have := hD.1 i j ws[i] ws[j] (List.getElem?_eq_getElem hi) (List.getElem?_eq_getElem hj) e
  omega
theorem vD_in {A : Nat → Prop} {ws : va_W} (hD : va_D A ws) {x : Nat} (hx : x ∈ ws.map (fun x => x.1)) : A x := by
  obtain ⟨y, hy, e⟩ := List.mem_map.mp hx
  obtain ⟨i, hi⟩ := List.mem_iff_getElem?.mp hy
  rw [← e]
  exact hD.2 i y hi
/-- the tie at the start -/
theorem rel_0 (w : Nat → Nat → Int32) : tRel 0 0 (fun _ _ => 0) (fun _ => false) ((fun _ _ => 0), 0, ([] : List Nat).map w) := by
  refine ⟨⟨⟨by omega, by omega, fun k hk => absurd hk (Nat.not_lt_zero _), fun i hi => absurd hi (Nat.not_lt_zero _), fun k hk => absurd hk (Nat.not_lt_zero _)⟩, fun v hv => ⟨0, by omega, rfl⟩, fun i hi => absurd hi (Nat.not_lt_zero _), fun i hi => absurd hi (Nat.not_lt_zero _), fun i v hi => absurd hi (Nat.not_lt_zero _), fun i hi => absurd hi (Nat.not_lt_zero _), fun i hi => absurd hi (Nat.not_lt_zero _), fun k hk => absurd hk (Nat.not_lt_zero _), fun j hj => ⟨0, by omega, rfl⟩, fun i u _ _ => rfl⟩, ⟨[], ⟨rfl, List.nodup_nil, fun i => ⟨fun h => absurd h List.not_mem_nil, fun h => absurd h (Nat.not_lt_zero _)⟩, List.Pairwise.nil⟩, rfl⟩, rfl, fun v hv => rfl, fun k hk => rfl, fun k hk => rfl, fun r f hr hf => rfl⟩
section CTI
variable {p : Program} {l : Launch} {e9 : Env} {R : Room} {s : State} {m : MethodId} {args : Array Value} {below : List Frame} {meth : Method} {c : Code} {H : Heap} {locs : List Loc} {cells slots : Nat} {Q : State → Prop}
variable {cc bytes : ByteArray} {pc nL index maxL mc ms : Nat} {ls : Array Slot} {rest : List Value} {Ts ws : List Cond} {own : String} {D : va_G} {A : Nat → Prop} {H0 : Heap} {y : MethodName} {rm : Room}
/-- a constructor called by another class -/
theorem ct_callI {ws1 : va_W} {q ci : Nat} {fs : List Value} {WW : (Nat → Nat) → va_W} {Pc : Array Value → State → Prop} (F : CallFix p m c cc nL s args Ts own) (hP : va_P D vwCl (ws1 ++ [(q, .inr (ci, fs))]) H) (hD : va_D A (ws1 ++ [(q, .inr (ci, fs))])) (hS : va_S A H0 H locs) (hA : ∀ x, H0.size ≤ x → A x)
    (hM : Met l y ws rm Pc (ct_Q D H.size q WW) mc ms (ct_A q H.size)) (cw : CallB R s args own index y bytes maxL none ws rm mc ms 0 ∧ y.name = "<init>" ∧ (Cond.instanceMethod y).before args s = true) (hpre : PreS s H Pc [.ref q]) (hsize : ls.size = nL) (hW : 2 * (F0 m pc ls (.ref q :: rest)).monitorRoom + (rest.map fun v => v.category).sum ≤ 8) (hcs : cells + mc ≤ R.cells ∧ slots + ms ≤ R.slots) (hdg : decode cc pc = .ok (.invokespecial index, 3))
    (kk : ∀ (qq : Nat → Nat) (H1 : Heap) (locs1 : List Loc), va_P D vwCl (ws1 ++ WW qq) H1 → va_D A (ws1 ++ WW qq) → va_S A H0 H1 locs1 → W p l e9 R s m args below meth c H1 locs1 (cells + mc) (slots + ms) Q (F0 m (pc + 3) ls rest)) : W p l e9 R s m args below meth c H locs cells slots Q (F0 m pc ls (.ref q :: rest)) := by
  have h1 : va_P D vwCl ws1 H := va_left hP
  have hlast : (ws1 ++ [(q, (.inr (ci, fs) : va_E))])[ws1.length]? = some (q, .inr (ci, fs)) := by rw [List.getElem?_append_right (Nat.le_refl _), Nat.sub_self]; rfl
  have hAq : A q := hD.2 _ _ hlast
  have hne : ∀ (k : Nat) (x : Nat × va_E), ws1[k]? = some x → x.1 ≠ q := fun k x hk hq => by
    have hlt := (List.getElem?_eq_some_iff.mp hk).1
    have := hD.1 k ws1.length x _ (by rw [List.getElem?_append_left hlt]; exact hk) hlast hq
    omega
  have hr : va_Run p l e9 R s m args below meth c H locs cells slots mc ms (F0 m pc ls (.ref q :: rest)) rest (ct_Q D H.size q WW (Value.ref q :: []).toArray) (ct_A q H.size) := va_runI (As := []) (rest := rest) (g := F0 m pc ls (.ref q :: rest)) F hM cw hpre rfl rfl hsize rfl hW hdg hcs
  intro T hT X
  obtain ⟨v, st₀, t, T', Lc, hh0, X', hL, e1, e2, ⟨hv, ⟨qq, hq, hqD⟩, hz, hk3⟩, stp⟩ := hr T hT X
  cases hv
  rw [hh0] at hz hk3
  have hlt : ∀ (k : Nat) (x : Nat × va_E), ws1[k]? = some x → x.1 < H.size := fun k x hk => (h1 k x hk).lt
  have hPk : va_P D vwCl ws1 T'.heap := h1.kept (fun k x hk => by
    rw [e1]
    exact hk3 x.1 (hlt k x hk) (fun z => z.elim (hne k x hk) (fun z => absurd (hlt k x hk) (Nat.not_lt.mpr z))))
  have hsub : ∀ x, ct_A q H.size x → A x := fun x z => z.elim (fun r => r ▸ hAq) (fun r => hA x (Nat.le_trans hS.1 r))
  have hD1 : va_D A ws1 := ⟨fun i j p r hi hj hpr => hD.1 i j p r (by rw [List.getElem?_append_left (List.getElem?_eq_some_iff.mp hi).1]; exact hi) (by rw [List.getElem?_append_left (List.getElem?_eq_some_iff.mp hj).1]; exact hj) hpr, fun k x hk => hD.2 k x (by rw [List.getElem?_append_left (List.getElem?_eq_some_iff.mp hk).1]; exact hk)⟩
  obtain ⟨t2, a1, b1⟩ := kk qq T'.heap (locs ++ Lc) (va_P.app hPk (by rw [e1]; exact hq)) (va_D.app hD1 (hqD.weaken (fun k x hk z => hsub _ z)) (fun i j x r hi hj hxr => by
      rcases hqD.2 j r hj with z | z
      · exact hne i x hi (hxr.trans z)
      · have := hlt i x hi; omega)) ⟨Nat.le_trans hS.1 (by rw [e1]; exact hz), fun x g1 g2 => by rw [e1, hk3 x (Nat.lt_of_lt_of_le g1 hS.1) (fun z => g2 (hsub x z))]; exact hS.2.1 x g1 g2, fun z hz2 => by
    rcases List.mem_append.mp hz2 with y | y
    · exact hS.2.2 z y
    · exact hsub _ (hL z y)⟩ T' rfl X'
  exact ⟨t2, stp t2 a1, b1⟩
end CTI
theorem lT_0 : lT 0 0 (fun _ _ => 0) (fun _ => false) (fun _ _ => 0) :=
  ⟨⟨by omega, by omega⟩, ⟨rfl, rfl⟩, fun i hi => absurd hi (Nat.not_lt_zero _), fun i hi => absurd hi (Nat.not_lt_zero _), fun i hi => absurd hi (Nat.not_lt_zero _), fun i hi => absurd hi (Nat.not_lt_zero _), fun i hi => absurd hi (Nat.not_lt_zero _), fun v _ => rfl, fun j _ => ⟨rfl, 0, by omega, rfl⟩, fun k hk => absurd hk (Nat.not_lt_zero _)⟩
set_option maxHeartbeats 8000000 in
set_option maxRecDepth 100000 in
theorem lf_first {p : Program} {l : Launch} {e9 : Env} {s : State} {m : MethodId} {b9 : Nat} {below : List Frame} {meth : Method} {c : Code} {D : va_G} {u q : Nat → Nat} {cI cII : ClassId} {sa : Nat → Nat} (hfl : l.stackTraces = false) (F : CallFix p m c cL_law 26 s #[Value.ref b9] lw_tbl RL) (hK : va_K D vwCl (cT cI cII) s) (hX : xF (fun x => s.heap.size ≤ x) sa s) (hNz : wzN s) (hN : (lA q).Nodup) (hq : ∀ x, x ∈ lA q → s.heap.size ≤ x) (hr : meth.sig.returnType = ret) (hlocks : meth.locks = false) {L9 : Nat} {xs : Nat → Int32} (hsx : va_X b9 L9 xs s s.heap) (hb9 : b9 < s.heap.size) (hL9 : L9 ≤ 260) {n cm : Nat} {a : Nat → Nat → Int32} {kn : Nat → Bool} {cs : CS} {F9 : FF} {H : Heap} {locs : List Loc} {cel slo : Nat} {ls : Array Slot} (R9 : tRel n cm a kn cs) (E : lT n cm a kn F9) (hcel : cel ≤ 500) (hslo : slo ≤ 5000) (hA : va_P D vwCl (lX q cI F9) H) (hC : sW D u cI cII (fun x => s.heap.size ≤ x) (fun y => y ∈ lA q) cs H) (hS : va_S (fun x => s.heap.size ≤ x) s.heap H locs) (hl : lv_has ls 26 [(12, .ref (q 10)), (11, .ref (q 9)), (10, .ref (q 8)), (9, .ref (q 7)), (8, .ref (q 6)), (7, .ref (q 5)), (6, .ref (q 4)), (5, .ref (q 3)), (4, .ref (q 2)), (3, .ref (q 1)), (2, .ref (q 0)), (1, .ref (u 30)), (0, .ref b9)]) : lwW p l e9 s m b9 below meth c H locs cel slo (F0 m 70 ls []) := by
  have hx := F.1
  have hb := F.2.1
  have hf00 : F9 0 0 = nI n := E.f00
  have hf01 : F9 0 1 = nI cm := E.f01
  have hn64 := E.n64
  have hcm10 := E.cm10
  refine lv_aload_n hx hb dL_law_70 rfl (lv_at hl 11 rfl) ?_
  refine lv_aload_n hx hb dL_law_71 rfl (lv_at hl 10 rfl) ?_
  refine lv_aload_n hx hb dL_law_72 rfl (lv_at hl 9 rfl) ?_
  refine lv_aload hx hb dL_law_73 (lv_at hl 8 rfl) ?_
  refine lv_aload hx hb dL_law_75 (lv_at hl 7 rfl) ?_
  refine lv_aload hx hb dL_law_77 (lv_at hl 6 rfl) ?_
  refine lv_aload hx hb dL_law_79 (lv_at hl 5 rfl) ?_
  refine lv_aload hx hb dL_law_81 (lv_at hl 4 rfl) ?_
  refine lv_aload hx hb dL_law_83 (lv_at hl 3 rfl) ?_
  refine lv_iconst (v := 1) hx hb dL_law_85 (by decide) ?_
  refine ix_seen hfl F hK hX (fun x h => h) hN hA hC R9 E hS 1 (by omega) (va_cwS 10 F.2.2.2.2 gL_law_L_isSeen rfl rfl rfl (by decide +kernel) ⟨Nat.le_of_ble_eq_true rfl, Nat.le_of_ble_eq_true rfl⟩) hl.1 rfl (lv_room (Nat.le_of_ble_eq_true rfl)) ⟨by show _ ≤ 600086; omega, by show _ ≤ 7301442; omega⟩ dL_law_86 (fun H locs hA hC hS => ?_)
  refine lv_istore (lv' := [(13, .int 1), (12, .ref (q 10)), (11, .ref (q 9)), (10, .ref (q 8)), (9, .ref (q 7)), (8, .ref (q 6)), (7, .ref (q 5)), (6, .ref (q 4)), (5, .ref (q 3)), (4, .ref (q 2)), (3, .ref (q 1)), (2, .ref (q 0)), (1, .ref (u 30)), (0, .ref b9)]) hx hb dL_law_89 hl (by decide) rfl (fun ls hl => ?_)
  refine lv_iconst (v := 0) hx hb dL_law_91 (by decide) ?_
  refine lv_istore (lv' := [(14, .int 0), (13, .int 1), (12, .ref (q 10)), (11, .ref (q 9)), (10, .ref (q 8)), (9, .ref (q 7)), (8, .ref (q 6)), (7, .ref (q 5)), (6, .ref (q 4)), (5, .ref (q 3)), (4, .ref (q 2)), (3, .ref (q 1)), (2, .ref (q 0)), (1, .ref (u 30)), (0, .ref b9)]) hx hb dL_law_92 hl (by decide) rfl (fun ls hl => ?_)
  exact lw_loop hfl F hK hX hNz hN hq hr hlocks hsx hb9 hL9 111 0 n cm a kn cs F9 H locs _ _ ls (by omega) (by omega) R9 E (by omega) (by omega) hA hC hS (lv_sub hl [1, 0, 2, 3, 4, 5, 6, 7, 8, 9, 10, 11, 12, 13, 14] rfl)
set_option maxHeartbeats 8000000 in
set_option maxRecDepth 100000 in
theorem whole_start {p : Program} {e : Env} {s : State} {m : MethodId} {below : List Frame} {meth : Method} {c : Code} (l : Launch) (hflags : l.flags = flags0) {b L : Nat} {xs : Nat → Int32} (hL : L ≤ 260) (C0 : lw_At p s m meth c b L xs) : W p l e room_1 s m #[Value.ref b] below meth c s.heap [] 0 0 (lw_Z below #[Value.ref b] s) (entryFrame m ([Value.ref b] : List Value).toArray 26) := by
  obtain ⟨hx, hb, hr, hml, hown, hts, hsx, hb9, hlocks, hgv⟩ := C0
  obtain ⟨D, cI, cII, hK⟩ := st_K hts
  obtain ⟨hNz, hao, hn1, hn2⟩ := st_N hts hgv
  obtain ⟨sa, hX0⟩ := st_F hts hgv
  have hX : xF (fun x => s.heap.size ≤ x) sa s := hX0 _ (fun a ha => Nat.not_le.mpr ha)
  have hfl : l.stackTraces = false := by unfold Launch.stackTraces; rw [hflags]; decide
  have F : CallFix p m c cL_law 26 s #[Value.ref b] lw_tbl RL := ⟨hx, hb, hml, hown, hts⟩
  have hl := lv_entry ([.ref b]) (n := 26) (Nat.le_of_ble_eq_true rfl)
  rw [lg_entry_eq]
  generalize (lg_sl ([.ref b]) ++ List.replicate (26 - (lg_sl ([.ref b])).length) Slot.unset).toArray = ls at hl ⊢
  have hl : lv_has ls 26 [(0, .ref b)] := hl
  have hS : va_S (fun x => s.heap.size ≤ x) s.heap s.heap [] := va_S.rf
  have hP : va_P D vwCl [] s.heap := fun k q hk => by cases hk
  have hD : va_D (fun x => s.heap.size ≤ x) [] := ⟨fun i j p q hi => (by cases hi), fun k q hk => (by cases hk)⟩
  refine va_new (A := fun x => s.heap.size ≤ x) (ws := []) (tys := cT cI cII) (ci := 3) (fs := [.null, .null, .null, .null, .null, .null, .int 0]) (C := RX3) (T := TX3) (N := 7) hx hb hts st_in3 tyX3 tyX3_ok hown (hts (.classLink RL 42 RX3) (by decide +kernel)) (hts (.instantiable RX3 7) st_ci.2.2.2) (hts (.initialized RX3) (by decide +kernel)) hK hP hD hS (fun x h => h) rfl (fun j hj => by rcases (show j = 0 ∨ j = 1 ∨ j = 2 ∨ j = 3 ∨ j = 4 ∨ j = 5 ∨ j = 6 by omega) with rfl | rfl | rfl | rfl | rfl | rfl | rfl <;> rfl) (Nat.le_of_ble_eq_true rfl) (Nat.le_of_ble_eq_true rfl) dL_law_0 (fun q1 H hP hD hS => ?_)
  refine lv_dup hx hb dL_law_3 rfl ?_
  refine ct_callI (A := fun x => s.heap.size ≤ x) (ws1 := []) (q := q1) (Pc := ct_P3 D cI cII H.size q1) F hP hD hS (fun x h => h) (cc_X3_init l D cI cII H.size q1) (cwI 0 hts gL_X3_init rfl rfl rfl (hts (.initialized RX3) (by decide +kernel)) (hts (.methodLink RL 138 yX3_init) (by decide +kernel)) (hts (.instanceMethod yX3_init) (by decide +kernel)) rfl (by decide +kernel) ⟨(Nat.le_of_ble_eq_true rfl), (Nat.le_of_ble_eq_true rfl)⟩)
    ⟨fun a U g mk h => ⟨h.1, h.2.1, h.2.2.1, va_K.moved (u := U) (U := U.calling g mk a) (Vm.Alike.refl U.vm) h.2.2.2.1, va_AOA.moved (u := U) (U := U.calling g mk a) (Vm.Alike.refl U.vm) h.2.2.2.2.1, va_Nw.same (u := U) (U := U.calling g mk a) rfl rfl h.2.2.2.2.2.1, va_Nw.same (u := U) (U := U.calling g mk a) rfl rfl h.2.2.2.2.2.2⟩, fun U hU hW => ⟨rfl, by rw [hU], by rw [hU]; exact hP, va_K.moved hW.alike hK, va_AOA.moved hW.alike hao, va_Nw.warmM hW hn1, va_Nw.warmM hW hn2⟩⟩ hl.1 (lv_room (Nat.le_of_ble_eq_true rfl)) ⟨(Nat.le_of_ble_eq_true rfl), (Nat.le_of_ble_eq_true rfl)⟩ dL_law_4 (fun qq H0 locs hP hD hS => ?_)
  have hc : va_P D vwCl (cW (ctU q1 qq) cI cII (fun _ _ => 0) 0 0 0 none 0 (fun _ _ => 0) [] (fun _ _ => 0) (fun _ => none)) H0 := hP
  have hcD : va_D (fun x => s.heap.size ≤ x) (cW (ctU q1 qq) cI cII (fun _ _ => 0) 0 0 0 none 0 (fun _ _ => 0) [] (fun _ _ => 0) (fun _ => none)) := hD
  have hclt : ∀ x, x ∈ cAd (ctU q1 qq) ++ ([] : List Nat) → x < H0.size := fun x hx => by
    rw [← cAd_map (ctU q1 qq) cI cII (fun _ _ => 0) 0 0 0 none 0 (fun _ _ => 0) [] (fun _ _ => 0) (fun _ => none)] at hx
    obtain ⟨x9, h1, h2⟩ := List.mem_map.mp hx
    obtain ⟨i, hi⟩ := List.mem_iff_getElem?.mp h1
    rw [← h2]; exact (hc i x9 hi).lt
  have hcN := vD_nodup hcD
  rw [cAd_map] at hcN
  have hcA : ∀ x, x ∈ cAd (ctU q1 qq) ++ ([] : List Nat) → s.heap.size ≤ x := fun x hx => vD_in hcD (by rw [cAd_map]; exact hx)
  have harr : (Cond.arrayClass .int).before #[Value.ref b] s = true := hts _ st_ca.1
  have ha : va_P D vwCl [] H0 := fun k q hk => by cases hk
  have hS0 := hS.1
  refine lv_astore_n (lv' := [(1, .ref q1), (0, .ref b)]) hx hb dL_law_7 rfl hl (by decide) rfl (fun ls hl => ?_)
  refine lv_iconst (v := 2) hx hb dL_law_8 (by decide) ?_
  refine la_new (cI := cI) F hK harr hS 2 (by omega) (Nat.le_of_ble_eq_true rfl) (Nat.le_of_ble_eq_true rfl) dL_law_9 (fun H1 n1 z1 o1 hS => ?_)
  have hc := hc.kept (fun k x9 hx9 => o1 x9.1 ((hc k x9 hx9).lt))
  have ha := (ha.kept (fun k x9 hx9 => o1 x9.1 ((ha k x9 hx9).lt))).app n1
  refine lv_astore_n (lv' := [(2, .ref H0.size), (1, .ref q1), (0, .ref b)]) hx hb dL_law_11 rfl hl (by decide) rfl (fun ls hl => ?_)
  refine lv_bipush (v := 64) hx hb dL_law_12 (by decide) ?_
  refine la_new (cI := cI) F hK harr hS 64 (by omega) (Nat.le_of_ble_eq_true rfl) (Nat.le_of_ble_eq_true rfl) dL_law_14 (fun H2 n2 z2 o2 hS => ?_)
  have hc := hc.kept (fun k x9 hx9 => o2 x9.1 ((hc k x9 hx9).lt))
  have ha := (ha.kept (fun k x9 hx9 => o2 x9.1 ((ha k x9 hx9).lt))).app n2
  refine lv_astore_n (lv' := [(3, .ref H1.size), (2, .ref H0.size), (1, .ref q1), (0, .ref b)]) hx hb dL_law_16 rfl hl (by decide) rfl (fun ls hl => ?_)
  refine lv_bipush (v := 64) hx hb dL_law_17 (by decide) ?_
  refine la_new (cI := cI) F hK harr hS 64 (by omega) (Nat.le_of_ble_eq_true rfl) (Nat.le_of_ble_eq_true rfl) dL_law_19 (fun H3 n3 z3 o3 hS => ?_)
  have hc := hc.kept (fun k x9 hx9 => o3 x9.1 ((hc k x9 hx9).lt))
  have ha := (ha.kept (fun k x9 hx9 => o3 x9.1 ((ha k x9 hx9).lt))).app n3
  refine lv_astore (lv' := [(4, .ref H2.size), (3, .ref H1.size), (2, .ref H0.size), (1, .ref q1), (0, .ref b)]) hx hb dL_law_21 hl (by decide) rfl (fun ls hl => ?_)
  refine lv_bipush (v := 64) hx hb dL_law_23 (by decide) ?_
  refine la_new (cI := cI) F hK harr hS 64 (by omega) (Nat.le_of_ble_eq_true rfl) (Nat.le_of_ble_eq_true rfl) dL_law_25 (fun H4 n4 z4 o4 hS => ?_)
  have hc := hc.kept (fun k x9 hx9 => o4 x9.1 ((hc k x9 hx9).lt))
  have ha := (ha.kept (fun k x9 hx9 => o4 x9.1 ((ha k x9 hx9).lt))).app n4
  refine lv_astore (lv' := [(5, .ref H3.size), (4, .ref H2.size), (3, .ref H1.size), (2, .ref H0.size), (1, .ref q1), (0, .ref b)]) hx hb dL_law_27 hl (by decide) rfl (fun ls hl => ?_)
  refine lv_bipush (v := 64) hx hb dL_law_29 (by decide) ?_
  refine la_new (cI := cI) F hK harr hS 64 (by omega) (Nat.le_of_ble_eq_true rfl) (Nat.le_of_ble_eq_true rfl) dL_law_31 (fun H5 n5 z5 o5 hS => ?_)
  have hc := hc.kept (fun k x9 hx9 => o5 x9.1 ((hc k x9 hx9).lt))
  have ha := (ha.kept (fun k x9 hx9 => o5 x9.1 ((ha k x9 hx9).lt))).app n5
  refine lv_astore (lv' := [(6, .ref H4.size), (5, .ref H3.size), (4, .ref H2.size), (3, .ref H1.size), (2, .ref H0.size), (1, .ref q1), (0, .ref b)]) hx hb dL_law_33 hl (by decide) rfl (fun ls hl => ?_)
  refine lv_iconst (v := 5) hx hb dL_law_35 (by decide) ?_
  refine la_new (cI := cI) F hK harr hS 5 (by omega) (Nat.le_of_ble_eq_true rfl) (Nat.le_of_ble_eq_true rfl) dL_law_36 (fun H6 n6 z6 o6 hS => ?_)
  have hc := hc.kept (fun k x9 hx9 => o6 x9.1 ((hc k x9 hx9).lt))
  have ha := (ha.kept (fun k x9 hx9 => o6 x9.1 ((ha k x9 hx9).lt))).app n6
  refine lv_astore (lv' := [(7, .ref H5.size), (6, .ref H4.size), (5, .ref H3.size), (4, .ref H2.size), (3, .ref H1.size), (2, .ref H0.size), (1, .ref q1), (0, .ref b)]) hx hb dL_law_38 hl (by decide) rfl (fun ls hl => ?_)
  refine lv_bipush (v := 48) hx hb dL_law_40 (by decide) ?_
  refine la_new (cI := cI) F hK harr hS 48 (by omega) (Nat.le_of_ble_eq_true rfl) (Nat.le_of_ble_eq_true rfl) dL_law_42 (fun H7 n7 z7 o7 hS => ?_)
  have hc := hc.kept (fun k x9 hx9 => o7 x9.1 ((hc k x9 hx9).lt))
  have ha := (ha.kept (fun k x9 hx9 => o7 x9.1 ((ha k x9 hx9).lt))).app n7
  refine lv_astore (lv' := [(8, .ref H6.size), (7, .ref H5.size), (6, .ref H4.size), (5, .ref H3.size), (4, .ref H2.size), (3, .ref H1.size), (2, .ref H0.size), (1, .ref q1), (0, .ref b)]) hx hb dL_law_44 hl (by decide) rfl (fun ls hl => ?_)
  refine lv_bipush (v := 20) hx hb dL_law_46 (by decide) ?_
  refine la_new (cI := cI) F hK harr hS 20 (by omega) (Nat.le_of_ble_eq_true rfl) (Nat.le_of_ble_eq_true rfl) dL_law_48 (fun H8 n8 z8 o8 hS => ?_)
  have hc := hc.kept (fun k x9 hx9 => o8 x9.1 ((hc k x9 hx9).lt))
  have ha := (ha.kept (fun k x9 hx9 => o8 x9.1 ((ha k x9 hx9).lt))).app n8
  refine lv_astore (lv' := [(9, .ref H7.size), (8, .ref H6.size), (7, .ref H5.size), (6, .ref H4.size), (5, .ref H3.size), (4, .ref H2.size), (3, .ref H1.size), (2, .ref H0.size), (1, .ref q1), (0, .ref b)]) hx hb dL_law_50 hl (by decide) rfl (fun ls hl => ?_)
  refine lv_bipush (v := 40) hx hb dL_law_52 (by decide) ?_
  refine la_new (cI := cI) F hK harr hS 40 (by omega) (Nat.le_of_ble_eq_true rfl) (Nat.le_of_ble_eq_true rfl) dL_law_54 (fun H9 n9 z9 o9 hS => ?_)
  have hc := hc.kept (fun k x9 hx9 => o9 x9.1 ((hc k x9 hx9).lt))
  have ha := (ha.kept (fun k x9 hx9 => o9 x9.1 ((ha k x9 hx9).lt))).app n9
  refine lv_astore (lv' := [(10, .ref H8.size), (9, .ref H7.size), (8, .ref H6.size), (7, .ref H5.size), (6, .ref H4.size), (5, .ref H3.size), (4, .ref H2.size), (3, .ref H1.size), (2, .ref H0.size), (1, .ref q1), (0, .ref b)]) hx hb dL_law_56 hl (by decide) rfl (fun ls hl => ?_)
  refine lv_bipush (v := 40) hx hb dL_law_58 (by decide) ?_
  refine la_new (cI := cI) F hK harr hS 40 (by omega) (Nat.le_of_ble_eq_true rfl) (Nat.le_of_ble_eq_true rfl) dL_law_60 (fun H10 n10 z10 o10 hS => ?_)
  have hc := hc.kept (fun k x9 hx9 => o10 x9.1 ((hc k x9 hx9).lt))
  have ha := (ha.kept (fun k x9 hx9 => o10 x9.1 ((ha k x9 hx9).lt))).app n10
  refine lv_astore (lv' := [(11, .ref H9.size), (10, .ref H8.size), (9, .ref H7.size), (8, .ref H6.size), (7, .ref H5.size), (6, .ref H4.size), (5, .ref H3.size), (4, .ref H2.size), (3, .ref H1.size), (2, .ref H0.size), (1, .ref q1), (0, .ref b)]) hx hb dL_law_62 hl (by decide) rfl (fun ls hl => ?_)
  refine lv_bipush (v := 40) hx hb dL_law_64 (by decide) ?_
  refine la_new (cI := cI) F hK harr hS 40 (by omega) (Nat.le_of_ble_eq_true rfl) (Nat.le_of_ble_eq_true rfl) dL_law_66 (fun H11 n11 z11 o11 hS => ?_)
  have hc := hc.kept (fun k x9 hx9 => o11 x9.1 ((hc k x9 hx9).lt))
  have ha := (ha.kept (fun k x9 hx9 => o11 x9.1 ((ha k x9 hx9).lt))).app n11
  refine lv_astore (lv' := [(12, .ref H10.size), (11, .ref H9.size), (10, .ref H8.size), (9, .ref H7.size), (8, .ref H6.size), (7, .ref H5.size), (6, .ref H4.size), (5, .ref H3.size), (4, .ref H2.size), (3, .ref H1.size), (2, .ref H0.size), (1, .ref q1), (0, .ref b)]) hx hb dL_law_68 hl (by decide) rfl (fun ls hl => ?_)
  have hA : va_P D vwCl (lX (fun k => [H0.size, H1.size, H2.size, H3.size, H4.size, H5.size, H6.size, H7.size, H8.size, H9.size, H10.size].getD k 0) cI (fun _ _ => 0)) H11 := ha
  have eA : lA (fun k => [H0.size, H1.size, H2.size, H3.size, H4.size, H5.size, H6.size, H7.size, H8.size, H9.size, H10.size].getD k 0) = [H0.size, H1.size, H2.size, H3.size, H4.size, H5.size, H6.size, H7.size, H8.size, H9.size, H10.size] := rfl
  have hN : (lA (fun k => [H0.size, H1.size, H2.size, H3.size, H4.size, H5.size, H6.size, H7.size, H8.size, H9.size, H10.size].getD k 0)).Nodup := by
    rw [eA]
    simp only [List.nodup_cons, List.mem_cons, List.not_mem_nil, or_false, List.nodup_nil, not_false_eq_true, and_true]
    omega
  have hge : ∀ x, x ∈ lA (fun k => [H0.size, H1.size, H2.size, H3.size, H4.size, H5.size, H6.size, H7.size, H8.size, H9.size, H10.size].getD k 0) → H0.size ≤ x := fun x hx => by
    rw [eA] at hx
    simp only [List.mem_cons, List.not_mem_nil, or_false] at hx
    omega
  have hC : sW D (ctU q1 qq) cI cII (fun x => s.heap.size ≤ x) (fun y => y ∈ lA (fun k => [H0.size, H1.size, H2.size, H3.size, H4.size, H5.size, H6.size, H7.size, H8.size, H9.size, H10.size].getD k 0)) ((fun _ _ => 0), 0, []) H11 :=
    ⟨(fun _ _ => 0), 0, 0, 0, none, 0, (fun _ _ => 0), [], (fun _ _ => 0), (fun _ => none), rfl, rfl, rfl, trivial, hcN, fun x hx => by
      have hm : x ∈ cAd (ctU q1 qq) ++ ([] : List Nat) := List.mem_append.mpr hx
      exact ⟨hcA x hm, fun z => absurd (hclt x hm) (Nat.not_lt.mpr (hge x z))⟩, hc⟩
  have hl : lv_has ls 26 [(12, .ref ((fun k => [H0.size, H1.size, H2.size, H3.size, H4.size, H5.size, H6.size, H7.size, H8.size, H9.size, H10.size].getD k 0) 10)), (11, .ref ((fun k => [H0.size, H1.size, H2.size, H3.size, H4.size, H5.size, H6.size, H7.size, H8.size, H9.size, H10.size].getD k 0) 9)), (10, .ref ((fun k => [H0.size, H1.size, H2.size, H3.size, H4.size, H5.size, H6.size, H7.size, H8.size, H9.size, H10.size].getD k 0) 8)), (9, .ref ((fun k => [H0.size, H1.size, H2.size, H3.size, H4.size, H5.size, H6.size, H7.size, H8.size, H9.size, H10.size].getD k 0) 7)), (8, .ref ((fun k => [H0.size, H1.size, H2.size, H3.size, H4.size, H5.size, H6.size, H7.size, H8.size, H9.size, H10.size].getD k 0) 6)), (7, .ref ((fun k => [H0.size, H1.size, H2.size, H3.size, H4.size, H5.size, H6.size, H7.size, H8.size, H9.size, H10.size].getD k 0) 5)), (6, .ref ((fun k => [H0.size, H1.size, H2.size, H3.size, H4.size, H5.size, H6.size, H7.size, H8.size, H9.size, H10.size].getD k 0) 4)), (5, .ref ((fun k => [H0.size, H1.size, H2.size, H3.size, H4.size, H5.size, H6.size, H7.size, H8.size, H9.size, H10.size].getD k 0) 3)), (4, .ref ((fun k => [H0.size, H1.size, H2.size, H3.size, H4.size, H5.size, H6.size, H7.size, H8.size, H9.size, H10.size].getD k 0) 2)), (3, .ref ((fun k => [H0.size, H1.size, H2.size, H3.size, H4.size, H5.size, H6.size, H7.size, H8.size, H9.size, H10.size].getD k 0) 1)), (2, .ref ((fun k => [H0.size, H1.size, H2.size, H3.size, H4.size, H5.size, H6.size, H7.size, H8.size, H9.size, H10.size].getD k 0) 0)), (1, .ref (ctU q1 qq 30)), (0, .ref b)] := hl
  exact lf_first hfl F hK hX hNz hN (fun x hx => Nat.le_trans hS0 (hge x hx)) hr hlocks hsx hb9 hL (rel_0 (fun _ _ => 0)) lT_0 (Nat.le_of_ble_eq_true rfl) (Nat.le_of_ble_eq_true rfl) hA hC hS hl
