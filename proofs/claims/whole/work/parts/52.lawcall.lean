/-! the law's own calls, and what it holds between them -/
theorem gd_of {ws : List Cond} (h1 : ∀ w ∈ ws, w ∈ lw_tbl) (h2 : ws.all goodWord = true) : GoodIn lw_tbl ws := fun w hw => ⟨h1 w hw, good_of_word (List.all_eq_true.mp h2 w hw)⟩
theorem rel_ok {n cm : Nat} {a : Nat → Nat → Int32} {kn : Nat → Bool} {b : Nat → Nat → Int32} {cn : Nat} {L : List Nat} {w : Nat → Nat → Int32} (R : tRel n cm a kn (b, cn, L.map w)) : ∀ x, x ∈ L → okW (w x) := by
  intro x hx
  obtain ⟨T, ⟨os, O, e⟩, -⟩ := R
  have hcm := T.hcm
  have hm : w x ∈ os.map (recW a kn) := by rw [← show L.map w = os.map (recW a kn) from e]; exact List.mem_map_of_mem hx
  obtain ⟨i, hi, ei⟩ := List.mem_map.mp hm
  have hi := (O.mem i).mp hi
  rw [← ei]
  have e0 : recW a kn i 0 = a 1 i := rfl
  have e3 : recW a kn i 3 = if a 1 i = 3 ∨ a 1 i = 5 ∨ a 1 i = 6 then -1 else a 4 i := rfl
  have e4 : recW a kn i 4 = if a 1 i = 3 ∨ a 1 i = 5 ∨ a 1 i = 6 then a 4 i else a 5 i := rfl
  unfold okW
  rw [e0, e3, e4]
  rcases T.kind i hi with ⟨h, t, t1, t2⟩ | ⟨h, ⟨t, t1, t2⟩, -⟩ | ⟨h, g, g1, g2⟩ | ⟨h, k, k1, k2, -⟩ | ⟨h, ⟨t, t1, t2⟩, k, k1, k2⟩ | ⟨h, k, k1, k2⟩ | ⟨h, k, k1, k2⟩
  · rw [h, if_neg (by decide), if_neg (by decide)]
    exact ⟨Or.inl rfl, fun _ => ⟨t, t1, t2⟩, fun z => absurd z (by decide), fun z => absurd z (by decide)⟩
  · rw [h, if_neg (by decide), if_neg (by decide)]
    exact ⟨Or.inr (Or.inl rfl), fun _ => ⟨t, t1, t2⟩, fun z => absurd z (by decide), fun z => absurd z (by decide)⟩
  · rw [h, if_neg (by decide), if_neg (by decide)]
    exact ⟨Or.inr (Or.inr (Or.inl rfl)), fun z => absurd z (by decide), fun _ => ⟨g, g1, g2⟩, fun z => absurd z (by decide)⟩
  · rw [h, if_pos (by decide), if_pos (by decide)]
    exact ⟨Or.inr (Or.inr (Or.inr (Or.inl rfl))), fun z => absurd z (by decide), fun z => absurd z (by decide), fun _ => ⟨k, by omega, k2⟩⟩
  · rw [h, if_neg (by decide), if_neg (by decide)]
    exact ⟨Or.inr (Or.inr (Or.inr (Or.inr (Or.inl rfl)))), fun _ => ⟨t, t1, t2⟩, fun z => absurd z (by decide), fun _ => ⟨k, by omega, k2⟩⟩
  · rw [h, if_pos (by decide), if_pos (by decide)]
    exact ⟨Or.inr (Or.inr (Or.inr (Or.inr (Or.inr (Or.inl rfl))))), fun z => absurd z (by decide), fun z => absurd z (by decide), fun _ => ⟨k, by omega, k2⟩⟩
  · rw [h, if_pos (by decide), if_pos (by decide)]
    exact ⟨Or.inr (Or.inr (Or.inr (Or.inr (Or.inr (Or.inr rfl))))), fun z => absurd z (by decide), fun z => absurd z (by decide), fun _ => ⟨k, by omega, k2⟩⟩
theorem rel_cn {n cm : Nat} {a : Nat → Nat → Int32} {kn : Nat → Bool} {b : Nat → Nat → Int32} {cn : Nat} {ws : List (Nat → Int32)} (R : tRel n cm a kn (b, cn, ws)) : cn ≤ 20 := by
  have h1 := R.cn
  have h2 := R.inv.hcm
  have h1 : cn = cm := h1
  omega
theorem rel_rc {n cm : Nat} {a : Nat → Nat → Int32} {kn : Nat → Bool} {b : Nat → Nat → Int32} {cn : Nat} {ws : List (Nat → Int32)} (R : tRel n cm a kn (b, cn, ws)) : ∀ k, k < cn → ∃ r, r < 6 ∧ b 11 k = nI r := by
  intro k hk
  have h1 : cn = cm := R.cn
  obtain ⟨r, hr, e⟩ := R.inv.mi.2.2.2.2 k (by omega)
  exact ⟨r, hr, (R.rec (show k < cm by omega)).trans e⟩
/-- whose cell is whose -/
def lwC (u : Nat → Nat) (h : Nat) (q : Nat → Nat) (o z : Nat) (L : List Nat) : Prop := (cAd u ++ L).Nodup ∧ (∀ x, x ∈ cAd u ∨ x ∈ L → z ≤ x) ∧ (∀ x, x ∈ mAd h q → z ≤ x ∧ ¬ (x ∈ cAd u ∨ x ∈ L) ∧ x ≠ o) ∧ z ≤ o ∧ ¬ (o ∈ cAd u ∨ o ∈ L) ∧ (mAd h q).Nodup
theorem lwC.next {u : Nat → Nat} {h : Nat} {q : Nat → Nat} {o z z1 : Nat} {L L1 : List Nat} (C : lwC u h q o z L) (hN : (cAd u ++ L1).Nodup) (hz : z ≤ z1) (hL : ∀ x, x ∈ L1 → x ∈ L ∨ z1 ≤ x) (hm : ∀ x, x ∈ mAd h q → x < z1) (ho : o < z1) : lwC u h q o z L1 := by
  obtain ⟨c1, c2, c3, c4, c5, c6⟩ := C
  refine ⟨hN, fun x hx => hx.elim (fun g => c2 x (Or.inl g)) (fun g => (hL x g).elim (fun y => c2 x (Or.inr y)) (fun y => Nat.le_trans hz y)), fun x hx => ⟨(c3 x hx).1, fun g => g.elim (fun y => (c3 x hx).2.1 (Or.inl y)) (fun y => (hL x y).elim (fun y => (c3 x hx).2.1 (Or.inr y)) (fun y => absurd (hm x hx) (Nat.not_lt.mpr y))), (c3 x hx).2.2⟩, c4, fun g => g.elim (fun y => c5 (Or.inl y)) (fun y => (hL o y).elim (fun y => c5 (Or.inr y)) (fun y => absurd ho (Nat.not_lt.mpr y))), c6⟩
/-- what the law holds ahead of a call -/
def lwI (s0 : Heap) (D : va_G) (cI cII cZ cJ : ClassId) (u : Nat → Nat) (h : Nat) (q : Nat → Nat) (o : Nat) (H : Heap) (locs : List Loc) : Prop :=
  ∃ (n cm : Nat) (a : Nat → Nat → Int32) (kn : Nat → Bool) (th : Int32) (lm : Nat) (V : Nat → Nat → Int32) (pq sp : Int32) (cn : Nat) (e : Option Nat) (sz : Nat) (b : Nat → Nat → Int32) (L : List Nat) (w : Nat → Nat → Int32) (nx : Nat → Option Nat) (g : Nat → Int64),
    tRel n cm a kn (b, cn, L.map w) ∧ lwC u h q o s0.size L ∧ e = L.head? ∧ sz = L.length ∧ chn nx L ∧ va_P D vwCl (cW u cI cII V pq sp cn e sz b L w nx) H ∧ va_P D vwCl (mW h q cI cZ n cm th lm a kn) H ∧ va_P D vwCl (wzX o cJ g) H ∧ va_S (fun x => s0.size ≤ x) s0 H locs
theorem mP_lt {D : va_G} {h : Nat} {q : Nat → Nat} {cI cZ : ClassId} {n cm : Nat} {th : Int32} {lm : Nat} {a : Nat → Nat → Int32} {kn : Nat → Bool} {H : Heap} (hP : va_P D vwCl (mW h q cI cZ n cm th lm a kn) H) : ∀ x, x ∈ mAd h q → x < H.size := by
  intro x hx
  have e : (mW h q cI cZ n cm th lm a kn).map (fun x => x.1) = mAd h q := rfl
  rw [← e] at hx
  obtain ⟨y, hy, ey⟩ := List.mem_map.mp hx
  obtain ⟨i, hi⟩ := List.mem_iff_getElem?.mp hy
  rw [← ey]
  exact (hP i y hi).lt
theorem lg_self (x : Int64) : lg_cmp x x = 0 := by
  unfold lg_cmp
  rw [if_neg (by rw [gt_iff_lt, Int64.lt_iff_toInt_lt]; omega), if_pos rfl]
section LAWCALL
variable {p : Program} {l : Launch} {e9 : Env} {R : Room} {s : State} {m : MethodId} {args : Array Value} {below : List Frame} {meth : Method} {c : Code} {H : Heap} {locs : List Loc} {cells slots : Nat} {Q : State → Prop}
variable {cc bytes : ByteArray} {pc nL nn index maxL mc9 ms9 : Nat} {ls : Array Slot} {rest st0 : List Value} {Ts ws : List Cond} {own : String} {D : va_G} {y : MethodName} {ret : Option FieldType} {hh : List (Nat × Nat × Nat × Nat)} {fr lo o bb : Nat} {C : String}
variable {u : Nat → Nat} {cI cII cZ cJ : ClassId} {sa : Nat → Nat} {L : List Nat} {xs : List Nat} {op : OP} {g : Nat → Int64} {h : Nat} {q : Nat → Nat}
theorem lz_call (F : CallFix p m c cc nL s args Ts own) (hK : va_K D vwCl (cT cI cII) s) (hJ : va_K D vwCl [(cJ, .long)] s) (hN : wzN s) (hX : ∀ A : Nat → Prop, (∀ a : Nat, a < s.heap.size → ¬ A a) → xF A sa s) (CC : lwC u h q o s.heap.size L) (As : List Value) {wd mw : va_W} (hM : wz_Met l y ws fr mc9 ms9 lo D u cI cII cJ sa H.size L o wd As xs op)
    (cw : vx_CSW R s args own index y bytes maxL ret hh ws { frames := fr, cells := mc9, slots := ms9, locals := lo } mc9 ms9 nn) (hP : va_P D vwCl wd H) (hO : va_P D vwCl (wzX o cJ g) H) (hm : va_P D vwCl mw H) (hma : ∀ (k : Nat) (x : Nat × va_E), mw[k]? = some x → x.1 ∈ mAd h q) (hS : va_S (fun x => s.heap.size ≤ x) s.heap H locs)
    (hn : As.length = nn) (hsize : ls.size = nL) (hst : st0 = As.reverse ++ rest) (hW : 2 * (F0 m pc ls st0).monitorRoom + (rest.map fun v => v.category).sum ≤ 8) (hcs : cells + mc9 ≤ R.cells ∧ slots + ms9 ≤ R.slots) (hdg : decode cc pc = .ok (.invokestatic index, 3))
    (kk : ∀ (V : Nat → Nat → Int32) (pq sp : Int32) (cn : Nat) (e : Option Nat) (sz : Nat) (b : Nat → Nat → Int32) (L1 : List Nat) (w : Nat → Nat → Int32) (nx : Nat → Option Nat) (g : Nat → Int64) (H1 : Heap) (locs1 : List Loc), aS u L H.size op.2.2 0 0 V pq sp cn e sz b L1 w nx → (op.1 = 0 → g 0 = op.2.1.toInt64) → va_P D vwCl (cW u cI cII V pq sp cn e sz b L1 w nx) H1 → va_P D vwCl (wzX o cJ g) H1 → va_P D vwCl mw H1 → H.size ≤ H1.size → va_S (fun x => s.heap.size ≤ x) s.heap H1 locs1 → W p l e9 R s m args below meth c H1 locs1 (cells + mc9) (slots + ms9) Q (F0 m (pc + 3) ls (.int (wzcode xs op.1) :: rest))) :
    W p l e9 R s m args below meth c H locs cells slots Q (F0 m pc ls st0) := by
  have hcg : ∀ a : Nat, a < s.heap.size → ¬ cG u L H.size a := fun a ha z => z.elim (fun z => absurd ha (Nat.not_lt.mpr (CC.2.1 a z))) (fun z => absurd ha (Nat.not_lt.mpr (Nat.le_trans hS.1 z)))
  have hr : vx_Run p l e9 R s m args below meth c H locs cells slots mc9 ms9 (F0 m pc ls st0) rest (wz_Q D u cI cII cJ H.size L o xs op As.toArray) (fun _ _ _ => False) (wzG u L H.size o) := vx_runSX (g := F0 m pc ls st0) F hM cw ⟨wz_blind, fun U hU hW => ⟨rfl, by rw [hU], by rw [hU]; exact hP, ⟨g, by rw [hU]; exact hO⟩, va_K.moved hW.alike hK, va_K.moved hW.alike hJ, xF.step hW (fun a h1 h2 => by rw [hU]; exact hS.2.1 a h1 (Nat.not_le.mpr h1)) (fun q h => h) (hX (cG u L H.size) hcg), hN.moved hW.alike⟩⟩ rfl hn hsize hst hW hdg hcs
  intro T hT X
  rcases hr T hT X with ⟨v, st₀, t, T', Lc, h0, X', hL, e1, e2, ⟨⟨V, pq, sp, cn, e, sz, b, L1, w, nx, g1, hv, hA, hg, hP1, hO1⟩, hF⟩, st⟩ | ⟨q9, st₀, t, T', Lc, E, ce, h0, X', hL, e1, e2, hxc, -⟩
  · cases hv
    have hsub : ∀ x, wzG u L H.size o x → s.heap.size ≤ x := fun x z => z.elim (fun z => z.elim (fun z => CC.2.1 x z) (fun z => Nat.le_trans hS.1 z)) (fun z => by rw [z]; exact CC.2.2.2.1)
    obtain ⟨k1, k2, k3⟩ := vx_keep (A1 := wzG u L H.size o) (A0 := fun x => s.heap.size ≤ x) h0 e1 hS (fun x _ z => hsub x z) hsub hL hF
    obtain ⟨t2, a1, b1⟩ := kk V pq sp cn e sz b L1 w nx g1 T'.heap (locs ++ Lc) hA hg (by rw [e1]; exact hP1) (by rw [e1]; exact hO1) (hm.kept (fun k x hk => k2 x.1 ((hm k x hk).lt) (fun z => by
      obtain ⟨y1, y2, y3⟩ := CC.2.2.1 x.1 (hma k x hk)
      rcases z with z | z
      · rcases z with z | z
        · exact y2 z
        · exact absurd ((hm k x hk).lt) (Nat.not_lt.mpr z)
      · exact y3 z))) k1 k3 T' rfl X'
    exact ⟨t2, st t2 a1, b1⟩
  · exact absurd hxc id
/-- the class asked by the law itself: a call that doesn't throw -/
theorem lz_callV (F : CallFix p m c cc nL s args Ts own) (hK : va_K D vwCl (cT cI cII) s) (hX : ∀ A : Nat → Prop, (∀ a : Nat, a < s.heap.size → ¬ A a) → xF A sa s) (CC : lwC u h q o s.heap.size L) (As : List Value) {wd mw : va_W} {Post9 : PostC} {PX9 : PostX} (hM : xc_Met l y ws fr mc9 ms9 lo D u cI cII sa H.size L wd (.ref bb :: As) kI Post9 PX9) (hpx : ∀ E V pq sp cn e sz b L1 w nx, ¬ PX9 E 0 0 V pq sp cn e sz b L1 w nx)
    (cw : CallW R s args own C index y bytes maxL ret ws { frames := fr, cells := mc9, slots := ms9, locals := lo } mc9 ms9 nn) (hrc : ∃ cellB : Cell, H[bb]? = some cellB ∧ cellB.vm.isStatics = false ∧ s.vm.findClass C = some cellB.cls) (hP : va_P D vwCl wd H) (hO : va_P D vwCl (wzX o cJ g) H) (hm : va_P D vwCl mw H) (hma : ∀ (k : Nat) (x : Nat × va_E), mw[k]? = some x → x.1 ∈ mAd h q) (hS : va_S (fun x => s.heap.size ≤ x) s.heap H locs)
    (hn : As.length = nn) (hsize : ls.size = nL) (hst : st0 = As.reverse ++ .ref bb :: rest) (hW : 2 * (F0 m pc ls st0).monitorRoom + (rest.map fun v => v.category).sum ≤ 8) (hcs : cells + mc9 ≤ R.cells ∧ slots + ms9 ≤ R.slots) (hdg : decode cc pc = .ok (.invokevirtual index, 3))
    (kk : ∀ (r : Int32) (ra : Nat) (V : Nat → Nat → Int32) (pq sp : Int32) (cn : Nat) (e : Option Nat) (sz : Nat) (b : Nat → Nat → Int32) (L1 : List Nat) (w : Nat → Nat → Int32) (nx : Nat → Option Nat) (H1 : Heap) (locs1 : List Loc), Post9 r ra V pq sp cn e sz b L1 w nx → va_P D vwCl (cW u cI cII V pq sp cn e sz b L1 w nx) H1 → va_P D vwCl (wzX o cJ g) H1 → va_P D vwCl mw H1 → H.size ≤ H1.size → va_S (fun x => s.heap.size ≤ x) s.heap H1 locs1 → W p l e9 R s m args below meth c H1 locs1 (cells + mc9) (slots + ms9) Q (F0 m (pc + 3) ls (.int r :: rest))) :
    W p l e9 R s m args below meth c H locs cells slots Q (F0 m pc ls st0) := by
  have hcg : ∀ a : Nat, a < s.heap.size → ¬ cG u L H.size a := fun a ha z => z.elim (fun z => absurd ha (Nat.not_lt.mpr (CC.2.1 a z))) (fun z => absurd ha (Nat.not_lt.mpr (Nat.le_trans hS.1 z)))
  have hr : vx_Run p l e9 R s m args below meth c H locs cells slots mc9 ms9 (F0 m pc ls st0) rest (cw_Q D u cI cII H.size L kI Post9 (.ref bb :: As).toArray) (xc_X D u cI cII H.size L PX9) (cG u L H.size) := vx_runV (g := F0 m pc ls st0) F hM cw ⟨xc_blind, hrc, fun U hU hW => ⟨rfl, by rw [hU], by rw [hU]; exact hP, va_K.moved hW.alike hK, xF.step hW (fun a h1 h2 => by rw [hU]; exact hS.2.1 a h1 (Nat.not_le.mpr h1)) (fun q h => h) (hX (cG u L H.size) hcg)⟩⟩ rfl hn hsize hst hW hdg hcs
  intro T hT X
  rcases hr T hT X with ⟨v, st₀, t, T', Lc, h0, X', hL, e1, e2, ⟨⟨r, ra, V, pq, sp, cn, e, sz, b, L1, w, nx, hv, hp, hP1⟩, hF⟩, st⟩ | ⟨q9, st₀, t, T', Lc, E, ce, h0, X', hL, e1, e2, ⟨⟨V, pq, sp, cn, e, sz, b, L1, w, nx, hp, -⟩, -⟩, -⟩
  · cases hv
    have hsub : ∀ x, cG u L H.size x → s.heap.size ≤ x := fun x z => z.elim (fun z => CC.2.1 x z) (fun z => Nat.le_trans hS.1 z)
    obtain ⟨k1, k2, k3⟩ := vx_keep (A1 := cG u L H.size) (A0 := fun x => s.heap.size ≤ x) h0 e1 hS (fun x _ z => hsub x z) hsub hL hF
    have hlt : o < H.size := vx_lt hO (k := 0) rfl
    obtain ⟨t2, a1, b1⟩ := kk r ra V pq sp cn e sz b L1 w nx T'.heap (locs ++ Lc) hp (by rw [e1]; exact hP1) (hO.kept (fun k x hk => by
      have hx : x.1 = o := by
        cases k with
        | zero => cases hk; rfl
        | succ k => cases hk
      rw [hx]
      exact k2 o hlt (fun z => z.elim (fun z => CC.2.2.2.2.1 z) (fun z => absurd hlt (Nat.not_lt.mpr z))))) (hm.kept (fun k x hk => k2 x.1 ((hm k x hk).lt) (fun z => by
      obtain ⟨y1, y2, y3⟩ := CC.2.2.1 x.1 (hma k x hk)
      rcases z with z | z
      · exact y2 z
      · exact absurd ((hm k x hk).lt) (Nat.not_lt.mpr z)))) k1 k3 T' rfl X'
    exact ⟨t2, st t2 a1, b1⟩
  · exact absurd hp (hpx E V pq sp cn e sz b L1 w nx)
end LAWCALL
theorem mW_ad {h : Nat} {q : Nat → Nat} {cI cZ : ClassId} {n cm : Nat} {th : Int32} {lm : Nat} {a : Nat → Nat → Int32} {kn : Nat → Bool} (hN : (mAd h q).Nodup) : ∀ (k : Nat) (x : Nat × va_E), (mW h q cI cZ n cm th lm a kn)[k]? = some x → x.1 ∈ mAd h q := (mD (A := fun x => x ∈ mAd h q) hN (fun x z => z) cI cZ n cm th lm a kn).2
/-- the model's call leaves the class's cells and the answer's -/
theorem lw_keepC {D : va_G} {u : Nat → Nat} {h : Nat} {q : Nat → Nat} {o z : Nat} {cI cII cJ : ClassId} {V : Nat → Nat → Int32} {pq sp : Int32} {cn : Nat} {e : Option Nat} {sz : Nat} {b : Nat → Nat → Int32} {L : List Nat} {w : Nat → Nat → Int32} {nx : Nat → Option Nat} {g : Nat → Int64} {H H1 : Heap} (C : lwC u h q o z L) (hP : va_P D vwCl (cW u cI cII V pq sp cn e sz b L w nx) H) (hO : va_P D vwCl (wzX o cJ g) H) (hf : ∀ x : Nat, x < H.size → ¬ mF h q x → H1[x]? = H[x]?) : va_P D vwCl (cW u cI cII V pq sp cn e sz b L w nx) H1 ∧ va_P D vwCl (wzX o cJ g) H1 := by
  refine ⟨hP.kept (fun k x hk => hf x.1 ((hP k x hk).lt) (fun z => (C.2.2.1 x.1 z).2.1 ((cD (A := fun x => x ∈ cAd u ∨ x ∈ L) C.1 (fun x z => z) cI cII _ _ _ _ _ _ _ _ _).2 k x hk))), hO.kept (fun k x hk => hf x.1 ((hO k x hk).lt) (fun z => (C.2.2.1 x.1 z).2.2 ?_))⟩
  cases k with
  | zero => cases hk; rfl
  | succ k => cases hk
/-- the state behind a round: the calls' states tied again -/
theorem lw_next {s0 : Heap} {D : va_G} {cI cII cZ cJ : ClassId} {u : Nat → Nat} {h : Nat} {q : Nat → Nat} {o : Nat} {H : Heap} {locs : List Loc} {n cm : Nat} {a : Nat → Nat → Int32} {kn : Nat → Bool} {th : Int32} {lm : Nat} {V : Nat → Nat → Int32} {pq sp : Int32} {cn : Nat} {e : Option Nat} {sz : Nat} {b : Nat → Nat → Int32} {L0 L : List Nat} {z1 : Nat} {w : Nat → Nat → Int32} {nx : Nat → Option Nat} {g : Nat → Int64} {cs : CS}
    (R : tRel n cm a kn cs) (hA : aS u L0 z1 cs 0 0 V pq sp cn e sz b L w nx) (C : lwC u h q o s0.size L) (hP : va_P D vwCl (cW u cI cII V pq sp cn e sz b L w nx) H) (hM : va_P D vwCl (mW h q cI cZ n cm th lm a kn) H) (hO : va_P D vwCl (wzX o cJ g) H) (hS : va_S (fun x => s0.size ≤ x) s0 H locs) : lwI s0 D cI cII cZ cJ u h q o H locs := by
  obtain ⟨h1, h2, h3, h4, h5, h6, h7, h8⟩ := hA
  refine ⟨n, cm, a, kn, th, lm, V, pq, sp, cn, e, sz, b, L, w, nx, g, ?_, C, h4, h5, h6, hP, hM, hO, hS⟩
  rw [show (b, cn, L.map w) = cs by rw [h1, h2, h3]]
  exact R
