/-! the class asked: its state alone -/
def sMet (l : Launch) (y : MethodName) (ws : List Cond) (fr mc ms lo : Nat) (D : va_G) (u : Nat → Nat) (cI cII : ClassId) (sa : Nat → Nat) (As : List Value) (cs : CS) (op : OP) : Prop :=
  ∀ (V : Nat → Nat → Int32) (pq sp : Int32) (cn : Nat) (e : Option Nat) (sz : Nat) (b : Nat → Nat → Int32) (L : List Nat) (w : Nat → Nat → Int32) (nx : Nat → Option Nat) (z0 : Nat), (b, cn, L.map w) = cs → (cAd u ++ L).Nodup → chn nx L → e = L.head? → sz = L.length → (∀ x, x ∈ L → okW (w x)) → cn ≤ 20 → (∀ k, k < cn → ∃ r, r < 6 ∧ b 11 k = nI r) →
    xc_Met l y ws fr mc ms lo D u cI cII sa z0 L (cW u cI cII V pq sp cn e sz b L w nx) (.ref (u 30) :: As) kI (pPost u L z0 op) (pPX u L z0 op)
section SMET
variable {l : Launch} {D : va_G} {u : Nat → Nat} {cI cII : ClassId} {sa : Nat → Nat} {cs : CS}
theorem sm_put (hfl : l.stackTraces = false) (f t : Int32) : sMet l yX3_put wsX3_put 7 4 28 140 D u cI cII sa [.int f, .int t] cs (cPut cs f t) := by
  intro V pq sp cn e sz b L w nx z0 hcs hN hch he hsz hok hcn hrc
  subst hcs
  exact cc_X3_put hfl hN f t hch he hsz hok hcn hrc
theorem sm_take (hfl : l.stackTraces = false) (f t : Int32) : sMet l yX3_take wsX3_take 7 4 28 140 D u cI cII sa [.int f, .int t] cs (cTake cs f t) := by
  intro V pq sp cn e sz b L w nx z0 hcs hN hch he hsz hok hcn hrc
  subst hcs
  exact cc_X3_take hfl hN f t hch he hsz hok hcn hrc
theorem sm_where (hfl : l.stackTraces = false) (f t : Int32) : sMet l yX3_where wsX3_where 7 2 12 140 D u cI cII sa [.int f, .int t] cs (cWhere cs f t) := by
  intro V pq sp cn e sz b L w nx z0 hcs hN hch he hsz hok hcn hrc
  subst hcs
  exact cc_X3_where hfl hN f t hch he hsz hok hcn hrc
theorem sm_whereByAll (hfl : l.stackTraces = false) (t : Int32) : sMet l yX3_whereByAll wsX3_whereByAll 7 1 6 139 D u cI cII sa [.int t] cs (cWhereByAll cs t) := by
  intro V pq sp cn e sz b L w nx z0 hcs hN hch he hsz hok hcn hrc
  subst hcs
  exact cc_X3_whereByAll hfl hN t hch he hsz hok hcn hrc
theorem sm_count (hfl : l.stackTraces = false) (f o : Int32) : sMet l yX3_count wsX3_count 7 2 12 140 D u cI cII sa [.int f, .int o] cs (cCount cs f o) := by
  intro V pq sp cn e sz b L w nx z0 hcs hN hch he hsz hok hcn hrc
  subst hcs
  exact cc_X3_count hfl hN f o hch he hsz hok hcn hrc
theorem sm_countByAll (hfl : l.stackTraces = false) (o : Int32) : sMet l yX3_countByAll wsX3_countByAll 7 1 6 139 D u cI cII sa [.int o] cs (cCountByAll cs o) := by
  intro V pq sp cn e sz b L w nx z0 hcs hN hch he hsz hok hcn hrc
  subst hcs
  exact cc_X3_countByAll hfl hN o hch he hsz hok hcn hrc
theorem sm_claims (hfl : l.stackTraces = false) (f t : Int32) : sMet l yX3_claims wsX3_claims 7 2 12 140 D u cI cII sa [.int f, .int t] cs (cClaims cs f t) := by
  intro V pq sp cn e sz b L w nx z0 hcs hN hch he hsz hok hcn hrc
  subst hcs
  exact cc_X3_claims hfl hN f t hch he hsz hok hcn hrc
theorem sm_meet (hfl : l.stackTraces = false) (f o : Int32) : sMet l yX3_meet wsX3_meet 7 3 18 111 D u cI cII sa [.int f, .int o] cs (cMeet cs f o) := by
  intro V pq sp cn e sz b L w nx z0 hcs hN hch he hsz hok hcn hrc
  subst hcs
  exact cc_X3_meet hfl hN f o hch he hsz hok hcn hrc
theorem sm_words (hfl : l.stackTraces = false) : sMet l yX3_words wsX3_words 0 0 0 0 D u cI cII sa [] cs (cWords cs) := by
  intro V pq sp cn e sz b L w nx z0 hcs hN hch he hsz hok hcn hrc
  subst hcs
  exact cc_X3_words hfl hN  hch he hsz hok hcn hrc
theorem sm_known (hfl : l.stackTraces = false) (f : Int32) : sMet l yX3_known wsX3_known 7 1 6 111 D u cI cII sa [.int f] cs (cKnown cs f) := by
  intro V pq sp cn e sz b L w nx z0 hcs hN hch he hsz hok hcn hrc
  subst hcs
  exact cc_X3_known hfl hN f hch he hsz hok hcn hrc
theorem sm_clock (hfl : l.stackTraces = false) (f : Int32) : sMet l yX3_clock wsX3_clock 7 1 6 111 D u cI cII sa [.int f] cs (cClock cs f) := by
  intro V pq sp cn e sz b L w nx z0 hcs hN hch he hsz hok hcn hrc
  subst hcs
  exact cc_X3_clock hfl hN f hch he hsz hok hcn hrc
theorem sm_guest (hfl : l.stackTraces = false) (f o x1 x2 x3 : Int32) : sMet l yX3_guest wsX3_guest 7 7 46 112 D u cI cII sa [.int f, .int o, .int x1, .int x2, .int x3] cs (cGuest cs f o x1 x2 x3) := by
  intro V pq sp cn e sz b L w nx z0 hcs hN hch he hsz hok hcn hrc
  subst hcs
  exact cc_X3_guest hfl hN f o x1 x2 x3 hch he hsz hok hcn hrc
theorem sm_guests (hfl : l.stackTraces = false) (f d : Int32) : sMet l yX3_guests wsX3_guests 7 2 12 140 D u cI cII sa [.int f, .int d] cs (cGuests cs f d) := by
  intro V pq sp cn e sz b L w nx z0 hcs hN hch he hsz hok hcn hrc
  subst hcs
  exact cc_X3_guests hfl hN f d hch he hsz hok hcn hrc
theorem sm_setNeed (hfl : l.stackTraces = false) (r o x : Int32) : sMet l yX3_setNeed wsX3_setNeed 7 3 18 112 D u cI cII sa [.int r, .int o, .int x] cs (cSetNeed cs r o x) := by
  intro V pq sp cn e sz b L w nx z0 hcs hN hch he hsz hok hcn hrc
  subst hcs
  exact cc_X3_setNeed hfl hN r o x hch he hsz hok hcn hrc
theorem sm_plan (hfl : l.stackTraces = false) (f r d : Int32) : sMet l yX3_plan wsX3_plan 7 5 34 140 D u cI cII sa [.int f, .int r, .int d] cs (cPlan cs f r d) := by
  intro V pq sp cn e sz b L w nx z0 hcs hN hch he hsz hok hcn hrc
  subst hcs
  exact cc_X3_plan hfl hN f r d hch he hsz hok hcn hrc
theorem sm_keep (hfl : l.stackTraces = false) (f k : Int32) : sMet l yX3_keep wsX3_keep 7 44 424 140 D u cI cII sa [.int f, .int k] cs (cKeep cs f k) := by
  intro V pq sp cn e sz b L w nx z0 hcs hN hch he hsz hok hcn hrc
  subst hcs
  exact cc_X3_keep hfl hN f k hch he hsz hok hcn hrc
theorem sm_drop (hfl : l.stackTraces = false) (f k : Int32) : sMet l yX3_drop wsX3_drop 7 5 34 140 D u cI cII sa [.int f, .int k] cs (cDrop cs f k) := by
  intro V pq sp cn e sz b L w nx z0 hcs hN hch he hsz hok hcn hrc
  subst hcs
  exact cc_X3_drop hfl hN f k hch he hsz hok hcn hrc
theorem sm_bake (hfl : l.stackTraces = false) (f k : Int32) : sMet l yX3_bake wsX3_bake 7 46 440 140 D u cI cII sa [.int f, .int k] cs (cBake cs f k) := by
  intro V pq sp cn e sz b L w nx z0 hcs hN hch he hsz hok hcn hrc
  subst hcs
  exact cc_X3_bake hfl hN f k hch he hsz hok hcn hrc
theorem sm_cakes (hfl : l.stackTraces = false) : sMet l yX3_cakes wsX3_cakes 0 0 0 0 D u cI cII sa [] cs (cCakes cs) := by
  intro V pq sp cn e sz b L w nx z0 hcs hN hch he hsz hok hcn hrc
  subst hcs
  exact cc_X3_cakes hfl hN  hch he hsz hok hcn hrc
theorem sm_cake (hfl : l.stackTraces = false) (f k : Int32) : sMet l yX3_cake wsX3_cake 7 2 12 140 D u cI cII sa [.int f, .int k] cs (cCake cs f k) := by
  intro V pq sp cn e sz b L w nx z0 hcs hN hch he hsz hok hcn hrc
  subst hcs
  exact cc_X3_cake hfl hN f k hch he hsz hok hcn hrc
theorem sm_keptFor (hfl : l.stackTraces = false) (f t : Int32) : sMet l yX3_keptFor wsX3_keptFor 7 2 12 140 D u cI cII sa [.int f, .int t] cs (cKeptFor cs f t) := by
  intro V pq sp cn e sz b L w nx z0 hcs hN hch he hsz hok hcn hrc
  subst hcs
  exact cc_X3_keptFor hfl hN f t hch he hsz hok hcn hrc
theorem sm_keptByAll (hfl : l.stackTraces = false) (t : Int32) : sMet l yX3_keptByAll wsX3_keptByAll 7 1 6 139 D u cI cII sa [.int t] cs (cKeptByAll cs t) := by
  intro V pq sp cn e sz b L w nx z0 hcs hN hch he hsz hok hcn hrc
  subst hcs
  exact cc_X3_keptByAll hfl hN t hch he hsz hok hcn hrc
theorem sm_lacks (hfl : l.stackTraces = false) (f k o : Int32) : sMet l yX3_lacks wsX3_lacks 7 3 18 140 D u cI cII sa [.int f, .int k, .int o] cs (cLacks cs f k o) := by
  intro V pq sp cn e sz b L w nx z0 hcs hN hch he hsz hok hcn hrc
  subst hcs
  exact cc_X3_lacks hfl hN f k o hch he hsz hok hcn hrc
theorem sm_isUnfit (hfl : l.stackTraces = false) (f k : Int32) : sMet l yX3_isUnfit wsX3_isUnfit 7 2 12 140 D u cI cII sa [.int f, .int k] cs (cIsUnfit cs f k) := by
  intro V pq sp cn e sz b L w nx z0 hcs hN hch he hsz hok hcn hrc
  subst hcs
  exact cc_X3_isUnfit hfl hN f k hch he hsz hok hcn hrc
theorem sm_isSpoilt (hfl : l.stackTraces = false) (f k : Int32) : sMet l yX3_isSpoilt wsX3_isSpoilt 7 2 12 140 D u cI cII sa [.int f, .int k] cs (cIsSpoilt cs f k) := by
  intro V pq sp cn e sz b L w nx z0 hcs hN hch he hsz hok hcn hrc
  subst hcs
  exact cc_X3_isSpoilt hfl hN f k hch he hsz hok hcn hrc
theorem sm_missing (hfl : l.stackTraces = false) (f o : Int32) : sMet l yX3_missing wsX3_missing 7 2 12 140 D u cI cII sa [.int f, .int o] cs (cMissing cs f o) := by
  intro V pq sp cn e sz b L w nx z0 hcs hN hch he hsz hok hcn hrc
  subst hcs
  exact cc_X3_missing hfl hN f o hch he hsz hok hcn hrc
end SMET
/-- the class's cells in a heap, and that none of them is the law's own -/
def sW (D : va_G) (u : Nat → Nat) (cI cII : ClassId) (A0 B : Nat → Prop) (cs : CS) (H : Heap) : Prop :=
  ∃ (V : Nat → Nat → Int32) (pq sp : Int32) (cn : Nat) (e : Option Nat) (sz : Nat) (b : Nat → Nat → Int32) (L : List Nat) (w : Nat → Nat → Int32) (nx : Nat → Option Nat), (b, cn, L.map w) = cs ∧ e = L.head? ∧ sz = L.length ∧ chn nx L ∧ (cAd u ++ L).Nodup ∧ (∀ x, x ∈ cAd u ∨ x ∈ L → A0 x ∧ ¬ B x) ∧ va_P D vwCl (cW u cI cII V pq sp cn e sz b L w nx) H
theorem sW.kept {D : va_G} {u : Nat → Nat} {cI cII : ClassId} {A0 B : Nat → Prop} {cs : CS} {H H1 : Heap} (h : sW D u cI cII A0 B cs H) (hk : ∀ x : Nat, x < H.size → ¬ B x → H1[x]? = H[x]?) : sW D u cI cII A0 B cs H1 := by
  obtain ⟨V, pq, sp, cn, e, sz, b, L, w, nx, h1, h2, h3, h4, h5, h6, h7⟩ := h
  refine ⟨V, pq, sp, cn, e, sz, b, L, w, nx, h1, h2, h3, h4, h5, h6, h7.kept (fun k x hx => hk x.1 ((h7 k x hx).lt) ?_)⟩
  have hm : x.1 ∈ cAd u ++ L := by
    rw [← cAd_map u cI cII V pq sp cn e sz b L w nx]
    exact List.mem_map.mpr ⟨x, List.mem_of_getElem? hx, rfl⟩
  exact (h6 x.1 (List.mem_append.mp hm)).2
section SCALL
variable {p : Program} {l : Launch} {e9 : Env} {R : Room} {s : State} {m : MethodId} {args : Array Value} {below : List Frame} {meth : Method} {c : Code} {H : Heap} {locs : List Loc} {cells slots : Nat} {Q : State → Prop}
variable {cc bytes : ByteArray} {pc nL nn index maxL mc9 ms9 : Nat} {ls : Array Slot} {rest st0 : List Value} {Ts ws : List Cond} {own C : String} {D : va_G} {y : MethodName} {ret : Option FieldType} {fr lo : Nat}
variable {u : Nat → Nat} {cI cII : ClassId} {sa : Nat → Nat} {A0 B : Nat → Prop} {cs : CS} {op : OP} {n cm : Nat} {a : Nat → Nat → Int32} {kn : Nat → Bool}
/-- behind a call that doesn't throw -/
theorem sx_core {L : List Nat} {aa : Array Value} (hop : op.1 = 0) (hr : vx_Run p l e9 R s m args below meth c H locs cells slots mc9 ms9 (F0 m pc ls st0) rest (cw_Q D u cI cII H.size L kI (pPost u L H.size op) aa) (xc_X D u cI cII H.size L (pPX u L H.size op)) (cG u L H.size)) (hfr : ∀ x, H.size ≤ x → A0 x) (hB : ∀ x, B x → x < H.size) (h6 : ∀ x, x ∈ cAd u ∨ x ∈ L → A0 x ∧ ¬ B x) (hS : va_S A0 s.heap H locs)
    (kk : ∀ (H1 : Heap) (locs1 : List Loc), sW D u cI cII A0 B op.2.2 H1 → H.size ≤ H1.size → (∀ x : Nat, B x → H1[x]? = H[x]?) → va_S A0 s.heap H1 locs1 → W p l e9 R s m args below meth c H1 locs1 (cells + mc9) (slots + ms9) Q (F0 m (pc + 3) ls (.int op.2.1 :: rest))) :
    W p l e9 R s m args below meth c H locs cells slots Q (F0 m pc ls st0) := by
  have hcg : ∀ x, cG u L H.size x → A0 x := fun x z => z.elim (fun z => (h6 x z).1) (hfr x)
  intro T hT X
  rcases hr T hT X with ⟨v, st₀, t, T', Lc, h0, X', hL, e1, e2, ⟨⟨r, ra, V, pq, sp, cn, e, sz, b, L1, w, nx, hv, hp, hP1⟩, hF⟩, st⟩ | ⟨q9, st₀, t, T', Lc, E, ce, h0, X', hL, e1, e2, ⟨⟨V, pq, sp, cn, e, sz, b, L1, w, nx, hp, -⟩, -⟩, -⟩
  · cases hv
    obtain ⟨-, hr1, q1, q2, q3, q4, q5, q6, q7, q8⟩ := hp
    subst hr1
    obtain ⟨k1, k2, k3⟩ := vx_keep (A1 := cG u L H.size) (A0 := A0) h0 e1 hS (fun x _ z => hcg x z) hcg hL hF
    obtain ⟨t2, a1, b1⟩ := kk T'.heap (locs ++ Lc) ⟨V, pq, sp, cn, e, sz, b, L1, w, nx, by rw [q1, q2, q3], q4, q5, q6, q7, fun x hx => by
        rcases hx with z | z
        · exact h6 x (Or.inl z)
        · rcases q8 x z with z | z
          · exact h6 x (Or.inr z)
          · exact ⟨hfr x z, fun zb => absurd (hB x zb) (Nat.not_lt.mpr z)⟩, by rw [e1]; exact hP1⟩ k1 (fun x hx => k2 x (hB x hx) (fun z => z.elim (fun z => (h6 x z).2 hx) (fun z => absurd (hB x hx) (Nat.not_lt.mpr z)))) k3 T' rfl X'
    exact ⟨t2, st t2 a1, b1⟩
  · exact absurd hop hp.1
/-- the class asked -/
theorem sx_callV (F : CallFix p m c cc nL s args Ts own) (hK : va_K D vwCl (cT cI cII) s) (hX : xF A0 sa s) (hfr : ∀ x, H.size ≤ x → A0 x) (hC : sW D u cI cII A0 B cs H) (hB : ∀ x, B x → x < H.size) (R9 : tRel n cm a kn cs) (hS : va_S A0 s.heap H locs) (As : List Value) (hM : sMet l y ws fr mc9 ms9 lo D u cI cII sa As cs op) (hop : op.1 = 0)
    (cw : CallW R s args own RX3 index y bytes maxL ret ws { frames := fr, cells := mc9, slots := ms9, locals := lo } mc9 ms9 nn) (hn : As.length = nn) (hsize : ls.size = nL) (hst : st0 = As.reverse ++ .ref (u 30) :: rest) (hW : 2 * (F0 m pc ls st0).monitorRoom + (rest.map fun v => v.category).sum ≤ 8) (hcs : cells + mc9 ≤ R.cells ∧ slots + ms9 ≤ R.slots) (hdg : decode cc pc = .ok (.invokevirtual index, 3))
    (kk : ∀ (H1 : Heap) (locs1 : List Loc), sW D u cI cII A0 B op.2.2 H1 → H.size ≤ H1.size → (∀ x : Nat, B x → H1[x]? = H[x]?) → va_S A0 s.heap H1 locs1 → W p l e9 R s m args below meth c H1 locs1 (cells + mc9) (slots + ms9) Q (F0 m (pc + 3) ls (.int op.2.1 :: rest))) :
    W p l e9 R s m args below meth c H locs cells slots Q (F0 m pc ls st0) := by
  obtain ⟨V, pq, sp, cn, e, sz, b, L, w, nx, h1, h2, h3, h4, h5, h6, h7⟩ := hC
  subst h1
  have hA : ∀ x, cG u L H.size x → A0 x := fun x z => z.elim (fun z => (h6 x z).1) (hfr x)
  exact sx_core hop (vx_runV (g := F0 m pc ls st0) F (hM V pq sp cn e sz b L w nx H.size rfl h5 h4 h2 h3 (rel_ok R9) (rel_cn R9) (rel_rc R9)) cw ⟨xc_blind, og_rc hK (cPc h7), fun U hU hW => ⟨rfl, by rw [hU], by rw [hU]; exact h7, va_K.moved hW.alike hK, xF.step hW (fun a h1 h2 => by rw [hU]; exact hS.2.1 a h1 h2) hA hX⟩⟩ rfl hn hsize hst hW hdg hcs) hfr hB h6 hS kk
end SCALL
/-! the law's does -/
def wvL_does : List Cond := .codeWith yL_does cL_does 6 (some .int) [(0, 91, 92, 66), (0, 91, 97, 68), (0, 91, 102, 70)] :: ([.classLink RL 66 "java/lang/IndexOutOfBoundsException", .classLink RL 68 "java/lang/IllegalArgumentException", .classLink RL 70 "java/lang/IllegalStateException", .initialized RX3, .methodLink RL 41 yX3_put, .instanceMethod yX3_put, .selects RX3 yX3_put yX3_put, .methodLink RL 47 yX3_take, .instanceMethod yX3_take, .selects RX3 yX3_take yX3_take, .methodLink RL 50 yX3_meet, .instanceMethod yX3_meet, .selects RX3 yX3_meet yX3_meet, .methodLink RL 53 yX3_plan, .instanceMethod yX3_plan, .selects RX3 yX3_plan yX3_plan, .methodLink RL 57 yX3_keep, .instanceMethod yX3_keep, .selects RX3 yX3_keep yX3_keep, .methodLink RL 60 yX3_drop, .instanceMethod yX3_drop, .selects RX3 yX3_drop yX3_drop, .methodLink RL 63 yX3_bake, .instanceMethod yX3_bake, .selects RX3 yX3_bake yX3_bake] ++ (wsX3_put ++ (wsX3_take ++ (wsX3_meet ++ (wsX3_plan ++ (wsX3_keep ++ (wsX3_drop ++ wsX3_bake)))))))
theorem gvL_does_X3_put : GoodIn wvL_does (wsV RL 41 RX3 yX3_put wsX3_put) := goodIn_app (goodIn_of _ (by decide +kernel)) (goodIn_sub (fun _ h => List.mem_cons_of_mem _ (List.mem_append_right _ (List.mem_append_left _ h))) (by decide +kernel))
theorem gvL_does_X3_take : GoodIn wvL_does (wsV RL 47 RX3 yX3_take wsX3_take) := goodIn_app (goodIn_of _ (by decide +kernel)) (goodIn_sub (fun _ h => List.mem_cons_of_mem _ (List.mem_append_right _ (List.mem_append_right _ (List.mem_append_left _ h)))) (by decide +kernel))
theorem gvL_does_X3_meet : GoodIn wvL_does (wsV RL 50 RX3 yX3_meet wsX3_meet) := goodIn_app (goodIn_of _ (by decide +kernel)) (goodIn_sub (fun _ h => List.mem_cons_of_mem _ (List.mem_append_right _ (List.mem_append_right _ (List.mem_append_right _ (List.mem_append_left _ h))))) (by decide +kernel))
theorem gvL_does_X3_plan : GoodIn wvL_does (wsV RL 53 RX3 yX3_plan wsX3_plan) := goodIn_app (goodIn_of _ (by decide +kernel)) (goodIn_sub (fun _ h => List.mem_cons_of_mem _ (List.mem_append_right _ (List.mem_append_right _ (List.mem_append_right _ (List.mem_append_right _ (List.mem_append_left _ h)))))) (by decide +kernel))
theorem gvL_does_X3_keep : GoodIn wvL_does (wsV RL 57 RX3 yX3_keep wsX3_keep) := goodIn_app (goodIn_of _ (by decide +kernel)) (goodIn_sub (fun _ h => List.mem_cons_of_mem _ (List.mem_append_right _ (List.mem_append_right _ (List.mem_append_right _ (List.mem_append_right _ (List.mem_append_right _ (List.mem_append_left _ h))))))) (by decide +kernel))
theorem gvL_does_X3_drop : GoodIn wvL_does (wsV RL 60 RX3 yX3_drop wsX3_drop) := goodIn_app (goodIn_of _ (by decide +kernel)) (goodIn_sub (fun _ h => List.mem_cons_of_mem _ (List.mem_append_right _ (List.mem_append_right _ (List.mem_append_right _ (List.mem_append_right _ (List.mem_append_right _ (List.mem_append_right _ (List.mem_append_left _ h)))))))) (by decide +kernel))
theorem gvL_does_X3_bake : GoodIn wvL_does (wsV RL 63 RX3 yX3_bake wsX3_bake) := goodIn_app (goodIn_of _ (by decide +kernel)) (goodIn_sub (fun _ h => List.mem_cons_of_mem _ (List.mem_append_right _ (List.mem_append_right _ (List.mem_append_right _ (List.mem_append_right _ (List.mem_append_right _ (List.mem_append_right _ (List.mem_append_right _ h)))))))) (by decide +kernel))
def wzN (U : State) : Prop := va_Nc "java/lang/IllegalArgumentException" "java/lang/IndexOutOfBoundsException" U ∧ va_Nc "java/lang/IllegalStateException" "java/lang/IndexOutOfBoundsException" U ∧ va_Nc "java/lang/IllegalStateException" "java/lang/IllegalArgumentException" U
theorem wzN.moved {u U : State} (h : u.vm.Alike U.vm) (hx : wzN u) : wzN U := ⟨hx.1.moved h, hx.2.1.moved h, hx.2.2.moved h⟩
/-- what does answers of a call -/
def dzA (op : OP) : Int32 := if op.1 = 0 then op.2.1 else if op.1 = 1 then -11 else if op.1 = 2 then -12 else -13
def dzO (op : OP) : OP := (0, dzA op, op.2.2)
def dz_P (D : va_G) (u : Nat → Nat) (cI cII : ClassId) (sa : Nat → Nat) (z0 : Nat) (L0 : List Nat) (W : va_W) (av : List Value) : Array Value → State → Prop := va_Pc av (fun U => U.heap.size = z0 ∧ va_P D vwCl W U.heap ∧ va_K D vwCl (cT cI cII) U ∧ xF (cG u L0 z0) sa U ∧ wzN U)
def dz_Met (l : Launch) (y : MethodName) (ws : List Cond) (fr mc ms lo : Nat) (D : va_G) (u : Nat → Nat) (cI cII : ClassId) (sa : Nat → Nat) (z0 : Nat) (L0 : List Nat) (W : va_W) (av : List Value) (op : OP) : Prop :=
  vx_Met l y ws { frames := fr, cells := mc, slots := ms, locals := lo } (dz_P D u cI cII sa z0 L0 W av) (cw_Q D u cI cII z0 L0 kI (pPost u L0 z0 (dzO op))) (xc_X D u cI cII z0 L0 (pPX u L0 z0 (dzO op))) mc ms (cG u L0 z0)
abbrev dzW (p : Program) (l : Launch) (e : Env) (fr mc ms lo : Nat) (s : State) (m : MethodId) (av : List Value) (below : List Frame) (meth : Method) (c : Code) (H : Heap) (locs : List Loc) (cells slots : Nat) (D : va_G) (u : Nat → Nat) (cI cII : ClassId) (z0 : Nat) (L0 : List Nat) (op : OP) (g : JFrame) : Prop :=
  W p l e { frames := fr, cells := mc, slots := ms, locals := lo } s m av.toArray below meth c H locs cells slots (vx_MQ below (cw_Q D u cI cII z0 L0 kI (pPost u L0 z0 (dzO op))) (xc_X D u cI cII z0 L0 (pPX u L0 z0 (dzO op))) av.toArray s mc ms (cG u L0 z0)) g
theorem dz_start {l : Launch} {y : MethodName} {ws ws' : List Cond} {fr mc ms lo : Nat} {D : va_G} {u : Nat → Nat} {cI cII : ClassId} {sa : Nat → Nat} {z0 : Nat} {L0 : List Nat} {w : va_W} {av : List Value} {op : OP} {cc : ByteArray} {maxL : Nat} {ret : Option FieldType} {hh : List (Nat × Nat × Nat × Nat)}
    (hw : ws = Cond.codeWith y cc maxL ret hh :: ws') (hy : plainName y.cls = true) (hlen : (lg_sl av).length ≤ maxL)
    (body : ∀ (p : Program) (e : Env) (s : State) (m : MethodId) (below : List Frame) (meth : Method) (c : Code), CallFix p m c cc maxL s av.toArray ws y.cls → meth.sig.returnType = ret → meth.locks = false → c.exceptionTable.toList = tableOf hh → va_K D vwCl (cT cI cII) s → wzN s → s.heap.size = z0 → ∀ (H : Heap) (locs : List Loc), va_P D vwCl w H → va_S (cG u L0 z0) s.heap H locs → z0 ≤ H.size → xF (cG u L0 z0) sa s → H = s.heap → ∀ ls : Array Slot, lv_has ls maxL (lv_args 0 av) →
      dzW p l e fr mc ms lo s m av below meth c H locs 0 0 D u cI cII z0 L0 op (F0 m 0 ls [])) : dz_Met l y ws fr mc ms lo D u cI cII sa z0 L0 w av op := by
  refine vx_ofWH (cc := cc) (maxL := maxL) (ret := ret) (hh := hh) hy hw ?_
  intro p e s m args below meth c s₁ B hml hv
  obtain ⟨rfl, hz, hP, hK, hX, hN⟩ := hv
  have ht : c.exceptionTable.toList = tableOf hh := vx_table (x := y) B (atoms_spec (ws := ws) B.pre _ (by rw [hw]; exact List.mem_cons_self))
  have hl := lv_entry av (n := maxL) hlen
  rw [lg_entry_eq]
  generalize (lg_sl av ++ List.replicate (maxL - (lg_sl av).length) Slot.unset).toArray = ls at hl ⊢
  exact body p e s m below meth c ⟨B.exec, B.bytes, hml, findClass_of_methodNamed B.named, atoms_spec (ws := ws) B.pre⟩ B.returns B.notSynchronized ht hK hN hz s.heap [] hP va_S.rf (Nat.le_of_eq hz.symm) hX rfl ls hl
theorem dz_blind {D : va_G} {u : Nat → Nat} {cI cII : ClassId} {sa : Nat → Nat} {z0 : Nat} {L0 : List Nat} {W : va_W} {av : List Value} : FrameBlind (dz_P D u cI cII sa z0 L0 W av) := fun a U g mk h => ⟨h.1, h.2.1, h.2.2.1, va_K.moved (u := U) (U := U.calling g mk a) (Vm.Alike.refl U.vm) h.2.2.2.1, xF.same (u := U) (U := U.calling g mk a) rfl rfl h.2.2.2.2.1, wzN.moved (u := U) (U := U.calling g mk a) (Vm.Alike.refl U.vm) h.2.2.2.2.2⟩
section DZROW
variable {p : Program} {l : Launch} {e9 : Env} {R : Room} {s : State} {m : MethodId} {args : Array Value} {below : List Frame} {meth : Method} {c : Code} {H : Heap} {locs : List Loc} {cells slots : Nat} {Q : State → Prop}
variable {cc bytes : ByteArray} {pc nL nn index maxL mc ms mc9 ms9 : Nat} {ls : Array Slot} {rest st0 : List Value} {Ts ws : List Cond} {own C : String} {D : va_G} {y : MethodName} {ret : Option FieldType} {fr lo bb : Nat}
variable {u : Nat → Nat} {cI cII : ClassId} {sa : Nat → Nat} {V : Nat → Nat → Int32} {pq sp : Int32} {cn : Nat} {e : Option Nat} {sz : Nat} {b : Nat → Nat → Int32} {L L0 : List Nat} {w : Nat → Nat → Int32} {nx : Nat → Option Nat} {z0 : Nat} {rr9 : Int32 → Nat → Option Value} {Post9 : PostC} {PX9 : PostX} {op : OP}
theorem dz_callV (F : CallFix p m c cc nL s args Ts own) (hK : va_K D vwCl (cT cI cII) s) (hX : xF (cG u L z0) sa s) (hz : s.heap.size = z0) (hH : H = s.heap) (As : List Value) {wd : va_W} (hM : xc_Met l y ws fr mc9 ms9 lo D u cI cII sa z0 L wd (.ref bb :: As) rr9 Post9 PX9) (cw : CallW R s args own C index y bytes maxL ret ws { frames := fr, cells := mc9, slots := ms9, locals := lo } mc9 ms9 nn)
    (hrc : ∃ cellB : Cell, H[bb]? = some cellB ∧ cellB.vm.isStatics = false ∧ s.vm.findClass C = some cellB.cls) (hP : va_P D vwCl wd H) (hS : va_S (cG u L z0) s.heap H locs)
    (hn : As.length = nn) (hsize : ls.size = nL) (hst : st0 = As.reverse ++ .ref bb :: rest) (hW : 2 * (F0 m pc ls st0).monitorRoom + (rest.map fun v => v.category).sum ≤ 8) (hcs : cells + mc9 ≤ R.cells ∧ slots + ms9 ≤ R.slots) (hdg : decode cc pc = .ok (.invokevirtual index, 3))
    (kx : ∀ (E : String) (ce : Cell) (q9 : Addr) (V : Nat → Nat → Int32) (pq sp : Int32) (cn : Nat) (e : Option Nat) (sz : Nat) (b : Nat → Nat → Int32) (L1 : List Nat) (w : Nat → Nat → Int32) (nx : Nat → Option Nat) (H1 : Heap) (locs1 : List Loc), PX9 E 0 0 V pq sp cn e sz b L1 w nx → va_P D vwCl (cW u cI cII V pq sp cn e sz b L1 w nx) H1 → va_S (cG u L z0) s.heap H1 locs1 → H1[q9]? = some ce → ce.vm = .none → s.vm.findClass E = some ce.cls → vx_W p l e9 R s m args below meth c H1 locs1 (cells + mc9) (slots + ms9) Q (F0 m pc ls rest) q9)
    (kk : ∀ (r : Int32) (ra : Nat) (V : Nat → Nat → Int32) (pq sp : Int32) (cn : Nat) (e : Option Nat) (sz : Nat) (b : Nat → Nat → Int32) (L1 : List Nat) (w : Nat → Nat → Int32) (nx : Nat → Option Nat) (H1 : Heap) (locs1 : List Loc), Post9 r ra V pq sp cn e sz b L1 w nx → va_P D vwCl (cW u cI cII V pq sp cn e sz b L1 w nx) H1 → va_S (cG u L z0) s.heap H1 locs1 → W p l e9 R s m args below meth c H1 locs1 (cells + mc9) (slots + ms9) Q (F0 m (pc + 3) ls ((rr9 r ra).toList ++ rest))) :
    W p l e9 R s m args below meth c H locs cells slots Q (F0 m pc ls st0) := by
  have hr : vx_Run p l e9 R s m args below meth c H locs cells slots mc9 ms9 (F0 m pc ls st0) rest (cw_Q D u cI cII z0 L rr9 Post9 (.ref bb :: As).toArray) (xc_X D u cI cII z0 L PX9) (cG u L z0) := vx_runV (g := F0 m pc ls st0) F hM cw ⟨xc_blind, hrc, fun U hU hW => ⟨rfl, by rw [hU, hH]; exact hz, by rw [hU]; exact hP, va_K.moved hW.alike hK, xF.step hW (fun a h1 h2 => by rw [hU, hH]) (fun q h => h) hX⟩⟩ rfl hn hsize hst hW hdg hcs
  have hfr : ∀ {st₀ t T' : State} {Lc : List Loc}, st₀.heap = H → T'.heap = t.heap → (∀ q ∈ Lc, cG u L z0 q.base) → va_F (cG u L z0) st₀ t → va_S (cG u L z0) s.heap T'.heap (locs ++ Lc) := by
    intro st₀ t T' Lc h0 e1 hL hF
    exact (vx_keep (A1 := cG u L z0) (A0 := cG u L z0) h0 e1 hS (fun q _ h => h) (fun q h => h) hL hF).2.2
  intro T hT X
  rcases hr T hT X with ⟨v, st₀, t, T', Lc, h0, X', hL, e1, e2, ⟨⟨r, ra, V, pq, sp, cn, e, sz, b, L1, w, nx, hv, hp, hP⟩, hF⟩, st⟩ | ⟨q, st₀, t, T', Lc, E, ce, h0, X', hL, e1, e2, ⟨⟨V, pq, sp, cn, e, sz, b, L1, w, nx, hp, hP⟩, hF⟩, hce, hcv, hcl, st⟩
  · cases hv
    obtain ⟨t2, a1, b1⟩ := kk r ra V pq sp cn e sz b L1 w nx T'.heap (locs ++ Lc) hp (by rw [e1]; exact hP) (hfr h0 e1 hL hF) T' rfl X'
    exact ⟨t2, st t2 a1, b1⟩
  · obtain ⟨t2, a1, b1⟩ := kx E ce q V pq sp cn e sz b L1 w nx T'.heap (locs ++ Lc) hp (by rw [e1]; exact hP) (hfr h0 e1 hL hF) (by rw [e1]; exact hce) hcv hcl T' rfl X'
    exact ⟨t2, st.trans a1, b1⟩
theorem dz_ret {v : Int32} (F : CallFix p m c cc nL s args Ts own) (hr : meth.sig.returnType = some .int) (hlocks : meth.locks = false) (hv : dzA op = v) (hA : aS u L z0 op.2.2 0 0 V pq sp cn e sz b L0 w nx) (hP : va_P D vwCl (cW u cI cII V pq sp cn e sz b L0 w nx) H) (hS : va_S (cG u L z0) s.heap H locs) (hc : cells ≤ mc) (hs : slots ≤ ms) (hdg : decode cc pc = .ok (.ireturn, 1)) :
    W p l e9 R s m args below meth c H locs cells slots (vx_MQ below (cw_Q D u cI cII z0 L kI (pPost u L z0 (dzO op))) (xc_X D u cI cII z0 L (pPX u L z0 (dzO op))) args s mc ms (cG u L z0)) (F0 m pc ls [.int v]) :=
  vx_ret (W.widen hc hs (W.iret F.1 F.2.1 hr (fun t ht hW => ⟨⟨v, 0, V, pq, sp, cn, e, sz, b, L0, w, nx, rfl, ⟨rfl, hv, hA⟩, by rw [ht]; exact hP⟩, hS.F ht⟩) hS.2.2 hdg hlocks))
end DZROW
theorem eName_1 : eName 1 = "java/lang/IndexOutOfBoundsException" := rfl
theorem eName_2 : eName 2 = "java/lang/IllegalArgumentException" := rfl
theorem eName_3 : eName 3 = "java/lang/IllegalStateException" := rfl
