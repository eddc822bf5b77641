/-! the chain of words: a word is put in its place -/
theorem va_rf_cat (o : Option Nat) : (va_rf o).category = 1 := by cases o <;> rfl
def insL (w : Nat → Nat → Int32) (x : Nat) : List Nat → List Nat
  | [] => [x]
  | y :: M => if wLater (w x) (w y) then y :: insL w x M else x :: y :: M
theorem insL_app (w : Nat → Nat → Int32) (x : Nat) : ∀ (pre M : List Nat), (∀ y, y ∈ pre → wLater (w x) (w y) = true) → insL w x (pre ++ M) = pre ++ insL w x M
  | [], M, _ => rfl
  | y :: pre, M, h => by
    show (if wLater (w x) (w y) then y :: insL w x (pre ++ M) else x :: y :: (pre ++ M)) = _
    rw [if_pos (h y List.mem_cons_self), insL_app w x pre M (fun z hz => h z (List.mem_cons_of_mem _ hz))]
    rfl
theorem insL_mem (w : Nat → Nat → Int32) (x : Nat) : ∀ (M : List Nat) (z : Nat), z ∈ insL w x M ↔ z = x ∨ z ∈ M
  | [], z => by simp [insL]
  | y :: M, z => by
    unfold insL
    split
    · rw [List.mem_cons, insL_mem w x M z, List.mem_cons]
      constructor
      · rintro (h | h | h)
        · exact Or.inr (Or.inl h)
        · exact Or.inl h
        · exact Or.inr (Or.inr h)
      · rintro (h | h | h)
        · exact Or.inr (Or.inl h)
        · exact Or.inl h
        · exact Or.inr (Or.inr h)
    · rw [List.mem_cons]
theorem insL_len (w : Nat → Nat → Int32) (x : Nat) : ∀ (M : List Nat), (insL w x M).length = M.length + 1
  | [] => rfl
  | y :: M => by
    unfold insL
    split
    · rw [List.length_cons, insL_len w x M, List.length_cons]
    · rfl
theorem chn_congr {nx nx' : Nat → Option Nat} : ∀ {M : List Nat}, (∀ z, z ∈ M → nx' z = nx z) → chn nx M → chn nx' M
  | [], _, _ => trivial
  | y :: M, h, hc => ⟨(h y List.mem_cons_self).trans hc.1, chn_congr (fun z hz => h z (List.mem_cons_of_mem _ hz)) hc.2⟩
theorem chn_at {nx : Nat → Option Nat} {y : Nat} {M : List Nat} : ∀ {pre : List Nat}, chn nx (pre ++ y :: M) → nx y = M.head?
  | [], h => h.1
  | _ :: pre, h => chn_at (pre := pre) h.2
theorem chn_ins0 {nx : Nat → Option Nat} {x : Nat} {M : List Nat} (hc : chn nx M) (hx : x ∉ M) : chn (va_up nx x M.head?) (x :: M) :=
  ⟨va_up_self _ _ _, chn_congr (fun z hz => va_up_ne _ _ (fun q => hx (q ▸ hz))) hc⟩
theorem chn_put {nx : Nat → Option Nat} {x yb : Nat} {M : List Nat} : ∀ (p2 : List Nat), chn nx (p2 ++ yb :: M) → (p2 ++ yb :: M).Nodup → x ∉ p2 ++ yb :: M → chn (va_up (va_up nx x M.head?) yb (some x)) (p2 ++ yb :: x :: M)
  | [], hc, hn, hx => by
    have hn2 : yb ∉ M ∧ M.Nodup := List.nodup_cons.mp hn
    have hxy : x ≠ yb := fun q => hx (by rw [q]; exact List.mem_cons_self)
    have hxM : x ∉ M := fun q => hx (List.mem_cons_of_mem _ q)
    refine ⟨va_up_self _ _ _, ?_, chn_congr (fun z hz => ?_) hc.2⟩
    · rw [va_up_ne _ _ hxy, va_up_self]
    · have h1 : z ≠ yb := fun q => hn2.1 (q ▸ hz)
      have h2 : z ≠ x := fun q => hxM (q ▸ hz)
      rw [va_up_ne _ _ h1, va_up_ne _ _ h2]
  | a :: p2, hc, hn, hx => by
    have hn2 : a ∉ p2 ++ yb :: M ∧ (p2 ++ yb :: M).Nodup := List.nodup_cons.mp hn
    have hay : a ≠ yb := fun q => hn2.1 (by rw [q]; exact List.mem_append_right _ List.mem_cons_self)
    have hax : a ≠ x := fun q => hx (by rw [q]; exact List.mem_cons_self)
    refine ⟨?_, chn_put p2 hc.2 hn2.2 (fun q => hx (List.mem_cons_of_mem _ q))⟩
    rw [va_up_ne _ _ hay, va_up_ne _ _ hax, hc.1]
    cases p2 <;> rfl
def mkW (kd st wr sb ck : Int32) : Nat → Int32 := fun k => if k = 0 then kd else if k = 1 then st else if k = 2 then wr else if k = 3 then sb else if k = 4 then ck else if k = 8 then (1 : Int32) <<< (wr &&& 31) else 0
def stW (w : Nat → Nat → Int32) (a : Nat) (x : Nat → Int32) : Nat → Nat → Int32 := fun z => if z = a then x else w z
theorem stW_s (w : Nat → Nat → Int32) (a : Nat) (x : Nat → Int32) : stW w a x a = x := by simp [stW]
theorem stW_n {w : Nat → Nat → Int32} {a z : Nat} {x : Nat → Int32} (h : z ≠ a) : stW w a x z = w z := by simp [stW, h]
def w0F : List Value := [.int 0, .int 0, .int 0, .int 0, .int 0, .int 0, .int 0, .int 0, .int 0, .null]
def ni_P (D : va_G) (cI cII : ClassId) (a : Nat) (kd st wr sb ck : Int32) : Array Value → State → Prop := va_Pc [.ref a, .int kd, .int st, .int wr, .int sb, .int ck] (fun U => va_P D vwCl [(a, .inr (1, w0F))] U.heap ∧ va_K D vwCl (cT cI cII) U)
def ni_Q (D : va_G) (a : Nat) (kd st wr sb ck : Int32) : Array Value → State → Outcome → State → Prop := fun _ s o t => o = .returned none ∧ va_P D vwCl [(a, .inr (1, wF (mkW kd st wr sb ck) none))] t.heap ∧ va_F (fun q => q = a) s t
set_option maxHeartbeats 4000000 in
set_option maxRecDepth 100000 in
theorem cc_X1_init (l : Launch) (D : va_G) (cI cII : ClassId) (a : Nat) (kd st wr sb ck : Int32) : Met l yX1_init wsX1_init { frames := 1, cells := 0, slots := 0, locals := 12 } (ni_P D cI cII a kd st wr sb ck) (ni_Q D a kd st wr sb ck) 0 0 (fun q => q = a) := by
  refine Met.ofW (cc := cX1_init) (maxL := 6) (ret := none) (by decide +kernel) rfl ?_
  intro p e s m args below meth c s₁ B hml hv
  obtain ⟨rfl, hP, hK⟩ := hv
  have hx := B.exec
  have hb := B.bytes
  have hr := B.returns
  have hts := atoms_spec (ws := wsX1_init) B.pre
  have hown : s.vm.findClass RX1 = some m.cls := findClass_of_methodNamed B.named
  have hlocks := B.notSynchronized
  have hin : meth.name = "<init>" := (name_of_methodNamed B.named B.method).1
  have hD : va_D (fun q => q = a) [(a, .inr (1, w0F))] := ⟨fun i j p q h1 h2 _ => by
      have q1 := (List.getElem?_eq_some_iff.mp h1).1
      have q2 := (List.getElem?_eq_some_iff.mp h2).1
      simp at q1 q2
      omega, fun k q hk => by
      have q1 : k < 1 := (List.getElem?_eq_some_iff.mp hk).1
      rw [show k = 0 by omega] at hk
      cases hk
      rfl⟩
  have hS : va_S (fun q => q = a) s.heap s.heap [] := va_S.rf
  have hinW : ∀ w ∈ wsX10, w ∈ wsX1_init := by decide +kernel
  have hP : va_P D vwCl [(a, .inr (1, [.int 0, .int 0, .int 0, .int 0, .int 0, .int 0, .int 0, .int 0, .int 0, .null]))] s.heap := hP
  have hl := lv_entry ([.ref a, .int kd, .int st, .int wr, .int sb, .int ck]) (n := 6) (Nat.le_of_ble_eq_true rfl)
  rw [lg_entry_eq]
  generalize (lg_sl ([.ref a, .int kd, .int st, .int wr, .int sb, .int ck]) ++ List.replicate (6 - (lg_sl ([.ref a, .int kd, .int st, .int wr, .int sb, .int ck])).length) Slot.unset).toArray = ls at hl ⊢
  have hl : lv_has ls 6 [(0, .ref a), (1, .int kd), (2, .int st), (3, .int wr), (4, .int sb), (5, .int ck)] := hl
  refine lv_aload_n hx hb dX1_init_0 rfl (lv_at hl 0 rfl) ?_
  refine W.objInit hx hb hown (hts (.methodLink RX1 1 objectInit) (by decide +kernel)) (hts (.instanceMethod objectInit) (by decide +kernel)) (hts (.code objectInit ⟨#[0xb1]⟩ 1 none) (by decide +kernel)) rfl (by rw [hml]; exact hl.1) rfl dX1_init_1 (Nat.le_of_ble_eq_true rfl) (Nat.le_of_ble_eq_true rfl) ?_
  refine W.eq (g2 := F0 m 4 ls []) rfl ?_
  refine lv_aload_n hx hb dX1_init_4 rfl (lv_at hl 0 rfl) ?_
  refine lv_iconst (v := 0) hx hb dX1_init_5 (by decide) ?_
  refine va_put (D := D) (ci := 1) (v := .int 0) (ty := .int) (C := RX1) (T := TX1) (N := 10) hx hb hts hinW tyX1 tyX1_ok nmX1 hown hK hP hD hS 0 rfl rfl 5 (by decide) (hts (.fieldLink RX1 7 "FridgeGossip$Word" "firstDay" "I") (by decide +kernel)) (fun _ h9 => h9) rfl (by decide +kernel) rfl rfl (Nat.le_of_ble_eq_true rfl) dX1_init_6 (fun H locs hP hD hS => ?_)
  have hP : va_P D vwCl [(a, .inr (1, [.int 0, .int 0, .int 0, .int 0, .int 0, .int 0, .int 0, .int 0, .int 0, .null]))] H := hP
  have hD : va_D (fun q => q = a) [(a, .inr (1, [.int 0, .int 0, .int 0, .int 0, .int 0, .int 0, .int 0, .int 0, .int 0, .null]))] := hD
  refine lv_aload_n hx hb dX1_init_9 rfl (lv_at hl 0 rfl) ?_
  refine lv_iconst (v := 0) hx hb dX1_init_10 (by decide) ?_
  refine va_put (D := D) (ci := 1) (v := .int 0) (ty := .int) (C := RX1) (T := TX1) (N := 10) hx hb hts hinW tyX1 tyX1_ok nmX1 hown hK hP hD hS 0 rfl rfl 6 (by decide) (hts (.fieldLink RX1 13 "FridgeGossip$Word" "lastDay" "I") (by decide +kernel)) (fun _ h9 => h9) rfl (by decide +kernel) rfl rfl (Nat.le_of_ble_eq_true rfl) dX1_init_11 (fun H locs hP hD hS => ?_)
  have hP : va_P D vwCl [(a, .inr (1, [.int 0, .int 0, .int 0, .int 0, .int 0, .int 0, .int 0, .int 0, .int 0, .null]))] H := hP
  have hD : va_D (fun q => q = a) [(a, .inr (1, [.int 0, .int 0, .int 0, .int 0, .int 0, .int 0, .int 0, .int 0, .int 0, .null]))] := hD
  refine lv_aload_n hx hb dX1_init_14 rfl (lv_at hl 0 rfl) ?_
  refine lv_iconst (v := 0) hx hb dX1_init_15 (by decide) ?_
  refine va_put (D := D) (ci := 1) (v := .int 0) (ty := .int) (C := RX1) (T := TX1) (N := 10) hx hb hts hinW tyX1 tyX1_ok nmX1 hown hK hP hD hS 0 rfl rfl 7 (by decide) (hts (.fieldLink RX1 16 "FridgeGossip$Word" "dislikes" "I") (by decide +kernel)) (fun _ h9 => h9) rfl (by decide +kernel) rfl rfl (Nat.le_of_ble_eq_true rfl) dX1_init_16 (fun H locs hP hD hS => ?_)
  have hP : va_P D vwCl [(a, .inr (1, [.int 0, .int 0, .int 0, .int 0, .int 0, .int 0, .int 0, .int 0, .int 0, .null]))] H := hP
  have hD : va_D (fun q => q = a) [(a, .inr (1, [.int 0, .int 0, .int 0, .int 0, .int 0, .int 0, .int 0, .int 0, .int 0, .null]))] := hD
  refine lv_aload_n hx hb dX1_init_19 rfl (lv_at hl 0 rfl) ?_
  refine lv_null hx hb dX1_init_20 ?_
  refine va_put (D := D) (ci := 1) (v := .null) (ty := .object "FridgeGossip$Word") (C := RX1) (T := TX1) (N := 10) hx hb hts hinW tyX1 tyX1_ok nmX1 hown hK hP hD hS 0 rfl rfl 9 (by decide) (hts (.fieldLink RX1 19 "FridgeGossip$Word" "next" "LFridgeGossip$Word;") (by decide +kernel)) (fun _ h9 => h9) rfl (by decide +kernel) rfl rfl (Nat.le_of_ble_eq_true rfl) dX1_init_21 (fun H locs hP hD hS => ?_)
  have hP : va_P D vwCl [(a, .inr (1, [.int 0, .int 0, .int 0, .int 0, .int 0, .int 0, .int 0, .int 0, .int 0, .null]))] H := hP
  have hD : va_D (fun q => q = a) [(a, .inr (1, [.int 0, .int 0, .int 0, .int 0, .int 0, .int 0, .int 0, .int 0, .int 0, .null]))] := hD
  refine lv_aload_n hx hb dX1_init_24 rfl (lv_at hl 0 rfl) ?_
  refine lv_iload_n hx hb dX1_init_25 rfl (lv_at hl 1 rfl) ?_
  refine va_putF (D := D) (ci := 1) (v := .int kd) (ty := .int) (C := RX1) (T := TX1) (N := 10) hx hb hts hinW tyX1 tyX1_ok nmX1 hown hK hP hD hS 0 rfl rfl 0 (by decide) (hts (.fieldLink RX1 23 "FridgeGossip$Word" "kind" "I") (by decide +kernel)) (fun _ h9 => h9) rfl hin rfl (by decide +kernel) rfl rfl (Nat.le_of_ble_eq_true rfl) dX1_init_26 (fun H locs hP hD hS => ?_)
  have hP : va_P D vwCl [(a, .inr (1, [.int kd, .int 0, .int 0, .int 0, .int 0, .int 0, .int 0, .int 0, .int 0, .null]))] H := hP
  have hD : va_D (fun q => q = a) [(a, .inr (1, [.int kd, .int 0, .int 0, .int 0, .int 0, .int 0, .int 0, .int 0, .int 0, .null]))] := hD
  refine lv_aload_n hx hb dX1_init_29 rfl (lv_at hl 0 rfl) ?_
  refine lv_iload_n hx hb dX1_init_30 rfl (lv_at hl 2 rfl) ?_
  refine va_putF (D := D) (ci := 1) (v := .int st) (ty := .int) (C := RX1) (T := TX1) (N := 10) hx hb hts hinW tyX1 tyX1_ok nmX1 hown hK hP hD hS 0 rfl rfl 1 (by decide) (hts (.fieldLink RX1 26 "FridgeGossip$Word" "stamp" "I") (by decide +kernel)) (fun _ h9 => h9) rfl hin rfl (by decide +kernel) rfl rfl (Nat.le_of_ble_eq_true rfl) dX1_init_31 (fun H locs hP hD hS => ?_)
  have hP : va_P D vwCl [(a, .inr (1, [.int kd, .int st, .int 0, .int 0, .int 0, .int 0, .int 0, .int 0, .int 0, .null]))] H := hP
  have hD : va_D (fun q => q = a) [(a, .inr (1, [.int kd, .int st, .int 0, .int 0, .int 0, .int 0, .int 0, .int 0, .int 0, .null]))] := hD
  refine lv_aload_n hx hb dX1_init_34 rfl (lv_at hl 0 rfl) ?_
  refine lv_iload_n hx hb dX1_init_35 rfl (lv_at hl 3 rfl) ?_
  refine va_putF (D := D) (ci := 1) (v := .int wr) (ty := .int) (C := RX1) (T := TX1) (N := 10) hx hb hts hinW tyX1 tyX1_ok nmX1 hown hK hP hD hS 0 rfl rfl 2 (by decide) (hts (.fieldLink RX1 29 "FridgeGossip$Word" "writer" "I") (by decide +kernel)) (fun _ h9 => h9) rfl hin rfl (by decide +kernel) rfl rfl (Nat.le_of_ble_eq_true rfl) dX1_init_36 (fun H locs hP hD hS => ?_)
  have hP : va_P D vwCl [(a, .inr (1, [.int kd, .int st, .int wr, .int 0, .int 0, .int 0, .int 0, .int 0, .int 0, .null]))] H := hP
  have hD : va_D (fun q => q = a) [(a, .inr (1, [.int kd, .int st, .int wr, .int 0, .int 0, .int 0, .int 0, .int 0, .int 0, .null]))] := hD
  refine lv_aload_n hx hb dX1_init_39 rfl (lv_at hl 0 rfl) ?_
  refine lv_iload hx hb dX1_init_40 (lv_at hl 4 rfl) ?_
  refine va_putF (D := D) (ci := 1) (v := .int sb) (ty := .int) (C := RX1) (T := TX1) (N := 10) hx hb hts hinW tyX1 tyX1_ok nmX1 hown hK hP hD hS 0 rfl rfl 3 (by decide) (hts (.fieldLink RX1 32 "FridgeGossip$Word" "subject" "I") (by decide +kernel)) (fun _ h9 => h9) rfl hin rfl (by decide +kernel) rfl rfl (Nat.le_of_ble_eq_true rfl) dX1_init_42 (fun H locs hP hD hS => ?_)
  have hP : va_P D vwCl [(a, .inr (1, [.int kd, .int st, .int wr, .int sb, .int 0, .int 0, .int 0, .int 0, .int 0, .null]))] H := hP
  have hD : va_D (fun q => q = a) [(a, .inr (1, [.int kd, .int st, .int wr, .int sb, .int 0, .int 0, .int 0, .int 0, .int 0, .null]))] := hD
  refine lv_aload_n hx hb dX1_init_45 rfl (lv_at hl 0 rfl) ?_
  refine lv_iload hx hb dX1_init_46 (lv_at hl 5 rfl) ?_
  refine va_putF (D := D) (ci := 1) (v := .int ck) (ty := .int) (C := RX1) (T := TX1) (N := 10) hx hb hts hinW tyX1 tyX1_ok nmX1 hown hK hP hD hS 0 rfl rfl 4 (by decide) (hts (.fieldLink RX1 35 "FridgeGossip$Word" "cake" "I") (by decide +kernel)) (fun _ h9 => h9) rfl hin rfl (by decide +kernel) rfl rfl (Nat.le_of_ble_eq_true rfl) dX1_init_48 (fun H locs hP hD hS => ?_)
  have hP : va_P D vwCl [(a, .inr (1, [.int kd, .int st, .int wr, .int sb, .int ck, .int 0, .int 0, .int 0, .int 0, .null]))] H := hP
  have hD : va_D (fun q => q = a) [(a, .inr (1, [.int kd, .int st, .int wr, .int sb, .int ck, .int 0, .int 0, .int 0, .int 0, .null]))] := hD
  refine lv_aload_n hx hb dX1_init_51 rfl (lv_at hl 0 rfl) ?_
  refine lv_iconst (v := 1) hx hb dX1_init_52 (by decide) ?_
  refine lv_iload_n hx hb dX1_init_53 rfl (lv_at hl 3 rfl) ?_
  refine lv_ishl hx hb dX1_init_54 ?_
  refine va_put (D := D) (ci := 1) (v := .int ((1 : Int32) <<< (wr &&& 31))) (ty := .int) (C := RX1) (T := TX1) (N := 10) hx hb hts hinW tyX1 tyX1_ok nmX1 hown hK hP hD hS 0 rfl rfl 8 (by decide) (hts (.fieldLink RX1 38 "FridgeGossip$Word" "knownTo" "I") (by decide +kernel)) (fun _ h9 => h9) rfl (by decide +kernel) rfl rfl (Nat.le_of_ble_eq_true rfl) dX1_init_55 (fun H locs hP hD hS => ?_)
  have hP : va_P D vwCl [(a, .inr (1, [.int kd, .int st, .int wr, .int sb, .int ck, .int 0, .int 0, .int 0, .int ((1 : Int32) <<< (wr &&& 31)), .null]))] H := hP
  have hD : va_D (fun q => q = a) [(a, .inr (1, [.int kd, .int st, .int wr, .int sb, .int ck, .int 0, .int 0, .int 0, .int ((1 : Int32) <<< (wr &&& 31)), .null]))] := hD
  exact W.vret hx hb hr (fun t ht hW => ⟨rfl, by rw [ht]; exact hP, hS.F ht⟩) hS.2.2 dX1_init_58
section INS
variable {p : Program} {l : Launch} {e9 : Env} {R : Room} {s : State} {m : MethodId} {args : Array Value} {below : List Frame} {meth : Method} {c : Code} {H : Heap} {locs : List Loc} {cells slots : Nat} {Q : State → Prop}
variable {cc : ByteArray} {pc nL index : Nat} {ls : Array Slot} {rest : List Value} {Ts : List Cond} {own : String} {D : va_G} {A : Nat → Prop} {H0 : Heap}
variable {u : Nat → Nat} {cI cII : ClassId} {V : Nat → Nat → Int32} {pq sp : Int32} {cn : Nat} {e : Option Nat} {sz : Nat} {b : Nat → Nat → Int32} {L : List Nat} {w : Nat → Nat → Int32} {nx : Nat → Option Nat}
theorem va_one {D : va_G} {cl : List vw_C} {x : Nat × va_E} {H : Heap} (h : va_at D cl x H) : va_P D cl [x] H := va_mem.mpr (fun q hq => by rw [List.mem_singleton] at hq; rw [hq]; exact h)
theorem wn_new (F : CallFix p m c cc nL s args Ts own) (hK : va_K D vwCl (cT cI cII) s) (hinW : ∀ w ∈ wsX10, w ∈ Ts) (hN : (cAd u ++ L).Nodup) (hA : ∀ x, x ∈ cAd u ∨ x ∈ L → A x) (hA0 : ∀ q, H0.size ≤ q → A q) (hP : va_P D vwCl (cW u cI cII V pq sp cn e sz b L w nx) H) (hS : va_S A H0 H locs) (h1 : Cond.classLink own index RX1 ∈ Ts) (h2 : Cond.instantiable RX1 10 ∈ Ts) (h3 : Cond.initialized RX1 ∈ Ts) (hc : cells + 1 ≤ R.cells) (hs : slots + 10 ≤ R.slots) (hdg : decode cc pc = .ok (.new index, 3))
    (kk : ∀ (a : Nat) (H1 : Heap), a ∉ cAd u → a ∉ L → A a → va_P D vwCl (cW u cI cII V pq sp cn e sz b L w nx) H1 → va_P D vwCl [(a, .inr (1, w0F))] H1 → va_S A H0 H1 locs → W p l e9 R s m args below meth c H1 locs (cells + 1) (slots + 10) Q (F0 m (pc + 3) ls (.ref a :: rest))) : W p l e9 R s m args below meth c H locs cells slots Q (F0 m pc ls rest) := by
  refine va_new (ci := 1) (fs := w0F) (C := RX1) (T := TX1) (N := 10) F.1 F.2.1 F.2.2.2.2 hinW tyX1 tyX1_ok F.2.2.2.1 (F.2.2.2.2 _ h1) (F.2.2.2.2 _ h2) (F.2.2.2.2 _ h3) hK hP (cD hN hA cI cII V pq sp cn e sz b w nx) hS hA0 rfl (fun j hj => by rcases (show j = 0 ∨ j = 1 ∨ j = 2 ∨ j = 3 ∨ j = 4 ∨ j = 5 ∨ j = 6 ∨ j = 7 ∨ j = 8 ∨ j = 9 by omega) with rfl | rfl | rfl | rfl | rfl | rfl | rfl | rfl | rfl | rfl <;> rfl) hc hs hdg (fun q H1 hP1 hD1 hS1 => ?_)
  have hfresh : q ∉ cAd u ++ L := by
    intro hq
    rw [← cAd_map u cI cII V pq sp cn e sz b L w nx] at hq
    obtain ⟨x, hx, hxq⟩ := List.mem_map.mp hq
    obtain ⟨i, hi⟩ := List.getElem?_of_mem hx
    have hlt := (List.getElem?_eq_some_iff.mp hi).1
    have h1 := hD1.1 i (cW u cI cII V pq sp cn e sz b L w nx).length x (q, .inr (1, w0F)) (by rw [List.getElem?_append_left hlt]; exact hi) (by rw [List.getElem?_append_right (Nat.le_refl _), Nat.sub_self]; rfl) hxq
    omega
  exact kk q H1 (fun z => hfresh (List.mem_append_left _ z)) (fun z => hfresh (List.mem_append_right _ z)) (hD1.2 (cW u cI cII V pq sp cn e sz b L w nx).length (q, .inr (1, w0F)) (by rw [List.getElem?_append_right (Nat.le_refl _), Nat.sub_self]; rfl)) (va_left hP1) (va_right hP1) hS1
theorem cW_push {a : Nat} {x : Nat → Int32} {o : Option Nat} (ha : a ∉ L) (hP : va_P D vwCl (cW u cI cII V pq sp cn e sz b L w nx) H) (h1 : va_P D vwCl [(a, .inr (1, wF x o))] H) : va_P D vwCl (cW u cI cII V pq sp cn e sz b (L ++ [a]) (stW w a x) (va_up nx a o)) H := by
  refine cP_mk (cPv hP) (cPc hP) (va_mem.mpr (fun q hq => ?_))
  obtain ⟨z, hz, rfl⟩ := List.mem_map.mp hq
  rcases List.mem_append.mp hz with h | h
  · have hne : z ≠ a := fun y => ha (y ▸ h)
    have := va_mem.mp (cPw hP) (z, wE w nx z) (List.mem_map.mpr ⟨z, h, rfl⟩)
    unfold wE at this ⊢
    rw [stW_n hne, va_up_ne _ _ hne]
    exact this
  · rw [List.mem_singleton] at h
    subst h
    have := h1 0 _ rfl
    unfold wE
    rw [stW_s, va_up_self]
    exact this
theorem cAd_push {a : Nat} (hN : (cAd u ++ L).Nodup) (h1 : a ∉ cAd u) (h2 : a ∉ L) : (cAd u ++ (L ++ [a])).Nodup := by
  rw [← List.append_assoc]
  refine List.nodup_append.mpr ⟨hN, by simp, fun x hx y hy => ?_⟩
  rw [List.mem_singleton] at hy
  subst hy
  intro q
  subst q
  rcases List.mem_append.mp hx with h | h
  · exact h1 h
  · exact h2 h
theorem cW_perm {L1 : List Nat} (h : ∀ z, z ∈ L1 → z ∈ L) (hP : va_P D vwCl (cW u cI cII V pq sp cn e sz b L w nx) H) : va_P D vwCl (cW u cI cII V pq sp cn e sz b L1 w nx) H :=
  cP_mk (cPv hP) (cPc hP) (va_mem.mpr (fun q hq => by
    obtain ⟨z, hz, rfl⟩ := List.mem_map.mp hq
    exact va_mem.mp (cPw hP) _ (List.mem_map.mpr ⟨z, h z hz, rfl⟩)))
theorem wn_init (F : CallFix p m c cc nL s args Ts own) (hK : va_K D vwCl (cT cI cII) s) (hA : ∀ x, x ∈ cAd u ∨ x ∈ L → A x) {a : Nat} (ha1 : a ∉ cAd u) (ha2 : a ∉ L) (hAa : A a) (hP : va_P D vwCl (cW u cI cII V pq sp cn e sz b L w nx) H) (h0 : va_P D vwCl [(a, .inr (1, w0F))] H) (hS : va_S A H0 H locs) {kd st wr sb ck : Int32}
    (cw : CallB R s args own index yX1_init cX1_init 6 none wsX1_init { frames := 1, cells := 0, slots := 0, locals := 12 } 0 0 5 ∧ yX1_init.name = "<init>" ∧ (Cond.instanceMethod yX1_init).before args s = true) (hsize : ls.size = nL) (hW : 2 * (F0 m pc ls (.int ck :: .int sb :: .int wr :: .int st :: .int kd :: .ref a :: rest)).monitorRoom + (rest.map fun v => v.category).sum ≤ 8) (hcs : cells + 0 ≤ R.cells ∧ slots + 0 ≤ R.slots) (hdg : decode cc pc = .ok (.invokespecial index, 3))
    (kk : ∀ (H1 : Heap) (locs1 : List Loc), va_P D vwCl (cW u cI cII V pq sp cn e sz b (L ++ [a]) (stW w a (mkW kd st wr sb ck)) (va_up nx a none)) H1 → va_S A H0 H1 locs1 → W p l e9 R s m args below meth c H1 locs1 cells slots Q (F0 m (pc + 3) ls rest)) : W p l e9 R s m args below meth c H locs cells slots Q (F0 m pc ls (.int ck :: .int sb :: .int wr :: .int st :: .int kd :: .ref a :: rest)) := by
  have hr : va_Run p l e9 R s m args below meth c H locs cells slots 0 0 (F0 m pc ls (.int ck :: .int sb :: .int wr :: .int st :: .int kd :: .ref a :: rest)) rest (ni_Q D a kd st wr sb ck (Value.ref a :: [.int kd, .int st, .int wr, .int sb, .int ck]).toArray) (fun q => q = a) := va_runI (As := [.int kd, .int st, .int wr, .int sb, .int ck]) (rest := rest) (g := F0 m pc ls (.int ck :: .int sb :: .int wr :: .int st :: .int kd :: .ref a :: rest)) F (cc_X1_init l D cI cII a kd st wr sb ck) cw ⟨fun a U g mk h => ⟨h.1, h.2.1, va_K.moved (u := U) (U := U.calling g mk a) (Vm.Alike.refl U.vm) h.2.2⟩, fun U hU hW => ⟨rfl, by rw [hU]; exact h0, va_K.moved hW.alike hK⟩⟩ rfl rfl hsize rfl hW hdg hcs
  intro T hT X
  obtain ⟨v, st₀, t, T', Lc, hh0, X', hL, e1, e2, ⟨hv, hq, hz, hk3⟩, stp⟩ := hr T hT X
  cases hv
  rw [hh0] at hz hk3
  have hPk : va_P D vwCl (cW u cI cII V pq sp cn e sz b L w nx) T'.heap := hP.kept (fun k q hk => by
    have hm : q.1 ∈ cAd u ++ L := by rw [← cAd_map u cI cII V pq sp cn e sz b L w nx]; exact List.mem_map.mpr ⟨q, List.mem_of_getElem? hk, rfl⟩
    have hne : q.1 ≠ a := fun z => (List.mem_append.mp hm).elim (fun y => ha1 (z ▸ y)) (fun y => ha2 (z ▸ y))
    rw [e1]
    exact hk3 q.1 ((hP k q hk).lt) hne)
  obtain ⟨t2, a1, b1⟩ := kk T'.heap (locs ++ Lc) (cW_push ha2 hPk (by rw [e1]; exact hq)) ⟨Nat.le_trans hS.1 (by rw [e1]; exact hz), fun q h1 h2 => by rw [e1, hk3 q (Nat.lt_of_lt_of_le h1 hS.1) (fun z => h2 (by rw [z]; exact hAa))]; exact hS.2.1 q h1 h2, fun z hz2 => by
    rcases List.mem_append.mp hz2 with y | y
    · exact hS.2.2 z y
    · rw [hL z y]; exact hAa⟩ T' rfl X'
  exact ⟨t2, stp t2 a1, b1⟩
end INS

set_option maxHeartbeats 4000000 in
set_option maxRecDepth 100000 in
theorem cc_X2_insert {l : Launch} {D : va_G} {cI cII : ClassId} {u : Nat → Nat} {V : Nat → Nat → Int32} {pq sp : Int32} {cn : Nat} {e : Option Nat} {sz : Nat} {b : Nat → Nat → Int32} {L : List Nat} {w : Nat → Nat → Int32} {nx : Nat → Option Nat} {z0 : Nat} (hN : (cAd u ++ L).Nodup) (x : Nat) (hx9 : x ∈ L) (M0 : List Nat) (hsub : ∀ z, z ∈ M0 → z ∈ L) (hxM : x ∉ M0) (hMn : M0.Nodup) (hch : chn nx M0) (he : e = M0.head?) : cw_Met l yX2_insert wsX2_insert 1 0 0 21 D u cI cII z0 L (cW u cI cII V pq sp cn e sz b L w nx) [.ref (u 31), .ref x] kV (fun _ _ V9 pq9 sp9 cn9 e9 sz9 b9 L9 w9 nx9 => V9 = V ∧ pq9 = pq ∧ sp9 = sp ∧ cn9 = cn ∧ e9 = (insL w x M0).head? ∧ sz9 = sz + 1 ∧ b9 = b ∧ L9 = L ∧ w9 = w ∧ chn nx9 (insL w x M0)) := by
  suffices h9 : ∀ L0, L0 = L → cw_Met l yX2_insert wsX2_insert 1 0 0 21 D u cI cII z0 L0 (cW u cI cII V pq sp cn e sz b L w nx) [.ref (u 31), .ref x] kV (fun _ _ V9 pq9 sp9 cn9 e9 sz9 b9 L9 w9 nx9 => V9 = V ∧ pq9 = pq ∧ sp9 = sp ∧ cn9 = cn ∧ e9 = (insL w x M0).head? ∧ sz9 = sz + 1 ∧ b9 = b ∧ L9 = L ∧ w9 = w ∧ chn nx9 (insL w x M0)) by exact h9 _ rfl
  intro L0 hL0
  have hLz : ∀ a, a ∈ L → a ∈ L0 ∨ z0 ≤ a := fun a z => Or.inl (by rw [hL0]; exact z)
  refine cw_start rfl (by decide +kernel) (Nat.le_of_ble_eq_true rfl) (fun p e9 s m below meth c F hr hlocks hK hz H locs hP hS hz9 ls hl => ?_)
  have hl : lv_has ls 4 [(0, .ref (u 31)), (1, .ref x)] := hl
  have hx := F.1
  have hb := F.2.1
  have hinK : ∀ w ∈ wsX20, w ∈ wsX2_insert := by decide +kernel
  have hinW : ∀ w ∈ wsX10, w ∈ wsX2_insert := by decide +kernel
  refine lv_null hx hb dX2_insert_0 ?_
  refine lv_astore_nN (lv' := [(2, .null), (0, .ref (u 31)), (1, .ref x)]) hx hb dX2_insert_1 rfl hl (by decide) rfl (fun ls hl => ?_)
  refine lv_aload_n hx hb dX2_insert_2 rfl (lv_at hl 1 rfl) ?_
  refine kg_get F hK hinK (cPc hP) 0 (by decide) (by decide +kernel) rfl dX2_insert_3 ?_
  refine lw_V (v' := va_rf M0.head?) (by rw [he]) ?_
  refine lw_astore_nR (lv' := [(3, va_rf (M0.head?)), (2, .null), (0, .ref (u 31)), (1, .ref x)]) hx hb dX2_insert_6 rfl hl (by decide) rfl (fun ls hl => ?_)
  have L7_u_1 : ∀ (k9u_1 : Nat) (pre : List Nat) (M : List Nat) (H : Heap) (locs : List Loc) (ls : Array Slot), M.length < k9u_1 → M0 = pre ++ M → (∀ y, y ∈ pre → wLater (w x) (w y) = true) → va_P D vwCl (cW u cI cII V pq sp cn e sz b L w nx) H → va_S (cG u L0 z0) s.heap H locs → lv_has ls 4 [(3, va_rf (M.head?)), (2, va_rf (pre.getLast?)), (0, .ref (u 31)), (1, .ref x)] → cwW p l e9 1 0 0 21 s m [.ref (u 31), .ref x] below meth c H locs 0 0 D u cI cII z0 L0 kV (fun _ _ V9 pq9 sp9 cn9 e9 sz9 b9 L9 w9 nx9 => V9 = V ∧ pq9 = pq ∧ sp9 = sp ∧ cn9 = cn ∧ e9 = (insL w x M0).head? ∧ sz9 = sz + 1 ∧ b9 = b ∧ L9 = L ∧ w9 = w ∧ chn nx9 (insL w x M0)) (F0 m 7 ls []) := by
    intro k9u_1
    induction k9u_1 with
    | zero => intro pre M H locs ls hk; exact absurd hk (Nat.not_lt_zero _)
    | succ k9u_1 ihu_1 =>
      intro pre M H locs ls hk hM hlt hP hS hl
      refine lw_aload_nR hx hb dX2_insert_7 rfl (lv_at hl 0 rfl) ?_
      refine lw_ifnullR (tgt := 29) hx hb dX2_insert_8 (by decide) (fun c_2 => ?_) (fun y c_2 => ?_)
      · skip
        rw [c_2] at hl
        have hl9_c_2 : lv_has ls 4 [(3, .null), (2, va_rf (pre.getLast?)), (0, .ref (u 31)), (1, .ref x)] := hl
        have hMn : M = [] := by cases M with | nil => rfl | cons z M2 => cases c_2
        subst hMn
        have hl : lv_has ls 4 [(3, .null), (2, va_rf (pre.getLast?)), (0, .ref (u 31)), (1, .ref x)] := hl9_c_2
        have hins : insL w x M0 = pre ++ x :: [] := by rw [hM, insL_app w x pre _ hlt]; rfl
        refine lv_aload_n hx hb dX2_insert_29 rfl (lv_at hl 3 rfl) ?_
        refine lv_aload_nN hx hb dX2_insert_30 rfl (lv_at hl 0 rfl) ?_
        refine wp_next (o := none) F hK hinW hN (cG_in hLz) hP hS hx9 (by decide +kernel) dX2_insert_31 (fun H locs hP hS => ?_)
        refine lw_aload_nR hx hb dX2_insert_34 rfl (lv_at hl 1 rfl) ?_
        refine lw_ifnonnullR (tgt := 46) hx hb dX2_insert_35 (by decide) (fun yb c_3 => ?_) (fun c_3 => ?_)
        · skip
          rw [c_3] at hl
          have hl9_c_3 : lv_has ls 4 [(3, .null), (2, .ref yb), (0, .ref (u 31)), (1, .ref x)] := hl
          obtain ⟨p2, rfl⟩ := List.getLast?_eq_some_iff.mp c_3
          have hl : lv_has ls 4 [(3, .null), (2, .ref yb), (0, .ref (u 31)), (1, .ref x)] := hl9_c_3
          refine lv_aload_n hx hb dX2_insert_46 rfl (lv_at hl 1 rfl) ?_
          refine lv_aload_n hx hb dX2_insert_47 rfl (lv_at hl 3 rfl) ?_
          refine wp_next (o := some x) F hK hinW hN (cG_in hLz) hP hS (hsub yb (by rw [hM]; simp)) (by decide +kernel) dX2_insert_48 (fun H locs hP hS => ?_)
          refine lv_aload_n hx hb dX2_insert_51 rfl (lv_at hl 2 rfl) ?_
          refine lv_dup hx hb dX2_insert_52 rfl ?_
          refine kg_get F hK hinK (cPc hP) 1 (by decide) (by decide +kernel) rfl dX2_insert_53 ?_
          refine lv_iconst (v := 1) hx hb dX2_insert_56 (by decide) ?_
          refine lw_add hx hb (i := sz) (j := 1) dX2_insert_57 ?_
          refine kp_size F hK hinK hN (cG_in hLz) hP hS (sz + 1) (by decide +kernel) dX2_insert_58 (fun H locs hP hS => ?_)
          exact cw_retv F hr hlocks hP hS (⟨rfl, rfl, rfl, rfl, by rw [hins, he, hM]; cases p2 <;> rfl, rfl, rfl, rfl, rfl, by rw [hins, List.append_assoc]; exact chn_put (M := []) p2 (by have q := hch; rw [hM, List.append_assoc] at q; exact q) (by have q := hMn; rw [hM, List.append_assoc] at q; exact q) (fun q => hxM (by rw [hM, List.append_assoc]; exact q))⟩) (by omega) (by omega) dX2_insert_61
        · skip
          rw [c_3] at hl
          have hl9_c_3 : lv_has ls 4 [(3, .null), (2, .null), (0, .ref (u 31)), (1, .ref x)] := hl
          have hpn : pre = [] := by simpa using c_3
          subst hpn
          have hl : lv_has ls 4 [(3, .null), (2, .null), (0, .ref (u 31)), (1, .ref x)] := hl9_c_3
          refine lv_aload_n hx hb dX2_insert_38 rfl (lv_at hl 2 rfl) ?_
          refine lv_aload_n hx hb dX2_insert_39 rfl (lv_at hl 3 rfl) ?_
          refine kp_first F hK hinK hN (cG_in hLz) hP hS x (by decide +kernel) dX2_insert_40 (fun H locs hP hS => ?_)
          refine lv_goto (tgt := 51) hx hb dX2_insert_43 (by decide) ?_
          refine lv_aload_n hx hb dX2_insert_51 rfl (lv_at hl 2 rfl) ?_
          refine lv_dup hx hb dX2_insert_52 rfl ?_
          refine kg_get F hK hinK (cPc hP) 1 (by decide) (by decide +kernel) rfl dX2_insert_53 ?_
          refine lv_iconst (v := 1) hx hb dX2_insert_56 (by decide) ?_
          refine lw_add hx hb (i := sz) (j := 1) dX2_insert_57 ?_
          refine kp_size F hK hinK hN (cG_in hLz) hP hS (sz + 1) (by decide +kernel) dX2_insert_58 (fun H locs hP hS => ?_)
          exact cw_retv F hr hlocks hP hS (⟨rfl, rfl, rfl, rfl, by rw [hins]; rfl, rfl, rfl, rfl, rfl, by rw [hins]; exact chn_ins0 (M := []) (by have q := hch; rw [hM] at q; exact q) (fun q => hxM (by rw [hM]; exact q))⟩) (by omega) (by omega) dX2_insert_61
      · skip
        rw [c_2] at hl
        have hl9_c_2 : lv_has ls 4 [(3, .ref y), (2, va_rf (pre.getLast?)), (0, .ref (u 31)), (1, .ref x)] := hl
        obtain ⟨M2, rfl⟩ : ∃ M2, M = y :: M2 := by cases M with | nil => cases c_2 | cons z M2 => cases c_2; exact ⟨M2, rfl⟩
        have hl : lv_has ls 4 [(3, .ref y), (2, va_rf (pre.getLast?)), (0, .ref (u 31)), (1, .ref x)] := hl9_c_2
        refine lv_aload_n hx hb dX2_insert_11 rfl (lv_at hl 3 rfl) ?_
        refine lv_aload_n hx hb dX2_insert_12 rfl (lv_at hl 0 rfl) ?_
        refine ro_callV F hK [.ref y] (cc_X1_isLaterThan (cPw hP) x y (hx9) ((hsub y (by rw [hM]; simp)))) (cwV 1 F.2.2.2.2 gX2_insert_X1_isLaterThan rfl rfl rfl (by decide +kernel) ⟨Nat.le_of_ble_eq_true rfl, Nat.le_of_ble_eq_true rfl⟩) (wg_rc hK (cPw hP) hx9) rfl hl.1 rfl (lv_room (Nat.le_of_ble_eq_true rfl)) ⟨Nat.le_of_ble_eq_true rfl, Nat.le_of_ble_eq_true rfl⟩ dX2_insert_13 ?_
        refine lw_beq (tgt := 29) hx hb dX2_insert_16 (by decide) (fun c_4 => ?_) (fun c_4 => ?_)
        · skip
          have hins : insL w x M0 = pre ++ x :: (y :: M2) := by rw [hM, insL_app w x pre _ hlt]; simp [insL, c_4]
          refine lv_aload_n hx hb dX2_insert_29 rfl (lv_at hl 3 rfl) ?_
          refine lv_aload_n hx hb dX2_insert_30 rfl (lv_at hl 0 rfl) ?_
          refine wp_next (o := some y) F hK hinW hN (cG_in hLz) hP hS hx9 (by decide +kernel) dX2_insert_31 (fun H locs hP hS => ?_)
          refine lw_aload_nR hx hb dX2_insert_34 rfl (lv_at hl 1 rfl) ?_
          refine lw_ifnonnullR (tgt := 46) hx hb dX2_insert_35 (by decide) (fun yb c_5 => ?_) (fun c_5 => ?_)
          · skip
            rw [c_5] at hl
            have hl9_c_5 : lv_has ls 4 [(3, .ref y), (2, .ref yb), (0, .ref (u 31)), (1, .ref x)] := hl
            obtain ⟨p2, rfl⟩ := List.getLast?_eq_some_iff.mp c_5
            have hl : lv_has ls 4 [(3, .ref y), (2, .ref yb), (0, .ref (u 31)), (1, .ref x)] := hl9_c_5
            refine lv_aload_n hx hb dX2_insert_46 rfl (lv_at hl 1 rfl) ?_
            refine lv_aload_n hx hb dX2_insert_47 rfl (lv_at hl 3 rfl) ?_
            refine wp_next (o := some x) F hK hinW hN (cG_in hLz) hP hS (hsub yb (by rw [hM]; simp)) (by decide +kernel) dX2_insert_48 (fun H locs hP hS => ?_)
            refine lv_aload_n hx hb dX2_insert_51 rfl (lv_at hl 2 rfl) ?_
            refine lv_dup hx hb dX2_insert_52 rfl ?_
            refine kg_get F hK hinK (cPc hP) 1 (by decide) (by decide +kernel) rfl dX2_insert_53 ?_
            refine lv_iconst (v := 1) hx hb dX2_insert_56 (by decide) ?_
            refine lw_add hx hb (i := sz) (j := 1) dX2_insert_57 ?_
            refine kp_size F hK hinK hN (cG_in hLz) hP hS (sz + 1) (by decide +kernel) dX2_insert_58 (fun H locs hP hS => ?_)
            exact cw_retv F hr hlocks hP hS (⟨rfl, rfl, rfl, rfl, by rw [hins, he, hM]; cases p2 <;> rfl, rfl, rfl, rfl, rfl, by rw [hins, List.append_assoc]; exact chn_put (M := (y :: M2)) p2 (by have q := hch; rw [hM, List.append_assoc] at q; exact q) (by have q := hMn; rw [hM, List.append_assoc] at q; exact q) (fun q => hxM (by rw [hM, List.append_assoc]; exact q))⟩) (by omega) (by omega) dX2_insert_61
          · skip
            rw [c_5] at hl
            have hl9_c_5 : lv_has ls 4 [(3, .ref y), (2, .null), (0, .ref (u 31)), (1, .ref x)] := hl
            have hpn : pre = [] := by simpa using c_5
            subst hpn
            have hl : lv_has ls 4 [(3, .ref y), (2, .null), (0, .ref (u 31)), (1, .ref x)] := hl9_c_5
            refine lv_aload_n hx hb dX2_insert_38 rfl (lv_at hl 2 rfl) ?_
            refine lv_aload_n hx hb dX2_insert_39 rfl (lv_at hl 3 rfl) ?_
            refine kp_first F hK hinK hN (cG_in hLz) hP hS x (by decide +kernel) dX2_insert_40 (fun H locs hP hS => ?_)
            refine lv_goto (tgt := 51) hx hb dX2_insert_43 (by decide) ?_
            refine lv_aload_n hx hb dX2_insert_51 rfl (lv_at hl 2 rfl) ?_
            refine lv_dup hx hb dX2_insert_52 rfl ?_
            refine kg_get F hK hinK (cPc hP) 1 (by decide) (by decide +kernel) rfl dX2_insert_53 ?_
            refine lv_iconst (v := 1) hx hb dX2_insert_56 (by decide) ?_
            refine lw_add hx hb (i := sz) (j := 1) dX2_insert_57 ?_
            refine kp_size F hK hinK hN (cG_in hLz) hP hS (sz + 1) (by decide +kernel) dX2_insert_58 (fun H locs hP hS => ?_)
            exact cw_retv F hr hlocks hP hS (⟨rfl, rfl, rfl, rfl, by rw [hins]; rfl, rfl, rfl, rfl, rfl, by rw [hins]; exact chn_ins0 (M := (y :: M2)) (by have q := hch; rw [hM] at q; exact q) (fun q => hxM (by rw [hM]; exact q))⟩) (by omega) (by omega) dX2_insert_61
        · skip
          refine lv_aload_n hx hb dX2_insert_19 rfl (lv_at hl 0 rfl) ?_
          refine lw_V (v' := va_rf (pre ++ [y]).getLast?) (by simp [va_rf]) ?_
          refine lw_astore_nR (lv' := [(2, va_rf ((pre ++ [y]).getLast?)), (3, .ref y), (0, .ref (u 31)), (1, .ref x)]) hx hb dX2_insert_20 rfl hl (by decide) rfl (fun ls hl => ?_)
          refine lv_aload_n hx hb dX2_insert_21 rfl (lv_at hl 1 rfl) ?_
          refine wg_get F hK hinW (cPw hP) (hsub y (by rw [hM]; simp)) 9 (by decide) (by decide +kernel) rfl dX2_insert_22 ?_
          refine lw_V (v' := va_rf M2.head?) (by rw [show nx y = M2.head? from chn_at (pre := pre) (by have q := hch; rw [hM] at q; exact q)]) ?_
          refine lw_astore_nR (lv' := [(3, va_rf (M2.head?)), (2, va_rf ((pre ++ [y]).getLast?)), (0, .ref (u 31)), (1, .ref x)]) hx hb dX2_insert_25 rfl hl (by decide) (by rw [show ((3 : Fin 4) : Nat) = 3 from rfl]; simp [va_rf_cat]) (fun ls hl => ?_)
          refine lv_goto (tgt := 7) hx hb dX2_insert_26 (by decide) ?_
          exact ihu_1  (pre ++ [y]) M2 _ _ ls (by have z := hk; simp at z; omega) (by rw [hM, List.append_assoc]; rfl) (fun z hz => (List.mem_append.mp hz).elim (hlt z) (fun q => by rw [List.mem_singleton] at q; rw [q]; assumption)) hP hS (lv_sub hl [0, 1, 2, 3] rfl)
  exact L7_u_1 _ ([]) M0 _ _ ls (Nat.lt_succ_self _) (rfl) (fun y hy => absurd hy List.not_mem_nil) hP hS (lv_sub hl [0, 1, 2, 3] rfl)
