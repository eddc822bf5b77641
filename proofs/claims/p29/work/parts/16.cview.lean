/-! the view as it is read: V its rows, pq planCount, sp spoiltCakes; x a word's numbers -/
def htV (V : Nat → Nat → Int32) (x : Nat → Int32) : Nat → Nat → Int32 := upA (upA V 0 (jn (x 3)) (-1)) 1 (jn (x 3)) (V 1 (jn (x 3)) &&& (((1 : Int32) <<< (x 2 &&& 31)) ^^^ (-1)))
def htS (V : Nat → Nat → Int32) (sp : Int32) (x : Nat → Int32) : Int32 := if x 4 = -1 then sp else if V 0 (jn (x 3)) = -1 then sp ||| ((1 : Int32) <<< (x 4 &&& 31)) else sp
abbrev VS : Type := (Nat → Nat → Int32) × Int32 × Int32
def hrS (z : VS) (x : Nat → Int32) : VS :=
  if x 0 = 0 then (upA (upA z.1 0 (jn (x 3)) (x 2)) 1 (jn (x 3)) (z.1 1 (jn (x 3)) ||| ((1 : Int32) <<< (x 2 &&& 31))), z.2.1, z.2.2)
  else if x 0 = 1 then (htV z.1 x, z.2.1, htS z.1 z.2.2 x)
  else if x 0 = 2 then (upA (upA (upA z.1 3 (jn (x 3)) (x 5)) 4 (jn (x 3)) (x 6)) 5 (jn (x 3)) (x 7), z.2.1, z.2.2)
  else if x 0 = 3 then (upA (upA z.1 6 (jn (x 4)) 1) 7 (jn (x 4)) z.2.1, z.2.1 + 1, z.2.2)
  else if x 0 = 5 then (if z.1 6 (jn (x 4)) = 1 then upA z.1 6 (jn (x 4)) 2 else z.1, z.2.1, z.2.2)
  else if x 0 = 6 then (upA z.1 6 (jn (x 4)) 3, z.2.1, z.2.2) else z
def hkV (V : Nat → Nat → Int32) (dy : Nat → Int32) (t k : Nat) : Nat → Nat → Int32 :=
  if V 0 t = -1 then V else if V 6 k = 1 then (if V 2 t = -1 then upA V 2 t (nI k) else if vAhead V dy k (jn (V 2 t)) then upA V 2 t (nI k) else V) else V
def okW (x : Nat → Int32) : Prop := (x 0 = 0 ∨ x 0 = 1 ∨ x 0 = 2 ∨ x 0 = 3 ∨ x 0 = 4 ∨ x 0 = 5 ∨ x 0 = 6) ∧ ((x 0 = 0 ∨ x 0 = 1 ∨ x 0 = 4) → ∃ j, j < 40 ∧ x 3 = nI j) ∧ (x 0 = 2 → ∃ j, j < 8 ∧ x 3 = nI j) ∧ ((x 0 = 3 ∨ x 0 = 4 ∨ x 0 = 5 ∨ x 0 = 6) → ∃ j, j < 20 ∧ x 4 = nI j)
def rd1 (w : Nat → Nat → Int32) (fr : Int32) : List Nat → VS → VS
  | [], z => z
  | x :: M, z => rd1 w fr M (if w x 8 &&& fr = 0 then z else hrS z (w x))
def rd2 (w : Nat → Nat → Int32) (fr : Int32) (dy : Nat → Int32) : List Nat → (Nat → Nat → Int32) → (Nat → Nat → Int32)
  | [], V => V
  | x :: M, V => rd2 w fr dy M (if w x 0 = 4 then (if w x 8 &&& fr = 0 then V else hkV V dy (jn (w x 3)) (jn (w x 4))) else V)
/-- the view's rows as they are forgotten -/
def fgV : Nat → Nat → Int32 := fun k _ => if k = 0 ∨ k = 2 ∨ k = 4 then -1 else 0
def rdV (w : Nat → Nat → Int32) (fr : Int32) (dy : Nat → Int32) (L : List Nat) : VS := (rd2 w fr dy L (rd1 w fr L (fgV, 0, 0)).1, (rd1 w fr L (fgV, 0, 0)).2)
def kR2 (V : Nat → Nat → Int32) : Prop := ∀ t, V 2 t = -1 ∨ ∃ o, o < 20 ∧ V 2 t = nI o
theorem hrS_2 (z : VS) (x : Nat → Int32) : (hrS z x).1 2 = z.1 2 := by
  unfold hrS
  repeat' split
  all_goals rfl
theorem rd1_2 (w : Nat → Nat → Int32) (fr : Int32) : ∀ (L : List Nat) (z : VS), (rd1 w fr L z).1 2 = z.1 2
  | [], z => rfl
  | x :: M, z => by
    show (rd1 w fr M _).1 2 = _
    rw [rd1_2 w fr M]
    split
    · rfl
    · exact hrS_2 z (w x)
theorem kR2_hk {V : Nat → Nat → Int32} (h : kR2 V) (dy : Nat → Int32) (t k : Nat) (hk : k < 20) : kR2 (hkV V dy t k) := by
  have g : kR2 (upA V 2 t (nI k)) := by
    intro i
    by_cases e : i = t
    · subst e; exact Or.inr ⟨k, hk, upA_s V 2 i _⟩
    · have q : upA V 2 t (nI k) 2 i = V 2 i := by simp [upA, pk_un e]
      rw [q]; exact h i
  unfold hkV
  repeat' split
  all_goals first | exact h | exact g
abbrev SW : Type := Nat × (Nat → Nat → Int32)
def shF (fr : Int32) : List Nat → SW → SW
  | [], z => z
  | x :: M, z => shF fr M (if z.2 x 8 &&& fr = 0 then z else if z.2 x 8 &&& fr = fr then z else (z.1 + 1, upW z.2 x 8 (z.2 x 8 ||| fr)))
set_option maxHeartbeats 4000000 in
set_option maxRecDepth 100000 in
theorem cc_X0_hearTake {l : Launch} {D : va_G} {cI cII : ClassId} {u : Nat → Nat} {V : Nat → Nat → Int32} {pq sp : Int32} {cn : Nat} {e : Option Nat} {sz : Nat} {b : Nat → Nat → Int32} {L : List Nat} {w : Nat → Nat → Int32} {nx : Nat → Option Nat} {z0 : Nat} (hN : (cAd u ++ L).Nodup) (x : Nat) (hx9 : x ∈ L) (hj9 : ∃ j, j < 40 ∧ w x 3 = nI j) : cw_Met l yX0_hearTake wsX0_hearTake 0 0 0 0 D u cI cII z0 L (cW u cI cII V pq sp cn e sz b L w nx) [.ref (u 32), .ref x] kV (cEq 0 (htV V (w x)) pq (htS V sp (w x)) cn e sz b L w nx) := by
  suffices h9 : ∀ L0, L0 = L → cw_Met l yX0_hearTake wsX0_hearTake 0 0 0 0 D u cI cII z0 L0 (cW u cI cII V pq sp cn e sz b L w nx) [.ref (u 32), .ref x] kV (cEq 0 (htV V (w x)) pq (htS V sp (w x)) cn e sz b L w nx) by exact h9 _ rfl
  intro L0 hL0
  have hLz : ∀ a, a ∈ L → a ∈ L0 ∨ z0 ≤ a := fun a z => Or.inl (by rw [hL0]; exact z)
  refine cw_start rfl (by decide +kernel) (Nat.le_of_ble_eq_true rfl) (fun p e9 s m below meth c F hr hlocks hK hz H locs hP hS hz9 ls hl => ?_)
  have hl : lv_has ls 2 [(0, .ref (u 32)), (1, .ref x)] := hl
  have hx := F.1
  have hb := F.2.1
  have hinV : ∀ w ∈ wsX00, w ∈ wsX0_hearTake := by decide +kernel
  have hinW : ∀ w ∈ wsX10, w ∈ wsX0_hearTake := by decide +kernel
  obtain ⟨j3, hj3, ej3⟩ := hj9
  have nj3 : jn (w x 3) = j3 := by rw [ej3]; exact jn_nI (by omega)
  refine lv_aload_n hx hb dX0_hearTake_0 rfl (lv_at hl 1 rfl) ?_
  refine wg_get F hK hinW (cPw hP) hx9 4 (by decide) (by decide +kernel) rfl dX0_hearTake_1 ?_
  refine lv_iconst (v := (-1)) hx hb dX0_hearTake_4 (by decide) ?_
  refine lv_icmp_eq (tgt := 36) hx hb dX0_hearTake_5 (by decide) (fun c_1 => ?_) (fun c_1 => ?_)
  · skip
    refine lv_aload_n hx hb dX0_hearTake_36 rfl (lv_at hl 0 rfl) ?_
    refine vg_get F hK hinV (cPv hP) 0 (by decide) (by decide +kernel) rfl dX0_hearTake_37 ?_
    refine lv_aload_n hx hb dX0_hearTake_40 rfl (lv_at hl 1 rfl) ?_
    refine wg_get F hK hinW (cPw hP) hx9 3 (by decide) (by decide +kernel) rfl dX0_hearTake_41 ?_
    refine lv_iconst (v := (-1)) hx hb dX0_hearTake_44 (by decide) ?_
    refine vv_ast F hK hN (cG_in hLz) hP hS 0 1 40 rfl j3 ej3 (by omega) (by decide) rfl dX0_hearTake_45 (fun H locs hP hS => ?_)
    refine lv_aload_n hx hb dX0_hearTake_46 rfl (lv_at hl 0 rfl) ?_
    refine vg_get F hK hinV (cPv hP) 1 (by decide) (by decide +kernel) rfl dX0_hearTake_47 ?_
    refine lv_aload_n hx hb dX0_hearTake_50 rfl (lv_at hl 1 rfl) ?_
    refine wg_get F hK hinW (cPw hP) hx9 3 (by decide) (by decide +kernel) rfl dX0_hearTake_51 ?_
    refine lv_dup2_11 hx hb dX0_hearTake_54 rfl rfl ?_
    refine cg_ald F hK (cPv hP) 2 40 rfl j3 ej3 (by omega) (by decide) dX0_hearTake_55 ?_
    refine lw_E (V 1 j3) rfl ?_
    refine lv_iconst (v := 1) hx hb dX0_hearTake_56 (by decide) ?_
    refine lv_aload_n hx hb dX0_hearTake_57 rfl (lv_at hl 1 rfl) ?_
    refine wg_get F hK hinW (cPw hP) hx9 2 (by decide) (by decide +kernel) rfl dX0_hearTake_58 ?_
    refine lv_ishl hx hb dX0_hearTake_61 ?_
    refine lv_iconst (v := (-1)) hx hb dX0_hearTake_62 (by decide) ?_
    refine lv_ixor hx hb dX0_hearTake_63 ?_
    refine lv_iand hx hb dX0_hearTake_64 ?_
    refine vv_ast F hK hN (cG_in hLz) hP hS 1 2 40 rfl j3 ej3 (by omega) (by decide) rfl dX0_hearTake_65 (fun H locs hP hS => ?_)
    exact cw_retv F hr hlocks hP hS (⟨rfl, by simp [htV, nj3, c_1], rfl, by simp [htS, nj3, c_1], rfl, rfl, rfl, rfl, rfl, rfl, rfl⟩) (by omega) (by omega) dX0_hearTake_66
  · skip
    refine lv_aload_n hx hb dX0_hearTake_8 rfl (lv_at hl 0 rfl) ?_
    refine vg_get F hK hinV (cPv hP) 0 (by decide) (by decide +kernel) rfl dX0_hearTake_9 ?_
    refine lv_aload_n hx hb dX0_hearTake_12 rfl (lv_at hl 1 rfl) ?_
    refine wg_get F hK hinW (cPw hP) hx9 3 (by decide) (by decide +kernel) rfl dX0_hearTake_13 ?_
    refine cg_ald F hK (cPv hP) 1 40 rfl j3 ej3 (by omega) (by decide) dX0_hearTake_16 ?_
    refine lv_iconst (v := (-1)) hx hb dX0_hearTake_17 (by decide) ?_
    refine lv_icmp_ne (tgt := 36) hx hb dX0_hearTake_18 (by decide) (fun c_2 => ?_) (fun c_2 => ?_)
    · skip
      refine lv_aload_n hx hb dX0_hearTake_36 rfl (lv_at hl 0 rfl) ?_
      refine vg_get F hK hinV (cPv hP) 0 (by decide) (by decide +kernel) rfl dX0_hearTake_37 ?_
      refine lv_aload_n hx hb dX0_hearTake_40 rfl (lv_at hl 1 rfl) ?_
      refine wg_get F hK hinW (cPw hP) hx9 3 (by decide) (by decide +kernel) rfl dX0_hearTake_41 ?_
      refine lv_iconst (v := (-1)) hx hb dX0_hearTake_44 (by decide) ?_
      refine vv_ast F hK hN (cG_in hLz) hP hS 0 1 40 rfl j3 ej3 (by omega) (by decide) rfl dX0_hearTake_45 (fun H locs hP hS => ?_)
      refine lv_aload_n hx hb dX0_hearTake_46 rfl (lv_at hl 0 rfl) ?_
      refine vg_get F hK hinV (cPv hP) 1 (by decide) (by decide +kernel) rfl dX0_hearTake_47 ?_
      refine lv_aload_n hx hb dX0_hearTake_50 rfl (lv_at hl 1 rfl) ?_
      refine wg_get F hK hinW (cPw hP) hx9 3 (by decide) (by decide +kernel) rfl dX0_hearTake_51 ?_
      refine lv_dup2_11 hx hb dX0_hearTake_54 rfl rfl ?_
      refine cg_ald F hK (cPv hP) 2 40 rfl j3 ej3 (by omega) (by decide) dX0_hearTake_55 ?_
      refine lw_E (V 1 j3) rfl ?_
      refine lv_iconst (v := 1) hx hb dX0_hearTake_56 (by decide) ?_
      refine lv_aload_n hx hb dX0_hearTake_57 rfl (lv_at hl 1 rfl) ?_
      refine wg_get F hK hinW (cPw hP) hx9 2 (by decide) (by decide +kernel) rfl dX0_hearTake_58 ?_
      refine lv_ishl hx hb dX0_hearTake_61 ?_
      refine lv_iconst (v := (-1)) hx hb dX0_hearTake_62 (by decide) ?_
      refine lv_ixor hx hb dX0_hearTake_63 ?_
      refine lv_iand hx hb dX0_hearTake_64 ?_
      refine vv_ast F hK hN (cG_in hLz) hP hS 1 2 40 rfl j3 ej3 (by omega) (by decide) rfl dX0_hearTake_65 (fun H locs hP hS => ?_)
      exact cw_retv F hr hlocks hP hS (⟨rfl, by simp [htV, nj3, c_1, c_2], rfl, by simp [htS, nj3, c_1, c_2], rfl, rfl, rfl, rfl, rfl, rfl, rfl⟩) (by omega) (by omega) dX0_hearTake_66
    · skip
      refine lv_aload_n hx hb dX0_hearTake_21 rfl (lv_at hl 0 rfl) ?_
      refine lv_dup hx hb dX0_hearTake_22 rfl ?_
      refine vg_get F hK hinV (cPv hP) 9 (by decide) (by decide +kernel) rfl dX0_hearTake_23 ?_
      refine lv_iconst (v := 1) hx hb dX0_hearTake_26 (by decide) ?_
      refine lv_aload_n hx hb dX0_hearTake_27 rfl (lv_at hl 1 rfl) ?_
      refine wg_get F hK hinW (cPw hP) hx9 4 (by decide) (by decide +kernel) rfl dX0_hearTake_28 ?_
      refine lv_ishl hx hb dX0_hearTake_31 ?_
      refine lv_ior hx hb dX0_hearTake_32 ?_
      refine vv_put F hK hinV hN (cG_in hLz) hP hS 9 pq (sp ||| (1 <<< (w x 4 &&& 31))) rfl (by decide) (by decide +kernel) rfl rfl dX0_hearTake_33 (fun H locs hP hS => ?_)
      refine lv_aload_n hx hb dX0_hearTake_36 rfl (lv_at hl 0 rfl) ?_
      refine vg_get F hK hinV (cPv hP) 0 (by decide) (by decide +kernel) rfl dX0_hearTake_37 ?_
      refine lv_aload_n hx hb dX0_hearTake_40 rfl (lv_at hl 1 rfl) ?_
      refine wg_get F hK hinW (cPw hP) hx9 3 (by decide) (by decide +kernel) rfl dX0_hearTake_41 ?_
      refine lv_iconst (v := (-1)) hx hb dX0_hearTake_44 (by decide) ?_
      refine vv_ast F hK hN (cG_in hLz) hP hS 0 1 40 rfl j3 ej3 (by omega) (by decide) rfl dX0_hearTake_45 (fun H locs hP hS => ?_)
      refine lv_aload_n hx hb dX0_hearTake_46 rfl (lv_at hl 0 rfl) ?_
      refine vg_get F hK hinV (cPv hP) 1 (by decide) (by decide +kernel) rfl dX0_hearTake_47 ?_
      refine lv_aload_n hx hb dX0_hearTake_50 rfl (lv_at hl 1 rfl) ?_
      refine wg_get F hK hinW (cPw hP) hx9 3 (by decide) (by decide +kernel) rfl dX0_hearTake_51 ?_
      refine lv_dup2_11 hx hb dX0_hearTake_54 rfl rfl ?_
      refine cg_ald F hK (cPv hP) 2 40 rfl j3 ej3 (by omega) (by decide) dX0_hearTake_55 ?_
      refine lw_E (V 1 j3) rfl ?_
      refine lv_iconst (v := 1) hx hb dX0_hearTake_56 (by decide) ?_
      refine lv_aload_n hx hb dX0_hearTake_57 rfl (lv_at hl 1 rfl) ?_
      refine wg_get F hK hinW (cPw hP) hx9 2 (by decide) (by decide +kernel) rfl dX0_hearTake_58 ?_
      refine lv_ishl hx hb dX0_hearTake_61 ?_
      refine lv_iconst (v := (-1)) hx hb dX0_hearTake_62 (by decide) ?_
      refine lv_ixor hx hb dX0_hearTake_63 ?_
      refine lv_iand hx hb dX0_hearTake_64 ?_
      refine vv_ast F hK hN (cG_in hLz) hP hS 1 2 40 rfl j3 ej3 (by omega) (by decide) rfl dX0_hearTake_65 (fun H locs hP hS => ?_)
      exact cw_retv F hr hlocks hP hS (⟨rfl, by simp [htV, nj3, c_1, c_2], rfl, by simp [htS, nj3, c_1, c_2], rfl, rfl, rfl, rfl, rfl, rfl, rfl⟩) (by omega) (by omega) dX0_hearTake_66
set_option maxHeartbeats 4000000 in
set_option maxRecDepth 100000 in
theorem cc_X0_hear {l : Launch} {D : va_G} {cI cII : ClassId} {u : Nat → Nat} {V : Nat → Nat → Int32} {pq sp : Int32} {cn : Nat} {e : Option Nat} {sz : Nat} {b : Nat → Nat → Int32} {L : List Nat} {w : Nat → Nat → Int32} {nx : Nat → Option Nat} {z0 : Nat} (hN : (cAd u ++ L).Nodup) (x : Nat) (hx9 : x ∈ L) (hok : okW (w x)) : cw_Met l yX0_hear wsX0_hear 1 0 0 21 D u cI cII z0 L (cW u cI cII V pq sp cn e sz b L w nx) [.ref (u 32), .ref x] kV (cEq 0 (hrS (V, pq, sp) (w x)).1 (hrS (V, pq, sp) (w x)).2.1 (hrS (V, pq, sp) (w x)).2.2 cn e sz b L w nx) := by
  suffices h9 : ∀ L0, L0 = L → cw_Met l yX0_hear wsX0_hear 1 0 0 21 D u cI cII z0 L0 (cW u cI cII V pq sp cn e sz b L w nx) [.ref (u 32), .ref x] kV (cEq 0 (hrS (V, pq, sp) (w x)).1 (hrS (V, pq, sp) (w x)).2.1 (hrS (V, pq, sp) (w x)).2.2 cn e sz b L w nx) by exact h9 _ rfl
  intro L0 hL0
  have hLz : ∀ a, a ∈ L → a ∈ L0 ∨ z0 ≤ a := fun a z => Or.inl (by rw [hL0]; exact z)
  refine cw_start rfl (by decide +kernel) (Nat.le_of_ble_eq_true rfl) (fun p e9 s m below meth c F hr hlocks hK hz H locs hP hS hz9 ls hl => ?_)
  have hl : lv_has ls 2 [(0, .ref (u 32)), (1, .ref x)] := hl
  have hx := F.1
  have hb := F.2.1
  have hinV : ∀ w ∈ wsX00, w ∈ wsX0_hear := by decide +kernel
  have hinW : ∀ w ∈ wsX10, w ∈ wsX0_hear := by decide +kernel
  refine lv_aload_n hx hb dX0_hear_0 rfl (lv_at hl 1 rfl) ?_
  refine wg_get F hK hinW (cPw hP) hx9 0 (by decide) (by decide +kernel) rfl dX0_hear_1 ?_
  rcases hok.1 with k0 | k0 | k0 | k0 | k0 | k0 | k0
  · skip
    refine lw_E 0 k0 ?_
    refine lv_tableIn (tgt := 48) hx hb dX0_hear_4 (by decide) (by decide) rfl (by decide) ?_
    obtain ⟨j3, hj3, ej3⟩ := hok.2.1 (by simp [k0])
    have nj3 : jn (w x 3) = j3 := by rw [ej3]; exact jn_nI (by omega)
    refine lv_aload_n hx hb dX0_hear_48 rfl (lv_at hl 0 rfl) ?_
    refine vg_get F hK hinV (cPv hP) 0 (by decide) (by decide +kernel) rfl dX0_hear_49 ?_
    refine lv_aload_n hx hb dX0_hear_52 rfl (lv_at hl 1 rfl) ?_
    refine wg_get F hK hinW (cPw hP) hx9 3 (by decide) (by decide +kernel) rfl dX0_hear_53 ?_
    refine lv_aload_n hx hb dX0_hear_56 rfl (lv_at hl 1 rfl) ?_
    refine wg_get F hK hinW (cPw hP) hx9 2 (by decide) (by decide +kernel) rfl dX0_hear_57 ?_
    refine vv_ast F hK hN (cG_in hLz) hP hS 0 1 40 rfl j3 ej3 (by omega) (by decide) rfl dX0_hear_60 (fun H locs hP hS => ?_)
    refine lv_aload_n hx hb dX0_hear_61 rfl (lv_at hl 0 rfl) ?_
    refine vg_get F hK hinV (cPv hP) 1 (by decide) (by decide +kernel) rfl dX0_hear_62 ?_
    refine lv_aload_n hx hb dX0_hear_65 rfl (lv_at hl 1 rfl) ?_
    refine wg_get F hK hinW (cPw hP) hx9 3 (by decide) (by decide +kernel) rfl dX0_hear_66 ?_
    refine lv_dup2_11 hx hb dX0_hear_69 rfl rfl ?_
    refine cg_ald F hK (cPv hP) 2 40 rfl j3 ej3 (by omega) (by decide) dX0_hear_70 ?_
    refine lw_E (V 1 j3) rfl ?_
    refine lv_iconst (v := 1) hx hb dX0_hear_71 (by decide) ?_
    refine lv_aload_n hx hb dX0_hear_72 rfl (lv_at hl 1 rfl) ?_
    refine wg_get F hK hinW (cPw hP) hx9 2 (by decide) (by decide +kernel) rfl dX0_hear_73 ?_
    refine lv_ishl hx hb dX0_hear_76 ?_
    refine lv_ior hx hb dX0_hear_77 ?_
    refine vv_ast F hK hN (cG_in hLz) hP hS 1 2 40 rfl j3 ej3 (by omega) (by decide) rfl dX0_hear_78 (fun H locs hP hS => ?_)
    refine lv_goto (tgt := 207) hx hb dX0_hear_79 (by decide) ?_
    exact cw_retv F hr hlocks hP hS (⟨rfl, by simp [hrS, k0, nj3], by simp [hrS, k0, nj3], by simp [hrS, k0, nj3], rfl, rfl, rfl, rfl, rfl, rfl, rfl⟩) (by omega) (by omega) dX0_hear_207
  · skip
    refine lw_E 1 k0 ?_
    refine lv_tableIn (tgt := 82) hx hb dX0_hear_4 (by decide) (by decide) rfl (by decide) ?_
    refine lv_aload_n hx hb dX0_hear_82 rfl (lv_at hl 0 rfl) ?_
    refine lv_aload_n hx hb dX0_hear_83 rfl (lv_at hl 1 rfl) ?_
    refine cw_callV F hK [.ref x] (cc_X0_hearTake hN x (by first | assumption | omega) (hok.2.1 (by simp [k0]))) (cwV 1 F.2.2.2.2 gX0_hear_X0_hearTake rfl rfl rfl (by decide +kernel) ⟨Nat.le_of_ble_eq_true rfl, Nat.le_of_ble_eq_true rfl⟩) (vg_rc hK (cPv hP)) hP hS (cG_sub hLz (Nat.le_trans (Nat.le_of_eq hz.symm) hS.1)) rfl hl.1 rfl (lv_room (Nat.le_of_ble_eq_true rfl)) ⟨Nat.zero_le _, Nat.zero_le _⟩ dX0_hear_84 (fun r_w_1 ra_w_1 V_w_1 pc_w_1 sp_w_1 cc_w_1 e_w_1 sz_w_1 b_w_1 L_w_1 w_w_1 nx_w_1 H locs hp_w_1 hP hsz_w_1 hfr_w_1 hS => ?_)
    obtain ⟨e1_w_1, e2_w_1, e3_w_1, e4_w_1, e5_w_1, e6_w_1, e7_w_1, e8_w_1, e9_w_1, e10_w_1, e11_w_1⟩ := hp_w_1
    rw [e2_w_1, e3_w_1, e4_w_1, e5_w_1, e6_w_1, e7_w_1, e8_w_1, e9_w_1, e10_w_1, e11_w_1] at hP
    refine lv_goto (tgt := 207) hx hb dX0_hear_87 (by decide) ?_
    exact cw_retv F hr hlocks hP hS (⟨rfl, by simp [hrS, k0], by simp [hrS, k0], by simp [hrS, k0], rfl, rfl, rfl, rfl, rfl, rfl, rfl⟩) (by omega) (by omega) dX0_hear_207
  · skip
    refine lw_E 2 k0 ?_
    refine lv_tableIn (tgt := 90) hx hb dX0_hear_4 (by decide) (by decide) rfl (by decide) ?_
    obtain ⟨j3, hj3, ej3⟩ := hok.2.2.1 k0
    have nj3 : jn (w x 3) = j3 := by rw [ej3]; exact jn_nI (by omega)
    refine lv_aload_n hx hb dX0_hear_90 rfl (lv_at hl 0 rfl) ?_
    refine vg_get F hK hinV (cPv hP) 3 (by decide) (by decide +kernel) rfl dX0_hear_91 ?_
    refine lv_aload_n hx hb dX0_hear_94 rfl (lv_at hl 1 rfl) ?_
    refine wg_get F hK hinW (cPw hP) hx9 3 (by decide) (by decide +kernel) rfl dX0_hear_95 ?_
    refine lv_aload_n hx hb dX0_hear_98 rfl (lv_at hl 1 rfl) ?_
    refine wg_get F hK hinW (cPw hP) hx9 5 (by decide) (by decide +kernel) rfl dX0_hear_99 ?_
    refine vv_ast F hK hN (cG_in hLz) hP hS 3 4 8 rfl j3 ej3 (by omega) (by decide) rfl dX0_hear_102 (fun H locs hP hS => ?_)
    refine lv_aload_n hx hb dX0_hear_103 rfl (lv_at hl 0 rfl) ?_
    refine vg_get F hK hinV (cPv hP) 4 (by decide) (by decide +kernel) rfl dX0_hear_104 ?_
    refine lv_aload_n hx hb dX0_hear_107 rfl (lv_at hl 1 rfl) ?_
    refine wg_get F hK hinW (cPw hP) hx9 3 (by decide) (by decide +kernel) rfl dX0_hear_108 ?_
    refine lv_aload_n hx hb dX0_hear_111 rfl (lv_at hl 1 rfl) ?_
    refine wg_get F hK hinW (cPw hP) hx9 6 (by decide) (by decide +kernel) rfl dX0_hear_112 ?_
    refine vv_ast F hK hN (cG_in hLz) hP hS 4 5 8 rfl j3 ej3 (by omega) (by decide) rfl dX0_hear_115 (fun H locs hP hS => ?_)
    refine lv_aload_n hx hb dX0_hear_116 rfl (lv_at hl 0 rfl) ?_
    refine vg_get F hK hinV (cPv hP) 5 (by decide) (by decide +kernel) rfl dX0_hear_117 ?_
    refine lv_aload_n hx hb dX0_hear_120 rfl (lv_at hl 1 rfl) ?_
    refine wg_get F hK hinW (cPw hP) hx9 3 (by decide) (by decide +kernel) rfl dX0_hear_121 ?_
    refine lv_aload_n hx hb dX0_hear_124 rfl (lv_at hl 1 rfl) ?_
    refine wg_get F hK hinW (cPw hP) hx9 7 (by decide) (by decide +kernel) rfl dX0_hear_125 ?_
    refine vv_ast F hK hN (cG_in hLz) hP hS 5 6 8 rfl j3 ej3 (by omega) (by decide) rfl dX0_hear_128 (fun H locs hP hS => ?_)
    refine lv_goto (tgt := 207) hx hb dX0_hear_129 (by decide) ?_
    exact cw_retv F hr hlocks hP hS (⟨rfl, by simp [hrS, k0, nj3], by simp [hrS, k0, nj3], by simp [hrS, k0, nj3], rfl, rfl, rfl, rfl, rfl, rfl, rfl⟩) (by omega) (by omega) dX0_hear_207
  · skip
    refine lw_E 3 k0 ?_
    refine lv_tableIn (tgt := 132) hx hb dX0_hear_4 (by decide) (by decide) rfl (by decide) ?_
    obtain ⟨j4, hj4, ej4⟩ := hok.2.2.2 (by simp [k0])
    have nj4 : jn (w x 4) = j4 := by rw [ej4]; exact jn_nI (by omega)
    refine lv_aload_n hx hb dX0_hear_132 rfl (lv_at hl 0 rfl) ?_
    refine vg_get F hK hinV (cPv hP) 6 (by decide) (by decide +kernel) rfl dX0_hear_133 ?_
    refine lv_aload_n hx hb dX0_hear_136 rfl (lv_at hl 1 rfl) ?_
    refine wg_get F hK hinW (cPw hP) hx9 4 (by decide) (by decide +kernel) rfl dX0_hear_137 ?_
    refine lv_iconst (v := 1) hx hb dX0_hear_140 (by decide) ?_
    refine vv_ast F hK hN (cG_in hLz) hP hS 6 7 20 rfl j4 ej4 (by omega) (by decide) rfl dX0_hear_141 (fun H locs hP hS => ?_)
    refine lv_aload_n hx hb dX0_hear_142 rfl (lv_at hl 0 rfl) ?_
    refine vg_get F hK hinV (cPv hP) 7 (by decide) (by decide +kernel) rfl dX0_hear_143 ?_
    refine lv_aload_n hx hb dX0_hear_146 rfl (lv_at hl 1 rfl) ?_
    refine wg_get F hK hinW (cPw hP) hx9 4 (by decide) (by decide +kernel) rfl dX0_hear_147 ?_
    refine lv_aload_n hx hb dX0_hear_150 rfl (lv_at hl 0 rfl) ?_
    refine vg_get F hK hinV (cPv hP) 8 (by decide) (by decide +kernel) rfl dX0_hear_151 ?_
    refine vv_ast F hK hN (cG_in hLz) hP hS 7 8 20 rfl j4 ej4 (by omega) (by decide) rfl dX0_hear_154 (fun H locs hP hS => ?_)
    refine lv_aload_n hx hb dX0_hear_155 rfl (lv_at hl 0 rfl) ?_
    refine lv_dup hx hb dX0_hear_156 rfl ?_
    refine vg_get F hK hinV (cPv hP) 8 (by decide) (by decide +kernel) rfl dX0_hear_157 ?_
    refine lv_iconst (v := 1) hx hb dX0_hear_160 (by decide) ?_
    refine lv_iadd hx hb dX0_hear_161 ?_
    refine vv_put F hK hinV hN (cG_in hLz) hP hS 8 (pq + 1) sp rfl (by decide) (by decide +kernel) rfl rfl dX0_hear_162 (fun H locs hP hS => ?_)
    refine lv_goto (tgt := 207) hx hb dX0_hear_165 (by decide) ?_
    exact cw_retv F hr hlocks hP hS (⟨rfl, by simp [hrS, k0, nj4], by simp [hrS, k0, nj4], by simp [hrS, k0, nj4], rfl, rfl, rfl, rfl, rfl, rfl, rfl⟩) (by omega) (by omega) dX0_hear_207
  · skip
    refine lw_E 4 k0 ?_
    refine lv_tableIn (tgt := 207) hx hb dX0_hear_4 (by decide) (by decide) rfl (by decide) ?_
    exact cw_retv F hr hlocks hP hS (⟨rfl, by simp [hrS, k0], by simp [hrS, k0], by simp [hrS, k0], rfl, rfl, rfl, rfl, rfl, rfl, rfl⟩) (by omega) (by omega) dX0_hear_207
  · skip
    refine lw_E 5 k0 ?_
    refine lv_tableIn (tgt := 168) hx hb dX0_hear_4 (by decide) (by decide) rfl (by decide) ?_
    obtain ⟨j4, hj4, ej4⟩ := hok.2.2.2 (by simp [k0])
    have nj4 : jn (w x 4) = j4 := by rw [ej4]; exact jn_nI (by omega)
    refine lv_aload_n hx hb dX0_hear_168 rfl (lv_at hl 0 rfl) ?_
    refine vg_get F hK hinV (cPv hP) 6 (by decide) (by decide +kernel) rfl dX0_hear_169 ?_
    refine lv_aload_n hx hb dX0_hear_172 rfl (lv_at hl 1 rfl) ?_
    refine wg_get F hK hinW (cPw hP) hx9 4 (by decide) (by decide +kernel) rfl dX0_hear_173 ?_
    refine cg_ald F hK (cPv hP) 7 20 rfl j4 ej4 (by omega) (by decide) dX0_hear_176 ?_
    refine lv_iconst (v := 1) hx hb dX0_hear_177 (by decide) ?_
    refine lv_icmp_ne (tgt := 207) hx hb dX0_hear_178 (by decide) (fun c_2 => ?_) (fun c_2 => ?_)
    · skip
      exact cw_retv F hr hlocks hP hS (⟨rfl, by simp [hrS, k0, nj4, c_2], by simp [hrS, k0, nj4, c_2], by simp [hrS, k0, nj4, c_2], rfl, rfl, rfl, rfl, rfl, rfl, rfl⟩) (by omega) (by omega) dX0_hear_207
    · skip
      refine lv_aload_n hx hb dX0_hear_181 rfl (lv_at hl 0 rfl) ?_
      refine vg_get F hK hinV (cPv hP) 6 (by decide) (by decide +kernel) rfl dX0_hear_182 ?_
      refine lv_aload_n hx hb dX0_hear_185 rfl (lv_at hl 1 rfl) ?_
      refine wg_get F hK hinW (cPw hP) hx9 4 (by decide) (by decide +kernel) rfl dX0_hear_186 ?_
      refine lv_iconst (v := 2) hx hb dX0_hear_189 (by decide) ?_
      refine vv_ast F hK hN (cG_in hLz) hP hS 6 7 20 rfl j4 ej4 (by omega) (by decide) rfl dX0_hear_190 (fun H locs hP hS => ?_)
      refine lv_goto (tgt := 207) hx hb dX0_hear_191 (by decide) ?_
      exact cw_retv F hr hlocks hP hS (⟨rfl, by simp [hrS, k0, nj4, c_2], by simp [hrS, k0, nj4, c_2], by simp [hrS, k0, nj4, c_2], rfl, rfl, rfl, rfl, rfl, rfl, rfl⟩) (by omega) (by omega) dX0_hear_207
  · skip
    refine lw_E 6 k0 ?_
    refine lv_tableIn (tgt := 194) hx hb dX0_hear_4 (by decide) (by decide) rfl (by decide) ?_
    obtain ⟨j4, hj4, ej4⟩ := hok.2.2.2 (by simp [k0])
    have nj4 : jn (w x 4) = j4 := by rw [ej4]; exact jn_nI (by omega)
    refine lv_aload_n hx hb dX0_hear_194 rfl (lv_at hl 0 rfl) ?_
    refine vg_get F hK hinV (cPv hP) 6 (by decide) (by decide +kernel) rfl dX0_hear_195 ?_
    refine lv_aload_n hx hb dX0_hear_198 rfl (lv_at hl 1 rfl) ?_
    refine wg_get F hK hinW (cPw hP) hx9 4 (by decide) (by decide +kernel) rfl dX0_hear_199 ?_
    refine lv_iconst (v := 3) hx hb dX0_hear_202 (by decide) ?_
    refine vv_ast F hK hN (cG_in hLz) hP hS 6 7 20 rfl j4 ej4 (by omega) (by decide) rfl dX0_hear_203 (fun H locs hP hS => ?_)
    refine lv_goto (tgt := 207) hx hb dX0_hear_204 (by decide) ?_
    exact cw_retv F hr hlocks hP hS (⟨rfl, by simp [hrS, k0, nj4], by simp [hrS, k0, nj4], by simp [hrS, k0, nj4], rfl, rfl, rfl, rfl, rfl, rfl, rfl⟩) (by omega) (by omega) dX0_hear_207
set_option maxHeartbeats 4000000 in
set_option maxRecDepth 100000 in
theorem cc_X0_hearKeep {l : Launch} {D : va_G} {cI cII : ClassId} {u : Nat → Nat} {V : Nat → Nat → Int32} {pq sp : Int32} {cn : Nat} {e : Option Nat} {sz : Nat} {b : Nat → Nat → Int32} {L : List Nat} {w : Nat → Nat → Int32} {nx : Nat → Option Nat} {z0 : Nat} (hN : (cAd u ++ L).Nodup) (t : Nat) (k : Nat) (ht : t < 40) (hk : k < 20) (hkp : V 2 t = -1 ∨ ∃ o, o < 20 ∧ V 2 t = nI o) : cw_Met l yX0_hearKeep wsX0_hearKeep 3 0 0 72 D u cI cII z0 L (cW u cI cII V pq sp cn e sz b L w nx) [.ref (u 32), .int (nI t), .int (nI k), .ref (u 12)] kV (cEq 0 (hkV V (b 12) t k) pq sp cn e sz b L w nx) := by
  suffices h9 : ∀ L0, L0 = L → cw_Met l yX0_hearKeep wsX0_hearKeep 3 0 0 72 D u cI cII z0 L0 (cW u cI cII V pq sp cn e sz b L w nx) [.ref (u 32), .int (nI t), .int (nI k), .ref (u 12)] kV (cEq 0 (hkV V (b 12) t k) pq sp cn e sz b L w nx) by exact h9 _ rfl
  intro L0 hL0
  have hLz : ∀ a, a ∈ L → a ∈ L0 ∨ z0 ≤ a := fun a z => Or.inl (by rw [hL0]; exact z)
  refine cw_start rfl (by decide +kernel) (Nat.le_of_ble_eq_true rfl) (fun p e9 s m below meth c F hr hlocks hK hz H locs hP hS hz9 ls hl => ?_)
  have hl : lv_has ls 4 [(0, .ref (u 32)), (1, .int (nI t)), (2, .int (nI k)), (3, .ref (u 12))] := hl
  have hx := F.1
  have hb := F.2.1
  have hinV : ∀ w ∈ wsX00, w ∈ wsX0_hearKeep := by decide +kernel
  refine lv_aload_n hx hb dX0_hearKeep_0 rfl (lv_at hl 0 rfl) ?_
  refine vg_get F hK hinV (cPv hP) 0 (by decide) (by decide +kernel) rfl dX0_hearKeep_1 ?_
  refine lv_iload_n hx hb dX0_hearKeep_4 rfl (lv_at hl 1 rfl) ?_
  refine cg_ald F hK (cPv hP) 1 40 rfl t rfl (by omega) (by decide) dX0_hearKeep_5 ?_
  refine lv_iconst (v := (-1)) hx hb dX0_hearKeep_6 (by decide) ?_
  refine lv_icmp_eq (tgt := 20) hx hb dX0_hearKeep_7 (by decide) (fun c_1 => ?_) (fun c_1 => ?_)
  · skip
    exact cw_retv F hr hlocks hP hS (⟨rfl, by simp [hkV, c_1], rfl, rfl, rfl, rfl, rfl, rfl, rfl, rfl, rfl⟩) (by omega) (by omega) dX0_hearKeep_20
  · skip
    refine lv_aload_n hx hb dX0_hearKeep_10 rfl (lv_at hl 0 rfl) ?_
    refine vg_get F hK hinV (cPv hP) 6 (by decide) (by decide +kernel) rfl dX0_hearKeep_11 ?_
    refine lv_iload_n hx hb dX0_hearKeep_14 rfl (lv_at hl 2 rfl) ?_
    refine cg_ald F hK (cPv hP) 7 20 rfl k rfl (by omega) (by decide) dX0_hearKeep_15 ?_
    refine lv_iconst (v := 1) hx hb dX0_hearKeep_16 (by decide) ?_
    refine lv_icmp_eq (tgt := 21) hx hb dX0_hearKeep_17 (by decide) (fun c_2 => ?_) (fun c_2 => ?_)
    · skip
      refine lv_aload_n hx hb dX0_hearKeep_21 rfl (lv_at hl 0 rfl) ?_
      refine vg_get F hK hinV (cPv hP) 2 (by decide) (by decide +kernel) rfl dX0_hearKeep_22 ?_
      refine lv_iload_n hx hb dX0_hearKeep_25 rfl (lv_at hl 1 rfl) ?_
      refine cg_ald F hK (cPv hP) 3 40 rfl t rfl (by omega) (by decide) dX0_hearKeep_26 ?_
      refine lv_iconst (v := (-1)) hx hb dX0_hearKeep_27 (by decide) ?_
      refine lv_icmp_eq (tgt := 46) hx hb dX0_hearKeep_28 (by decide) (fun c_3 => ?_) (fun c_3 => ?_)
      · skip
        refine lv_aload_n hx hb dX0_hearKeep_46 rfl (lv_at hl 0 rfl) ?_
        refine vg_get F hK hinV (cPv hP) 2 (by decide) (by decide +kernel) rfl dX0_hearKeep_47 ?_
        refine lv_iload_n hx hb dX0_hearKeep_50 rfl (lv_at hl 1 rfl) ?_
        refine lv_iload_n hx hb dX0_hearKeep_51 rfl (lv_at hl 2 rfl) ?_
        refine vv_ast F hK hN (cG_in hLz) hP hS 2 3 40 rfl t rfl (by omega) (by decide) rfl dX0_hearKeep_52 (fun H locs hP hS => ?_)
        exact cw_retv F hr hlocks hP hS (⟨rfl, by simp [hkV, c_1, c_2, c_3], rfl, rfl, rfl, rfl, rfl, rfl, rfl, rfl, rfl⟩) (by omega) (by omega) dX0_hearKeep_53
      · skip
        obtain ⟨jo, hjo, ejo⟩ := hkp.resolve_left c_3
        have njo : jn (V 2 t) = jo := by rw [ejo]; exact jn_nI (by omega)
        refine lv_aload_n hx hb dX0_hearKeep_31 rfl (lv_at hl 0 rfl) ?_
        refine lv_iload_n hx hb dX0_hearKeep_32 rfl (lv_at hl 2 rfl) ?_
        refine lv_aload_n hx hb dX0_hearKeep_33 rfl (lv_at hl 0 rfl) ?_
        refine vg_get F hK hinV (cPv hP) 2 (by decide) (by decide +kernel) rfl dX0_hearKeep_34 ?_
        refine lv_iload_n hx hb dX0_hearKeep_37 rfl (lv_at hl 1 rfl) ?_
        refine cg_ald F hK (cPv hP) 3 40 rfl t rfl (by omega) (by decide) dX0_hearKeep_38 ?_
        refine lv_aload_n hx hb dX0_hearKeep_39 rfl (lv_at hl 3 rfl) ?_
        refine ro_callV F hK [.int (nI k), .int (nI jo), .ref (u 12)] (cc_X0_isAhead (cPv hP) (((cPc hP)).sub [4] rfl) k jo (by first | assumption | omega) (by first | assumption | omega)) (cwV 3 F.2.2.2.2 gX0_hearKeep_X0_isAhead rfl rfl rfl (by decide +kernel) ⟨Nat.le_of_ble_eq_true rfl, Nat.le_of_ble_eq_true rfl⟩) (vg_rc hK (cPv hP)) rfl hl.1 (by first | (rw [ejo]; done) | (rw [ejo]; rfl)) (lv_room (Nat.le_of_ble_eq_true rfl)) ⟨Nat.le_of_ble_eq_true rfl, Nat.le_of_ble_eq_true rfl⟩ dX0_hearKeep_40 ?_
        refine lw_beq (tgt := 53) hx hb dX0_hearKeep_43 (by decide) (fun c_4 => ?_) (fun c_4 => ?_)
        · skip
          exact cw_retv F hr hlocks hP hS (⟨rfl, by simp [hkV, c_1, c_2, c_3, njo, c_4], rfl, rfl, rfl, rfl, rfl, rfl, rfl, rfl, rfl⟩) (by omega) (by omega) dX0_hearKeep_53
        · skip
          refine lv_aload_n hx hb dX0_hearKeep_46 rfl (lv_at hl 0 rfl) ?_
          refine vg_get F hK hinV (cPv hP) 2 (by decide) (by decide +kernel) rfl dX0_hearKeep_47 ?_
          refine lv_iload_n hx hb dX0_hearKeep_50 rfl (lv_at hl 1 rfl) ?_
          refine lv_iload_n hx hb dX0_hearKeep_51 rfl (lv_at hl 2 rfl) ?_
          refine vv_ast F hK hN (cG_in hLz) hP hS 2 3 40 rfl t rfl (by omega) (by decide) rfl dX0_hearKeep_52 (fun H locs hP hS => ?_)
          exact cw_retv F hr hlocks hP hS (⟨rfl, by simp [hkV, c_1, c_2, c_3, njo, c_4], rfl, rfl, rfl, rfl, rfl, rfl, rfl, rfl, rfl⟩) (by omega) (by omega) dX0_hearKeep_53
    · skip
      exact cw_retv F hr hlocks hP hS (⟨rfl, by simp [hkV, c_1, c_2], rfl, rfl, rfl, rfl, rfl, rfl, rfl, rfl, rfl⟩) (by omega) (by omega) dX0_hearKeep_20
