/-! the class's questions, as functions of the view's rows V, the object's rows b, the words w -/
abbrev ush (x y : Int32) : Int32 := (x.toUInt32 >>> (y.toUInt32 &&& Int32.toUInt32 31)).toInt32
def bc1 (x : Int32) : Int32 := x - (ush x 1 &&& 1431655765)
def bc2 (x : Int32) : Int32 := (x &&& 858993459) + (ush x 2 &&& 858993459)
def bc3 (x : Int32) : Int32 := (x + ush x 4) &&& 252645135
def bc4 (x : Int32) : Int32 := x + ush x 8
def bc5 (x : Int32) : Int32 := x + ush x 16
def bcI (x : Int32) : Int32 := bc5 (bc4 (bc3 (bc2 (bc1 x)))) &&& 63
def vComes (V : Nat → Nat → Int32) (g : Nat) (d : Int32) : Bool := !decide (d < V 3 g) && !decide (V 4 g < d)
def vgStep (V : Nat → Nat → Int32) (d : Int32) (g : Nat) (x : Int32) : Int32 := if vComes V g d then x ||| ((1 : Int32) <<< (nI g &&& 31)) else x
def vGuests (V : Nat → Nat → Int32) (d : Int32) : Int32 := foldU (vgStep V d) 0 8
def vdStep (V : Nat → Nat → Int32) (d : Int32) (g : Nat) (x : Int32) : Int32 := if vComes V g d then x ||| V 5 g else x
def vDisl (V : Nat → Nat → Int32) (d : Int32) : Int32 := foldU (vdStep V d) 0 8
def vWrong (V : Nat → Nat → Int32) (t : Nat) : Int32 := if V 0 t = -1 then V 1 t else V 1 t &&& (((1 : Int32) <<< (V 0 t &&& 31)) ^^^ (-1))
def vFree (V : Nat → Nat → Int32) (t : Nat) : Bool := !decide (V 0 t = -1) && decide (V 2 t = -1)
def vsStep (V : Nat → Nat → Int32) (fo j : Nat) (y : Nat) : Nat := if V 0 (fo + 8 * j) = -1 then y else y + 1
def vSome (V : Nat → Nat → Int32) (fo : Nat) : Nat := foldU (vsStep V fo) 0 5
def vfStep (V : Nat → Nat → Int32) (fo j : Nat) (y : Nat) : Nat := if vFree V (fo + 8 * j) then y + 1 else y
def vFreeN (V : Nat → Nat → Int32) (fo : Nat) : Nat := foldU (vfStep V fo) 0 5
def vkStep (V : Nat → Nat → Int32) (k : Int32) (fo j : Nat) (y : Nat) : Nat := if V 2 (fo + 8 * j) = k then y + 1 else y
def vKeptN (V : Nat → Nat → Int32) (k : Int32) (fo : Nat) : Nat := foldU (vkStep V k fo) 0 5
def vAhead (V : Nat → Nat → Int32) (dy : Nat → Int32) (k o : Nat) : Bool := if bcI (vGuests V (dy k)) = bcI (vGuests V (dy o)) then (if dy k = dy o then decide (V 7 k < V 7 o) else decide (dy k < dy o)) else decide (bcI (vGuests V (dy o)) < bcI (vGuests V (dy k)))
def wLater (x y : Nat → Int32) : Bool := if x 1 = y 1 then decide (y 2 < x 2) else decide (y 1 < x 1)
def chn (nx : Nat → Option Nat) : List Nat → Prop
  | [] => True
  | x :: M => nx x = M.head? ∧ chn nx M
def skF (w : Nat → Nat → Int32) (fr : Int32) : List Nat → Nat
  | [] => 0
  | x :: M => (if w x 8 &&& fr = 0 then 0 else 1) + skF w fr M
theorem foldU_or (p : Nat → Bool) : ∀ n, foldU (fun f x => x || p f) false n = true ↔ ∃ f, f < n ∧ p f = true
  | 0 => by simp [foldU_0]
  | n + 1 => by
    rw [foldU_s]
    simp only [Bool.or_eq_true]
    rw [foldU_or p n]
    constructor
    · rintro (⟨f, hf, h⟩ | h)
      · exact ⟨f, by omega, h⟩
      · exact ⟨n, by omega, h⟩
    · rintro ⟨f, hf, h⟩
      rcases Nat.lt_or_ge f n with q | q
      · exact Or.inl ⟨f, q, h⟩
      · exact Or.inr (by rw [show n = f by omega]; exact h)
def cdP (V b : Nat → Nat → Int32) (r : Nat) (d : Int32) (f : Nat) : Bool := !decide (b (20 + r) f ≤ 0) && !decide ((vDisl V d &&& ((1 : Int32) <<< (nI f &&& 31))) = 0)
def cDis (V b : Nat → Nat → Int32) (r : Nat) (d : Int32) : Bool := foldU (fun f x => x || cdP V b r d f) false 8
def cLack (V b : Nat → Nat → Int32) (k fo : Nat) : Int32 := if 0 < b (20 + jn (b 11 k)) fo - nI (vKeptN V (nI k) fo) then b (20 + jn (b 11 k)) fo - nI (vKeptN V (nI k) fo) else 0
def kaStep (V : Nat → Nat → Int32) (k : Int32) (i : Nat) (y : Nat) : Nat := y + vKeptN V k i
def cKeptAll (V : Nat → Nat → Int32) (k : Int32) : Nat := foldU (kaStep V k) 0 8
def cKeepable (V b : Nat → Nat → Int32) (k fo : Nat) : Int32 := if nI (vFreeN V fo) < cLack V b k fo then nI (vFreeN V fo) else cLack V b k fo
set_option maxHeartbeats 4000000 in
set_option maxRecDepth 100000 in
theorem cc_J6_bitCount_0f7a4 {l : Launch} {D : va_G} {cI cII : ClassId} {H : Heap} (x : Int32)  : ro_Met l yJ6_bitCount_0f7a4 wsJ6_bitCount_0f7a4 0 0 D (cT cI cII) H [.int x] (bcI x) := by
  refine ro_start rfl (by decide +kernel) (Nat.le_of_ble_eq_true rfl) (fun p e9 s m below meth c F hr hlocks hK ls hl => ?_)
  have hl : lv_has ls 1 [(0, .int x)] := hl
  have hx := F.1
  have hb := F.2.1
  refine lv_iload_n hx hb dJ6_bitCount_0f7a4_0 rfl (lv_at hl 0 rfl) ?_
  refine lv_iload_n hx hb dJ6_bitCount_0f7a4_1 rfl (lv_at hl 0 rfl) ?_
  refine lv_iconst (v := 1) hx hb dJ6_bitCount_0f7a4_2 (by decide) ?_
  refine lv_iushr (v := (ush x 1)) hx hb dJ6_bitCount_0f7a4_3 rfl ?_
  refine lv_ldcw (v := 1431655765) hx hb F.2.2.2.1 (F.2.2.2.2 (.constant RJ6 265 (1431655765)) (by decide +kernel)) dJ6_bitCount_0f7a4_4 ?_
  refine lv_iand hx hb dJ6_bitCount_0f7a4_7 ?_
  refine lv_isub hx hb dJ6_bitCount_0f7a4_8 ?_
  refine lv_topi (fun y1 ey1 => ?_)
  refine lv_istore_n (lv' := [(0, .int y1)]) hx hb dJ6_bitCount_0f7a4_9 rfl hl (by decide) rfl (fun ls hl => ?_)
  refine lv_iload_n hx hb dJ6_bitCount_0f7a4_10 rfl (lv_at hl 0 rfl) ?_
  refine lv_ldcw (v := 858993459) hx hb F.2.2.2.1 (F.2.2.2.2 (.constant RJ6 266 (858993459)) (by decide +kernel)) dJ6_bitCount_0f7a4_11 ?_
  refine lv_iand hx hb dJ6_bitCount_0f7a4_14 ?_
  refine lv_iload_n hx hb dJ6_bitCount_0f7a4_15 rfl (lv_at hl 0 rfl) ?_
  refine lv_iconst (v := 2) hx hb dJ6_bitCount_0f7a4_16 (by decide) ?_
  refine lv_iushr (v := (ush y1 2)) hx hb dJ6_bitCount_0f7a4_17 rfl ?_
  refine lv_ldcw (v := 858993459) hx hb F.2.2.2.1 (F.2.2.2.2 (.constant RJ6 266 (858993459)) (by decide +kernel)) dJ6_bitCount_0f7a4_18 ?_
  refine lv_iand hx hb dJ6_bitCount_0f7a4_21 ?_
  refine lv_iadd hx hb dJ6_bitCount_0f7a4_22 ?_
  refine lv_topi (fun y2 ey2 => ?_)
  refine lv_istore_n (lv' := [(0, .int y2)]) hx hb dJ6_bitCount_0f7a4_23 rfl hl (by decide) rfl (fun ls hl => ?_)
  refine lv_iload_n hx hb dJ6_bitCount_0f7a4_24 rfl (lv_at hl 0 rfl) ?_
  refine lv_iload_n hx hb dJ6_bitCount_0f7a4_25 rfl (lv_at hl 0 rfl) ?_
  refine lv_iconst (v := 4) hx hb dJ6_bitCount_0f7a4_26 (by decide) ?_
  refine lv_iushr (v := (ush y2 4)) hx hb dJ6_bitCount_0f7a4_27 rfl ?_
  refine lv_iadd hx hb dJ6_bitCount_0f7a4_28 ?_
  refine lv_ldcw (v := 252645135) hx hb F.2.2.2.1 (F.2.2.2.2 (.constant RJ6 267 (252645135)) (by decide +kernel)) dJ6_bitCount_0f7a4_29 ?_
  refine lv_iand hx hb dJ6_bitCount_0f7a4_32 ?_
  refine lv_topi (fun y3 ey3 => ?_)
  refine lv_istore_n (lv' := [(0, .int y3)]) hx hb dJ6_bitCount_0f7a4_33 rfl hl (by decide) rfl (fun ls hl => ?_)
  refine lv_iload_n hx hb dJ6_bitCount_0f7a4_34 rfl (lv_at hl 0 rfl) ?_
  refine lv_iload_n hx hb dJ6_bitCount_0f7a4_35 rfl (lv_at hl 0 rfl) ?_
  refine lv_bipush (v := 8) hx hb dJ6_bitCount_0f7a4_36 (by decide) ?_
  refine lv_iushr (v := (ush y3 8)) hx hb dJ6_bitCount_0f7a4_38 rfl ?_
  refine lv_iadd hx hb dJ6_bitCount_0f7a4_39 ?_
  refine lv_topi (fun y4 ey4 => ?_)
  refine lv_istore_n (lv' := [(0, .int y4)]) hx hb dJ6_bitCount_0f7a4_40 rfl hl (by decide) rfl (fun ls hl => ?_)
  refine lv_iload_n hx hb dJ6_bitCount_0f7a4_41 rfl (lv_at hl 0 rfl) ?_
  refine lv_iload_n hx hb dJ6_bitCount_0f7a4_42 rfl (lv_at hl 0 rfl) ?_
  refine lv_bipush (v := 16) hx hb dJ6_bitCount_0f7a4_43 (by decide) ?_
  refine lv_iushr (v := (ush y4 16)) hx hb dJ6_bitCount_0f7a4_45 rfl ?_
  refine lv_iadd hx hb dJ6_bitCount_0f7a4_46 ?_
  refine lv_topi (fun y5 ey5 => ?_)
  refine lv_istore_n (lv' := [(0, .int y5)]) hx hb dJ6_bitCount_0f7a4_47 rfl hl (by decide) rfl (fun ls hl => ?_)
  refine lv_iload_n hx hb dJ6_bitCount_0f7a4_48 rfl (lv_at hl 0 rfl) ?_
  refine lv_bipush (v := 63) hx hb dJ6_bitCount_0f7a4_49 (by decide) ?_
  refine lv_iand hx hb dJ6_bitCount_0f7a4_51 ?_
  exact ro_reti F hr hlocks (by rw [ey5, ey4, ey3, ey2, ey1]; rfl) dJ6_bitCount_0f7a4_52
set_option maxHeartbeats 4000000 in
set_option maxRecDepth 100000 in
theorem cc_X0_comesOn {l : Launch} {D : va_G} {cI cII : ClassId} {H : Heap} {u : Nat → Nat} {V : Nat → Nat → Int32} {pq sp : Int32} (hV : va_P D vwCl (vX u cI V pq sp) H) (g : Nat) (d : Int32) (hg : g < 8) : ro_Met l yX0_comesOn wsX0_comesOn 0 0 D (cT cI cII) H [.ref (u 32), .int (nI g), .int d] (bI (vComes V g d)) := by
  refine ro_start rfl (by decide +kernel) (Nat.le_of_ble_eq_true rfl) (fun p e9 s m below meth c F hr hlocks hK ls hl => ?_)
  have hl : lv_has ls 3 [(0, .ref (u 32)), (1, .int (nI g)), (2, .int d)] := hl
  have hx := F.1
  have hb := F.2.1
  have hinV : ∀ w ∈ wsX00, w ∈ wsX0_comesOn := by decide +kernel
  refine lv_aload_n hx hb dX0_comesOn_0 rfl (lv_at hl 0 rfl) ?_
  refine vg_get F hK hinV hV 3 (by decide) (by decide +kernel) rfl dX0_comesOn_1 ?_
  refine lv_iload_n hx hb dX0_comesOn_4 rfl (lv_at hl 1 rfl) ?_
  refine cg_ald F hK hV 4 8 rfl g rfl (by omega) (by decide) dX0_comesOn_5 ?_
  refine lv_iload_n hx hb dX0_comesOn_6 rfl (lv_at hl 2 rfl) ?_
  refine lv_icmp_gt (tgt := 24) hx hb dX0_comesOn_7 (by decide) (fun c_1 => ?_) (fun c_1 => ?_)
  · skip
    refine lv_iconst (v := 0) hx hb dX0_comesOn_24 (by decide) ?_
    exact ro_retz F hr hlocks (by simp [vComes, bI, c_1]) dX0_comesOn_25
  · skip
    refine lv_iload_n hx hb dX0_comesOn_10 rfl (lv_at hl 2 rfl) ?_
    refine lv_aload_n hx hb dX0_comesOn_11 rfl (lv_at hl 0 rfl) ?_
    refine vg_get F hK hinV hV 4 (by decide) (by decide +kernel) rfl dX0_comesOn_12 ?_
    refine lv_iload_n hx hb dX0_comesOn_15 rfl (lv_at hl 1 rfl) ?_
    refine cg_ald F hK hV 5 8 rfl g rfl (by omega) (by decide) dX0_comesOn_16 ?_
    refine lv_icmp_gt (tgt := 24) hx hb dX0_comesOn_17 (by decide) (fun c_2 => ?_) (fun c_2 => ?_)
    · skip
      refine lv_iconst (v := 0) hx hb dX0_comesOn_24 (by decide) ?_
      exact ro_retz F hr hlocks (by simp [vComes, bI, c_1, c_2]) dX0_comesOn_25
    · skip
      refine lv_iconst (v := 1) hx hb dX0_comesOn_20 (by decide) ?_
      refine lv_goto (tgt := 25) hx hb dX0_comesOn_21 (by decide) ?_
      exact ro_retz F hr hlocks (by simp [vComes, bI, c_1, c_2]) dX0_comesOn_25
set_option maxHeartbeats 4000000 in
set_option maxRecDepth 100000 in
theorem cc_X0_guestsOn {l : Launch} {D : va_G} {cI cII : ClassId} {H : Heap} {u : Nat → Nat} {V : Nat → Nat → Int32} {pq sp : Int32} (hV : va_P D vwCl (vX u cI V pq sp) H) (d : Int32)  : ro_Met l yX0_guestsOn wsX0_guestsOn 1 22 D (cT cI cII) H [.ref (u 32), .int d] (vGuests V d) := by
  refine ro_start rfl (by decide +kernel) (Nat.le_of_ble_eq_true rfl) (fun p e9 s m below meth c F hr hlocks hK ls hl => ?_)
  have hl : lv_has ls 4 [(0, .ref (u 32)), (1, .int d)] := hl
  have hx := F.1
  have hb := F.2.1
  have hinV : ∀ w ∈ wsX00, w ∈ wsX0_guestsOn := by decide +kernel
  refine lv_iconst (v := 0) hx hb dX0_guestsOn_0 (by decide) ?_
  refine lv_istore_n (lv' := [(2, .int 0), (0, .ref (u 32)), (1, .int d)]) hx hb dX0_guestsOn_1 rfl hl (by decide) rfl (fun ls hl => ?_)
  refine lv_iconst (v := 0) hx hb dX0_guestsOn_2 (by decide) ?_
  refine lv_istore_n (lv' := [(3, .int 0), (2, .int 0), (0, .ref (u 32)), (1, .int d)]) hx hb dX0_guestsOn_3 rfl hl (by decide) rfl (fun ls hl => ?_)
  have L4_u_1 : ∀ (k9u_1 : Nat) (i : Nat) (y : Int32) (ls : Array Slot), 8 - i < k9u_1 → i ≤ 8 → y = foldU (vgStep V d) 0 i → lv_has ls 4 [(2, .int y), (3, .int (nI i)), (0, .ref (u 32)), (1, .int d)] → roW p l e9 1 22 s m [.ref (u 32), .int d] below meth c H (vGuests V d) (F0 m 4 ls []) := by
    intro k9u_1
    induction k9u_1 with
    | zero => intro i y ls hk; exact absurd hk (Nat.not_lt_zero _)
    | succ k9u_1 ihu_1 =>
      intro i y ls hk hi hf  hl
      refine lv_iload_n hx hb dX0_guestsOn_4 rfl (lv_at hl 1 rfl) ?_
      refine lv_bipush (v := 8) hx hb dX0_guestsOn_5 (by decide) ?_
      refine lw_ge (tgt := 31) hx hb i 8 (by omega) (by omega) dX0_guestsOn_7 (by decide) (fun c_2 => ?_) (fun c_2 => ?_)
      · skip
        refine lv_iload_n hx hb dX0_guestsOn_31 rfl (lv_at hl 0 rfl) ?_
        exact ro_reti F hr hlocks (by rw [hf, show i = 8 by omega]; rfl) dX0_guestsOn_32
      · skip
        refine lv_aload_n hx hb dX0_guestsOn_10 rfl (lv_at hl 2 rfl) ?_
        refine lv_iload_n hx hb dX0_guestsOn_11 rfl (lv_at hl 1 rfl) ?_
        refine lv_iload_n hx hb dX0_guestsOn_12 rfl (lv_at hl 3 rfl) ?_
        refine ro_callV F hK [.int (nI i), .int d] (cc_X0_comesOn hV i d (by first | assumption | omega)) (cwV 2 F.2.2.2.2 gX0_guestsOn_X0_comesOn rfl rfl rfl (by decide +kernel) ⟨Nat.le_of_ble_eq_true rfl, Nat.le_of_ble_eq_true rfl⟩) (vg_rc hK hV) rfl hl.1 rfl (lv_room (Nat.le_of_ble_eq_true rfl)) ⟨Nat.zero_le _, Nat.zero_le _⟩ dX0_guestsOn_13 ?_
        refine lw_beq (tgt := 25) hx hb dX0_guestsOn_16 (by decide) (fun c_3 => ?_) (fun c_3 => ?_)
        · skip
          refine lv_iinc (v := nI (i + 1)) (lv' := [(3, .int (nI (i + 1))), (2, .int y), (0, .ref (u 32)), (1, .int d)]) hx hb dX0_guestsOn_25 hl (k := 1) rfl (show nI i + Int32.ofInt 1 = _ from nI_add i 1) (by decide) rfl (fun ls hl => ?_)
          refine lv_goto (tgt := 4) hx hb dX0_guestsOn_28 (by decide) ?_
          exact ihu_1  (i + 1) y  ls (by omega) (by first | omega | assumption) (by rw [foldU_s, ← hf]; simp [vgStep, c_2, c_3])  (lv_sub hl [1, 0, 2, 3] rfl)
        · skip
          refine lv_iload_n hx hb dX0_guestsOn_19 rfl (lv_at hl 0 rfl) ?_
          refine lv_iconst (v := 1) hx hb dX0_guestsOn_20 (by decide) ?_
          refine lv_iload_n hx hb dX0_guestsOn_21 rfl (lv_at hl 1 rfl) ?_
          refine lv_ishl hx hb dX0_guestsOn_22 ?_
          refine lv_ior hx hb dX0_guestsOn_23 ?_
          refine lv_istore_n (lv' := [(2, .int (y ||| (1 <<< (nI i &&& 31)))), (3, .int (nI i)), (0, .ref (u 32)), (1, .int d)]) hx hb dX0_guestsOn_24 rfl hl (by decide) rfl (fun ls hl => ?_)
          refine lv_iinc (v := nI (i + 1)) (lv' := [(3, .int (nI (i + 1))), (2, .int (y ||| (1 <<< (nI i &&& 31)))), (0, .ref (u 32)), (1, .int d)]) hx hb dX0_guestsOn_25 hl (k := 1) rfl (show nI i + Int32.ofInt 1 = _ from nI_add i 1) (by decide) rfl (fun ls hl => ?_)
          refine lv_goto (tgt := 4) hx hb dX0_guestsOn_28 (by decide) ?_
          exact ihu_1  (i + 1) (y ||| (1 <<< (nI i &&& 31)))  ls (by omega) (by first | omega | assumption) (by rw [foldU_s, ← hf]; simp [vgStep, c_2, c_3])  (lv_sub hl [1, 0, 2, 3] rfl)
  exact L4_u_1 _ 0 0  ls (Nat.lt_succ_self _) (by first | omega | assumption) (rfl)  (lv_sub hl [1, 0, 2, 3] rfl)
set_option maxHeartbeats 4000000 in
set_option maxRecDepth 100000 in
theorem cc_X0_dislikedOn {l : Launch} {D : va_G} {cI cII : ClassId} {H : Heap} {u : Nat → Nat} {V : Nat → Nat → Int32} {pq sp : Int32} (hV : va_P D vwCl (vX u cI V pq sp) H) (d : Int32)  : ro_Met l yX0_dislikedOn wsX0_dislikedOn 1 22 D (cT cI cII) H [.ref (u 32), .int d] (vDisl V d) := by
  refine ro_start rfl (by decide +kernel) (Nat.le_of_ble_eq_true rfl) (fun p e9 s m below meth c F hr hlocks hK ls hl => ?_)
  have hl : lv_has ls 4 [(0, .ref (u 32)), (1, .int d)] := hl
  have hx := F.1
  have hb := F.2.1
  have hinV : ∀ w ∈ wsX00, w ∈ wsX0_dislikedOn := by decide +kernel
  refine lv_iconst (v := 0) hx hb dX0_dislikedOn_0 (by decide) ?_
  refine lv_istore_n (lv' := [(2, .int 0), (0, .ref (u 32)), (1, .int d)]) hx hb dX0_dislikedOn_1 rfl hl (by decide) rfl (fun ls hl => ?_)
  refine lv_iconst (v := 0) hx hb dX0_dislikedOn_2 (by decide) ?_
  refine lv_istore_n (lv' := [(3, .int 0), (2, .int 0), (0, .ref (u 32)), (1, .int d)]) hx hb dX0_dislikedOn_3 rfl hl (by decide) rfl (fun ls hl => ?_)
  have L4_u_1 : ∀ (k9u_1 : Nat) (i : Nat) (y : Int32) (ls : Array Slot), 8 - i < k9u_1 → i ≤ 8 → y = foldU (vdStep V d) 0 i → lv_has ls 4 [(2, .int y), (3, .int (nI i)), (0, .ref (u 32)), (1, .int d)] → roW p l e9 1 22 s m [.ref (u 32), .int d] below meth c H (vDisl V d) (F0 m 4 ls []) := by
    intro k9u_1
    induction k9u_1 with
    | zero => intro i y ls hk; exact absurd hk (Nat.not_lt_zero _)
    | succ k9u_1 ihu_1 =>
      intro i y ls hk hi hf  hl
      refine lv_iload_n hx hb dX0_dislikedOn_4 rfl (lv_at hl 1 rfl) ?_
      refine lv_bipush (v := 8) hx hb dX0_dislikedOn_5 (by decide) ?_
      refine lw_ge (tgt := 34) hx hb i 8 (by omega) (by omega) dX0_dislikedOn_7 (by decide) (fun c_2 => ?_) (fun c_2 => ?_)
      · skip
        refine lv_iload_n hx hb dX0_dislikedOn_34 rfl (lv_at hl 0 rfl) ?_
        exact ro_reti F hr hlocks (by rw [hf, show i = 8 by omega]; rfl) dX0_dislikedOn_35
      · skip
        refine lv_aload_n hx hb dX0_dislikedOn_10 rfl (lv_at hl 2 rfl) ?_
        refine lv_iload_n hx hb dX0_dislikedOn_11 rfl (lv_at hl 1 rfl) ?_
        refine lv_iload_n hx hb dX0_dislikedOn_12 rfl (lv_at hl 3 rfl) ?_
        refine ro_callV F hK [.int (nI i), .int d] (cc_X0_comesOn hV i d (by first | assumption | omega)) (cwV 2 F.2.2.2.2 gX0_dislikedOn_X0_comesOn rfl rfl rfl (by decide +kernel) ⟨Nat.le_of_ble_eq_true rfl, Nat.le_of_ble_eq_true rfl⟩) (vg_rc hK hV) rfl hl.1 rfl (lv_room (Nat.le_of_ble_eq_true rfl)) ⟨Nat.zero_le _, Nat.zero_le _⟩ dX0_dislikedOn_13 ?_
        refine lw_beq (tgt := 28) hx hb dX0_dislikedOn_16 (by decide) (fun c_3 => ?_) (fun c_3 => ?_)
        · skip
          refine lv_iinc (v := nI (i + 1)) (lv' := [(3, .int (nI (i + 1))), (2, .int y), (0, .ref (u 32)), (1, .int d)]) hx hb dX0_dislikedOn_28 hl (k := 1) rfl (show nI i + Int32.ofInt 1 = _ from nI_add i 1) (by decide) rfl (fun ls hl => ?_)
          refine lv_goto (tgt := 4) hx hb dX0_dislikedOn_31 (by decide) ?_
          exact ihu_1  (i + 1) y  ls (by omega) (by first | omega | assumption) (by rw [foldU_s, ← hf]; simp [vdStep, c_2, c_3])  (lv_sub hl [1, 0, 2, 3] rfl)
        · skip
          refine lv_iload_n hx hb dX0_dislikedOn_19 rfl (lv_at hl 0 rfl) ?_
          refine lv_aload_n hx hb dX0_dislikedOn_20 rfl (lv_at hl 2 rfl) ?_
          refine vg_get F hK hinV hV 5 (by decide) (by decide +kernel) rfl dX0_dislikedOn_21 ?_
          refine lv_iload_n hx hb dX0_dislikedOn_24 rfl (lv_at hl 1 rfl) ?_
          refine cg_ald F hK hV 6 8 rfl i rfl (by omega) (by decide) dX0_dislikedOn_25 ?_
          refine lv_ior hx hb dX0_dislikedOn_26 ?_
          refine lv_istore_n (lv' := [(2, .int (y ||| V 5 i)), (3, .int (nI i)), (0, .ref (u 32)), (1, .int d)]) hx hb dX0_dislikedOn_27 rfl hl (by decide) rfl (fun ls hl => ?_)
          refine lv_iinc (v := nI (i + 1)) (lv' := [(3, .int (nI (i + 1))), (2, .int (y ||| V 5 i)), (0, .ref (u 32)), (1, .int d)]) hx hb dX0_dislikedOn_28 hl (k := 1) rfl (show nI i + Int32.ofInt 1 = _ from nI_add i 1) (by decide) rfl (fun ls hl => ?_)
          refine lv_goto (tgt := 4) hx hb dX0_dislikedOn_31 (by decide) ?_
          exact ihu_1  (i + 1) (y ||| V 5 i)  ls (by omega) (by first | omega | assumption) (by rw [foldU_s, ← hf]; simp [vdStep, c_2, c_3])  (lv_sub hl [1, 0, 2, 3] rfl)
  exact L4_u_1 _ 0 0  ls (Nat.lt_succ_self _) (by first | omega | assumption) (rfl)  (lv_sub hl [1, 0, 2, 3] rfl)
set_option maxHeartbeats 4000000 in
set_option maxRecDepth 100000 in
theorem cc_X0_wrongClaimers {l : Launch} {D : va_G} {cI cII : ClassId} {H : Heap} {u : Nat → Nat} {V : Nat → Nat → Int32} {pq sp : Int32} (hV : va_P D vwCl (vX u cI V pq sp) H) (t : Nat) (ht : t < 40) : ro_Met l yX0_wrongClaimers wsX0_wrongClaimers 0 0 D (cT cI cII) H [.ref (u 32), .int (nI t)] (vWrong V t) := by
  refine ro_start rfl (by decide +kernel) (Nat.le_of_ble_eq_true rfl) (fun p e9 s m below meth c F hr hlocks hK ls hl => ?_)
  have hl : lv_has ls 3 [(0, .ref (u 32)), (1, .int (nI t))] := hl
  have hx := F.1
  have hb := F.2.1
  have hinV : ∀ w ∈ wsX00, w ∈ wsX0_wrongClaimers := by decide +kernel
  refine lv_aload_n hx hb dX0_wrongClaimers_0 rfl (lv_at hl 0 rfl) ?_
  refine vg_get F hK hinV hV 0 (by decide) (by decide +kernel) rfl dX0_wrongClaimers_1 ?_
  refine lv_iload_n hx hb dX0_wrongClaimers_4 rfl (lv_at hl 1 rfl) ?_
  refine cg_ald F hK hV 1 40 rfl t rfl (by omega) (by decide) dX0_wrongClaimers_5 ?_
  refine lv_istore_n (lv' := [(2, .int (V 0 t)), (0, .ref (u 32)), (1, .int (nI t))]) hx hb dX0_wrongClaimers_6 rfl hl (by decide) rfl (fun ls hl => ?_)
  refine lv_iload_n hx hb dX0_wrongClaimers_7 rfl (lv_at hl 0 rfl) ?_
  refine lv_iconst (v := (-1)) hx hb dX0_wrongClaimers_8 (by decide) ?_
  refine lv_icmp_ne (tgt := 21) hx hb dX0_wrongClaimers_9 (by decide) (fun c_1 => ?_) (fun c_1 => ?_)
  · skip
    refine lv_aload_n hx hb dX0_wrongClaimers_21 rfl (lv_at hl 1 rfl) ?_
    refine vg_get F hK hinV hV 1 (by decide) (by decide +kernel) rfl dX0_wrongClaimers_22 ?_
    refine lv_iload_n hx hb dX0_wrongClaimers_25 rfl (lv_at hl 2 rfl) ?_
    refine cg_ald F hK hV 2 40 rfl t rfl (by omega) (by decide) dX0_wrongClaimers_26 ?_
    refine lv_iconst (v := 1) hx hb dX0_wrongClaimers_27 (by decide) ?_
    refine lv_iload_n hx hb dX0_wrongClaimers_28 rfl (lv_at hl 0 rfl) ?_
    refine lv_ishl hx hb dX0_wrongClaimers_29 ?_
    refine lv_iconst (v := (-1)) hx hb dX0_wrongClaimers_30 (by decide) ?_
    refine lv_ixor hx hb dX0_wrongClaimers_31 ?_
    refine lv_iand hx hb dX0_wrongClaimers_32 ?_
    exact ro_reti F hr hlocks (by simp [vWrong, c_1]) dX0_wrongClaimers_33
  · skip
    refine lv_aload_n hx hb dX0_wrongClaimers_12 rfl (lv_at hl 1 rfl) ?_
    refine vg_get F hK hinV hV 1 (by decide) (by decide +kernel) rfl dX0_wrongClaimers_13 ?_
    refine lv_iload_n hx hb dX0_wrongClaimers_16 rfl (lv_at hl 2 rfl) ?_
    refine cg_ald F hK hV 2 40 rfl t rfl (by omega) (by decide) dX0_wrongClaimers_17 ?_
    refine lv_goto (tgt := 33) hx hb dX0_wrongClaimers_18 (by decide) ?_
    exact ro_reti F hr hlocks (by simp [vWrong, c_1]) dX0_wrongClaimers_33
set_option maxHeartbeats 4000000 in
set_option maxRecDepth 100000 in
theorem cc_X0_isFree {l : Launch} {D : va_G} {cI cII : ClassId} {H : Heap} {u : Nat → Nat} {V : Nat → Nat → Int32} {pq sp : Int32} (hV : va_P D vwCl (vX u cI V pq sp) H) (t : Nat) (ht : t < 40) : ro_Met l yX0_isFree wsX0_isFree 0 0 D (cT cI cII) H [.ref (u 32), .int (nI t)] (bI (vFree V t)) := by
  refine ro_start rfl (by decide +kernel) (Nat.le_of_ble_eq_true rfl) (fun p e9 s m below meth c F hr hlocks hK ls hl => ?_)
  have hl : lv_has ls 2 [(0, .ref (u 32)), (1, .int (nI t))] := hl
  have hx := F.1
  have hb := F.2.1
  have hinV : ∀ w ∈ wsX00, w ∈ wsX0_isFree := by decide +kernel
  refine lv_aload_n hx hb dX0_isFree_0 rfl (lv_at hl 0 rfl) ?_
  refine vg_get F hK hinV hV 0 (by decide) (by decide +kernel) rfl dX0_isFree_1 ?_
  refine lv_iload_n hx hb dX0_isFree_4 rfl (lv_at hl 1 rfl) ?_
  refine cg_ald F hK hV 1 40 rfl t rfl (by omega) (by decide) dX0_isFree_5 ?_
  refine lv_iconst (v := (-1)) hx hb dX0_isFree_6 (by decide) ?_
  refine lv_icmp_eq (tgt := 24) hx hb dX0_isFree_7 (by decide) (fun c_1 => ?_) (fun c_1 => ?_)
  · skip
    refine lv_iconst (v := 0) hx hb dX0_isFree_24 (by decide) ?_
    exact ro_retz F hr hlocks (by simp [vFree, bI, c_1]) dX0_isFree_25
  · skip
    refine lv_aload_n hx hb dX0_isFree_10 rfl (lv_at hl 0 rfl) ?_
    refine vg_get F hK hinV hV 2 (by decide) (by decide +kernel) rfl dX0_isFree_11 ?_
    refine lv_iload_n hx hb dX0_isFree_14 rfl (lv_at hl 1 rfl) ?_
    refine cg_ald F hK hV 3 40 rfl t rfl (by omega) (by decide) dX0_isFree_15 ?_
    refine lv_iconst (v := (-1)) hx hb dX0_isFree_16 (by decide) ?_
    refine lv_icmp_ne (tgt := 24) hx hb dX0_isFree_17 (by decide) (fun c_2 => ?_) (fun c_2 => ?_)
    · skip
      refine lv_iconst (v := 0) hx hb dX0_isFree_24 (by decide) ?_
      exact ro_retz F hr hlocks (by simp [vFree, bI, c_1, c_2]) dX0_isFree_25
    · skip
      refine lv_iconst (v := 1) hx hb dX0_isFree_20 (by decide) ?_
      refine lv_goto (tgt := 25) hx hb dX0_isFree_21 (by decide) ?_
      exact ro_retz F hr hlocks (by simp [vFree, bI, c_1, c_2]) dX0_isFree_25
set_option maxHeartbeats 4000000 in
set_option maxRecDepth 100000 in
theorem cc_X0_thingsSomewhere {l : Launch} {D : va_G} {cI cII : ClassId} {H : Heap} {u : Nat → Nat} {V : Nat → Nat → Int32} {pq sp : Int32} (hV : va_P D vwCl (vX u cI V pq sp) H) (fo : Nat) (hfo : fo < 8) : ro_Met l yX0_thingsSomewhere wsX0_thingsSomewhere 0 0 D (cT cI cII) H [.ref (u 32), .int (nI fo)] (nI (vSome V fo)) := by
  refine ro_start rfl (by decide +kernel) (Nat.le_of_ble_eq_true rfl) (fun p e9 s m below meth c F hr hlocks hK ls hl => ?_)
  have hl : lv_has ls 4 [(0, .ref (u 32)), (1, .int (nI fo))] := hl
  have hx := F.1
  have hb := F.2.1
  have hinV : ∀ w ∈ wsX00, w ∈ wsX0_thingsSomewhere := by decide +kernel
  refine lv_iconst (v := 0) hx hb dX0_thingsSomewhere_0 (by decide) ?_
  refine lv_istore_n (lv' := [(2, .int 0), (0, .ref (u 32)), (1, .int (nI fo))]) hx hb dX0_thingsSomewhere_1 rfl hl (by decide) rfl (fun ls hl => ?_)
  refine lv_iload_n hx hb dX0_thingsSomewhere_2 rfl (lv_at hl 2 rfl) ?_
  refine lv_istore_n (lv' := [(3, .int (nI fo)), (2, .int 0), (0, .ref (u 32)), (1, .int (nI fo))]) hx hb dX0_thingsSomewhere_3 rfl hl (by decide) rfl (fun ls hl => ?_)
  have L4_u_1 : ∀ (k9u_1 : Nat) (t : Nat) (y : Nat) (i : Nat) (ls : Array Slot), 5 - i < k9u_1 → i ≤ 5 → t = fo + 8 * i → y = foldU (vsStep V fo) 0 i → lv_has ls 4 [(2, .int (nI y)), (3, .int (nI t)), (0, .ref (u 32)), (1, .int (nI fo))] → roW p l e9 0 0 s m [.ref (u 32), .int (nI fo)] below meth c H (nI (vSome V fo)) (F0 m 4 ls []) := by
    intro k9u_1
    induction k9u_1 with
    | zero => intro t y i ls hk; exact absurd hk (Nat.not_lt_zero _)
    | succ k9u_1 ihu_1 =>
      intro t y i ls hk hi ht hf  hl
      refine lv_iload_n hx hb dX0_thingsSomewhere_4 rfl (lv_at hl 1 rfl) ?_
      refine lv_bipush (v := 40) hx hb dX0_thingsSomewhere_5 (by decide) ?_
      refine lw_ge (tgt := 29) hx hb t 40 (by omega) (by omega) dX0_thingsSomewhere_7 (by decide) (fun c_2 => ?_) (fun c_2 => ?_)
      · skip
        refine lv_iload_n hx hb dX0_thingsSomewhere_29 rfl (lv_at hl 0 rfl) ?_
        exact ro_reti F hr hlocks (by rw [hf, show i = 5 by omega]; rfl) dX0_thingsSomewhere_30
      · skip
        refine lv_aload_n hx hb dX0_thingsSomewhere_10 rfl (lv_at hl 2 rfl) ?_
        refine vg_get F hK hinV hV 0 (by decide) (by decide +kernel) rfl dX0_thingsSomewhere_11 ?_
        refine lv_iload_n hx hb dX0_thingsSomewhere_14 rfl (lv_at hl 1 rfl) ?_
        refine cg_ald F hK hV 1 40 rfl t rfl (by omega) (by decide) dX0_thingsSomewhere_15 ?_
        refine lv_iconst (v := (-1)) hx hb dX0_thingsSomewhere_16 (by decide) ?_
        refine lv_icmp_eq (tgt := 23) hx hb dX0_thingsSomewhere_17 (by decide) (fun c_3 => ?_) (fun c_3 => ?_)
        · skip
          refine lv_iinc (v := nI (t + 8)) (lv' := [(3, .int (nI (t + 8))), (2, .int (nI y)), (0, .ref (u 32)), (1, .int (nI fo))]) hx hb dX0_thingsSomewhere_23 hl (k := 1) rfl (show nI t + Int32.ofInt 8 = _ from nI_add t 8) (by decide) rfl (fun ls hl => ?_)
          refine lv_goto (tgt := 4) hx hb dX0_thingsSomewhere_26 (by decide) ?_
          exact ihu_1  (t + 8) y (i + 1)  ls (by omega) (by first | omega | assumption) (by first | omega | assumption) (by rw [foldU_s, ← hf]; subst ht; simp [vsStep, c_2, c_3])  (lv_sub hl [1, 0, 2, 3] rfl)
        · skip
          refine lv_iinc (v := nI (y + 1)) (lv' := [(2, .int (nI (y + 1))), (3, .int (nI t)), (0, .ref (u 32)), (1, .int (nI fo))]) hx hb dX0_thingsSomewhere_20 hl (k := 0) rfl (show nI y + Int32.ofInt 1 = _ from nI_add y 1) (by decide) rfl (fun ls hl => ?_)
          refine lv_iinc (v := nI (t + 8)) (lv' := [(3, .int (nI (t + 8))), (2, .int (nI (y + 1))), (0, .ref (u 32)), (1, .int (nI fo))]) hx hb dX0_thingsSomewhere_23 hl (k := 1) rfl (show nI t + Int32.ofInt 8 = _ from nI_add t 8) (by decide) rfl (fun ls hl => ?_)
          refine lv_goto (tgt := 4) hx hb dX0_thingsSomewhere_26 (by decide) ?_
          exact ihu_1  (t + 8) (y + 1) (i + 1)  ls (by omega) (by first | omega | assumption) (by first | omega | assumption) (by rw [foldU_s, ← hf]; subst ht; simp [vsStep, c_2, c_3])  (lv_sub hl [1, 0, 2, 3] rfl)
  exact L4_u_1 _ fo 0 0  ls (Nat.lt_succ_self _) (by first | omega | assumption) (by first | omega | assumption) (rfl)  (lv_sub hl [1, 0, 2, 3] rfl)
set_option maxHeartbeats 4000000 in
set_option maxRecDepth 100000 in
theorem cc_X0_thingsFree {l : Launch} {D : va_G} {cI cII : ClassId} {H : Heap} {u : Nat → Nat} {V : Nat → Nat → Int32} {pq sp : Int32} (hV : va_P D vwCl (vX u cI V pq sp) H) (fo : Nat) (hfo : fo < 8) : ro_Met l yX0_thingsFree wsX0_thingsFree 1 21 D (cT cI cII) H [.ref (u 32), .int (nI fo)] (nI (vFreeN V fo)) := by
  refine ro_start rfl (by decide +kernel) (Nat.le_of_ble_eq_true rfl) (fun p e9 s m below meth c F hr hlocks hK ls hl => ?_)
  have hl : lv_has ls 4 [(0, .ref (u 32)), (1, .int (nI fo))] := hl
  have hx := F.1
  have hb := F.2.1
  have hinV : ∀ w ∈ wsX00, w ∈ wsX0_thingsFree := by decide +kernel
  refine lv_iconst (v := 0) hx hb dX0_thingsFree_0 (by decide) ?_
  refine lv_istore_n (lv' := [(2, .int 0), (0, .ref (u 32)), (1, .int (nI fo))]) hx hb dX0_thingsFree_1 rfl hl (by decide) rfl (fun ls hl => ?_)
  refine lv_iload_n hx hb dX0_thingsFree_2 rfl (lv_at hl 2 rfl) ?_
  refine lv_istore_n (lv' := [(3, .int (nI fo)), (2, .int 0), (0, .ref (u 32)), (1, .int (nI fo))]) hx hb dX0_thingsFree_3 rfl hl (by decide) rfl (fun ls hl => ?_)
  have L4_u_1 : ∀ (k9u_1 : Nat) (t : Nat) (y : Nat) (i : Nat) (ls : Array Slot), 5 - i < k9u_1 → i ≤ 5 → t = fo + 8 * i → y = foldU (vfStep V fo) 0 i → lv_has ls 4 [(2, .int (nI y)), (3, .int (nI t)), (0, .ref (u 32)), (1, .int (nI fo))] → roW p l e9 1 21 s m [.ref (u 32), .int (nI fo)] below meth c H (nI (vFreeN V fo)) (F0 m 4 ls []) := by
    intro k9u_1
    induction k9u_1 with
    | zero => intro t y i ls hk; exact absurd hk (Nat.not_lt_zero _)
    | succ k9u_1 ihu_1 =>
      intro t y i ls hk hi ht hf  hl
      refine lv_iload_n hx hb dX0_thingsFree_4 rfl (lv_at hl 1 rfl) ?_
      refine lv_bipush (v := 40) hx hb dX0_thingsFree_5 (by decide) ?_
      refine lw_ge (tgt := 27) hx hb t 40 (by omega) (by omega) dX0_thingsFree_7 (by decide) (fun c_2 => ?_) (fun c_2 => ?_)
      · skip
        refine lv_iload_n hx hb dX0_thingsFree_27 rfl (lv_at hl 0 rfl) ?_
        exact ro_reti F hr hlocks (by rw [hf, show i = 5 by omega]; rfl) dX0_thingsFree_28
      · skip
        refine lv_aload_n hx hb dX0_thingsFree_10 rfl (lv_at hl 2 rfl) ?_
        refine lv_iload_n hx hb dX0_thingsFree_11 rfl (lv_at hl 1 rfl) ?_
        refine ro_callV F hK [.int (nI t)] (cc_X0_isFree hV t (by first | assumption | omega)) (cwV 1 F.2.2.2.2 gX0_thingsFree_X0_isFree rfl rfl rfl (by decide +kernel) ⟨Nat.le_of_ble_eq_true rfl, Nat.le_of_ble_eq_true rfl⟩) (vg_rc hK hV) rfl hl.1 rfl (lv_room (Nat.le_of_ble_eq_true rfl)) ⟨Nat.zero_le _, Nat.zero_le _⟩ dX0_thingsFree_12 ?_
        refine lw_beq (tgt := 21) hx hb dX0_thingsFree_15 (by decide) (fun c_3 => ?_) (fun c_3 => ?_)
        · skip
          refine lv_iinc (v := nI (t + 8)) (lv' := [(3, .int (nI (t + 8))), (2, .int (nI y)), (0, .ref (u 32)), (1, .int (nI fo))]) hx hb dX0_thingsFree_21 hl (k := 1) rfl (show nI t + Int32.ofInt 8 = _ from nI_add t 8) (by decide) rfl (fun ls hl => ?_)
          refine lv_goto (tgt := 4) hx hb dX0_thingsFree_24 (by decide) ?_
          exact ihu_1  (t + 8) y (i + 1)  ls (by omega) (by first | omega | assumption) (by first | omega | assumption) (by rw [foldU_s, ← hf]; subst ht; simp [vfStep, c_2, c_3])  (lv_sub hl [1, 0, 2, 3] rfl)
        · skip
          refine lv_iinc (v := nI (y + 1)) (lv' := [(2, .int (nI (y + 1))), (3, .int (nI t)), (0, .ref (u 32)), (1, .int (nI fo))]) hx hb dX0_thingsFree_18 hl (k := 0) rfl (show nI y + Int32.ofInt 1 = _ from nI_add y 1) (by decide) rfl (fun ls hl => ?_)
          refine lv_iinc (v := nI (t + 8)) (lv' := [(3, .int (nI (t + 8))), (2, .int (nI (y + 1))), (0, .ref (u 32)), (1, .int (nI fo))]) hx hb dX0_thingsFree_21 hl (k := 1) rfl (show nI t + Int32.ofInt 8 = _ from nI_add t 8) (by decide) rfl (fun ls hl => ?_)
          refine lv_goto (tgt := 4) hx hb dX0_thingsFree_24 (by decide) ?_
          exact ihu_1  (t + 8) (y + 1) (i + 1)  ls (by omega) (by first | omega | assumption) (by first | omega | assumption) (by rw [foldU_s, ← hf]; subst ht; simp [vfStep, c_2, c_3])  (lv_sub hl [1, 0, 2, 3] rfl)
  exact L4_u_1 _ fo 0 0  ls (Nat.lt_succ_self _) (by first | omega | assumption) (by first | omega | assumption) (rfl)  (lv_sub hl [1, 0, 2, 3] rfl)
set_option maxHeartbeats 4000000 in
set_option maxRecDepth 100000 in
theorem cc_X0_thingsKept {l : Launch} {D : va_G} {cI cII : ClassId} {H : Heap} {u : Nat → Nat} {V : Nat → Nat → Int32} {pq sp : Int32} (hV : va_P D vwCl (vX u cI V pq sp) H) (k : Int32) (fo : Nat) (hfo : fo < 8) : ro_Met l yX0_thingsKept wsX0_thingsKept 0 0 D (cT cI cII) H [.ref (u 32), .int k, .int (nI fo)] (nI (vKeptN V k fo)) := by
  refine ro_start rfl (by decide +kernel) (Nat.le_of_ble_eq_true rfl) (fun p e9 s m below meth c F hr hlocks hK ls hl => ?_)
  have hl : lv_has ls 5 [(0, .ref (u 32)), (1, .int k), (2, .int (nI fo))] := hl
  have hx := F.1
  have hb := F.2.1
  have hinV : ∀ w ∈ wsX00, w ∈ wsX0_thingsKept := by decide +kernel
  refine lv_iconst (v := 0) hx hb dX0_thingsKept_0 (by decide) ?_
  refine lv_istore_n (lv' := [(3, .int 0), (0, .ref (u 32)), (1, .int k), (2, .int (nI fo))]) hx hb dX0_thingsKept_1 rfl hl (by decide) rfl (fun ls hl => ?_)
  refine lv_iload_n hx hb dX0_thingsKept_2 rfl (lv_at hl 3 rfl) ?_
  refine lv_istore (lv' := [(4, .int (nI fo)), (3, .int 0), (0, .ref (u 32)), (1, .int k), (2, .int (nI fo))]) hx hb dX0_thingsKept_3 hl (by decide) rfl (fun ls hl => ?_)
  have L5_u_1 : ∀ (k9u_1 : Nat) (t : Nat) (y : Nat) (i : Nat) (ls : Array Slot), 5 - i < k9u_1 → i ≤ 5 → t = fo + 8 * i → y = foldU (vkStep V k fo) 0 i → lv_has ls 5 [(3, .int (nI y)), (4, .int (nI t)), (0, .ref (u 32)), (1, .int k), (2, .int (nI fo))] → roW p l e9 0 0 s m [.ref (u 32), .int k, .int (nI fo)] below meth c H (nI (vKeptN V k fo)) (F0 m 5 ls []) := by
    intro k9u_1
    induction k9u_1 with
    | zero => intro t y i ls hk; exact absurd hk (Nat.not_lt_zero _)
    | succ k9u_1 ihu_1 =>
      intro t y i ls hk hi ht hf  hl
      refine lv_iload hx hb dX0_thingsKept_5 (lv_at hl 1 rfl) ?_
      refine lv_bipush (v := 40) hx hb dX0_thingsKept_7 (by decide) ?_
      refine lw_ge (tgt := 32) hx hb t 40 (by omega) (by omega) dX0_thingsKept_9 (by decide) (fun c_2 => ?_) (fun c_2 => ?_)
      · skip
        refine lv_iload_n hx hb dX0_thingsKept_32 rfl (lv_at hl 0 rfl) ?_
        exact ro_reti F hr hlocks (by rw [hf, show i = 5 by omega]; rfl) dX0_thingsKept_33
      · skip
        refine lv_aload_n hx hb dX0_thingsKept_12 rfl (lv_at hl 2 rfl) ?_
        refine vg_get F hK hinV hV 2 (by decide) (by decide +kernel) rfl dX0_thingsKept_13 ?_
        refine lv_iload hx hb dX0_thingsKept_16 (lv_at hl 1 rfl) ?_
        refine cg_ald F hK hV 3 40 rfl t rfl (by omega) (by decide) dX0_thingsKept_18 ?_
        refine lv_iload_n hx hb dX0_thingsKept_19 rfl (lv_at hl 3 rfl) ?_
        refine lv_icmp_ne (tgt := 26) hx hb dX0_thingsKept_20 (by decide) (fun c_3 => ?_) (fun c_3 => ?_)
        · skip
          refine lv_iinc (v := nI (t + 8)) (lv' := [(4, .int (nI (t + 8))), (3, .int (nI y)), (0, .ref (u 32)), (1, .int k), (2, .int (nI fo))]) hx hb dX0_thingsKept_26 hl (k := 1) rfl (show nI t + Int32.ofInt 8 = _ from nI_add t 8) (by decide) rfl (fun ls hl => ?_)
          refine lv_goto (tgt := 5) hx hb dX0_thingsKept_29 (by decide) ?_
          exact ihu_1  (t + 8) y (i + 1)  ls (by omega) (by first | omega | assumption) (by first | omega | assumption) (by rw [foldU_s, ← hf]; subst ht; simp [vkStep, c_2, c_3])  (lv_sub hl [1, 0, 2, 3, 4] rfl)
        · skip
          refine lv_iinc (v := nI (y + 1)) (lv' := [(3, .int (nI (y + 1))), (4, .int (nI t)), (0, .ref (u 32)), (1, .int k), (2, .int (nI fo))]) hx hb dX0_thingsKept_23 hl (k := 0) rfl (show nI y + Int32.ofInt 1 = _ from nI_add y 1) (by decide) rfl (fun ls hl => ?_)
          refine lv_iinc (v := nI (t + 8)) (lv' := [(4, .int (nI (t + 8))), (3, .int (nI (y + 1))), (0, .ref (u 32)), (1, .int k), (2, .int (nI fo))]) hx hb dX0_thingsKept_26 hl (k := 1) rfl (show nI t + Int32.ofInt 8 = _ from nI_add t 8) (by decide) rfl (fun ls hl => ?_)
          refine lv_goto (tgt := 5) hx hb dX0_thingsKept_29 (by decide) ?_
          exact ihu_1  (t + 8) (y + 1) (i + 1)  ls (by omega) (by first | omega | assumption) (by first | omega | assumption) (by rw [foldU_s, ← hf]; subst ht; simp [vkStep, c_2, c_3])  (lv_sub hl [1, 0, 2, 3, 4] rfl)
  exact L5_u_1 _ fo 0 0  ls (Nat.lt_succ_self _) (by first | omega | assumption) (by first | omega | assumption) (rfl)  (lv_sub hl [1, 0, 2, 3, 4] rfl)
set_option maxHeartbeats 4000000 in
set_option maxRecDepth 100000 in
theorem cc_X0_isAhead {l : Launch} {D : va_G} {cI cII : ClassId} {H : Heap} {u : Nat → Nat} {V : Nat → Nat → Int32} {pq sp : Int32} (hV : va_P D vwCl (vX u cI V pq sp) H) {dy : Nat → Int32} (hDy : va_P D vwCl [(u 12, .inl (cI, 20, .inl dy))] H) (k : Nat) (o : Nat) (hk : k < 20) (ho : o < 20) : ro_Met l yX0_isAhead wsX0_isAhead 2 45 D (cT cI cII) H [.ref (u 32), .int (nI k), .int (nI o), .ref (u 12)] (bI (vAhead V dy k o)) := by
  refine ro_start rfl (by decide +kernel) (Nat.le_of_ble_eq_true rfl) (fun p e9 s m below meth c F hr hlocks hK ls hl => ?_)
  have hl : lv_has ls 8 [(0, .ref (u 32)), (1, .int (nI k)), (2, .int (nI o)), (3, .ref (u 12))] := hl
  have hx := F.1
  have hb := F.2.1
  have hinV : ∀ w ∈ wsX00, w ∈ wsX0_isAhead := by decide +kernel
  refine lv_aload_n hx hb dX0_isAhead_0 rfl (lv_at hl 3 rfl) ?_
  refine lv_iload_n hx hb dX0_isAhead_1 rfl (lv_at hl 1 rfl) ?_
  refine cg_ald F hK hDy 0 20 rfl k rfl (by omega) (by decide) dX0_isAhead_2 ?_
  refine lv_istore (lv' := [(4, .int (dy k)), (0, .ref (u 32)), (1, .int (nI k)), (2, .int (nI o)), (3, .ref (u 12))]) hx hb dX0_isAhead_3 hl (by decide) rfl (fun ls hl => ?_)
  refine lv_aload_n hx hb dX0_isAhead_5 rfl (lv_at hl 4 rfl) ?_
  refine lv_iload_n hx hb dX0_isAhead_6 rfl (lv_at hl 3 rfl) ?_
  refine cg_ald F hK hDy 0 20 rfl o rfl (by omega) (by decide) dX0_isAhead_7 ?_
  refine lv_istore (lv' := [(5, .int (dy o)), (4, .int (dy k)), (0, .ref (u 32)), (1, .int (nI k)), (2, .int (nI o)), (3, .ref (u 12))]) hx hb dX0_isAhead_8 hl (by decide) rfl (fun ls hl => ?_)
  refine lv_aload_n hx hb dX0_isAhead_10 rfl (lv_at hl 2 rfl) ?_
  refine lv_iload hx hb dX0_isAhead_11 (lv_at hl 1 rfl) ?_
  refine ro_callV F hK [.int (dy k)] (cc_X0_guestsOn hV (dy k) ) (cwV 1 F.2.2.2.2 gX0_isAhead_X0_guestsOn rfl rfl rfl (by decide +kernel) ⟨Nat.le_of_ble_eq_true rfl, Nat.le_of_ble_eq_true rfl⟩) (vg_rc hK hV) rfl hl.1 rfl (lv_room (Nat.le_of_ble_eq_true rfl)) ⟨Nat.zero_le _, Nat.zero_le _⟩ dX0_isAhead_13 ?_
  refine ro_callS F hK [.int (vGuests V (dy k))] (cc_J6_bitCount_0f7a4 (vGuests V (dy k)) ) (va_cwS 1 F.2.2.2.2 gX0_isAhead_J6_bitCount_0f7a4 rfl rfl rfl (by decide +kernel) ⟨Nat.le_of_ble_eq_true rfl, Nat.le_of_ble_eq_true rfl⟩) rfl hl.1 rfl (lv_room (Nat.le_of_ble_eq_true rfl)) ⟨Nat.zero_le _, Nat.zero_le _⟩ dX0_isAhead_16 ?_
  refine lv_istore (lv' := [(6, .int (bcI (vGuests V (dy k)))), (5, .int (dy o)), (4, .int (dy k)), (0, .ref (u 32)), (1, .int (nI k)), (2, .int (nI o)), (3, .ref (u 12))]) hx hb dX0_isAhead_19 hl (by decide) rfl (fun ls hl => ?_)
  refine lv_aload_n hx hb dX0_isAhead_21 rfl (lv_at hl 3 rfl) ?_
  refine lv_iload hx hb dX0_isAhead_22 (lv_at hl 1 rfl) ?_
  refine ro_callV F hK [.int (dy o)] (cc_X0_guestsOn hV (dy o) ) (cwV 1 F.2.2.2.2 gX0_isAhead_X0_guestsOn rfl rfl rfl (by decide +kernel) ⟨Nat.le_of_ble_eq_true rfl, Nat.le_of_ble_eq_true rfl⟩) (vg_rc hK hV) rfl hl.1 rfl (lv_room (Nat.le_of_ble_eq_true rfl)) ⟨Nat.zero_le _, Nat.zero_le _⟩ dX0_isAhead_24 ?_
  refine ro_callS F hK [.int (vGuests V (dy o))] (cc_J6_bitCount_0f7a4 (vGuests V (dy o)) ) (va_cwS 1 F.2.2.2.2 gX0_isAhead_J6_bitCount_0f7a4 rfl rfl rfl (by decide +kernel) ⟨Nat.le_of_ble_eq_true rfl, Nat.le_of_ble_eq_true rfl⟩) rfl hl.1 rfl (lv_room (Nat.le_of_ble_eq_true rfl)) ⟨Nat.zero_le _, Nat.zero_le _⟩ dX0_isAhead_27 ?_
  refine lv_istore (lv' := [(7, .int (bcI (vGuests V (dy o)))), (6, .int (bcI (vGuests V (dy k)))), (5, .int (dy o)), (4, .int (dy k)), (0, .ref (u 32)), (1, .int (nI k)), (2, .int (nI o)), (3, .ref (u 12))]) hx hb dX0_isAhead_30 hl (by decide) rfl (fun ls hl => ?_)
  refine lv_iload hx hb dX0_isAhead_32 (lv_at hl 1 rfl) ?_
  refine lv_iload hx hb dX0_isAhead_34 (lv_at hl 0 rfl) ?_
  refine lv_icmp_eq (tgt := 52) hx hb dX0_isAhead_36 (by decide) (fun c_1 => ?_) (fun c_1 => ?_)
  · skip
    refine lv_iload hx hb dX0_isAhead_52 (lv_at hl 3 rfl) ?_
    refine lv_iload hx hb dX0_isAhead_54 (lv_at hl 2 rfl) ?_
    refine lv_icmp_eq (tgt := 74) hx hb dX0_isAhead_56 (by decide) (fun c_2 => ?_) (fun c_2 => ?_)
    · skip
      refine lv_aload_n hx hb dX0_isAhead_74 rfl (lv_at hl 4 rfl) ?_
      refine vg_get F hK hinV hV 7 (by decide) (by decide +kernel) rfl dX0_isAhead_75 ?_
      refine lv_iload_n hx hb dX0_isAhead_78 rfl (lv_at hl 5 rfl) ?_
      refine cg_ald F hK hV 8 20 rfl k rfl (by omega) (by decide) dX0_isAhead_79 ?_
      refine lv_aload_n hx hb dX0_isAhead_80 rfl (lv_at hl 4 rfl) ?_
      refine vg_get F hK hinV hV 7 (by decide) (by decide +kernel) rfl dX0_isAhead_81 ?_
      refine lv_iload_n hx hb dX0_isAhead_84 rfl (lv_at hl 6 rfl) ?_
      refine cg_ald F hK hV 8 20 rfl o rfl (by omega) (by decide) dX0_isAhead_85 ?_
      refine lv_icmp_ge (tgt := 93) hx hb dX0_isAhead_86 (by decide) (fun c_3 => ?_) (fun c_3 => ?_)
      · skip
        refine lv_iconst (v := 0) hx hb dX0_isAhead_93 (by decide) ?_
        exact ro_retz F hr hlocks (by simp [vAhead, bI, c_1, c_2, c_3]) dX0_isAhead_94
      · skip
        refine lv_iconst (v := 1) hx hb dX0_isAhead_89 (by decide) ?_
        refine lv_goto (tgt := 94) hx hb dX0_isAhead_90 (by decide) ?_
        exact ro_retz F hr hlocks (by simp [vAhead, bI, c_1, c_2, c_3]) dX0_isAhead_94
    · skip
      refine lv_iload hx hb dX0_isAhead_59 (lv_at hl 3 rfl) ?_
      refine lv_iload hx hb dX0_isAhead_61 (lv_at hl 2 rfl) ?_
      refine lv_icmp_ge (tgt := 70) hx hb dX0_isAhead_63 (by decide) (fun c_4 => ?_) (fun c_4 => ?_)
      · skip
        refine lv_iconst (v := 0) hx hb dX0_isAhead_70 (by decide) ?_
        refine lv_goto (tgt := 94) hx hb dX0_isAhead_71 (by decide) ?_
        exact ro_retz F hr hlocks (by simp [vAhead, bI, c_1, c_2, c_4]) dX0_isAhead_94
      · skip
        refine lv_iconst (v := 1) hx hb dX0_isAhead_66 (by decide) ?_
        refine lv_goto (tgt := 94) hx hb dX0_isAhead_67 (by decide) ?_
        exact ro_retz F hr hlocks (by simp [vAhead, bI, c_1, c_2, c_4]) dX0_isAhead_94
  · skip
    refine lv_iload hx hb dX0_isAhead_39 (lv_at hl 1 rfl) ?_
    refine lv_iload hx hb dX0_isAhead_41 (lv_at hl 0 rfl) ?_
    refine lv_icmp_le (tgt := 50) hx hb dX0_isAhead_43 (by decide) (fun c_5 => ?_) (fun c_5 => ?_)
    · skip
      refine lv_iconst (v := 0) hx hb dX0_isAhead_50 (by decide) ?_
      exact ro_retz F hr hlocks (by simp [vAhead, bI, c_1, c_5]) dX0_isAhead_51
    · skip
      refine lv_iconst (v := 1) hx hb dX0_isAhead_46 (by decide) ?_
      refine lv_goto (tgt := 51) hx hb dX0_isAhead_47 (by decide) ?_
      exact ro_retz F hr hlocks (by simp [vAhead, bI, c_1, c_5]) dX0_isAhead_51
set_option maxHeartbeats 4000000 in
set_option maxRecDepth 100000 in
theorem cc_X1_isLaterThan {l : Launch} {D : va_G} {cI cII : ClassId} {H : Heap} {L : List Nat} {w : Nat → Nat → Int32} {nx : Nat → Option Nat} (hW : va_P D vwCl (wX L w nx) H) (x : Nat) (y : Nat) (hx9 : x ∈ L) (hy9 : y ∈ L) : ro_Met l yX1_isLaterThan wsX1_isLaterThan 0 0 D (cT cI cII) H [.ref x, .ref y] (bI (wLater (w x) (w y))) := by
  refine ro_start rfl (by decide +kernel) (Nat.le_of_ble_eq_true rfl) (fun p e9 s m below meth c F hr hlocks hK ls hl => ?_)
  have hl : lv_has ls 2 [(0, .ref x), (1, .ref y)] := hl
  have hx := F.1
  have hb := F.2.1
  have hinW : ∀ w ∈ wsX10, w ∈ wsX1_isLaterThan := by decide +kernel
  refine lv_aload_n hx hb dX1_isLaterThan_0 rfl (lv_at hl 0 rfl) ?_
  refine wg_get F hK hinW hW hx9 1 (by decide) (by decide +kernel) rfl dX1_isLaterThan_1 ?_
  refine lv_aload_n hx hb dX1_isLaterThan_4 rfl (lv_at hl 1 rfl) ?_
  refine wg_get F hK hinW hW hy9 1 (by decide) (by decide +kernel) rfl dX1_isLaterThan_5 ?_
  refine lv_icmp_eq (tgt := 30) hx hb dX1_isLaterThan_8 (by decide) (fun c_1 => ?_) (fun c_1 => ?_)
  · skip
    refine lv_aload_n hx hb dX1_isLaterThan_30 rfl (lv_at hl 0 rfl) ?_
    refine wg_get F hK hinW hW hx9 2 (by decide) (by decide +kernel) rfl dX1_isLaterThan_31 ?_
    refine lv_aload_n hx hb dX1_isLaterThan_34 rfl (lv_at hl 1 rfl) ?_
    refine wg_get F hK hinW hW hy9 2 (by decide) (by decide +kernel) rfl dX1_isLaterThan_35 ?_
    refine lv_icmp_le (tgt := 45) hx hb dX1_isLaterThan_38 (by decide) (fun c_2 => ?_) (fun c_2 => ?_)
    · skip
      refine lv_iconst (v := 0) hx hb dX1_isLaterThan_45 (by decide) ?_
      exact ro_retz F hr hlocks (by simp [wLater, bI, c_1, c_2]) dX1_isLaterThan_46
    · skip
      refine lv_iconst (v := 1) hx hb dX1_isLaterThan_41 (by decide) ?_
      refine lv_goto (tgt := 46) hx hb dX1_isLaterThan_42 (by decide) ?_
      exact ro_retz F hr hlocks (by simp [wLater, bI, c_1, c_2]) dX1_isLaterThan_46
  · skip
    refine lv_aload_n hx hb dX1_isLaterThan_11 rfl (lv_at hl 0 rfl) ?_
    refine wg_get F hK hinW hW hx9 1 (by decide) (by decide +kernel) rfl dX1_isLaterThan_12 ?_
    refine lv_aload_n hx hb dX1_isLaterThan_15 rfl (lv_at hl 1 rfl) ?_
    refine wg_get F hK hinW hW hy9 1 (by decide) (by decide +kernel) rfl dX1_isLaterThan_16 ?_
    refine lv_icmp_le (tgt := 26) hx hb dX1_isLaterThan_19 (by decide) (fun c_3 => ?_) (fun c_3 => ?_)
    · skip
      refine lv_iconst (v := 0) hx hb dX1_isLaterThan_26 (by decide) ?_
      refine lv_goto (tgt := 46) hx hb dX1_isLaterThan_27 (by decide) ?_
      exact ro_retz F hr hlocks (by simp [wLater, bI, c_1, c_3]) dX1_isLaterThan_46
    · skip
      refine lv_iconst (v := 1) hx hb dX1_isLaterThan_22 (by decide) ?_
      refine lv_goto (tgt := 46) hx hb dX1_isLaterThan_23 (by decide) ?_
      exact ro_retz F hr hlocks (by simp [wLater, bI, c_1, c_3]) dX1_isLaterThan_46
set_option maxHeartbeats 4000000 in
set_option maxRecDepth 100000 in
theorem cc_X2_sizeKnownTo {l : Launch} {D : va_G} {cI cII : ClassId} {H : Heap} {u : Nat → Nat} {cn : Nat} {e : Option Nat} {sz : Nat} {b : Nat → Nat → Int32} (hC : va_P D vwCl (cX u cI cII cn e sz b) H) {L : List Nat} {w : Nat → Nat → Int32} {nx : Nat → Option Nat} (hW : va_P D vwCl (wX L w nx) H) (fr : Int32) (hch : chn nx L) (he : e = L.head?) : ro_Met l yX2_sizeKnownTo wsX2_sizeKnownTo 0 0 D (cT cI cII) H [.ref (u 31), .int fr] (nI (skF w fr L)) := by
  refine ro_start rfl (by decide +kernel) (Nat.le_of_ble_eq_true rfl) (fun p e9 s m below meth c F hr hlocks hK ls hl => ?_)
  have hl : lv_has ls 4 [(0, .ref (u 31)), (1, .int fr)] := hl
  have hx := F.1
  have hb := F.2.1
  have hinK : ∀ w ∈ wsX20, w ∈ wsX2_sizeKnownTo := by decide +kernel
  have hinW : ∀ w ∈ wsX10, w ∈ wsX2_sizeKnownTo := by decide +kernel
  refine lv_iconst (v := 0) hx hb dX2_sizeKnownTo_0 (by decide) ?_
  refine lv_istore_n (lv' := [(2, .int 0), (0, .ref (u 31)), (1, .int fr)]) hx hb dX2_sizeKnownTo_1 rfl hl (by decide) rfl (fun ls hl => ?_)
  refine lv_aload_n hx hb dX2_sizeKnownTo_2 rfl (lv_at hl 1 rfl) ?_
  refine kg_get F hK hinK hC 0 (by decide) (by decide +kernel) rfl dX2_sizeKnownTo_3 ?_
  refine lw_V (v' := va_rf L.head?) (by rw [he]) ?_
  refine lw_astore_nR (lv' := [(3, va_rf (L.head?)), (2, .int 0), (0, .ref (u 31)), (1, .int fr)]) hx hb dX2_sizeKnownTo_6 rfl hl (by decide) rfl (fun ls hl => ?_)
  have L7_u_1 : ∀ (k9u_1 : Nat) (M : List Nat) (y : Nat) (ls : Array Slot), M.length < k9u_1 → (∀ z, z ∈ M → z ∈ L) → chn nx M → y + skF w fr M = skF w fr L → lv_has ls 4 [(2, .int (nI y)), (3, va_rf (M.head?)), (0, .ref (u 31)), (1, .int fr)] → roW p l e9 0 0 s m [.ref (u 31), .int fr] below meth c H (nI (skF w fr L)) (F0 m 7 ls []) := by
    intro k9u_1
    induction k9u_1 with
    | zero => intro M y ls hk; exact absurd hk (Nat.not_lt_zero _)
    | succ k9u_1 ihu_1 =>
      intro M y ls hk hsub hch9 hf  hl
      refine lw_aload_nR hx hb dX2_sizeKnownTo_7 rfl (lv_at hl 1 rfl) ?_
      refine lw_ifnullR (tgt := 31) hx hb dX2_sizeKnownTo_8 (by decide) (fun c_2 => ?_) (fun x c_2 => ?_)
      · skip
        rw [c_2] at hl
        have hl : lv_has ls 4 [(2, .int (nI y)), (3, .null), (0, .ref (u 31)), (1, .int fr)] := hl
        have hM : M = [] := by cases M with | nil => rfl | cons z M2 => cases c_2
        subst hM
        refine lv_iload_n hx hb dX2_sizeKnownTo_31 rfl (lv_at hl 0 rfl) ?_
        exact ro_reti F hr hlocks (by rw [← hf]; rfl) dX2_sizeKnownTo_32
      · skip
        rw [c_2] at hl
        have hl : lv_has ls 4 [(2, .int (nI y)), (3, .ref x), (0, .ref (u 31)), (1, .int fr)] := hl
        obtain ⟨M2, rfl⟩ : ∃ M2, M = x :: M2 := by cases M with | nil => cases c_2 | cons z M2 => cases c_2; exact ⟨M2, rfl⟩
        refine lv_aload_n hx hb dX2_sizeKnownTo_11 rfl (lv_at hl 1 rfl) ?_
        refine wg_get F hK hinW hW (hsub x List.mem_cons_self) 8 (by decide) (by decide +kernel) rfl dX2_sizeKnownTo_12 ?_
        refine lv_iload_n hx hb dX2_sizeKnownTo_15 rfl (lv_at hl 3 rfl) ?_
        refine lv_iand hx hb dX2_sizeKnownTo_16 ?_
        refine lv_if_eq (tgt := 23) hx hb dX2_sizeKnownTo_17 (by decide) (fun c_3 => ?_) (fun c_3 => ?_)
        · skip
          refine lv_aload_n hx hb dX2_sizeKnownTo_23 rfl (lv_at hl 1 rfl) ?_
          refine wg_get F hK hinW hW (hsub x List.mem_cons_self) 9 (by decide) (by decide +kernel) rfl dX2_sizeKnownTo_24 ?_
          refine lw_V (v' := va_rf M2.head?) (by rw [hch9.1]) ?_
          refine lw_astore_nR (lv' := [(3, va_rf (M2.head?)), (2, .int (nI y)), (0, .ref (u 31)), (1, .int fr)]) hx hb dX2_sizeKnownTo_27 rfl hl (by decide) rfl (fun ls hl => ?_)
          refine lv_goto (tgt := 7) hx hb dX2_sizeKnownTo_28 (by decide) ?_
          exact ihu_1  M2 y  ls (by have z := hk; simp at z; omega) (fun z hz => hsub z (List.mem_cons_of_mem _ hz)) (hch9.2) (by have z := hf; simp [skF, c_3] at z; omega)  (lv_sub hl [1, 0, 2, 3] rfl)
        · skip
          refine lv_iinc (v := nI (y + 1)) (lv' := [(2, .int (nI (y + 1))), (3, .ref x), (0, .ref (u 31)), (1, .int fr)]) hx hb dX2_sizeKnownTo_20 hl (k := 0) rfl (show nI y + Int32.ofInt 1 = _ from nI_add y 1) (by decide) rfl (fun ls hl => ?_)
          refine lv_aload_n hx hb dX2_sizeKnownTo_23 rfl (lv_at hl 1 rfl) ?_
          refine wg_get F hK hinW hW (hsub x List.mem_cons_self) 9 (by decide) (by decide +kernel) rfl dX2_sizeKnownTo_24 ?_
          refine lw_V (v' := va_rf M2.head?) (by rw [hch9.1]) ?_
          refine lw_astore_nR (lv' := [(3, va_rf (M2.head?)), (2, .int (nI (y + 1))), (0, .ref (u 31)), (1, .int fr)]) hx hb dX2_sizeKnownTo_27 rfl hl (by decide) rfl (fun ls hl => ?_)
          refine lv_goto (tgt := 7) hx hb dX2_sizeKnownTo_28 (by decide) ?_
          exact ihu_1  M2 (y + 1)  ls (by have z := hk; simp at z; omega) (fun z hz => hsub z (List.mem_cons_of_mem _ hz)) (hch9.2) (by have z := hf; simp [skF, c_3] at z; omega)  (lv_sub hl [1, 0, 2, 3] rfl)
  exact L7_u_1 _ L 0  ls (Nat.lt_succ_self _) (fun _ z => z) (hch) (Nat.zero_add _)  (lv_sub hl [1, 0, 2, 3] rfl)
set_option maxHeartbeats 4000000 in
set_option maxRecDepth 100000 in
theorem cc_X3_isDisliked {l : Launch} {D : va_G} {cI cII : ClassId} {H : Heap} {u : Nat → Nat} {V : Nat → Nat → Int32} {pq sp : Int32} (hV : va_P D vwCl (vX u cI V pq sp) H) {cn : Nat} {e : Option Nat} {sz : Nat} {b : Nat → Nat → Int32} (hC : va_P D vwCl (cX u cI cII cn e sz b) H) (r : Nat) (d : Int32) (hr : r < 6) : ro_Met l yX3_isDisliked wsX3_isDisliked 2 45 D (cT cI cII) H [.ref (u 30), .int (nI r), .int d] (bI (cDis V b r d)) := by
  refine ro_start rfl (by decide +kernel) (Nat.le_of_ble_eq_true rfl) (fun p e9 s m below meth c F hr hlocks hK ls hl => ?_)
  have hl : lv_has ls 5 [(0, .ref (u 30)), (1, .int (nI r)), (2, .int d)] := hl
  have hx := F.1
  have hb := F.2.1
  have hinV : ∀ w ∈ wsX00, w ∈ wsX3_isDisliked := by decide +kernel
  have hinO : ∀ w ∈ wsX30, w ∈ wsX3_isDisliked := by decide +kernel
  refine lv_aload_n hx hb dX3_isDisliked_0 rfl (lv_at hl 0 rfl) ?_
  refine og_get F hK hinO hC 1 (by decide) (by decide +kernel) rfl dX3_isDisliked_1 ?_
  refine lv_iload_n hx hb dX3_isDisliked_4 rfl (lv_at hl 2 rfl) ?_
  refine ro_callV F hK [.int d] (cc_X0_dislikedOn hV d ) (cwV 1 F.2.2.2.2 gX3_isDisliked_X0_dislikedOn rfl rfl rfl (by decide +kernel) ⟨Nat.le_of_ble_eq_true rfl, Nat.le_of_ble_eq_true rfl⟩) (vg_rc hK hV) rfl hl.1 rfl (lv_room (Nat.le_of_ble_eq_true rfl)) ⟨Nat.zero_le _, Nat.zero_le _⟩ dX3_isDisliked_5 ?_
  refine lv_istore_n (lv' := [(3, .int (vDisl V d)), (0, .ref (u 30)), (1, .int (nI r)), (2, .int d)]) hx hb dX3_isDisliked_8 rfl hl (by decide) rfl (fun ls hl => ?_)
  refine lv_iconst (v := 0) hx hb dX3_isDisliked_9 (by decide) ?_
  refine lv_istore (lv' := [(4, .int 0), (3, .int (vDisl V d)), (0, .ref (u 30)), (1, .int (nI r)), (2, .int d)]) hx hb dX3_isDisliked_10 hl (by decide) rfl (fun ls hl => ?_)
  have L12_u_1 : ∀ (k9u_1 : Nat) (i : Nat) (ls : Array Slot), 8 - i < k9u_1 → i ≤ 8 → foldU (fun f x => x || cdP V b r d f) false i = false → lv_has ls 5 [(4, .int (nI i)), (3, .int (vDisl V d)), (0, .ref (u 30)), (1, .int (nI r)), (2, .int d)] → roW p l e9 2 45 s m [.ref (u 30), .int (nI r), .int d] below meth c H (bI (cDis V b r d)) (F0 m 12 ls []) := by
    intro k9u_1
    induction k9u_1 with
    | zero => intro i ls hk; exact absurd hk (Nat.not_lt_zero _)
    | succ k9u_1 ihu_1 =>
      intro i ls hk hi hf  hl
      refine lv_iload hx hb dX3_isDisliked_12 (lv_at hl 0 rfl) ?_
      refine lv_bipush (v := 8) hx hb dX3_isDisliked_14 (by decide) ?_
      refine lw_ge (tgt := 48) hx hb i 8 (by omega) (by omega) dX3_isDisliked_16 (by decide) (fun c_2 => ?_) (fun c_2 => ?_)
      · skip
        refine lv_iconst (v := 0) hx hb dX3_isDisliked_48 (by decide) ?_
        exact ro_retz F hr hlocks (by have z : cDis V b r d = false := (by unfold cDis; rw [show (8 : Nat) = i by omega]; exact hf); rw [z]; rfl) dX3_isDisliked_49
      · skip
        refine lv_aload_n hx hb dX3_isDisliked_19 rfl (lv_at hl 2 rfl) ?_
        refine og_get F hK hinO hC 3 (by decide) (by decide +kernel) rfl dX3_isDisliked_20 ?_
        refine lv_iload_n hx hb dX3_isDisliked_23 rfl (lv_at hl 3 rfl) ?_
        refine cg_aald F hK hC r rfl (by omega) dX3_isDisliked_24 ?_
        refine lv_iload hx hb dX3_isDisliked_25 (lv_at hl 0 rfl) ?_
        refine cg_ald F hK (cPr hC (j := r) (by omega)) 0 8 rfl i rfl (by omega) (by decide) dX3_isDisliked_27 ?_
        refine lv_if_le (tgt := 42) hx hb dX3_isDisliked_28 (by decide) (fun c_3 => ?_) (fun c_3 => ?_)
        · skip
          refine lv_iinc (v := nI (i + 1)) (lv' := [(4, .int (nI (i + 1))), (3, .int (vDisl V d)), (0, .ref (u 30)), (1, .int (nI r)), (2, .int d)]) hx hb dX3_isDisliked_42 hl (k := 0) rfl (show nI i + Int32.ofInt 1 = _ from nI_add i 1) (by decide) rfl (fun ls hl => ?_)
          refine lv_goto (tgt := 12) hx hb dX3_isDisliked_45 (by decide) ?_
          exact ihu_1  (i + 1)  ls (by omega) (by first | omega | assumption) (by rw [foldU_s, hf]; simp [cdP, c_2, c_3])  (lv_sub hl [0, 1, 2, 3, 4] rfl)
        · skip
          refine lv_iload_n hx hb dX3_isDisliked_31 rfl (lv_at hl 1 rfl) ?_
          refine lv_iconst (v := 1) hx hb dX3_isDisliked_32 (by decide) ?_
          refine lv_iload hx hb dX3_isDisliked_33 (lv_at hl 0 rfl) ?_
          refine lv_ishl hx hb dX3_isDisliked_35 ?_
          refine lv_iand hx hb dX3_isDisliked_36 ?_
          refine lv_if_eq (tgt := 42) hx hb dX3_isDisliked_37 (by decide) (fun c_4 => ?_) (fun c_4 => ?_)
          · skip
            refine lv_iinc (v := nI (i + 1)) (lv' := [(4, .int (nI (i + 1))), (3, .int (vDisl V d)), (0, .ref (u 30)), (1, .int (nI r)), (2, .int d)]) hx hb dX3_isDisliked_42 hl (k := 0) rfl (show nI i + Int32.ofInt 1 = _ from nI_add i 1) (by decide) rfl (fun ls hl => ?_)
            refine lv_goto (tgt := 12) hx hb dX3_isDisliked_45 (by decide) ?_
            exact ihu_1  (i + 1)  ls (by omega) (by first | omega | assumption) (by rw [foldU_s, hf]; simp [cdP, c_2, c_3, c_4])  (lv_sub hl [0, 1, 2, 3, 4] rfl)
          · skip
            refine lv_iconst (v := 1) hx hb dX3_isDisliked_40 (by decide) ?_
            exact ro_retz F hr hlocks (by rw [show cDis V b r d = true from (foldU_or _ 8).mpr ⟨i, by omega, by simp [cdP, c_2, c_3, c_4]⟩]; rfl) dX3_isDisliked_41
  exact L12_u_1 _ 0  ls (Nat.lt_succ_self _) (by first | omega | assumption) (rfl)  (lv_sub hl [0, 1, 2, 3, 4] rfl)
set_option maxHeartbeats 4000000 in
set_option maxRecDepth 100000 in
theorem cc_X3_lacking {l : Launch} {D : va_G} {cI cII : ClassId} {H : Heap} {u : Nat → Nat} {V : Nat → Nat → Int32} {pq sp : Int32} (hV : va_P D vwCl (vX u cI V pq sp) H) {cn : Nat} {e : Option Nat} {sz : Nat} {b : Nat → Nat → Int32} (hC : va_P D vwCl (cX u cI cII cn e sz b) H) (k : Nat) (fo : Nat) (hk : k < 20) (hfo : fo < 8) (hR : ∃ r, r < 6 ∧ b 11 k = nI r) : ro_Met l yX3_lacking wsX3_lacking 1 24 D (cT cI cII) H [.ref (u 30), .int (nI k), .int (nI fo)] (cLack V b k fo) := by
  refine ro_start rfl (by decide +kernel) (Nat.le_of_ble_eq_true rfl) (fun p e9 s m below meth c F hr hlocks hK ls hl => ?_)
  have hl : lv_has ls 3 [(0, .ref (u 30)), (1, .int (nI k)), (2, .int (nI fo))] := hl
  have hx := F.1
  have hb := F.2.1
  have hinV : ∀ w ∈ wsX00, w ∈ wsX3_lacking := by decide +kernel
  have hinO : ∀ w ∈ wsX30, w ∈ wsX3_lacking := by decide +kernel
  refine lv_iconst (v := 0) hx hb dX3_lacking_0 (by decide) ?_
  refine lv_aload_n hx hb dX3_lacking_1 rfl (lv_at hl 0 rfl) ?_
  refine og_get F hK hinO hC 3 (by decide) (by decide +kernel) rfl dX3_lacking_2 ?_
  refine lv_aload_n hx hb dX3_lacking_5 rfl (lv_at hl 0 rfl) ?_
  refine og_get F hK hinO hC 4 (by decide) (by decide +kernel) rfl dX3_lacking_6 ?_
  refine lv_iload_n hx hb dX3_lacking_9 rfl (lv_at hl 1 rfl) ?_
  refine cg_ald F hK hC 3 20 rfl k rfl (by omega) (by decide) dX3_lacking_10 ?_
  obtain ⟨j_1, hj_1, ej_1⟩ := hR
  refine lw_N j_1 ej_1 ?_
  have nj_1 : jn (b 11 k) = j_1 := by rw [ej_1]; exact jn_nI (by omega)
  refine cg_aald F hK hC j_1 rfl (by omega) dX3_lacking_11 ?_
  refine lv_iload_n hx hb dX3_lacking_12 rfl (lv_at hl 2 rfl) ?_
  refine cg_ald F hK (cPr hC (j := j_1) (by omega)) 0 8 rfl fo rfl (by omega) (by decide) dX3_lacking_13 ?_
  refine lv_aload_n hx hb dX3_lacking_14 rfl (lv_at hl 0 rfl) ?_
  refine og_get F hK hinO hC 1 (by decide) (by decide +kernel) rfl dX3_lacking_15 ?_
  refine lv_iload_n hx hb dX3_lacking_18 rfl (lv_at hl 1 rfl) ?_
  refine lv_iload_n hx hb dX3_lacking_19 rfl (lv_at hl 2 rfl) ?_
  refine ro_callV F hK [.int (nI k), .int (nI fo)] (cc_X0_thingsKept hV (nI k) fo (by first | assumption | omega)) (cwV 2 F.2.2.2.2 gX3_lacking_X0_thingsKept rfl rfl rfl (by decide +kernel) ⟨Nat.le_of_ble_eq_true rfl, Nat.le_of_ble_eq_true rfl⟩) (vg_rc hK hV) rfl hl.1 rfl (lv_room (Nat.le_of_ble_eq_true rfl)) ⟨Nat.zero_le _, Nat.zero_le _⟩ dX3_lacking_20 ?_
  refine lv_isub hx hb dX3_lacking_23 ?_
  refine va_mmax hx hb (F.2.2.1.trans hl.1.symm) F.2.2.2.1 (F.2.2.2.2 (.methodLink RX3 89 Lib.Math.max.name) (by decide +kernel)) (F.2.2.2.2 (.static Lib.Math.max.name) (by decide +kernel)) (F.2.2.2.2 (.initialized "java/lang/Math") (by decide +kernel)) (F.2.2.2.2 (.code Lib.Math.max.name Lib.Math.max.code 2 (some .int)) (by decide +kernel)) (Nat.le_of_ble_eq_true rfl) (Nat.le_of_ble_eq_true rfl) (Nat.zero_le _) (Nat.zero_le _) dX3_lacking_24 ?_
  exact ro_reti F hr hlocks (by simp [cLack, nj_1]) dX3_lacking_27
set_option maxHeartbeats 4000000 in
set_option maxRecDepth 100000 in
theorem cc_X3_keptInAll {l : Launch} {D : va_G} {cI cII : ClassId} {H : Heap} {u : Nat → Nat} {V : Nat → Nat → Int32} {pq sp : Int32} (hV : va_P D vwCl (vX u cI V pq sp) H) {cn : Nat} {e : Option Nat} {sz : Nat} {b : Nat → Nat → Int32} (hC : va_P D vwCl (cX u cI cII cn e sz b) H) (k : Int32)  : ro_Met l yX3_keptInAll wsX3_keptInAll 1 24 D (cT cI cII) H [.ref (u 30), .int k] (nI (cKeptAll V k)) := by
  refine ro_start rfl (by decide +kernel) (Nat.le_of_ble_eq_true rfl) (fun p e9 s m below meth c F hr hlocks hK ls hl => ?_)
  have hl : lv_has ls 4 [(0, .ref (u 30)), (1, .int k)] := hl
  have hx := F.1
  have hb := F.2.1
  have hinV : ∀ w ∈ wsX00, w ∈ wsX3_keptInAll := by decide +kernel
  have hinO : ∀ w ∈ wsX30, w ∈ wsX3_keptInAll := by decide +kernel
  refine lv_iconst (v := 0) hx hb dX3_keptInAll_0 (by decide) ?_
  refine lv_istore_n (lv' := [(2, .int 0), (0, .ref (u 30)), (1, .int k)]) hx hb dX3_keptInAll_1 rfl hl (by decide) rfl (fun ls hl => ?_)
  refine lv_iconst (v := 0) hx hb dX3_keptInAll_2 (by decide) ?_
  refine lv_istore_n (lv' := [(3, .int 0), (2, .int 0), (0, .ref (u 30)), (1, .int k)]) hx hb dX3_keptInAll_3 rfl hl (by decide) rfl (fun ls hl => ?_)
  have L4_u_1 : ∀ (k9u_1 : Nat) (i : Nat) (y : Nat) (ls : Array Slot), 8 - i < k9u_1 → i ≤ 8 → y = foldU (kaStep V k) 0 i → lv_has ls 4 [(2, .int (nI y)), (3, .int (nI i)), (0, .ref (u 30)), (1, .int k)] → roW p l e9 1 24 s m [.ref (u 30), .int k] below meth c H (nI (cKeptAll V k)) (F0 m 4 ls []) := by
    intro k9u_1
    induction k9u_1 with
    | zero => intro i y ls hk; exact absurd hk (Nat.not_lt_zero _)
    | succ k9u_1 ihu_1 =>
      intro i y ls hk hi hf  hl
      refine lv_iload_n hx hb dX3_keptInAll_4 rfl (lv_at hl 1 rfl) ?_
      refine lv_bipush (v := 8) hx hb dX3_keptInAll_5 (by decide) ?_
      refine lw_ge (tgt := 28) hx hb i 8 (by omega) (by omega) dX3_keptInAll_7 (by decide) (fun c_2 => ?_) (fun c_2 => ?_)
      · skip
        refine lv_iload_n hx hb dX3_keptInAll_28 rfl (lv_at hl 0 rfl) ?_
        exact ro_reti F hr hlocks (by rw [hf, show i = 8 by omega]; rfl) dX3_keptInAll_29
      · skip
        refine lv_iload_n hx hb dX3_keptInAll_10 rfl (lv_at hl 0 rfl) ?_
        refine lv_aload_n hx hb dX3_keptInAll_11 rfl (lv_at hl 2 rfl) ?_
        refine og_get F hK hinO hC 1 (by decide) (by decide +kernel) rfl dX3_keptInAll_12 ?_
        refine lv_iload_n hx hb dX3_keptInAll_15 rfl (lv_at hl 3 rfl) ?_
        refine lv_iload_n hx hb dX3_keptInAll_16 rfl (lv_at hl 1 rfl) ?_
        refine ro_callV F hK [.int k, .int (nI i)] (cc_X0_thingsKept hV k i (by first | assumption | omega)) (cwV 2 F.2.2.2.2 gX3_keptInAll_X0_thingsKept rfl rfl rfl (by decide +kernel) ⟨Nat.le_of_ble_eq_true rfl, Nat.le_of_ble_eq_true rfl⟩) (vg_rc hK hV) rfl hl.1 rfl (lv_room (Nat.le_of_ble_eq_true rfl)) ⟨Nat.zero_le _, Nat.zero_le _⟩ dX3_keptInAll_17 ?_
        refine lw_add hx hb (i := y) (j := (vKeptN V k i)) dX3_keptInAll_20 ?_
        refine lv_istore_n (lv' := [(2, .int (nI (y + (vKeptN V k i)))), (3, .int (nI i)), (0, .ref (u 30)), (1, .int k)]) hx hb dX3_keptInAll_21 rfl hl (by decide) rfl (fun ls hl => ?_)
        refine lv_iinc (v := nI (i + 1)) (lv' := [(3, .int (nI (i + 1))), (2, .int (nI (y + (vKeptN V k i)))), (0, .ref (u 30)), (1, .int k)]) hx hb dX3_keptInAll_22 hl (k := 1) rfl (show nI i + Int32.ofInt 1 = _ from nI_add i 1) (by decide) rfl (fun ls hl => ?_)
        refine lv_goto (tgt := 4) hx hb dX3_keptInAll_25 (by decide) ?_
        exact ihu_1  (i + 1) (y + (vKeptN V k i))  ls (by omega) (by first | omega | assumption) (by rw [foldU_s, ← hf]; rfl)  (lv_sub hl [1, 0, 2, 3] rfl)
  exact L4_u_1 _ 0 0  ls (Nat.lt_succ_self _) (by first | omega | assumption) (rfl)  (lv_sub hl [1, 0, 2, 3] rfl)
set_option maxHeartbeats 4000000 in
set_option maxRecDepth 100000 in
theorem cc_X3_keepable {l : Launch} {D : va_G} {cI cII : ClassId} {H : Heap} {u : Nat → Nat} {V : Nat → Nat → Int32} {pq sp : Int32} (hV : va_P D vwCl (vX u cI V pq sp) H) {cn : Nat} {e : Option Nat} {sz : Nat} {b : Nat → Nat → Int32} (hC : va_P D vwCl (cX u cI cII cn e sz b) H) (k : Nat) (fo : Nat) (hk : k < 20) (hfo : fo < 8) (hR : ∃ r, r < 6 ∧ b 11 k = nI r) : ro_Met l yX3_keepable wsX3_keepable 2 46 D (cT cI cII) H [.ref (u 30), .int (nI k), .int (nI fo)] (cKeepable V b k fo) := by
  refine ro_start rfl (by decide +kernel) (Nat.le_of_ble_eq_true rfl) (fun p e9 s m below meth c F hr hlocks hK ls hl => ?_)
  have hl : lv_has ls 3 [(0, .ref (u 30)), (1, .int (nI k)), (2, .int (nI fo))] := hl
  have hx := F.1
  have hb := F.2.1
  have hinV : ∀ w ∈ wsX00, w ∈ wsX3_keepable := by decide +kernel
  have hinO : ∀ w ∈ wsX30, w ∈ wsX3_keepable := by decide +kernel
  refine lv_aload_n hx hb dX3_keepable_0 rfl (lv_at hl 0 rfl) ?_
  refine lv_iload_n hx hb dX3_keepable_1 rfl (lv_at hl 1 rfl) ?_
  refine lv_iload_n hx hb dX3_keepable_2 rfl (lv_at hl 2 rfl) ?_
  refine ro_callV F hK [.int (nI k), .int (nI fo)] (cc_X3_lacking hV hC k fo (by first | assumption | omega) (by first | assumption | omega) (by first | assumption | omega)) (cwV 2 F.2.2.2.2 gX3_keepable_X3_lacking rfl rfl rfl (by decide +kernel) ⟨Nat.le_of_ble_eq_true rfl, Nat.le_of_ble_eq_true rfl⟩) (og_rc hK hC) rfl hl.1 rfl (lv_room (Nat.le_of_ble_eq_true rfl)) ⟨Nat.zero_le _, Nat.zero_le _⟩ dX3_keepable_3 ?_
  refine lv_aload_n hx hb dX3_keepable_6 rfl (lv_at hl 0 rfl) ?_
  refine og_get F hK hinO hC 1 (by decide) (by decide +kernel) rfl dX3_keepable_7 ?_
  refine lv_iload_n hx hb dX3_keepable_10 rfl (lv_at hl 2 rfl) ?_
  refine ro_callV F hK [.int (nI fo)] (cc_X0_thingsFree hV fo (by first | assumption | omega)) (cwV 1 F.2.2.2.2 gX3_keepable_X0_thingsFree rfl rfl rfl (by decide +kernel) ⟨Nat.le_of_ble_eq_true rfl, Nat.le_of_ble_eq_true rfl⟩) (vg_rc hK hV) rfl hl.1 rfl (lv_room (Nat.le_of_ble_eq_true rfl)) ⟨Nat.zero_le _, Nat.zero_le _⟩ dX3_keepable_11 ?_
  refine va_mmin hx hb (F.2.2.1.trans hl.1.symm) F.2.2.2.1 (F.2.2.2.2 (.methodLink RX3 185 Lib.Math.min.name) (by decide +kernel)) (F.2.2.2.2 (.static Lib.Math.min.name) (by decide +kernel)) (F.2.2.2.2 (.initialized "java/lang/Math") (by decide +kernel)) (F.2.2.2.2 (.code Lib.Math.min.name Lib.Math.min.code 2 (some .int)) (by decide +kernel)) (Nat.le_of_ble_eq_true rfl) (Nat.le_of_ble_eq_true rfl) (Nat.zero_le _) (Nat.zero_le _) dX3_keepable_14 ?_
  exact ro_reti F hr hlocks (rfl) dX3_keepable_17
