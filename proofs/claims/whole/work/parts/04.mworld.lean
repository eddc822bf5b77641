/-! the reference's world: its object h, its arrays q k by the field's number k, n words, cm cakes -/
def mS (q : Nat → Nat) (n cm : Nat) (th : Int32) (lm : Nat) : List Value := [.int (nI n), .ref (q 1), .ref (q 2), .ref (q 3), .ref (q 4), .ref (q 5), .ref (q 6), .ref (q 7), .ref (q 8), .ref (q 9), .ref (q 10), .ref (q 11), .int (nI cm), .ref (q 13), .ref (q 14), .ref (q 15), .int th, .ref (q 17), .int (nI lm)]
def mW (h : Nat) (q : Nat → Nat) (cI cZ : ClassId) (n cm : Nat) (th : Int32) (lm : Nat) (a : Nat → Nat → Int32) (kn : Nat → Bool) : va_W := [(h, .inr (4, mS q n cm th lm)),
  (q 1, .inl (cI, 240, .inl (a 1))), (q 2, .inl (cI, 240, .inl (a 2))), (q 3, .inl (cI, 240, .inl (a 3))), (q 4, .inl (cI, 240, .inl (a 4))), (q 5, .inl (cI, 240, .inl (a 5))), (q 6, .inl (cI, 240, .inl (a 6))), (q 7, .inl (cI, 240, .inl (a 7))), (q 8, .inl (cI, 240, .inl (a 8))),
  (q 9, .inl (cZ, 1440, .inl (fun i => bI (kn i)))), (q 10, .inl (cI, 5, .inl (a 10))), (q 11, .inl (cI, 48, .inl (a 11))), (q 13, .inl (cI, 20, .inl (a 13))), (q 14, .inl (cI, 20, .inl (a 14))), (q 15, .inl (cI, 20, .inl (a 15))), (q 17, .inl (cI, 40, .inl (a 17)))]
def mT (cI cZ : ClassId) : List (ClassId × FieldType) := [(cI, .int), (cZ, .boolean)]
/-- what the reference's state keeps, so that no place is out of its row -/
def mI (n cm : Nat) (a : Nat → Nat → Int32) : Prop := n ≤ 240 ∧ cm ≤ 20 ∧ (∀ k, k < cm → ∃ j, j < n ∧ a 15 k = nI j) ∧ (∀ i, i < n → a 1 i = 4 → ∃ k, k < cm ∧ a 5 i = nI k) ∧ (∀ k, k < cm → ∃ r, r < 6 ∧ a 13 k = nI r)
section MROW
variable {p : Program} {l : Launch} {e : Env} {R : Room} {s : State} {m : MethodId} {args : Array Value} {below : List Frame} {meth : Method} {c : Code} {H : Heap} {locs : List Loc} {cells slots : Nat} {Q : State → Prop}
variable {cc : ByteArray} {pc nL index : Nat} {ls : Array Slot} {rest : List Value} {Ts : List Cond} {own : String} {D : va_G} {tys : List (ClassId × FieldType)}
variable {h : Nat} {q : Nat → Nat} {cI cZ : ClassId} {n cm : Nat} {th : Int32} {lm : Nat} {a : Nat → Nat → Int32} {kn : Nat → Bool}
theorem mg_get {v : Value} (F : CallFix p m c cc nL s args Ts RX4) (hK : va_K D vwCl tys s) (hin : ∀ w ∈ wsX40, w ∈ Ts) (hP : va_P D vwCl (mW h q cI cZ n cm th lm a kn) H) (k : Nat) (hk : k < 19) (hlink : Cond.fieldLink RX4 index (TX4 k).1 (TX4 k).2.1 (TX4 k).2.2.1 ∈ Ts) (hv : (mS q n cm th lm)[k]? = some v) (hdg : decode cc pc = .ok (.getfield index, 3))
    (kk : W p l e R s m args below meth c H locs cells slots Q (F0 m (pc + 3) ls (v :: rest))) : W p l e R s m args below meth c H locs cells slots Q (F0 m pc ls (.ref h :: rest)) :=
  va_get (ref := (TX4 k).1) (C := RX4) (T := TX4) (N := 19) (ci := 4) F.1 F.2.1 F.2.2.2.2 hin F.2.2.2.1 hK hP 0 rfl rfl k hk (F.2.2.2.2 _ hlink) (fun _ x => x) hv hdg kk
theorem mg_ald (F : CallFix p m c cc nL s args Ts own) (hK : va_K D vwCl (mT cI cZ) s) (hP : va_P D vwCl (mW h q cI cZ n cm th lm a kn) H) (k pl len : Nat) (hpl : (mW h q cI cZ n cm th lm a kn)[pl]? = some (q k, .inl (cI, len, .inl (a k)))) {i : Int32} (j : Nat) (hi : i = nI j) (hj : j < len) (hlen : len < 2 ^ 31) (hdg : decode cc pc = .ok (.iaload, 1))
    (kk : W p l e R s m args below meth c H locs cells slots Q (F0 m (pc + 1) ls (.int (a k j) :: rest))) : W p l e R s m args below meth c H locs cells slots Q (F0 m pc ls (.int i :: .ref (q k) :: rest)) := by
  subst hi
  refine va_iald F.1 F.2.1 hK hP pl 0 hpl rfl (vp_in_nI hj hlen) hdg ?_
  rw [nI_clamp (Nat.lt_trans hj hlen)]
  exact kk
theorem mg_zld (F : CallFix p m c cc nL s args Ts own) (hK : va_K D vwCl (mT cI cZ) s) (hP : va_P D vwCl (mW h q cI cZ n cm th lm a kn) H) {i : Int32} (j : Nat) (hi : i = nI j) (hj : j < 1440) (hdg : decode cc pc = .ok (.baload, 1))
    (kk : W p l e R s m args below meth c H locs cells slots Q (F0 m (pc + 1) ls (.int (bI (kn j)) :: rest))) : W p l e R s m args below meth c H locs cells slots Q (F0 m pc ls (.int i :: .ref (q 9) :: rest)) := by
  subst hi
  refine va_zald F.1 F.2.1 hK hP 9 1 rfl rfl (vp_in_nI hj (by omega)) hdg ?_
  rw [nI_clamp (by omega)]
  exact kk
theorem mg_rc {D : va_G} (hK : va_K D vwCl tys s) (hP : va_P D vwCl (mW h q cI cZ n cm th lm a kn) H) : ∃ cellB : Cell, H[h]? = some cellB ∧ cellB.vm.isStatics = false ∧ s.vm.findClass RX4 = some cellB.cls :=
  va_recv hK hP (ci := 4) (q := (RX4, TX4, 19)) (q0 := 0) rfl rfl
end MROW
