/-! no machine: sets in ints -/
def c5 (x0 x1 x2 x3 x4 : Bool) : Int32 := ((((if x0 then 1 else 0) ||| (if x1 then 2 else 0)) ||| (if x2 then 4 else 0)) ||| (if x3 then 8 else 0)) ||| (if x4 then 16 else 0)
def b5 (c : Nat → Bool) : Int32 := c5 (c 0) (c 1) (c 2) (c 3) (c 4)
theorem b5_cg {c d : Nat → Bool} (h : ∀ i, i < 5 → c i = d i) : b5 c = b5 d := by
  unfold b5; rw [h 0 (by omega), h 1 (by omega), h 2 (by omega), h 3 (by omega), h 4 (by omega)]
theorem c5_or : ∀ (f : Fin 5) (x0 x1 x2 x3 x4 : Bool), c5 x0 x1 x2 x3 x4 ||| ((1 : Int32) <<< (nI f.val &&& 31)) = c5 (if 0 = f.val then true else x0) (if 1 = f.val then true else x1) (if 2 = f.val then true else x2) (if 3 = f.val then true else x3) (if 4 = f.val then true else x4) := by decide +kernel
theorem c5_clr : ∀ (f : Fin 5) (x0 x1 x2 x3 x4 : Bool), c5 x0 x1 x2 x3 x4 &&& (((1 : Int32) <<< (nI f.val &&& 31)) ^^^ (-1)) = c5 (if 0 = f.val then false else x0) (if 1 = f.val then false else x1) (if 2 = f.val then false else x2) (if 3 = f.val then false else x3) (if 4 = f.val then false else x4) := by decide +kernel
theorem b5_or (c : Nat → Bool) {f : Nat} (hf : f < 5) : b5 c ||| ((1 : Int32) <<< (nI f &&& 31)) = b5 (fun i => if i = f then true else c i) := c5_or ⟨f, hf⟩ (c 0) (c 1) (c 2) (c 3) (c 4)
theorem b5_clr (c : Nat → Bool) {f : Nat} (hf : f < 5) : b5 c &&& (((1 : Int32) <<< (nI f &&& 31)) ^^^ (-1)) = b5 (fun i => if i = f then false else c i) := c5_clr ⟨f, hf⟩ (c 0) (c 1) (c 2) (c 3) (c 4)
theorem c5_a0 : ∀ (x0 x1 x2 x3 x4 : Bool), (c5 x0 x1 x2 x3 x4 &&& ((1 : Int32) <<< (nI 0 &&& 31)) = 0) ↔ x0 = false := by decide +kernel
theorem c5_a1 : ∀ (x0 x1 x2 x3 x4 : Bool), (c5 x0 x1 x2 x3 x4 &&& ((1 : Int32) <<< (nI 1 &&& 31)) = 0) ↔ x1 = false := by decide +kernel
theorem c5_a2 : ∀ (x0 x1 x2 x3 x4 : Bool), (c5 x0 x1 x2 x3 x4 &&& ((1 : Int32) <<< (nI 2 &&& 31)) = 0) ↔ x2 = false := by decide +kernel
theorem c5_a3 : ∀ (x0 x1 x2 x3 x4 : Bool), (c5 x0 x1 x2 x3 x4 &&& ((1 : Int32) <<< (nI 3 &&& 31)) = 0) ↔ x3 = false := by decide +kernel
theorem c5_a4 : ∀ (x0 x1 x2 x3 x4 : Bool), (c5 x0 x1 x2 x3 x4 &&& ((1 : Int32) <<< (nI 4 &&& 31)) = 0) ↔ x4 = false := by decide +kernel
theorem b5_and (c : Nat → Bool) : ∀ {f : Nat}, f < 5 → ((b5 c &&& ((1 : Int32) <<< (nI f &&& 31)) = 0) ↔ c f = false)
  | 0, _ => c5_a0 (c 0) (c 1) (c 2) (c 3) (c 4)
  | 1, _ => c5_a1 (c 0) (c 1) (c 2) (c 3) (c 4)
  | 2, _ => c5_a2 (c 0) (c 1) (c 2) (c 3) (c 4)
  | 3, _ => c5_a3 (c 0) (c 1) (c 2) (c 3) (c 4)
  | 4, _ => c5_a4 (c 0) (c 1) (c 2) (c 3) (c 4)
  | f + 5, h => absurd h (by omega)
theorem c5_31 : ∀ (x0 x1 x2 x3 x4 : Bool), (c5 x0 x1 x2 x3 x4 &&& 31 = 0) ↔ (x0 = false ∧ x1 = false ∧ x2 = false ∧ x3 = false ∧ x4 = false) := by decide +kernel
theorem b5_31 (c : Nat → Bool) {f : Nat} (hf : f < 5) (h : c f = true) : ¬ b5 c &&& 31 = 0 := by
  intro z
  obtain ⟨h0, h1, h2, h3, h4⟩ := (c5_31 (c 0) (c 1) (c 2) (c 3) (c 4)).mp z
  have e : f = 0 ∨ f = 1 ∨ f = 2 ∨ f = 3 ∨ f = 4 := by omega
  rcases e with e | e | e | e | e <;> subst e <;> simp_all
theorem b5_0 : (0 : Int32) = b5 (fun _ => false) := by decide +kernel
/-- the pair's set: what the meeting of two asks of it -/
def p2 (f o : Nat) : Int32 := ((1 : Int32) <<< (nI f &&& 31)) ||| ((1 : Int32) <<< (nI o &&& 31))
def pick (x0 x1 x2 x3 x4 : Bool) (f : Nat) : Bool := if f = 0 then x0 else if f = 1 then x1 else if f = 2 then x2 else if f = 3 then x3 else x4
theorem pick_c (c : Nat → Bool) : ∀ {f : Nat}, f < 5 → pick (c 0) (c 1) (c 2) (c 3) (c 4) f = c f
  | 0, _ => rfl
  | 1, _ => rfl
  | 2, _ => rfl
  | 3, _ => rfl
  | 4, _ => rfl
  | f + 5, h => absurd h (by omega)
theorem c5_p2 : ∀ (f o : Fin 5), f ≠ o → ∀ (x0 x1 x2 x3 x4 : Bool), ((c5 x0 x1 x2 x3 x4 &&& p2 f.val o.val = 0) ↔ (pick x0 x1 x2 x3 x4 f.val = false ∧ pick x0 x1 x2 x3 x4 o.val = false)) ∧ ((c5 x0 x1 x2 x3 x4 &&& p2 f.val o.val = p2 f.val o.val) ↔ (pick x0 x1 x2 x3 x4 f.val = true ∧ pick x0 x1 x2 x3 x4 o.val = true)) := by decide +kernel
theorem b5_p2 (c : Nat → Bool) {f o : Nat} (hf : f < 5) (ho : o < 5) (hn : f ≠ o) : ((b5 c &&& p2 f o = 0) ↔ (c f = false ∧ c o = false)) ∧ ((b5 c &&& p2 f o = p2 f o) ↔ (c f = true ∧ c o = true)) := by
  have h := c5_p2 ⟨f, hf⟩ ⟨o, ho⟩ (fun e => hn (Fin.mk.inj e)) (c 0) (c 1) (c 2) (c 3) (c 4)
  simp only [pick_c c hf, pick_c c ho] at h
  exact h
theorem b5_p2or (c : Nat → Bool) {f o : Nat} (hf : f < 5) (ho : o < 5) : b5 c ||| p2 f o = b5 (fun i => if i = o then true else if i = f then true else c i) := by
  unfold p2
  rw [← Int32.or_assoc, b5_or c hf, b5_or _ ho]
/-- one bit of an int -/
def bitT (x : Int32) (f : Nat) : Bool := x.toBitVec.getLsbD f
theorem one_shl : ∀ f : Fin 32, ((1 : Int32) <<< (nI f.val &&& 31)).toBitVec = BitVec.twoPow 32 f.val ∧ ¬ BitVec.twoPow 32 f.val = 0#32 := by decide +kernel
theorem bt_and {x : Int32} {f : Nat} (hf : f < 32) : (x &&& ((1 : Int32) <<< (nI f &&& 31)) = 0) ↔ bitT x f = false := by
  obtain ⟨h1, h2⟩ := one_shl ⟨f, hf⟩
  rw [← Int32.toBitVec_inj, Int32.toBitVec_and, h1, BitVec.and_twoPow]
  show _ ↔ x.toBitVec.getLsbD f = false
  cases hx : x.toBitVec.getLsbD f with
  | true =>
    rw [if_pos rfl]
    exact ⟨fun z => absurd z h2, fun z => absurd z (by simp)⟩
  | false =>
    rw [if_neg (by simp)]
    exact ⟨fun _ => rfl, fun _ => rfl⟩
theorem bt_or (x y : Int32) (f : Nat) : bitT (x ||| y) f = (bitT x f || bitT y f) := by
  unfold bitT; rw [Int32.toBitVec_or, BitVec.getLsbD_or]
theorem bt_set (x : Int32) {k j : Nat} (hk : k < 32) : bitT (x ||| ((1 : Int32) <<< (nI k &&& 31))) j = (bitT x j || decide (k = j)) := by
  rw [bt_or]
  congr 1
  unfold bitT
  rw [(one_shl ⟨k, hk⟩).1, BitVec.getLsbD_twoPow]
  simp [hk]
theorem sh8 : ∀ f : Fin 8, ((nI f.val &&& 31).toBitVec.smod 32).toNat = f.val := by decide +kernel
theorem bt_shr {x : Int32} {f : Nat} (hf : f < 8) : ((x >>> (nI f &&& 31)) &&& 1 = 1) ↔ bitT x f = true := by
  have h3 : (x >>> (nI f &&& 31)).toBitVec.getLsbD 0 = x.toBitVec.getLsbD f := by
    rw [Int32.toBitVec_shiftRight, BitVec.getLsbD_sshiftRight', sh8 ⟨f, hf⟩]
    simp [show f < 32 by omega]
  have h1 : (1 : Int32).toBitVec = BitVec.twoPow 32 0 := by decide +kernel
  have h2 : ¬ (0#32) = BitVec.twoPow 32 0 := by decide +kernel
  rw [← Int32.toBitVec_inj, Int32.toBitVec_and, h1, BitVec.and_twoPow, h3]
  show _ ↔ x.toBitVec.getLsbD f = true
  cases hx : x.toBitVec.getLsbD f with
  | true =>
    rw [if_pos rfl]
    exact ⟨fun _ => rfl, fun _ => rfl⟩
  | false =>
    rw [if_neg (by simp)]
    exact ⟨fun z => absurd z h2, fun z => absurd z (by simp)⟩
theorem bt_0 (f : Nat) : bitT 0 f = false := by unfold bitT; simp
theorem foldU_cg {α : Type} {st st' : Nat → α → α} {z : α} : ∀ {n : Nat}, (∀ i, i < n → ∀ x, st i x = st' i x) → foldU st z n = foldU st' z n
  | 0, _ => rfl
  | n + 1, h => by rw [foldU_s, foldU_s, foldU_cg (fun i hi x => h i (by omega) x), h n (by omega)]
/-- the guests of a day: their set, their number -/
def gSet (c : Nat → Bool) : Int32 := foldU (fun g x => if c g then x ||| ((1 : Int32) <<< (nI g &&& 31)) else x) 0 8
def gNum (c : Nat → Bool) : Nat := foldU (fun g x => if c g then x + 1 else x + 0) 0 8
def l8 (x0 x1 x2 x3 x4 x5 x6 x7 : Bool) : Nat → Bool := fun i => if i = 0 then x0 else if i = 1 then x1 else if i = 2 then x2 else if i = 3 then x3 else if i = 4 then x4 else if i = 5 then x5 else if i = 6 then x6 else x7
theorem g_num8 : ∀ (x0 x1 x2 x3 x4 x5 x6 x7 : Bool), bcI (gSet (l8 x0 x1 x2 x3 x4 x5 x6 x7)) = nI (gNum (l8 x0 x1 x2 x3 x4 x5 x6 x7)) := by decide +kernel
theorem l8_c (c : Nat → Bool) : ∀ {f : Nat}, f < 8 → l8 (c 0) (c 1) (c 2) (c 3) (c 4) (c 5) (c 6) (c 7) f = c f
  | 0, _ => rfl
  | 1, _ => rfl
  | 2, _ => rfl
  | 3, _ => rfl
  | 4, _ => rfl
  | 5, _ => rfl
  | 6, _ => rfl
  | 7, _ => rfl
  | f + 8, h => absurd h (by omega)
theorem g_num (c : Nat → Bool) : bcI (gSet c) = nI (gNum c) := by
  have h := g_num8 (c 0) (c 1) (c 2) (c 3) (c 4) (c 5) (c 6) (c 7)
  have e1 : gSet (l8 (c 0) (c 1) (c 2) (c 3) (c 4) (c 5) (c 6) (c 7)) = gSet c := foldU_cg (fun i hi x => by rw [l8_c c hi])
  have e2 : gNum (l8 (c 0) (c 1) (c 2) (c 3) (c 4) (c 5) (c 6) (c 7)) = gNum c := foldU_cg (fun i hi x => by rw [l8_c c hi])
  rw [e1, e2] at h
  exact h
theorem gNum_le (c : Nat → Bool) : gNum c ≤ 8 := foldU_le _ (fun i x => by split <;> omega) 8
