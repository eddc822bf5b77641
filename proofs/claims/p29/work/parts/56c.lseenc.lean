/-! isSeen: its contract -/
def qN (q : Nat → Nat) (z8 z9 z10 : Nat) : Nat → Nat := fun k => if k = 8 then z8 else if k = 9 then z9 else if k = 10 then z10 else q k
def FN (F : FF) : FF := fun k => if k = 8 ∨ k = 9 ∨ k = 10 then (fun _ => 0) else F k
theorem FN_k (F : FF) {k : Nat} (hk : k < 8) : FN F k = F k := if_neg (by omega)
theorem qN_lA (q : Nat → Nat) (z8 z9 z10 : Nat) : lA (qN q z8 z9 z10) = [q 0, q 1, q 2, q 3, q 4, q 5, q 6, q 7] ++ [z8, z9, z10] := rfl
theorem lA_8 (q : Nat → Nat) : lA q = [q 0, q 1, q 2, q 3, q 4, q 5, q 6, q 7] ++ [q 8, q 9, q 10] := rfl
set_option maxHeartbeats 4000000 in
set_option maxRecDepth 100000 in
theorem lm_isSeen {l : Launch} (hfl : l.stackTraces = false) {D : va_G} {cI cII : ClassId} {sa : Nat → Nat} {u q : Nat → Nat} {V : Nat → Nat → Int32} {pq sp : Int32} {cn : Nat} {e : Option Nat} {sz : Nat} {b : Nat → Nat → Int32} {L : List Nat} {w : Nat → Nat → Int32} {nx : Nat → Option Nat} {z0 : Nat} {n cm : Nat} {a : Nat → Nat → Int32} {kn : Nat → Bool} {F9 : FF} (hN : (cAd u ++ L).Nodup) (hch : chn nx L) (he : e = L.head?) (hsz : sz = L.length) (hNq : (lA q).Nodup) (hdis : ∀ y, y ∈ lA q → ¬ (y ∈ cAd u ∨ y ∈ L)) (R9 : tRel n cm a kn (b, cn, L.map w)) (E : lT n cm a kn F9) (x : Nat) (hx9 : x < 134217728) :
    xc_Met l yL_isSeen wvL_isSeen 8 400 2600 164 D u cI cII sa z0 L (cW u cI cII V pq sp cn e sz b L w nx ++ lX q cI F9) [.ref (u 30), .ref (q 0), .ref (q 1), .ref (q 2), .ref (q 3), .ref (q 4), .ref (q 5), .ref (q 6), .ref (q 7), .int (nI x)] kI (pPost u L z0 (0, 1, (b, cn, L.map w))) (pPX u L z0 (0, 1, (b, cn, L.map w))) := by
  refine xc_start rfl (by decide +kernel) (Nat.le_of_ble_eq_true rfl) (fun p e9 s m below meth c F hr hlocks hK hz H locs hP hS hz9 hX hout ls hl => ?_)
  have hl : lv_has ls 21 [(0, .ref (u 30)), (1, .ref (q 0)), (2, .ref (q 1)), (3, .ref (q 2)), (4, .ref (q 3)), (5, .ref (q 4)), (6, .ref (q 5)), (7, .ref (q 6)), (8, .ref (q 7)), (9, .int (nI x))] := hl
  have hx := F.1
  have hb := F.2.1
  have hPc := va_left hP
  have hA := va_right hP
  have hqlt := lX_lt hA
  have harr : (Cond.arrayClass .int).before ([.ref (u 30), .ref (q 0), .ref (q 1), .ref (q 2), .ref (q 3), .ref (q 4), .ref (q 5), .ref (q 6), .ref (q 7), .int (nI x)] : List Value).toArray s = true := F.2.2.2.2 _ (by decide +kernel : Cond.arrayClass .int ∈ wvL_isSeen)
  refine lv_bipush (v := 40) hx hb dL_isSeen_0 (by decide) ?_
  refine la_new F hK harr hS 40 (by omega) (Nat.le_of_ble_eq_true rfl) (Nat.le_of_ble_eq_true rfl) dL_isSeen_2 (fun H1 n1 z1 o1 hS => ?_)
  refine lv_astore (lv' := [(10, .ref H.size), (0, .ref (u 30)), (1, .ref (q 0)), (2, .ref (q 1)), (3, .ref (q 2)), (4, .ref (q 3)), (5, .ref (q 4)), (6, .ref (q 5)), (7, .ref (q 6)), (8, .ref (q 7)), (9, .int (nI x))]) hx hb dL_isSeen_4 hl (by decide) rfl (fun ls hl => ?_)
  refine lv_bipush (v := 40) hx hb dL_isSeen_6 (by decide) ?_
  refine la_new F hK harr hS 40 (by omega) (Nat.le_of_ble_eq_true rfl) (Nat.le_of_ble_eq_true rfl) dL_isSeen_8 (fun H2 n2 z2 o2 hS => ?_)
  refine lv_astore (lv' := [(11, .ref H1.size), (10, .ref H.size), (0, .ref (u 30)), (1, .ref (q 0)), (2, .ref (q 1)), (3, .ref (q 2)), (4, .ref (q 3)), (5, .ref (q 4)), (6, .ref (q 5)), (7, .ref (q 6)), (8, .ref (q 7)), (9, .int (nI x))]) hx hb dL_isSeen_10 hl (by decide) rfl (fun ls hl => ?_)
  refine lv_bipush (v := 40) hx hb dL_isSeen_12 (by decide) ?_
  refine la_new F hK harr hS 40 (by omega) (Nat.le_of_ble_eq_true rfl) (Nat.le_of_ble_eq_true rfl) dL_isSeen_14 (fun H3 n3 z3 o3 hS => ?_)
  refine lv_astore (lv' := [(12, .ref H2.size), (11, .ref H1.size), (10, .ref H.size), (0, .ref (u 30)), (1, .ref (q 0)), (2, .ref (q 1)), (3, .ref (q 2)), (4, .ref (q 3)), (5, .ref (q 4)), (6, .ref (q 5)), (7, .ref (q 6)), (8, .ref (q 7)), (9, .int (nI x))]) hx hb dL_isSeen_16 hl (by decide) rfl (fun ls hl => ?_)
  have k3 : ∀ y : Nat, y < H.size → H3[y]? = H[y]? := fun y hy => by rw [o3 y (by omega), o2 y (by omega), o1 y hy]
  have g1 : va_P D vwCl [(H.size, .inl (cI, 40, .inl (fun _ => 0)))] H3 := n1.kept (fun k x9 hx9 => by
    have := (n1 k x9 hx9).lt
    rw [o3 x9.1 (by omega), o2 x9.1 this])
  have g2 : va_P D vwCl [(H1.size, .inl (cI, 40, .inl (fun _ => 0)))] H3 := n2.kept (fun k x9 hx9 => o3 x9.1 (n2 k x9 hx9).lt)
  have hA8 : va_P D vwCl ((lX q cI F9).take 8) H3 := fun k x9 hx9 => by
    have hk : (lX q cI F9)[k]? = some x9 := by
      rw [List.getElem?_take] at hx9
      split at hx9
      · exact hx9
      · cases hx9
    exact (hA.kept (fun k y hy => k3 y.1 ((hA k y hy).lt))) k x9 hk
  have hA3 : va_P D vwCl (lX (qN q H.size H1.size H2.size) cI (FN F9)) H3 := hA8.app (g1.app (g2.app n3))
  have hcl : ∀ y, y ∈ cAd u ∨ y ∈ L → y < H.size := fun y hy => by
    have hm : y ∈ (cW u cI cII V pq sp cn e sz b L w nx).map (fun x => x.1) := by rw [cAd_map]; exact List.mem_append.mpr hy
    obtain ⟨x9, h1, h2⟩ := List.mem_map.mp hm
    obtain ⟨i, hi⟩ := List.mem_iff_getElem?.mp h1
    rw [← h2]; exact (hPc i x9 hi).lt
  have hin : ∀ y, y ∈ [q 0, q 1, q 2, q 3, q 4, q 5, q 6, q 7] → y ∈ lA q := fun y hy => by rw [lA_8]; exact List.mem_append_left _ hy
  have hC : sW D u cI cII (cG u L z0) (fun y => y ∈ lA (qN q H.size H1.size H2.size)) (b, cn, L.map w) H3 := by
    refine ⟨V, pq, sp, cn, e, sz, b, L, w, nx, rfl, he, hsz, hch, hN, fun y hy => ⟨Or.inl hy, fun hm => ?_⟩, hPc.kept (fun k y hy => k3 y.1 ((hPc k y hy).lt))⟩
    have hy2 := hcl y hy
    rw [qN_lA] at hm
    rcases List.mem_append.mp hm with z | z
    · exact hdis y (hin y z) hy
    · simp only [List.mem_cons, List.not_mem_nil, or_false] at z
      omega
  have hN3 : (lA (qN q H.size H1.size H2.size)).Nodup := by
    rw [qN_lA]
    rw [lA_8] at hNq
    refine List.nodup_append.mpr ⟨(List.nodup_append.mp hNq).1, ?_, fun y hy z hz => ?_⟩
    · simp only [List.nodup_cons, List.mem_cons, List.not_mem_nil, or_false, List.nodup_nil, not_false_eq_true, and_true]
      omega
    · have := hqlt y (hin y hy)
      simp only [List.mem_cons, List.not_mem_nil, or_false] at hz
      omega
  exact is_body (q := qN q H.size H1.size H2.size) (F9 := FN F9) hfl F hr hlocks hK hX (fun y hy => Or.inr (by omega)) hN3 (fun y hy => ⟨by rw [qN_lA]; exact List.mem_append_right _ hy, Or.inr (by
    have hy : y ∈ [H.size, H1.size, H2.size] := hy
    simp only [List.mem_cons, List.not_mem_nil, or_false] at hy
    omega)⟩) R9 (lT_G E (fun k hk => FN_k F9 hk)) x hx9 hA3 hC hS hl
