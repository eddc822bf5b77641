/-! the law's own questions, as functions of what its rows hold -/
def lRk (F : FF) (j : Nat) : Int32 := (8 * F 2 j) + md (F 1 j / 8) 8
def lKn (F : FF) (vw j : Nat) : Bool := decide (4 < vw) || decide ((F 3 j >>> (nI vw &&& 31)) &&& 1 = 1)
def lBh (F : FF) (o : Option Nat) (j : Nat) : Bool := match o with | none => true | some x => !decide (lRk F j ≤ lRk F x)
def lFd (F : FF) (o : Option Nat) (j : Nat) : Bool := match o with | none => true | some x => !decide (lRk F x ≤ lRk F j)
def nxS (F : FF) (vw : Nat) (o : Option Nat) (j : Nat) (f : Option Nat) : Option Nat := if (lKn F vw j && lBh F o j) && lFd F f j then some j else f
def lNx (F : FF) (n vw : Nat) (o : Option Nat) : Option Nat := foldU (nxS F vw o) none n
theorem nx_lt (F : FF) (vw : Nat) (o : Option Nat) : ∀ n x, foldU (nxS F vw o) none n = some x → x < n
  | 0, x, h => by cases h
  | n + 1, x, h => by
    rw [foldU_s] at h
    unfold nxS at h
    split at h
    · cases h; omega
    · exact Nat.lt_succ_of_lt (nx_lt F vw o n x h)
theorem lNx_cg {F G : FF} (h1 : G 1 = F 1) (h2 : G 2 = F 2) (h3 : G 3 = F 3) (n vw : Nat) (o : Option Nat) : lNx G n vw o = lNx F n vw o := by
  unfold lNx nxS lKn lBh lFd lRk
  rw [h1, h2, h3]
/-- a list is what the searches find, one behind another -/
def nxC (F : FF) (n vw : Nat) : List Nat → Prop
  | [] => True
  | x :: r => lNx F n vw (some x) = r.head? ∧ nxC F n vw r
theorem hd_mem {r : List Nat} {x : Nat} (h : r.head? = some x) : x ∈ r := by
  cases r with
  | nil => cases h
  | cons z M => cases h; exact List.mem_cons_self
theorem hd_cons {r : List Nat} {x : Nat} (h : r.head? = some x) : ∃ M, r = x :: M := by
  cases r with
  | nil => cases h
  | cons z M => cases h; exact ⟨M, rfl⟩
theorem hd_nil {r : List Nat} (h : r.head? = none) : r = [] := by
  cases r with
  | nil => rfl
  | cons z M => cases h
def kd (F : FF) (i : Nat) : Nat := jn (md (F 1 i) 8)
def it (F : FF) (i : Nat) : Nat := jn (F 1 i / 64)
def wOk (F : FF) (i : Nat) : Prop := md (F 1 i) 8 = nI (kd F i) ∧ kd F i < 7 ∧ F 1 i / 64 = nI (it F i) ∧ it F i < 40 ∧ (kd F i = 2 → it F i < 8) ∧ (kd F i = 3 → it F i < 20)
set_option maxHeartbeats 4000000 in
set_option maxRecDepth 100000 in
theorem lc_next {l : Launch} {D : va_G} {cI cII : ClassId} {H : Heap} {q : Nat → Nat} {F9 : FF} (hA : va_P D vwCl (lX q cI F9) H) {n : Nat} (vw : Nat) (o : Option Nat) (hn0 : F9 0 0 = nI n) (hn : n ≤ 64) (hv : vw ≤ 5) (ho : ∀ x, o = some x → x < 64) : ro_Met l yL_next wsL_next 0 0 D (cT cI cII) H [.ref (q 0), .ref (q 1), .ref (q 2), .ref (q 3), .int (nI vw), .int (oI o)] (oI (lNx F9 n vw o)) := by
  refine ro_start rfl (by decide +kernel) (Nat.le_of_ble_eq_true rfl) (fun p e9 s m below meth c F hr hlocks hK ls hl => ?_)
  have hl : lv_has ls 10 [(0, .ref (q 0)), (1, .ref (q 1)), (2, .ref (q 2)), (3, .ref (q 3)), (4, .int (nI vw)), (5, .int (oI o))] := hl
  have hx := F.1
  have hb := F.2.1
  refine lv_iconst (v := (-1)) hx hb dL_next_0 (by decide) ?_
  refine lv_istore (lv' := [(6, .int (-1)), (0, .ref (q 0)), (1, .ref (q 1)), (2, .ref (q 2)), (3, .ref (q 3)), (4, .int (nI vw)), (5, .int (oI o))]) hx hb dL_next_1 hl (by decide) rfl (fun ls hl => ?_)
  refine lv_iconst (v := 0) hx hb dL_next_3 (by decide) ?_
  refine lv_istore (lv' := [(7, .int 0), (6, .int (-1)), (0, .ref (q 0)), (1, .ref (q 1)), (2, .ref (q 2)), (3, .ref (q 3)), (4, .int (nI vw)), (5, .int (oI o))]) hx hb dL_next_4 hl (by decide) rfl (fun ls hl => ?_)
  have L6_u_1 : ∀ (k9u_1 : Nat) (f : Option Nat) (j : Nat) (ls : Array Slot), n - j < k9u_1 → (j ≤ n) → (f = foldU (nxS F9 vw o) none j) → (∀ x, f = some x → x < 64) → lv_has ls 10 [(7, .int (nI j)), (6, .int (oI f)), (0, .ref (q 0)), (1, .ref (q 1)), (2, .ref (q 2)), (3, .ref (q 3)), (4, .int (nI vw)), (5, .int (oI o))] → roW p l e9 0 0 s m [.ref (q 0), .ref (q 1), .ref (q 2), .ref (q 3), .int (nI vw), .int (oI o)] below meth c H (oI (lNx F9 n vw o)) (F0 m 6 ls []) := by
    intro k9u_1
    induction k9u_1 with
    | zero => intro f j ls hk; exact absurd hk (Nat.not_lt_zero _)
    | succ k9u_1 ihu_1 =>
      intro f j ls hk hj hf hfb  hl
      refine lv_iload hx hb dL_next_6 (lv_at hl 0 rfl) ?_
      refine lv_aload_n hx hb dL_next_8 rfl (lv_at hl 2 rfl) ?_
      refine lv_iconst (v := 0) hx hb dL_next_9 (by decide) ?_
      refine cg_ald F hK hA 0 2 rfl 0 rfl (by omega) (by decide) dL_next_10 ?_
      refine lw_N n hn0 ?_
      refine lw_ge (tgt := 136) hx hb j n (by omega) (by omega) dL_next_11 (by decide) (fun c_2 => ?_) (fun c_2 => ?_)
      · skip
        have mc_2 : ¬ j < n := by omega
        refine lv_iload hx hb dL_next_136 (lv_at hl 1 rfl) ?_
        exact ro_reti F hr hlocks (by rw [hf, show j = n by omega]; rfl) dL_next_138
      · skip
        have mc_2 : ¬ n ≤ j := by omega
        refine lv_bipush (v := 8) hx hb dL_next_14 (by decide) ?_
        refine lv_aload_n hx hb dL_next_16 rfl (lv_at hl 4 rfl) ?_
        refine lv_iload hx hb dL_next_17 (lv_at hl 0 rfl) ?_
        refine cg_ald F hK hA 2 64 rfl j rfl (by omega) (by decide) dL_next_19 ?_
        refine lv_imul hx hb dL_next_20 ?_
        refine lv_aload_n hx hb dL_next_21 rfl (lv_at hl 3 rfl) ?_
        refine lv_iload hx hb dL_next_22 (lv_at hl 0 rfl) ?_
        refine cg_ald F hK hA 1 64 rfl j rfl (by omega) (by decide) dL_next_24 ?_
        refine lv_bipush (v := 8) hx hb dL_next_25 (by decide) ?_
        refine lv_idiv hx hb dL_next_27 (by decide) ?_
        refine lv_bipush (v := 8) hx hb dL_next_28 (by decide) ?_
        refine lw_rem hx hb dL_next_30 (by decide) ?_
        refine lv_iadd hx hb dL_next_31 ?_
        refine lv_istore (lv' := [(8, .int ((8 * F9 2 j) + (md (F9 1 j / 8) 8))), (7, .int (nI j)), (6, .int (oI f)), (0, .ref (q 0)), (1, .ref (q 1)), (2, .ref (q 2)), (3, .ref (q 3)), (4, .int (nI vw)), (5, .int (oI o))]) hx hb dL_next_32 hl (by decide) rfl (fun ls hl => ?_)
        refine lv_iload hx hb dL_next_34 (lv_at hl 7 rfl) ?_
        refine lv_iconst (v := 4) hx hb dL_next_36 (by decide) ?_
        refine lw_gt (tgt := 53) hx hb vw 4 (by omega) (by omega) dL_next_37 (by decide) (fun c_3 => ?_) (fun c_3 => ?_)
        · skip
          have mc_3 : ¬ vw ≤ 4 := by omega
          refine lv_iload hx hb dL_next_53 (lv_at hl 8 rfl) ?_
          refine lw_olt (tgt := 81) hx hb (fun x hx => by have := ho x hx; omega) dL_next_55 (by decide) (fun c_4 => ?_) (fun xc_4 c_4 => ?_)
          · skip
            refine lv_iconst (v := 1) hx hb dL_next_81 (by decide) ?_
            refine lv_goto (tgt := 86) hx hb dL_next_82 (by decide) ?_
            refine lv_istore (lv' := [(9, .int 1), (8, .int ((8 * F9 2 j) + (md (F9 1 j / 8) 8))), (7, .int (nI j)), (6, .int (oI f)), (0, .ref (q 0)), (1, .ref (q 1)), (2, .ref (q 2)), (3, .ref (q 3)), (4, .int (nI vw)), (5, .int (oI o))]) hx hb dL_next_86 hl (by decide) rfl (fun ls hl => ?_)
            refine lv_iload hx hb dL_next_88 (lv_at hl 0 rfl) ?_
            refine lv_if_eq (tgt := 126) hx hb dL_next_90 (by decide) (fun z9 => absurd z9 (by decide)) (fun _ => ?_)
            refine lv_iload hx hb dL_next_93 (lv_at hl 3 rfl) ?_
            refine lw_olt (tgt := 121) hx hb (fun x hx => by have := hfb x hx; omega) dL_next_95 (by decide) (fun c_5 => ?_) (fun xc_5 c_5 => ?_)
            · skip
              refine lv_iload hx hb dL_next_121 (lv_at hl 2 rfl) ?_
              refine lv_goto (tgt := 128) hx hb dL_next_123 (by decide) ?_
              refine lv_istore (lv' := [(6, .int (nI j)), (9, .int 1), (8, .int ((8 * F9 2 j) + (md (F9 1 j / 8) 8))), (7, .int (nI j)), (0, .ref (q 0)), (1, .ref (q 1)), (2, .ref (q 2)), (3, .ref (q 3)), (4, .int (nI vw)), (5, .int (oI o))]) hx hb dL_next_128 hl (by decide) rfl (fun ls hl => ?_)
              refine lv_iinc (v := nI (j + 1)) (lv' := [(7, .int (nI (j + 1))), (6, .int (nI j)), (9, .int 1), (8, .int ((8 * F9 2 j) + (md (F9 1 j / 8) 8))), (0, .ref (q 0)), (1, .ref (q 1)), (2, .ref (q 2)), (3, .ref (q 3)), (4, .int (nI vw)), (5, .int (oI o))]) hx hb dL_next_130 hl (k := 3) rfl (show nI j + Int32.ofInt 1 = _ from nI_add j 1) (by decide) rfl (fun ls hl => ?_)
              refine lv_goto (tgt := 6) hx hb dL_next_133 (by decide) ?_
              exact ihu_1  (some j) (j + 1)  ls (by omega) (by first | omega | assumption) (by rw [foldU_s, ← hf]; simp [nxS, lKn, lBh, lFd, lRk, c_2, mc_2, c_3, mc_3, c_4, c_5]) (fun x z => by first | (cases z; omega) | (exact hfb x z) | (exact hfb x (by simp [*])))  (lv_sub hl [0, 1, 4, 5, 6, 7, 8, 9] rfl)
            · skip
              have hxc_5 := hfb xc_5 c_5
              refine lv_iload hx hb dL_next_98 (lv_at hl 1 rfl) ?_
              refine lv_bipush (v := 8) hx hb dL_next_100 (by decide) ?_
              refine lv_aload_n hx hb dL_next_102 rfl (lv_at hl 6 rfl) ?_
              refine lv_iload hx hb dL_next_103 (lv_at hl 3 rfl) ?_
              refine lw_E (nI xc_5) (by rw [c_5]; rfl) ?_
              refine cg_ald F hK hA 2 64 rfl xc_5 rfl (by omega) (by decide) dL_next_105 ?_
              refine lv_imul hx hb dL_next_106 ?_
              refine lv_aload_n hx hb dL_next_107 rfl (lv_at hl 5 rfl) ?_
              refine lv_iload hx hb dL_next_108 (lv_at hl 3 rfl) ?_
              refine lw_E (nI xc_5) (by rw [c_5]; rfl) ?_
              refine cg_ald F hK hA 1 64 rfl xc_5 rfl (by omega) (by decide) dL_next_110 ?_
              refine lv_bipush (v := 8) hx hb dL_next_111 (by decide) ?_
              refine lv_idiv hx hb dL_next_113 (by decide) ?_
              refine lv_bipush (v := 8) hx hb dL_next_114 (by decide) ?_
              refine lw_rem hx hb dL_next_116 (by decide) ?_
              refine lv_iadd hx hb dL_next_117 ?_
              refine lv_icmp_ge (tgt := 126) hx hb dL_next_118 (by decide) (fun c_6 => ?_) (fun c_6 => ?_)
              · skip
                refine lv_iload hx hb dL_next_126 (lv_at hl 3 rfl) ?_
                refine lw_E (nI xc_5) (by rw [c_5]; rfl) ?_
                refine lv_istore (lv' := [(6, .int (nI xc_5)), (9, .int 1), (8, .int ((8 * F9 2 j) + (md (F9 1 j / 8) 8))), (7, .int (nI j)), (0, .ref (q 0)), (1, .ref (q 1)), (2, .ref (q 2)), (3, .ref (q 3)), (4, .int (nI vw)), (5, .int (oI o))]) hx hb dL_next_128 hl (by decide) rfl (fun ls hl => ?_)
                refine lv_iinc (v := nI (j + 1)) (lv' := [(7, .int (nI (j + 1))), (6, .int (nI xc_5)), (9, .int 1), (8, .int ((8 * F9 2 j) + (md (F9 1 j / 8) 8))), (0, .ref (q 0)), (1, .ref (q 1)), (2, .ref (q 2)), (3, .ref (q 3)), (4, .int (nI vw)), (5, .int (oI o))]) hx hb dL_next_130 hl (k := 3) rfl (show nI j + Int32.ofInt 1 = _ from nI_add j 1) (by decide) rfl (fun ls hl => ?_)
                refine lv_goto (tgt := 6) hx hb dL_next_133 (by decide) ?_
                exact ihu_1  (some xc_5) (j + 1)  ls (by omega) (by first | omega | assumption) (by rw [foldU_s, ← hf]; simp [nxS, lKn, lBh, lFd, lRk, c_2, mc_2, c_3, mc_3, c_4, c_5, c_6]) (fun x z => by first | (cases z; omega) | (exact hfb x z) | (exact hfb x (by simp [*])))  (lv_sub hl [0, 1, 4, 5, 6, 7, 8, 9] rfl)
              · skip
                refine lv_iload hx hb dL_next_121 (lv_at hl 2 rfl) ?_
                refine lv_goto (tgt := 128) hx hb dL_next_123 (by decide) ?_
                refine lv_istore (lv' := [(6, .int (nI j)), (9, .int 1), (8, .int ((8 * F9 2 j) + (md (F9 1 j / 8) 8))), (7, .int (nI j)), (0, .ref (q 0)), (1, .ref (q 1)), (2, .ref (q 2)), (3, .ref (q 3)), (4, .int (nI vw)), (5, .int (oI o))]) hx hb dL_next_128 hl (by decide) rfl (fun ls hl => ?_)
                refine lv_iinc (v := nI (j + 1)) (lv' := [(7, .int (nI (j + 1))), (6, .int (nI j)), (9, .int 1), (8, .int ((8 * F9 2 j) + (md (F9 1 j / 8) 8))), (0, .ref (q 0)), (1, .ref (q 1)), (2, .ref (q 2)), (3, .ref (q 3)), (4, .int (nI vw)), (5, .int (oI o))]) hx hb dL_next_130 hl (k := 3) rfl (show nI j + Int32.ofInt 1 = _ from nI_add j 1) (by decide) rfl (fun ls hl => ?_)
                refine lv_goto (tgt := 6) hx hb dL_next_133 (by decide) ?_
                exact ihu_1  (some j) (j + 1)  ls (by omega) (by first | omega | assumption) (by rw [foldU_s, ← hf]; simp [nxS, lKn, lBh, lFd, lRk, c_2, mc_2, c_3, mc_3, c_4, c_5, c_6]) (fun x z => by first | (cases z; omega) | (exact hfb x z) | (exact hfb x (by simp [*])))  (lv_sub hl [0, 1, 4, 5, 6, 7, 8, 9] rfl)
          · skip
            have hxc_4 := ho xc_4 c_4
            refine lv_iload hx hb dL_next_58 (lv_at hl 0 rfl) ?_
            refine lv_bipush (v := 8) hx hb dL_next_60 (by decide) ?_
            refine lv_aload_n hx hb dL_next_62 rfl (lv_at hl 5 rfl) ?_
            refine lv_iload hx hb dL_next_63 (lv_at hl 8 rfl) ?_
            refine lw_E (nI xc_4) (by rw [c_4]; rfl) ?_
            refine cg_ald F hK hA 2 64 rfl xc_4 rfl (by omega) (by decide) dL_next_65 ?_
            refine lv_imul hx hb dL_next_66 ?_
            refine lv_aload_n hx hb dL_next_67 rfl (lv_at hl 4 rfl) ?_
            refine lv_iload hx hb dL_next_68 (lv_at hl 8 rfl) ?_
            refine lw_E (nI xc_4) (by rw [c_4]; rfl) ?_
            refine cg_ald F hK hA 1 64 rfl xc_4 rfl (by omega) (by decide) dL_next_70 ?_
            refine lv_bipush (v := 8) hx hb dL_next_71 (by decide) ?_
            refine lv_idiv hx hb dL_next_73 (by decide) ?_
            refine lv_bipush (v := 8) hx hb dL_next_74 (by decide) ?_
            refine lw_rem hx hb dL_next_76 (by decide) ?_
            refine lv_iadd hx hb dL_next_77 ?_
            refine lv_icmp_le (tgt := 85) hx hb dL_next_78 (by decide) (fun c_7 => ?_) (fun c_7 => ?_)
            · skip
              refine lv_iconst (v := 0) hx hb dL_next_85 (by decide) ?_
              refine lv_istore (lv' := [(9, .int 0), (8, .int ((8 * F9 2 j) + (md (F9 1 j / 8) 8))), (7, .int (nI j)), (6, .int (oI f)), (0, .ref (q 0)), (1, .ref (q 1)), (2, .ref (q 2)), (3, .ref (q 3)), (4, .int (nI vw)), (5, .int (oI o))]) hx hb dL_next_86 hl (by decide) rfl (fun ls hl => ?_)
              refine lv_iload hx hb dL_next_88 (lv_at hl 0 rfl) ?_
              refine lv_if_eq (tgt := 126) hx hb dL_next_90 (by decide) (fun _ => ?_) (fun z9 => absurd (by decide) z9)
              refine lv_iload hx hb dL_next_126 (lv_at hl 3 rfl) ?_
              refine lv_istore (lv' := [(6, .int (oI f)), (9, .int 0), (8, .int ((8 * F9 2 j) + (md (F9 1 j / 8) 8))), (7, .int (nI j)), (0, .ref (q 0)), (1, .ref (q 1)), (2, .ref (q 2)), (3, .ref (q 3)), (4, .int (nI vw)), (5, .int (oI o))]) hx hb dL_next_128 hl (by decide) rfl (fun ls hl => ?_)
              refine lv_iinc (v := nI (j + 1)) (lv' := [(7, .int (nI (j + 1))), (6, .int (oI f)), (9, .int 0), (8, .int ((8 * F9 2 j) + (md (F9 1 j / 8) 8))), (0, .ref (q 0)), (1, .ref (q 1)), (2, .ref (q 2)), (3, .ref (q 3)), (4, .int (nI vw)), (5, .int (oI o))]) hx hb dL_next_130 hl (k := 3) rfl (show nI j + Int32.ofInt 1 = _ from nI_add j 1) (by decide) rfl (fun ls hl => ?_)
              refine lv_goto (tgt := 6) hx hb dL_next_133 (by decide) ?_
              exact ihu_1  f (j + 1)  ls (by omega) (by first | omega | assumption) (by rw [foldU_s, ← hf]; simp [nxS, lKn, lBh, lFd, lRk, c_2, mc_2, c_3, mc_3, c_4, c_7]) (fun x z => by first | (cases z; omega) | (exact hfb x z) | (exact hfb x (by simp [*])))  (lv_sub hl [0, 1, 4, 5, 6, 7, 8, 9] rfl)
            · skip
              refine lv_iconst (v := 1) hx hb dL_next_81 (by decide) ?_
              refine lv_goto (tgt := 86) hx hb dL_next_82 (by decide) ?_
              refine lv_istore (lv' := [(9, .int 1), (8, .int ((8 * F9 2 j) + (md (F9 1 j / 8) 8))), (7, .int (nI j)), (6, .int (oI f)), (0, .ref (q 0)), (1, .ref (q 1)), (2, .ref (q 2)), (3, .ref (q 3)), (4, .int (nI vw)), (5, .int (oI o))]) hx hb dL_next_86 hl (by decide) rfl (fun ls hl => ?_)
              refine lv_iload hx hb dL_next_88 (lv_at hl 0 rfl) ?_
              refine lv_if_eq (tgt := 126) hx hb dL_next_90 (by decide) (fun z9 => absurd z9 (by decide)) (fun _ => ?_)
              refine lv_iload hx hb dL_next_93 (lv_at hl 3 rfl) ?_
              refine lw_olt (tgt := 121) hx hb (fun x hx => by have := hfb x hx; omega) dL_next_95 (by decide) (fun c_8 => ?_) (fun xc_8 c_8 => ?_)
              · skip
                refine lv_iload hx hb dL_next_121 (lv_at hl 2 rfl) ?_
                refine lv_goto (tgt := 128) hx hb dL_next_123 (by decide) ?_
                refine lv_istore (lv' := [(6, .int (nI j)), (9, .int 1), (8, .int ((8 * F9 2 j) + (md (F9 1 j / 8) 8))), (7, .int (nI j)), (0, .ref (q 0)), (1, .ref (q 1)), (2, .ref (q 2)), (3, .ref (q 3)), (4, .int (nI vw)), (5, .int (oI o))]) hx hb dL_next_128 hl (by decide) rfl (fun ls hl => ?_)
                refine lv_iinc (v := nI (j + 1)) (lv' := [(7, .int (nI (j + 1))), (6, .int (nI j)), (9, .int 1), (8, .int ((8 * F9 2 j) + (md (F9 1 j / 8) 8))), (0, .ref (q 0)), (1, .ref (q 1)), (2, .ref (q 2)), (3, .ref (q 3)), (4, .int (nI vw)), (5, .int (oI o))]) hx hb dL_next_130 hl (k := 3) rfl (show nI j + Int32.ofInt 1 = _ from nI_add j 1) (by decide) rfl (fun ls hl => ?_)
                refine lv_goto (tgt := 6) hx hb dL_next_133 (by decide) ?_
                exact ihu_1  (some j) (j + 1)  ls (by omega) (by first | omega | assumption) (by rw [foldU_s, ← hf]; simp [nxS, lKn, lBh, lFd, lRk, c_2, mc_2, c_3, mc_3, c_4, c_7, c_8]) (fun x z => by first | (cases z; omega) | (exact hfb x z) | (exact hfb x (by simp [*])))  (lv_sub hl [0, 1, 4, 5, 6, 7, 8, 9] rfl)
              · skip
                have hxc_8 := hfb xc_8 c_8
                refine lv_iload hx hb dL_next_98 (lv_at hl 1 rfl) ?_
                refine lv_bipush (v := 8) hx hb dL_next_100 (by decide) ?_
                refine lv_aload_n hx hb dL_next_102 rfl (lv_at hl 6 rfl) ?_
                refine lv_iload hx hb dL_next_103 (lv_at hl 3 rfl) ?_
                refine lw_E (nI xc_8) (by rw [c_8]; rfl) ?_
                refine cg_ald F hK hA 2 64 rfl xc_8 rfl (by omega) (by decide) dL_next_105 ?_
                refine lv_imul hx hb dL_next_106 ?_
                refine lv_aload_n hx hb dL_next_107 rfl (lv_at hl 5 rfl) ?_
                refine lv_iload hx hb dL_next_108 (lv_at hl 3 rfl) ?_
                refine lw_E (nI xc_8) (by rw [c_8]; rfl) ?_
                refine cg_ald F hK hA 1 64 rfl xc_8 rfl (by omega) (by decide) dL_next_110 ?_
                refine lv_bipush (v := 8) hx hb dL_next_111 (by decide) ?_
                refine lv_idiv hx hb dL_next_113 (by decide) ?_
                refine lv_bipush (v := 8) hx hb dL_next_114 (by decide) ?_
                refine lw_rem hx hb dL_next_116 (by decide) ?_
                refine lv_iadd hx hb dL_next_117 ?_
                refine lv_icmp_ge (tgt := 126) hx hb dL_next_118 (by decide) (fun c_9 => ?_) (fun c_9 => ?_)
                · skip
                  refine lv_iload hx hb dL_next_126 (lv_at hl 3 rfl) ?_
                  refine lw_E (nI xc_8) (by rw [c_8]; rfl) ?_
                  refine lv_istore (lv' := [(6, .int (nI xc_8)), (9, .int 1), (8, .int ((8 * F9 2 j) + (md (F9 1 j / 8) 8))), (7, .int (nI j)), (0, .ref (q 0)), (1, .ref (q 1)), (2, .ref (q 2)), (3, .ref (q 3)), (4, .int (nI vw)), (5, .int (oI o))]) hx hb dL_next_128 hl (by decide) rfl (fun ls hl => ?_)
                  refine lv_iinc (v := nI (j + 1)) (lv' := [(7, .int (nI (j + 1))), (6, .int (nI xc_8)), (9, .int 1), (8, .int ((8 * F9 2 j) + (md (F9 1 j / 8) 8))), (0, .ref (q 0)), (1, .ref (q 1)), (2, .ref (q 2)), (3, .ref (q 3)), (4, .int (nI vw)), (5, .int (oI o))]) hx hb dL_next_130 hl (k := 3) rfl (show nI j + Int32.ofInt 1 = _ from nI_add j 1) (by decide) rfl (fun ls hl => ?_)
                  refine lv_goto (tgt := 6) hx hb dL_next_133 (by decide) ?_
                  exact ihu_1  (some xc_8) (j + 1)  ls (by omega) (by first | omega | assumption) (by rw [foldU_s, ← hf]; simp [nxS, lKn, lBh, lFd, lRk, c_2, mc_2, c_3, mc_3, c_4, c_7, c_8, c_9]) (fun x z => by first | (cases z; omega) | (exact hfb x z) | (exact hfb x (by simp [*])))  (lv_sub hl [0, 1, 4, 5, 6, 7, 8, 9] rfl)
                · skip
                  refine lv_iload hx hb dL_next_121 (lv_at hl 2 rfl) ?_
                  refine lv_goto (tgt := 128) hx hb dL_next_123 (by decide) ?_
                  refine lv_istore (lv' := [(6, .int (nI j)), (9, .int 1), (8, .int ((8 * F9 2 j) + (md (F9 1 j / 8) 8))), (7, .int (nI j)), (0, .ref (q 0)), (1, .ref (q 1)), (2, .ref (q 2)), (3, .ref (q 3)), (4, .int (nI vw)), (5, .int (oI o))]) hx hb dL_next_128 hl (by decide) rfl (fun ls hl => ?_)
                  refine lv_iinc (v := nI (j + 1)) (lv' := [(7, .int (nI (j + 1))), (6, .int (nI j)), (9, .int 1), (8, .int ((8 * F9 2 j) + (md (F9 1 j / 8) 8))), (0, .ref (q 0)), (1, .ref (q 1)), (2, .ref (q 2)), (3, .ref (q 3)), (4, .int (nI vw)), (5, .int (oI o))]) hx hb dL_next_130 hl (k := 3) rfl (show nI j + Int32.ofInt 1 = _ from nI_add j 1) (by decide) rfl (fun ls hl => ?_)
                  refine lv_goto (tgt := 6) hx hb dL_next_133 (by decide) ?_
                  exact ihu_1  (some j) (j + 1)  ls (by omega) (by first | omega | assumption) (by rw [foldU_s, ← hf]; simp [nxS, lKn, lBh, lFd, lRk, c_2, mc_2, c_3, mc_3, c_4, c_7, c_8, c_9]) (fun x z => by first | (cases z; omega) | (exact hfb x z) | (exact hfb x (by simp [*])))  (lv_sub hl [0, 1, 4, 5, 6, 7, 8, 9] rfl)
        · skip
          have mc_3 : ¬ 4 < vw := by omega
          refine lv_aload_n hx hb dL_next_40 rfl (lv_at hl 6 rfl) ?_
          refine lv_iload hx hb dL_next_41 (lv_at hl 1 rfl) ?_
          refine cg_ald F hK hA 3 64 rfl j rfl (by omega) (by decide) dL_next_43 ?_
          refine lv_iload hx hb dL_next_44 (lv_at hl 7 rfl) ?_
          refine lv_ishr hx hb dL_next_46 ?_
          refine lv_iconst (v := 1) hx hb dL_next_47 (by decide) ?_
          refine lv_iand hx hb dL_next_48 ?_
          refine lv_iconst (v := 1) hx hb dL_next_49 (by decide) ?_
          refine lv_icmp_ne (tgt := 85) hx hb dL_next_50 (by decide) (fun c_10 => ?_) (fun c_10 => ?_)
          · skip
            refine lv_iconst (v := 0) hx hb dL_next_85 (by decide) ?_
            refine lv_istore (lv' := [(9, .int 0), (8, .int ((8 * F9 2 j) + (md (F9 1 j / 8) 8))), (7, .int (nI j)), (6, .int (oI f)), (0, .ref (q 0)), (1, .ref (q 1)), (2, .ref (q 2)), (3, .ref (q 3)), (4, .int (nI vw)), (5, .int (oI o))]) hx hb dL_next_86 hl (by decide) rfl (fun ls hl => ?_)
            refine lv_iload hx hb dL_next_88 (lv_at hl 0 rfl) ?_
            refine lv_if_eq (tgt := 126) hx hb dL_next_90 (by decide) (fun _ => ?_) (fun z9 => absurd (by decide) z9)
            refine lv_iload hx hb dL_next_126 (lv_at hl 3 rfl) ?_
            refine lv_istore (lv' := [(6, .int (oI f)), (9, .int 0), (8, .int ((8 * F9 2 j) + (md (F9 1 j / 8) 8))), (7, .int (nI j)), (0, .ref (q 0)), (1, .ref (q 1)), (2, .ref (q 2)), (3, .ref (q 3)), (4, .int (nI vw)), (5, .int (oI o))]) hx hb dL_next_128 hl (by decide) rfl (fun ls hl => ?_)
            refine lv_iinc (v := nI (j + 1)) (lv' := [(7, .int (nI (j + 1))), (6, .int (oI f)), (9, .int 0), (8, .int ((8 * F9 2 j) + (md (F9 1 j / 8) 8))), (0, .ref (q 0)), (1, .ref (q 1)), (2, .ref (q 2)), (3, .ref (q 3)), (4, .int (nI vw)), (5, .int (oI o))]) hx hb dL_next_130 hl (k := 3) rfl (show nI j + Int32.ofInt 1 = _ from nI_add j 1) (by decide) rfl (fun ls hl => ?_)
            refine lv_goto (tgt := 6) hx hb dL_next_133 (by decide) ?_
            exact ihu_1  f (j + 1)  ls (by omega) (by first | omega | assumption) (by rw [foldU_s, ← hf]; simp [nxS, lKn, lBh, lFd, lRk, c_2, mc_2, c_3, mc_3, c_10]) (fun x z => by first | (cases z; omega) | (exact hfb x z) | (exact hfb x (by simp [*])))  (lv_sub hl [0, 1, 4, 5, 6, 7, 8, 9] rfl)
          · skip
            refine lv_iload hx hb dL_next_53 (lv_at hl 8 rfl) ?_
            refine lw_olt (tgt := 81) hx hb (fun x hx => by have := ho x hx; omega) dL_next_55 (by decide) (fun c_11 => ?_) (fun xc_11 c_11 => ?_)
            · skip
              refine lv_iconst (v := 1) hx hb dL_next_81 (by decide) ?_
              refine lv_goto (tgt := 86) hx hb dL_next_82 (by decide) ?_
              refine lv_istore (lv' := [(9, .int 1), (8, .int ((8 * F9 2 j) + (md (F9 1 j / 8) 8))), (7, .int (nI j)), (6, .int (oI f)), (0, .ref (q 0)), (1, .ref (q 1)), (2, .ref (q 2)), (3, .ref (q 3)), (4, .int (nI vw)), (5, .int (oI o))]) hx hb dL_next_86 hl (by decide) rfl (fun ls hl => ?_)
              refine lv_iload hx hb dL_next_88 (lv_at hl 0 rfl) ?_
              refine lv_if_eq (tgt := 126) hx hb dL_next_90 (by decide) (fun z9 => absurd z9 (by decide)) (fun _ => ?_)
              refine lv_iload hx hb dL_next_93 (lv_at hl 3 rfl) ?_
              refine lw_olt (tgt := 121) hx hb (fun x hx => by have := hfb x hx; omega) dL_next_95 (by decide) (fun c_12 => ?_) (fun xc_12 c_12 => ?_)
              · skip
                refine lv_iload hx hb dL_next_121 (lv_at hl 2 rfl) ?_
                refine lv_goto (tgt := 128) hx hb dL_next_123 (by decide) ?_
                refine lv_istore (lv' := [(6, .int (nI j)), (9, .int 1), (8, .int ((8 * F9 2 j) + (md (F9 1 j / 8) 8))), (7, .int (nI j)), (0, .ref (q 0)), (1, .ref (q 1)), (2, .ref (q 2)), (3, .ref (q 3)), (4, .int (nI vw)), (5, .int (oI o))]) hx hb dL_next_128 hl (by decide) rfl (fun ls hl => ?_)
                refine lv_iinc (v := nI (j + 1)) (lv' := [(7, .int (nI (j + 1))), (6, .int (nI j)), (9, .int 1), (8, .int ((8 * F9 2 j) + (md (F9 1 j / 8) 8))), (0, .ref (q 0)), (1, .ref (q 1)), (2, .ref (q 2)), (3, .ref (q 3)), (4, .int (nI vw)), (5, .int (oI o))]) hx hb dL_next_130 hl (k := 3) rfl (show nI j + Int32.ofInt 1 = _ from nI_add j 1) (by decide) rfl (fun ls hl => ?_)
                refine lv_goto (tgt := 6) hx hb dL_next_133 (by decide) ?_
                exact ihu_1  (some j) (j + 1)  ls (by omega) (by first | omega | assumption) (by rw [foldU_s, ← hf]; simp [nxS, lKn, lBh, lFd, lRk, c_2, mc_2, c_3, mc_3, c_10, c_11, c_12]) (fun x z => by first | (cases z; omega) | (exact hfb x z) | (exact hfb x (by simp [*])))  (lv_sub hl [0, 1, 4, 5, 6, 7, 8, 9] rfl)
              · skip
                have hxc_12 := hfb xc_12 c_12
                refine lv_iload hx hb dL_next_98 (lv_at hl 1 rfl) ?_
                refine lv_bipush (v := 8) hx hb dL_next_100 (by decide) ?_
                refine lv_aload_n hx hb dL_next_102 rfl (lv_at hl 6 rfl) ?_
                refine lv_iload hx hb dL_next_103 (lv_at hl 3 rfl) ?_
                refine lw_E (nI xc_12) (by rw [c_12]; rfl) ?_
                refine cg_ald F hK hA 2 64 rfl xc_12 rfl (by omega) (by decide) dL_next_105 ?_
                refine lv_imul hx hb dL_next_106 ?_
                refine lv_aload_n hx hb dL_next_107 rfl (lv_at hl 5 rfl) ?_
                refine lv_iload hx hb dL_next_108 (lv_at hl 3 rfl) ?_
                refine lw_E (nI xc_12) (by rw [c_12]; rfl) ?_
                refine cg_ald F hK hA 1 64 rfl xc_12 rfl (by omega) (by decide) dL_next_110 ?_
                refine lv_bipush (v := 8) hx hb dL_next_111 (by decide) ?_
                refine lv_idiv hx hb dL_next_113 (by decide) ?_
                refine lv_bipush (v := 8) hx hb dL_next_114 (by decide) ?_
                refine lw_rem hx hb dL_next_116 (by decide) ?_
                refine lv_iadd hx hb dL_next_117 ?_
                refine lv_icmp_ge (tgt := 126) hx hb dL_next_118 (by decide) (fun c_13 => ?_) (fun c_13 => ?_)
                · skip
                  refine lv_iload hx hb dL_next_126 (lv_at hl 3 rfl) ?_
                  refine lw_E (nI xc_12) (by rw [c_12]; rfl) ?_
                  refine lv_istore (lv' := [(6, .int (nI xc_12)), (9, .int 1), (8, .int ((8 * F9 2 j) + (md (F9 1 j / 8) 8))), (7, .int (nI j)), (0, .ref (q 0)), (1, .ref (q 1)), (2, .ref (q 2)), (3, .ref (q 3)), (4, .int (nI vw)), (5, .int (oI o))]) hx hb dL_next_128 hl (by decide) rfl (fun ls hl => ?_)
                  refine lv_iinc (v := nI (j + 1)) (lv' := [(7, .int (nI (j + 1))), (6, .int (nI xc_12)), (9, .int 1), (8, .int ((8 * F9 2 j) + (md (F9 1 j / 8) 8))), (0, .ref (q 0)), (1, .ref (q 1)), (2, .ref (q 2)), (3, .ref (q 3)), (4, .int (nI vw)), (5, .int (oI o))]) hx hb dL_next_130 hl (k := 3) rfl (show nI j + Int32.ofInt 1 = _ from nI_add j 1) (by decide) rfl (fun ls hl => ?_)
                  refine lv_goto (tgt := 6) hx hb dL_next_133 (by decide) ?_
                  exact ihu_1  (some xc_12) (j + 1)  ls (by omega) (by first | omega | assumption) (by rw [foldU_s, ← hf]; simp [nxS, lKn, lBh, lFd, lRk, c_2, mc_2, c_3, mc_3, c_10, c_11, c_12, c_13]) (fun x z => by first | (cases z; omega) | (exact hfb x z) | (exact hfb x (by simp [*])))  (lv_sub hl [0, 1, 4, 5, 6, 7, 8, 9] rfl)
                · skip
                  refine lv_iload hx hb dL_next_121 (lv_at hl 2 rfl) ?_
                  refine lv_goto (tgt := 128) hx hb dL_next_123 (by decide) ?_
                  refine lv_istore (lv' := [(6, .int (nI j)), (9, .int 1), (8, .int ((8 * F9 2 j) + (md (F9 1 j / 8) 8))), (7, .int (nI j)), (0, .ref (q 0)), (1, .ref (q 1)), (2, .ref (q 2)), (3, .ref (q 3)), (4, .int (nI vw)), (5, .int (oI o))]) hx hb dL_next_128 hl (by decide) rfl (fun ls hl => ?_)
                  refine lv_iinc (v := nI (j + 1)) (lv' := [(7, .int (nI (j + 1))), (6, .int (nI j)), (9, .int 1), (8, .int ((8 * F9 2 j) + (md (F9 1 j / 8) 8))), (0, .ref (q 0)), (1, .ref (q 1)), (2, .ref (q 2)), (3, .ref (q 3)), (4, .int (nI vw)), (5, .int (oI o))]) hx hb dL_next_130 hl (k := 3) rfl (show nI j + Int32.ofInt 1 = _ from nI_add j 1) (by decide) rfl (fun ls hl => ?_)
                  refine lv_goto (tgt := 6) hx hb dL_next_133 (by decide) ?_
                  exact ihu_1  (some j) (j + 1)  ls (by omega) (by first | omega | assumption) (by rw [foldU_s, ← hf]; simp [nxS, lKn, lBh, lFd, lRk, c_2, mc_2, c_3, mc_3, c_10, c_11, c_12, c_13]) (fun x z => by first | (cases z; omega) | (exact hfb x z) | (exact hfb x (by simp [*])))  (lv_sub hl [0, 1, 4, 5, 6, 7, 8, 9] rfl)
            · skip
              have hxc_11 := ho xc_11 c_11
              refine lv_iload hx hb dL_next_58 (lv_at hl 0 rfl) ?_
              refine lv_bipush (v := 8) hx hb dL_next_60 (by decide) ?_
              refine lv_aload_n hx hb dL_next_62 rfl (lv_at hl 5 rfl) ?_
              refine lv_iload hx hb dL_next_63 (lv_at hl 8 rfl) ?_
              refine lw_E (nI xc_11) (by rw [c_11]; rfl) ?_
              refine cg_ald F hK hA 2 64 rfl xc_11 rfl (by omega) (by decide) dL_next_65 ?_
              refine lv_imul hx hb dL_next_66 ?_
              refine lv_aload_n hx hb dL_next_67 rfl (lv_at hl 4 rfl) ?_
              refine lv_iload hx hb dL_next_68 (lv_at hl 8 rfl) ?_
              refine lw_E (nI xc_11) (by rw [c_11]; rfl) ?_
              refine cg_ald F hK hA 1 64 rfl xc_11 rfl (by omega) (by decide) dL_next_70 ?_
              refine lv_bipush (v := 8) hx hb dL_next_71 (by decide) ?_
              refine lv_idiv hx hb dL_next_73 (by decide) ?_
              refine lv_bipush (v := 8) hx hb dL_next_74 (by decide) ?_
              refine lw_rem hx hb dL_next_76 (by decide) ?_
              refine lv_iadd hx hb dL_next_77 ?_
              refine lv_icmp_le (tgt := 85) hx hb dL_next_78 (by decide) (fun c_14 => ?_) (fun c_14 => ?_)
              · skip
                refine lv_iconst (v := 0) hx hb dL_next_85 (by decide) ?_
                refine lv_istore (lv' := [(9, .int 0), (8, .int ((8 * F9 2 j) + (md (F9 1 j / 8) 8))), (7, .int (nI j)), (6, .int (oI f)), (0, .ref (q 0)), (1, .ref (q 1)), (2, .ref (q 2)), (3, .ref (q 3)), (4, .int (nI vw)), (5, .int (oI o))]) hx hb dL_next_86 hl (by decide) rfl (fun ls hl => ?_)
                refine lv_iload hx hb dL_next_88 (lv_at hl 0 rfl) ?_
                refine lv_if_eq (tgt := 126) hx hb dL_next_90 (by decide) (fun _ => ?_) (fun z9 => absurd (by decide) z9)
                refine lv_iload hx hb dL_next_126 (lv_at hl 3 rfl) ?_
                refine lv_istore (lv' := [(6, .int (oI f)), (9, .int 0), (8, .int ((8 * F9 2 j) + (md (F9 1 j / 8) 8))), (7, .int (nI j)), (0, .ref (q 0)), (1, .ref (q 1)), (2, .ref (q 2)), (3, .ref (q 3)), (4, .int (nI vw)), (5, .int (oI o))]) hx hb dL_next_128 hl (by decide) rfl (fun ls hl => ?_)
                refine lv_iinc (v := nI (j + 1)) (lv' := [(7, .int (nI (j + 1))), (6, .int (oI f)), (9, .int 0), (8, .int ((8 * F9 2 j) + (md (F9 1 j / 8) 8))), (0, .ref (q 0)), (1, .ref (q 1)), (2, .ref (q 2)), (3, .ref (q 3)), (4, .int (nI vw)), (5, .int (oI o))]) hx hb dL_next_130 hl (k := 3) rfl (show nI j + Int32.ofInt 1 = _ from nI_add j 1) (by decide) rfl (fun ls hl => ?_)
                refine lv_goto (tgt := 6) hx hb dL_next_133 (by decide) ?_
                exact ihu_1  f (j + 1)  ls (by omega) (by first | omega | assumption) (by rw [foldU_s, ← hf]; simp [nxS, lKn, lBh, lFd, lRk, c_2, mc_2, c_3, mc_3, c_10, c_11, c_14]) (fun x z => by first | (cases z; omega) | (exact hfb x z) | (exact hfb x (by simp [*])))  (lv_sub hl [0, 1, 4, 5, 6, 7, 8, 9] rfl)
              · skip
                refine lv_iconst (v := 1) hx hb dL_next_81 (by decide) ?_
                refine lv_goto (tgt := 86) hx hb dL_next_82 (by decide) ?_
                refine lv_istore (lv' := [(9, .int 1), (8, .int ((8 * F9 2 j) + (md (F9 1 j / 8) 8))), (7, .int (nI j)), (6, .int (oI f)), (0, .ref (q 0)), (1, .ref (q 1)), (2, .ref (q 2)), (3, .ref (q 3)), (4, .int (nI vw)), (5, .int (oI o))]) hx hb dL_next_86 hl (by decide) rfl (fun ls hl => ?_)
                refine lv_iload hx hb dL_next_88 (lv_at hl 0 rfl) ?_
                refine lv_if_eq (tgt := 126) hx hb dL_next_90 (by decide) (fun z9 => absurd z9 (by decide)) (fun _ => ?_)
                refine lv_iload hx hb dL_next_93 (lv_at hl 3 rfl) ?_
                refine lw_olt (tgt := 121) hx hb (fun x hx => by have := hfb x hx; omega) dL_next_95 (by decide) (fun c_15 => ?_) (fun xc_15 c_15 => ?_)
                · skip
                  refine lv_iload hx hb dL_next_121 (lv_at hl 2 rfl) ?_
                  refine lv_goto (tgt := 128) hx hb dL_next_123 (by decide) ?_
                  refine lv_istore (lv' := [(6, .int (nI j)), (9, .int 1), (8, .int ((8 * F9 2 j) + (md (F9 1 j / 8) 8))), (7, .int (nI j)), (0, .ref (q 0)), (1, .ref (q 1)), (2, .ref (q 2)), (3, .ref (q 3)), (4, .int (nI vw)), (5, .int (oI o))]) hx hb dL_next_128 hl (by decide) rfl (fun ls hl => ?_)
                  refine lv_iinc (v := nI (j + 1)) (lv' := [(7, .int (nI (j + 1))), (6, .int (nI j)), (9, .int 1), (8, .int ((8 * F9 2 j) + (md (F9 1 j / 8) 8))), (0, .ref (q 0)), (1, .ref (q 1)), (2, .ref (q 2)), (3, .ref (q 3)), (4, .int (nI vw)), (5, .int (oI o))]) hx hb dL_next_130 hl (k := 3) rfl (show nI j + Int32.ofInt 1 = _ from nI_add j 1) (by decide) rfl (fun ls hl => ?_)
                  refine lv_goto (tgt := 6) hx hb dL_next_133 (by decide) ?_
                  exact ihu_1  (some j) (j + 1)  ls (by omega) (by first | omega | assumption) (by rw [foldU_s, ← hf]; simp [nxS, lKn, lBh, lFd, lRk, c_2, mc_2, c_3, mc_3, c_10, c_11, c_14, c_15]) (fun x z => by first | (cases z; omega) | (exact hfb x z) | (exact hfb x (by simp [*])))  (lv_sub hl [0, 1, 4, 5, 6, 7, 8, 9] rfl)
                · skip
                  have hxc_15 := hfb xc_15 c_15
                  refine lv_iload hx hb dL_next_98 (lv_at hl 1 rfl) ?_
                  refine lv_bipush (v := 8) hx hb dL_next_100 (by decide) ?_
                  refine lv_aload_n hx hb dL_next_102 rfl (lv_at hl 6 rfl) ?_
                  refine lv_iload hx hb dL_next_103 (lv_at hl 3 rfl) ?_
                  refine lw_E (nI xc_15) (by rw [c_15]; rfl) ?_
                  refine cg_ald F hK hA 2 64 rfl xc_15 rfl (by omega) (by decide) dL_next_105 ?_
                  refine lv_imul hx hb dL_next_106 ?_
                  refine lv_aload_n hx hb dL_next_107 rfl (lv_at hl 5 rfl) ?_
                  refine lv_iload hx hb dL_next_108 (lv_at hl 3 rfl) ?_
                  refine lw_E (nI xc_15) (by rw [c_15]; rfl) ?_
                  refine cg_ald F hK hA 1 64 rfl xc_15 rfl (by omega) (by decide) dL_next_110 ?_
                  refine lv_bipush (v := 8) hx hb dL_next_111 (by decide) ?_
                  refine lv_idiv hx hb dL_next_113 (by decide) ?_
                  refine lv_bipush (v := 8) hx hb dL_next_114 (by decide) ?_
                  refine lw_rem hx hb dL_next_116 (by decide) ?_
                  refine lv_iadd hx hb dL_next_117 ?_
                  refine lv_icmp_ge (tgt := 126) hx hb dL_next_118 (by decide) (fun c_16 => ?_) (fun c_16 => ?_)
                  · skip
                    refine lv_iload hx hb dL_next_126 (lv_at hl 3 rfl) ?_
                    refine lw_E (nI xc_15) (by rw [c_15]; rfl) ?_
                    refine lv_istore (lv' := [(6, .int (nI xc_15)), (9, .int 1), (8, .int ((8 * F9 2 j) + (md (F9 1 j / 8) 8))), (7, .int (nI j)), (0, .ref (q 0)), (1, .ref (q 1)), (2, .ref (q 2)), (3, .ref (q 3)), (4, .int (nI vw)), (5, .int (oI o))]) hx hb dL_next_128 hl (by decide) rfl (fun ls hl => ?_)
                    refine lv_iinc (v := nI (j + 1)) (lv' := [(7, .int (nI (j + 1))), (6, .int (nI xc_15)), (9, .int 1), (8, .int ((8 * F9 2 j) + (md (F9 1 j / 8) 8))), (0, .ref (q 0)), (1, .ref (q 1)), (2, .ref (q 2)), (3, .ref (q 3)), (4, .int (nI vw)), (5, .int (oI o))]) hx hb dL_next_130 hl (k := 3) rfl (show nI j + Int32.ofInt 1 = _ from nI_add j 1) (by decide) rfl (fun ls hl => ?_)
                    refine lv_goto (tgt := 6) hx hb dL_next_133 (by decide) ?_
                    exact ihu_1  (some xc_15) (j + 1)  ls (by omega) (by first | omega | assumption) (by rw [foldU_s, ← hf]; simp [nxS, lKn, lBh, lFd, lRk, c_2, mc_2, c_3, mc_3, c_10, c_11, c_14, c_15, c_16]) (fun x z => by first | (cases z; omega) | (exact hfb x z) | (exact hfb x (by simp [*])))  (lv_sub hl [0, 1, 4, 5, 6, 7, 8, 9] rfl)
                  · skip
                    refine lv_iload hx hb dL_next_121 (lv_at hl 2 rfl) ?_
                    refine lv_goto (tgt := 128) hx hb dL_next_123 (by decide) ?_
                    refine lv_istore (lv' := [(6, .int (nI j)), (9, .int 1), (8, .int ((8 * F9 2 j) + (md (F9 1 j / 8) 8))), (7, .int (nI j)), (0, .ref (q 0)), (1, .ref (q 1)), (2, .ref (q 2)), (3, .ref (q 3)), (4, .int (nI vw)), (5, .int (oI o))]) hx hb dL_next_128 hl (by decide) rfl (fun ls hl => ?_)
                    refine lv_iinc (v := nI (j + 1)) (lv' := [(7, .int (nI (j + 1))), (6, .int (nI j)), (9, .int 1), (8, .int ((8 * F9 2 j) + (md (F9 1 j / 8) 8))), (0, .ref (q 0)), (1, .ref (q 1)), (2, .ref (q 2)), (3, .ref (q 3)), (4, .int (nI vw)), (5, .int (oI o))]) hx hb dL_next_130 hl (k := 3) rfl (show nI j + Int32.ofInt 1 = _ from nI_add j 1) (by decide) rfl (fun ls hl => ?_)
                    refine lv_goto (tgt := 6) hx hb dL_next_133 (by decide) ?_
                    exact ihu_1  (some j) (j + 1)  ls (by omega) (by first | omega | assumption) (by rw [foldU_s, ← hf]; simp [nxS, lKn, lBh, lFd, lRk, c_2, mc_2, c_3, mc_3, c_10, c_11, c_14, c_15, c_16]) (fun x z => by first | (cases z; omega) | (exact hfb x z) | (exact hfb x (by simp [*])))  (lv_sub hl [0, 1, 4, 5, 6, 7, 8, 9] rfl)
  exact L6_u_1 _ none 0  ls (Nat.lt_succ_self _) (by first | omega | assumption) (rfl) (fun x z => nomatch z)  (lv_sub hl [0, 1, 2, 3, 4, 5, 6, 7] rfl)
/-! what lays writes -/
def zrS (j : Nat) (G : FF) : FF := upA (upA (upA G 8 j 0) 9 j 0) 10 j 0
theorem zr_k (F : FF) {k : Nat} (hk : k < 8) : ∀ j, foldU zrS F j k = F k
  | 0 => rfl
  | j + 1 => by
    rw [foldU_s]
    unfold zrS
    rw [upA_k (by omega), upA_k (by omega), upA_k (by omega)]
    exact zr_k F hk j
def lyS (F : FF) (z : FF × Nat) (i : Nat) : FF × Nat :=
  if kd F i = 0 then (upA z.1 8 (it F i) (md (F 1 i / 8) 8 + 1), z.2)
  else if kd F i = 1 then (upA (upA z.1 10 11 (z.1 10 11 ||| (if !decide (F 4 i ≤ 0) && decide (z.1 8 (it F i) = 0) then (1 : Int32) <<< ((F 4 i - 1) &&& 31) else 0))) 8 (it F i) 0, z.2)
  else if kd F i = 2 then (upA z.1 10 (it F i) (nI (i + 1)), z.2)
  else if kd F i = 3 then (upA (upA z.1 10 8 (z.1 10 8 ||| ((1 : Int32) <<< (nI (it F i) &&& 31)))) 10 (12 + it F i) (nI z.2), z.2 + 1)
  else if kd F i = 4 then (upA z.1 9 (it F i) (z.1 9 (it F i) ||| ((1 : Int32) <<< ((F 4 i - 1) &&& 31))), z.2)
  else (upA z.1 10 (kd F i + 4) (z.1 10 (kd F i + 4) ||| ((1 : Int32) <<< (nI (it F i) &&& 31))), z.2)
def lLy (F : FF) (l : List Nat) : FF := (l.foldl (lyS F) (foldU zrS F 40, 0)).1
set_option maxHeartbeats 4000000 in
set_option maxRecDepth 100000 in
theorem la_lays {l : Launch} {D : va_G} {cI cII : ClassId} {q : Nat → Nat} {F9 : FF} (hN : (lA q).Nodup) {n : Nat} {l9 : List Nat} (vw : Nat) (hn0 : F9 0 0 = nI n) (hn : n ≤ 64) (hv : vw ≤ 5) (hW : ∀ i, i < n → wOk F9 i) (hc0 : lNx F9 n vw none = l9.head?) (hch : nxC F9 n vw l9) (hsub : ∀ z, z ∈ l9 → z < n) : la_Met l yL_lays wsL_lays 1 29 D cI cII q [q 8, q 9, q 10] F9 [.ref (q 0), .ref (q 1), .ref (q 2), .ref (q 3), .ref (q 4), .int (nI vw), .ref (q 8), .ref (q 9), .ref (q 10)] (lLy F9 l9) := by
  refine la_start rfl (by decide +kernel) (Nat.le_of_ble_eq_true rfl) (fun p e9 s m below meth c F hr hlocks hK H locs hA hS ls hl => ?_)
  have hl : lv_has ls 13 [(0, .ref (q 0)), (1, .ref (q 1)), (2, .ref (q 2)), (3, .ref (q 3)), (4, .ref (q 4)), (5, .int (nI vw)), (6, .ref (q 8)), (7, .ref (q 9)), (8, .ref (q 10))] := hl
  have hx := F.1
  have hb := F.2.1
  refine lv_iconst (v := 0) hx hb dL_lays_0 (by decide) ?_
  refine lv_istore (lv' := [(9, .int 0), (0, .ref (q 0)), (1, .ref (q 1)), (2, .ref (q 2)), (3, .ref (q 3)), (4, .ref (q 4)), (5, .int (nI vw)), (6, .ref (q 8)), (7, .ref (q 9)), (8, .ref (q 10))]) hx hb dL_lays_1 hl (by decide) rfl (fun ls hl => ?_)
  have L3_u_1 : ∀ (k9u_1 : Nat) (G : FF) (j : Nat) (H : Heap) (locs : List Loc) (ls : Array Slot), 40 - j < k9u_1 → (j ≤ 40) → (G = foldU zrS F9 j) → va_P D vwCl (lX q cI G) H → va_S (fun x => x ∈ [q 8, q 9, q 10]) s.heap H locs → lv_has ls 13 [(9, .int (nI j)), (0, .ref (q 0)), (1, .ref (q 1)), (2, .ref (q 2)), (3, .ref (q 3)), (4, .ref (q 4)), (5, .int (nI vw)), (6, .ref (q 8)), (7, .ref (q 9)), (8, .ref (q 10))] → laW p l e9 1 29 s m [.ref (q 0), .ref (q 1), .ref (q 2), .ref (q 3), .ref (q 4), .int (nI vw), .ref (q 8), .ref (q 9), .ref (q 10)] below meth c H locs D cI q [q 8, q 9, q 10] (lLy F9 l9) (F0 m 3 ls []) := by
    intro k9u_1
    induction k9u_1 with
    | zero => intro G j H locs ls hk; exact absurd hk (Nat.not_lt_zero _)
    | succ k9u_1 ihu_1 =>
      intro G j H locs ls hk hj hGf hA hS hl
      refine lv_iload hx hb dL_lays_3 (lv_at hl 0 rfl) ?_
      refine lv_bipush (v := 40) hx hb dL_lays_5 (by decide) ?_
      refine lw_ge (tgt := 34) hx hb j 40 (by omega) (by omega) dL_lays_7 (by decide) (fun c_2 => ?_) (fun c_2 => ?_)
      · skip
        have mc_2 : ¬ j < 40 := by omega
        have hGa0 : ∀ k, k < 8 → G k = F9 k := fun k hk => by rw [hGf]; exact zr_k F9 hk j
        refine lv_iconst (v := 0) hx hb dL_lays_34 (by decide) ?_
        refine lv_istore (lv' := [(9, .int 0), (0, .ref (q 0)), (1, .ref (q 1)), (2, .ref (q 2)), (3, .ref (q 3)), (4, .ref (q 4)), (5, .int (nI vw)), (6, .ref (q 8)), (7, .ref (q 9)), (8, .ref (q 10))]) hx hb dL_lays_35 hl (by decide) rfl (fun ls hl => ?_)
        refine lv_aload_n hx hb dL_lays_37 rfl (lv_at hl 1 rfl) ?_
        refine lv_aload_n hx hb dL_lays_38 rfl (lv_at hl 2 rfl) ?_
        refine lv_aload_n hx hb dL_lays_39 rfl (lv_at hl 3 rfl) ?_
        refine lv_aload_n hx hb dL_lays_40 rfl (lv_at hl 4 rfl) ?_
        refine lv_iload hx hb dL_lays_41 (lv_at hl 6 rfl) ?_
        refine lv_iconst (v := (-1)) hx hb dL_lays_43 (by decide) ?_
        refine ro_callS F hK [.ref (q 0), .ref (q 1), .ref (q 2), .ref (q 3), .int (nI vw), .int (-1)] (lc_next hA vw none (show _ = nI n from (congrFun (show _ = F9 0 from hGa0 0 (by omega)) 0).trans hn0) (by first | assumption | omega) (by first | assumption | omega) (fun x z => nomatch z)) (va_cwS 6 F.2.2.2.2 gL_lays_L_next rfl rfl rfl (by decide +kernel) ⟨Nat.le_of_ble_eq_true rfl, Nat.le_of_ble_eq_true rfl⟩) rfl hl.1 rfl (lv_room (Nat.le_of_ble_eq_true rfl)) ⟨Nat.zero_le _, Nat.zero_le _⟩ dL_lays_44 ?_
        refine lw_E (oI l9.head?) (congrArg oI ((lNx_cg (show _ = F9 1 from hGa0 1 (by omega)) (show _ = F9 2 from hGa0 2 (by omega)) (show _ = F9 3 from hGa0 3 (by omega)) n vw none).trans hc0)) ?_
        refine lv_istore (lv' := [(10, .int (oI (l9.head?))), (9, .int 0), (0, .ref (q 0)), (1, .ref (q 1)), (2, .ref (q 2)), (3, .ref (q 3)), (4, .ref (q 4)), (5, .int (nI vw)), (6, .ref (q 8)), (7, .ref (q 9)), (8, .ref (q 10))]) hx hb dL_lays_47 hl (by decide) rfl (fun ls hl => ?_)
        have L49_u_3 : ∀ (k9u_3 : Nat) (r : List Nat) (G : FF) (pl : Nat) (H : Heap) (locs : List Loc) (ls : Array Slot), r.length < k9u_3 → (∀ k, k < 8 → G k = F9 k) → (∀ z, z ∈ r → z < n) → (nxC F9 n vw r) → (r.foldl (lyS F9) (G, pl) = l9.foldl (lyS F9) (foldU zrS F9 40, 0)) → va_P D vwCl (lX q cI G) H → va_S (fun x => x ∈ [q 8, q 9, q 10]) s.heap H locs → lv_has ls 13 [(9, .int (nI pl)), (10, .int (oI (r.head?))), (0, .ref (q 0)), (1, .ref (q 1)), (2, .ref (q 2)), (3, .ref (q 3)), (4, .ref (q 4)), (5, .int (nI vw)), (6, .ref (q 8)), (7, .ref (q 9)), (8, .ref (q 10))] → laW p l e9 1 29 s m [.ref (q 0), .ref (q 1), .ref (q 2), .ref (q 3), .ref (q 4), .int (nI vw), .ref (q 8), .ref (q 9), .ref (q 10)] below meth c H locs D cI q [q 8, q 9, q 10] (lLy F9 l9) (F0 m 49 ls []) := by
          intro k9u_3
          induction k9u_3 with
          | zero => intro r G pl H locs ls hk; exact absurd hk (Nat.not_lt_zero _)
          | succ k9u_3 ihu_3 =>
            intro r G pl H locs ls hk hGa hsub hch hf hA hS hl
            refine lv_iload hx hb dL_lays_49 (lv_at hl 1 rfl) ?_
            refine lw_olt (tgt := 257) hx hb (fun x hx => by have := hsub x (hd_mem hx); omega) dL_lays_51 (by decide) (fun c_4 => ?_) (fun xc_4 c_4 => ?_)
            · skip
              obtain rfl := hd_nil c_4
              exact la_ret F hr hlocks hA hS (by have z := congrArg Prod.fst hf; exact z) dL_lays_257
            · skip
              obtain ⟨rxc_4, rfl⟩ := hd_cons c_4
              have hl : lv_has ls 13 [(9, .int (nI pl)), (10, .int (nI xc_4)), (0, .ref (q 0)), (1, .ref (q 1)), (2, .ref (q 2)), (3, .ref (q 3)), (4, .ref (q 4)), (5, .int (nI vw)), (6, .ref (q 8)), (7, .ref (q 9)), (8, .ref (q 10))] := hl
              have hxn := hsub xc_4 List.mem_cons_self
              refine lv_aload_n hx hb dL_lays_54 rfl (lv_at hl 3 rfl) ?_
              refine lv_iload hx hb dL_lays_55 (lv_at hl 1 rfl) ?_
              refine cg_ald F hK hA 1 64 rfl xc_4 rfl (by omega) (by decide) dL_lays_57 ?_
              refine lw_E (F9 1 xc_4) (congrFun (show _ = F9 1 from hGa 1 (by omega)) xc_4) ?_
              refine lv_bipush (v := 8) hx hb dL_lays_58 (by decide) ?_
              refine lw_rem hx hb dL_lays_60 (by decide) ?_
              obtain ⟨w1, w2, w3, w4, w5, w6⟩ := hW xc_4 hxn
              refine lw_N (kd F9 xc_4) w1 ?_
              refine lv_istore (lv' := [(11, .int (nI (kd F9 xc_4))), (9, .int (nI pl)), (10, .int (nI xc_4)), (0, .ref (q 0)), (1, .ref (q 1)), (2, .ref (q 2)), (3, .ref (q 3)), (4, .ref (q 4)), (5, .int (nI vw)), (6, .ref (q 8)), (7, .ref (q 9)), (8, .ref (q 10))]) hx hb dL_lays_61 hl (by decide) rfl (fun ls hl => ?_)
              refine lv_aload_n hx hb dL_lays_63 rfl (lv_at hl 4 rfl) ?_
              refine lv_iload hx hb dL_lays_64 (lv_at hl 2 rfl) ?_
              refine cg_ald F hK hA 1 64 rfl xc_4 rfl (by omega) (by decide) dL_lays_66 ?_
              refine lw_E (F9 1 xc_4) (congrFun (show _ = F9 1 from hGa 1 (by omega)) xc_4) ?_
              refine lv_bipush (v := 64) hx hb dL_lays_67 (by decide) ?_
              refine lv_idiv hx hb dL_lays_69 (by decide) ?_
              refine lw_N (it F9 xc_4) w3 ?_
              refine lv_istore (lv' := [(12, .int (nI (it F9 xc_4))), (11, .int (nI (kd F9 xc_4))), (9, .int (nI pl)), (10, .int (nI xc_4)), (0, .ref (q 0)), (1, .ref (q 1)), (2, .ref (q 2)), (3, .ref (q 3)), (4, .ref (q 4)), (5, .int (nI vw)), (6, .ref (q 8)), (7, .ref (q 9)), (8, .ref (q 10))]) hx hb dL_lays_70 hl (by decide) rfl (fun ls hl => ?_)
              refine lv_iload hx hb dL_lays_72 (lv_at hl 1 rfl) ?_
              refine lw_zne (tgt := 97) hx hb (kd F9 xc_4) (by omega) dL_lays_74 (by decide) (fun c_5 => ?_) (fun c_5 => ?_)
              · skip
                refine lv_iload hx hb dL_lays_97 (lv_at hl 1 rfl) ?_
                refine lv_iconst (v := 1) hx hb dL_lays_99 (by decide) ?_
                refine lw_ne (tgt := 149) hx hb (kd F9 xc_4) 1 (by omega) (by omega) dL_lays_100 (by decide) (fun c_6 => ?_) (fun c_6 => ?_)
                · skip
                  refine lv_iload hx hb dL_lays_149 (lv_at hl 1 rfl) ?_
                  refine lv_iconst (v := 2) hx hb dL_lays_151 (by decide) ?_
                  refine lw_ne (tgt := 167) hx hb (kd F9 xc_4) 2 (by omega) (by omega) dL_lays_152 (by decide) (fun c_7 => ?_) (fun c_7 => ?_)
                  · skip
                    refine lv_iload hx hb dL_lays_167 (lv_at hl 1 rfl) ?_
                    refine lv_iconst (v := 3) hx hb dL_lays_169 (by decide) ?_
                    refine lw_ne (tgt := 201) hx hb (kd F9 xc_4) 3 (by omega) (by omega) dL_lays_170 (by decide) (fun c_8 => ?_) (fun c_8 => ?_)
                    · skip
                      refine lv_iload hx hb dL_lays_201 (lv_at hl 1 rfl) ?_
                      refine lv_iconst (v := 4) hx hb dL_lays_203 (by decide) ?_
                      refine lw_ne (tgt := 227) hx hb (kd F9 xc_4) 4 (by omega) (by omega) dL_lays_204 (by decide) (fun c_9 => ?_) (fun c_9 => ?_)
                      · skip
                        refine lv_aload hx hb dL_lays_227 (lv_at hl 12 rfl) ?_
                        refine lv_iload hx hb dL_lays_229 (lv_at hl 1 rfl) ?_
                        refine lv_iconst (v := 4) hx hb dL_lays_231 (by decide) ?_
                        refine lw_add hx hb (i := (kd F9 xc_4)) (j := 4) dL_lays_232 ?_
                        refine lv_dup2_11 hx hb dL_lays_233 rfl rfl ?_
                        refine cg_ald F hK hA 10 40 rfl ((kd F9 xc_4) + 4) rfl (by omega) (by decide) dL_lays_234 ?_
                        refine lv_iconst (v := 1) hx hb dL_lays_235 (by decide) ?_
                        refine lv_iload hx hb dL_lays_236 (lv_at hl 0 rfl) ?_
                        refine lv_ishl hx hb dL_lays_238 ?_
                        refine lv_ior hx hb dL_lays_239 ?_
                        refine la_ast F hK hN hA hS 10 40 (by simp) rfl ((kd F9 xc_4) + 4) rfl (by omega) (by decide) rfl dL_lays_240 (fun H locs hA _ hS => ?_)
                        refine lv_aload_n hx hb dL_lays_241 rfl (lv_at hl 4 rfl) ?_
                        refine lv_aload_n hx hb dL_lays_242 rfl (lv_at hl 5 rfl) ?_
                        refine lv_aload_n hx hb dL_lays_243 rfl (lv_at hl 6 rfl) ?_
                        refine lv_aload_n hx hb dL_lays_244 rfl (lv_at hl 7 rfl) ?_
                        refine lv_iload hx hb dL_lays_245 (lv_at hl 9 rfl) ?_
                        refine lv_iload hx hb dL_lays_247 (lv_at hl 3 rfl) ?_
                        refine ro_callS F hK [.ref (q 0), .ref (q 1), .ref (q 2), .ref (q 3), .int (nI vw), .int (nI xc_4)] (lc_next hA vw (some xc_4) (show _ = nI n from (congrFun (show _ = F9 0 from hGa 0 (by omega)) 0).trans hn0) (by first | assumption | omega) (by first | assumption | omega) (fun x z => by cases z; omega)) (va_cwS 6 F.2.2.2.2 gL_lays_L_next rfl rfl rfl (by decide +kernel) ⟨Nat.le_of_ble_eq_true rfl, Nat.le_of_ble_eq_true rfl⟩) rfl hl.1 rfl (lv_room (Nat.le_of_ble_eq_true rfl)) ⟨Nat.zero_le _, Nat.zero_le _⟩ dL_lays_249 ?_
                        refine lw_E (oI rxc_4.head?) (congrArg oI ((lNx_cg (show _ = F9 1 from hGa 1 (by omega)) (show _ = F9 2 from hGa 2 (by omega)) (show _ = F9 3 from hGa 3 (by omega)) n vw (some xc_4)).trans hch.1)) ?_
                        refine lv_istore (lv' := [(10, .int (oI (rxc_4.head?))), (12, .int (nI (it F9 xc_4))), (11, .int (nI (kd F9 xc_4))), (9, .int (nI pl)), (0, .ref (q 0)), (1, .ref (q 1)), (2, .ref (q 2)), (3, .ref (q 3)), (4, .ref (q 4)), (5, .int (nI vw)), (6, .ref (q 8)), (7, .ref (q 9)), (8, .ref (q 10))]) hx hb dL_lays_252 hl (by decide) rfl (fun ls hl => ?_)
                        refine lv_goto (tgt := 49) hx hb dL_lays_254 (by decide) ?_
                        exact ihu_3  rxc_4 (upA G 10 ((kd F9 xc_4) + 4) (G 10 ((kd F9 xc_4) + 4) ||| (1 <<< (nI (it F9 xc_4) &&& 31)))) pl _ _ ls (by have z := hk; simp at z; omega) (fun k hk => by (try rw [upA_k (show k ≠ 8 by omega)]); (try rw [upA_k (show k ≠ 9 by omega)]); (try rw [upA_k (show k ≠ 10 by omega)]); (try rw [upA_k (show k ≠ 10 by omega)]); exact hGa k hk) (fun z hz => hsub z (List.mem_cons_of_mem _ hz)) (hch.2) (by rw [← hf, List.foldl_cons]; simp [lyS, c_2, mc_2, c_5, c_6, c_7, c_8, c_9]) hA hS (lv_sub hl [3, 0, 4, 5, 6, 7, 8, 9, 10, 11, 12] rfl)
                      · skip
                        refine lv_aload hx hb dL_lays_207 (lv_at hl 11 rfl) ?_
                        refine lv_iload hx hb dL_lays_209 (lv_at hl 0 rfl) ?_
                        refine lv_dup2_11 hx hb dL_lays_211 rfl rfl ?_
                        refine cg_ald F hK hA 9 40 rfl (it F9 xc_4) rfl (by omega) (by decide) dL_lays_212 ?_
                        refine lv_iconst (v := 1) hx hb dL_lays_213 (by decide) ?_
                        refine lv_aload hx hb dL_lays_214 (lv_at hl 8 rfl) ?_
                        refine lv_iload hx hb dL_lays_216 (lv_at hl 3 rfl) ?_
                        refine cg_ald F hK hA 4 64 rfl xc_4 rfl (by omega) (by decide) dL_lays_218 ?_
                        refine lw_E (F9 4 xc_4) (congrFun (show _ = F9 4 from hGa 4 (by omega)) xc_4) ?_
                        refine lv_iconst (v := 1) hx hb dL_lays_219 (by decide) ?_
                        refine lv_isub hx hb dL_lays_220 ?_
                        refine lv_ishl hx hb dL_lays_221 ?_
                        refine lv_ior hx hb dL_lays_222 ?_
                        refine la_ast F hK hN hA hS 9 40 (by simp) rfl (it F9 xc_4) rfl (by omega) (by decide) rfl dL_lays_223 (fun H locs hA _ hS => ?_)
                        refine lv_goto (tgt := 241) hx hb dL_lays_224 (by decide) ?_
                        refine lv_aload_n hx hb dL_lays_241 rfl (lv_at hl 4 rfl) ?_
                        refine lv_aload_n hx hb dL_lays_242 rfl (lv_at hl 5 rfl) ?_
                        refine lv_aload_n hx hb dL_lays_243 rfl (lv_at hl 6 rfl) ?_
                        refine lv_aload_n hx hb dL_lays_244 rfl (lv_at hl 7 rfl) ?_
                        refine lv_iload hx hb dL_lays_245 (lv_at hl 9 rfl) ?_
                        refine lv_iload hx hb dL_lays_247 (lv_at hl 3 rfl) ?_
                        refine ro_callS F hK [.ref (q 0), .ref (q 1), .ref (q 2), .ref (q 3), .int (nI vw), .int (nI xc_4)] (lc_next hA vw (some xc_4) (show _ = nI n from (congrFun (show _ = F9 0 from hGa 0 (by omega)) 0).trans hn0) (by first | assumption | omega) (by first | assumption | omega) (fun x z => by cases z; omega)) (va_cwS 6 F.2.2.2.2 gL_lays_L_next rfl rfl rfl (by decide +kernel) ⟨Nat.le_of_ble_eq_true rfl, Nat.le_of_ble_eq_true rfl⟩) rfl hl.1 rfl (lv_room (Nat.le_of_ble_eq_true rfl)) ⟨Nat.zero_le _, Nat.zero_le _⟩ dL_lays_249 ?_
                        refine lw_E (oI rxc_4.head?) (congrArg oI ((lNx_cg (show _ = F9 1 from hGa 1 (by omega)) (show _ = F9 2 from hGa 2 (by omega)) (show _ = F9 3 from hGa 3 (by omega)) n vw (some xc_4)).trans hch.1)) ?_
                        refine lv_istore (lv' := [(10, .int (oI (rxc_4.head?))), (12, .int (nI (it F9 xc_4))), (11, .int (nI (kd F9 xc_4))), (9, .int (nI pl)), (0, .ref (q 0)), (1, .ref (q 1)), (2, .ref (q 2)), (3, .ref (q 3)), (4, .ref (q 4)), (5, .int (nI vw)), (6, .ref (q 8)), (7, .ref (q 9)), (8, .ref (q 10))]) hx hb dL_lays_252 hl (by decide) rfl (fun ls hl => ?_)
                        refine lv_goto (tgt := 49) hx hb dL_lays_254 (by decide) ?_
                        exact ihu_3  rxc_4 (upA G 9 (it F9 xc_4) (G 9 (it F9 xc_4) ||| (1 <<< ((F9 4 xc_4 - 1) &&& 31)))) pl _ _ ls (by have z := hk; simp at z; omega) (fun k hk => by (try rw [upA_k (show k ≠ 8 by omega)]); (try rw [upA_k (show k ≠ 9 by omega)]); (try rw [upA_k (show k ≠ 10 by omega)]); (try rw [upA_k (show k ≠ 10 by omega)]); exact hGa k hk) (fun z hz => hsub z (List.mem_cons_of_mem _ hz)) (hch.2) (by rw [← hf, List.foldl_cons]; simp [lyS, c_2, mc_2, c_5, c_6, c_7, c_8, c_9]) hA hS (lv_sub hl [3, 0, 4, 5, 6, 7, 8, 9, 10, 11, 12] rfl)
                    · skip
                      refine lv_aload hx hb dL_lays_173 (lv_at hl 12 rfl) ?_
                      refine lv_bipush (v := 8) hx hb dL_lays_175 (by decide) ?_
                      refine lv_dup2_11 hx hb dL_lays_177 rfl rfl ?_
                      refine cg_ald F hK hA 10 40 rfl 8 rfl (by omega) (by decide) dL_lays_178 ?_
                      refine lv_iconst (v := 1) hx hb dL_lays_179 (by decide) ?_
                      refine lv_iload hx hb dL_lays_180 (lv_at hl 0 rfl) ?_
                      refine lv_ishl hx hb dL_lays_182 ?_
                      refine lv_ior hx hb dL_lays_183 ?_
                      refine la_ast F hK hN hA hS 10 40 (by simp) rfl 8 rfl (by omega) (by decide) rfl dL_lays_184 (fun H locs hA _ hS => ?_)
                      refine lv_aload hx hb dL_lays_185 (lv_at hl 12 rfl) ?_
                      refine lv_bipush (v := 12) hx hb dL_lays_187 (by decide) ?_
                      refine lv_iload hx hb dL_lays_189 (lv_at hl 0 rfl) ?_
                      refine lw_add hx hb (i := 12) (j := (it F9 xc_4)) dL_lays_191 ?_
                      refine lv_iload hx hb dL_lays_192 (lv_at hl 2 rfl) ?_
                      refine la_ast F hK hN hA hS 10 40 (by simp) rfl (12 + (it F9 xc_4)) rfl (by omega) (by decide) rfl dL_lays_194 (fun H locs hA _ hS => ?_)
                      refine lv_iinc (v := nI (pl + 1)) (lv' := [(9, .int (nI (pl + 1))), (12, .int (nI (it F9 xc_4))), (11, .int (nI (kd F9 xc_4))), (10, .int (nI xc_4)), (0, .ref (q 0)), (1, .ref (q 1)), (2, .ref (q 2)), (3, .ref (q 3)), (4, .ref (q 4)), (5, .int (nI vw)), (6, .ref (q 8)), (7, .ref (q 9)), (8, .ref (q 10))]) hx hb dL_lays_195 hl (k := 2) rfl (show nI pl + Int32.ofInt 1 = _ from nI_add pl 1) (by decide) rfl (fun ls hl => ?_)
                      refine lv_goto (tgt := 241) hx hb dL_lays_198 (by decide) ?_
                      refine lv_aload_n hx hb dL_lays_241 rfl (lv_at hl 4 rfl) ?_
                      refine lv_aload_n hx hb dL_lays_242 rfl (lv_at hl 5 rfl) ?_
                      refine lv_aload_n hx hb dL_lays_243 rfl (lv_at hl 6 rfl) ?_
                      refine lv_aload_n hx hb dL_lays_244 rfl (lv_at hl 7 rfl) ?_
                      refine lv_iload hx hb dL_lays_245 (lv_at hl 9 rfl) ?_
                      refine lv_iload hx hb dL_lays_247 (lv_at hl 3 rfl) ?_
                      refine ro_callS F hK [.ref (q 0), .ref (q 1), .ref (q 2), .ref (q 3), .int (nI vw), .int (nI xc_4)] (lc_next hA vw (some xc_4) (show _ = nI n from (congrFun (show _ = F9 0 from hGa 0 (by omega)) 0).trans hn0) (by first | assumption | omega) (by first | assumption | omega) (fun x z => by cases z; omega)) (va_cwS 6 F.2.2.2.2 gL_lays_L_next rfl rfl rfl (by decide +kernel) ⟨Nat.le_of_ble_eq_true rfl, Nat.le_of_ble_eq_true rfl⟩) rfl hl.1 rfl (lv_room (Nat.le_of_ble_eq_true rfl)) ⟨Nat.zero_le _, Nat.zero_le _⟩ dL_lays_249 ?_
                      refine lw_E (oI rxc_4.head?) (congrArg oI ((lNx_cg (show _ = F9 1 from hGa 1 (by omega)) (show _ = F9 2 from hGa 2 (by omega)) (show _ = F9 3 from hGa 3 (by omega)) n vw (some xc_4)).trans hch.1)) ?_
                      refine lv_istore (lv' := [(10, .int (oI (rxc_4.head?))), (9, .int (nI (pl + 1))), (12, .int (nI (it F9 xc_4))), (11, .int (nI (kd F9 xc_4))), (0, .ref (q 0)), (1, .ref (q 1)), (2, .ref (q 2)), (3, .ref (q 3)), (4, .ref (q 4)), (5, .int (nI vw)), (6, .ref (q 8)), (7, .ref (q 9)), (8, .ref (q 10))]) hx hb dL_lays_252 hl (by decide) rfl (fun ls hl => ?_)
                      refine lv_goto (tgt := 49) hx hb dL_lays_254 (by decide) ?_
                      exact ihu_3  rxc_4 (upA (upA G 10 8 (G 10 8 ||| (1 <<< (nI (it F9 xc_4) &&& 31)))) 10 (12 + (it F9 xc_4)) (nI pl)) (pl + 1) _ _ ls (by have z := hk; simp at z; omega) (fun k hk => by (try rw [upA_k (show k ≠ 8 by omega)]); (try rw [upA_k (show k ≠ 9 by omega)]); (try rw [upA_k (show k ≠ 10 by omega)]); (try rw [upA_k (show k ≠ 10 by omega)]); exact hGa k hk) (fun z hz => hsub z (List.mem_cons_of_mem _ hz)) (hch.2) (by rw [← hf, List.foldl_cons]; simp [lyS, c_2, mc_2, c_5, c_6, c_7, c_8]) hA hS (lv_sub hl [1, 0, 4, 5, 6, 7, 8, 9, 10, 11, 12] rfl)
                  · skip
                    refine lv_aload hx hb dL_lays_155 (lv_at hl 12 rfl) ?_
                    refine lv_iload hx hb dL_lays_157 (lv_at hl 0 rfl) ?_
                    refine lv_iload hx hb dL_lays_159 (lv_at hl 3 rfl) ?_
                    refine lv_iconst (v := 1) hx hb dL_lays_161 (by decide) ?_
                    refine lw_add hx hb (i := xc_4) (j := 1) dL_lays_162 ?_
                    refine la_ast F hK hN hA hS 10 40 (by simp) rfl (it F9 xc_4) rfl (by omega) (by decide) rfl dL_lays_163 (fun H locs hA _ hS => ?_)
                    refine lv_goto (tgt := 241) hx hb dL_lays_164 (by decide) ?_
                    refine lv_aload_n hx hb dL_lays_241 rfl (lv_at hl 4 rfl) ?_
                    refine lv_aload_n hx hb dL_lays_242 rfl (lv_at hl 5 rfl) ?_
                    refine lv_aload_n hx hb dL_lays_243 rfl (lv_at hl 6 rfl) ?_
                    refine lv_aload_n hx hb dL_lays_244 rfl (lv_at hl 7 rfl) ?_
                    refine lv_iload hx hb dL_lays_245 (lv_at hl 9 rfl) ?_
                    refine lv_iload hx hb dL_lays_247 (lv_at hl 3 rfl) ?_
                    refine ro_callS F hK [.ref (q 0), .ref (q 1), .ref (q 2), .ref (q 3), .int (nI vw), .int (nI xc_4)] (lc_next hA vw (some xc_4) (show _ = nI n from (congrFun (show _ = F9 0 from hGa 0 (by omega)) 0).trans hn0) (by first | assumption | omega) (by first | assumption | omega) (fun x z => by cases z; omega)) (va_cwS 6 F.2.2.2.2 gL_lays_L_next rfl rfl rfl (by decide +kernel) ⟨Nat.le_of_ble_eq_true rfl, Nat.le_of_ble_eq_true rfl⟩) rfl hl.1 rfl (lv_room (Nat.le_of_ble_eq_true rfl)) ⟨Nat.zero_le _, Nat.zero_le _⟩ dL_lays_249 ?_
                    refine lw_E (oI rxc_4.head?) (congrArg oI ((lNx_cg (show _ = F9 1 from hGa 1 (by omega)) (show _ = F9 2 from hGa 2 (by omega)) (show _ = F9 3 from hGa 3 (by omega)) n vw (some xc_4)).trans hch.1)) ?_
                    refine lv_istore (lv' := [(10, .int (oI (rxc_4.head?))), (12, .int (nI (it F9 xc_4))), (11, .int (nI (kd F9 xc_4))), (9, .int (nI pl)), (0, .ref (q 0)), (1, .ref (q 1)), (2, .ref (q 2)), (3, .ref (q 3)), (4, .ref (q 4)), (5, .int (nI vw)), (6, .ref (q 8)), (7, .ref (q 9)), (8, .ref (q 10))]) hx hb dL_lays_252 hl (by decide) rfl (fun ls hl => ?_)
                    refine lv_goto (tgt := 49) hx hb dL_lays_254 (by decide) ?_
                    exact ihu_3  rxc_4 (upA G 10 (it F9 xc_4) (nI (xc_4 + 1))) pl _ _ ls (by have z := hk; simp at z; omega) (fun k hk => by (try rw [upA_k (show k ≠ 8 by omega)]); (try rw [upA_k (show k ≠ 9 by omega)]); (try rw [upA_k (show k ≠ 10 by omega)]); (try rw [upA_k (show k ≠ 10 by omega)]); exact hGa k hk) (fun z hz => hsub z (List.mem_cons_of_mem _ hz)) (hch.2) (by rw [← hf, List.foldl_cons]; simp [lyS, c_2, mc_2, c_5, c_6, c_7]) hA hS (lv_sub hl [3, 0, 4, 5, 6, 7, 8, 9, 10, 11, 12] rfl)
                · skip
                  refine lv_aload hx hb dL_lays_103 (lv_at hl 12 rfl) ?_
                  refine lv_bipush (v := 11) hx hb dL_lays_105 (by decide) ?_
                  refine lv_dup2_11 hx hb dL_lays_107 rfl rfl ?_
                  refine cg_ald F hK hA 10 40 rfl 11 rfl (by omega) (by decide) dL_lays_108 ?_
                  refine lv_aload hx hb dL_lays_109 (lv_at hl 8 rfl) ?_
                  refine lv_iload hx hb dL_lays_111 (lv_at hl 3 rfl) ?_
                  refine cg_ald F hK hA 4 64 rfl xc_4 rfl (by omega) (by decide) dL_lays_113 ?_
                  refine lw_E (F9 4 xc_4) (congrFun (show _ = F9 4 from hGa 4 (by omega)) xc_4) ?_
                  refine lv_if_le (tgt := 137) hx hb dL_lays_114 (by decide) (fun c_10 => ?_) (fun c_10 => ?_)
                  · skip
                    refine lv_iconst (v := 0) hx hb dL_lays_137 (by decide) ?_
                    refine lv_ior hx hb dL_lays_138 ?_
                    refine la_ast F hK hN hA hS 10 40 (by simp) rfl 11 rfl (by omega) (by decide) rfl dL_lays_139 (fun H locs hA _ hS => ?_)
                    refine lv_aload hx hb dL_lays_140 (lv_at hl 10 rfl) ?_
                    refine lv_iload hx hb dL_lays_142 (lv_at hl 0 rfl) ?_
                    refine lv_iconst (v := 0) hx hb dL_lays_144 (by decide) ?_
                    refine la_ast F hK hN hA hS 8 40 (by simp) rfl (it F9 xc_4) rfl (by omega) (by decide) rfl dL_lays_145 (fun H locs hA _ hS => ?_)
                    refine lv_goto (tgt := 241) hx hb dL_lays_146 (by decide) ?_
                    refine lv_aload_n hx hb dL_lays_241 rfl (lv_at hl 4 rfl) ?_
                    refine lv_aload_n hx hb dL_lays_242 rfl (lv_at hl 5 rfl) ?_
                    refine lv_aload_n hx hb dL_lays_243 rfl (lv_at hl 6 rfl) ?_
                    refine lv_aload_n hx hb dL_lays_244 rfl (lv_at hl 7 rfl) ?_
                    refine lv_iload hx hb dL_lays_245 (lv_at hl 9 rfl) ?_
                    refine lv_iload hx hb dL_lays_247 (lv_at hl 3 rfl) ?_
                    refine ro_callS F hK [.ref (q 0), .ref (q 1), .ref (q 2), .ref (q 3), .int (nI vw), .int (nI xc_4)] (lc_next hA vw (some xc_4) (show _ = nI n from (congrFun (show _ = F9 0 from hGa 0 (by omega)) 0).trans hn0) (by first | assumption | omega) (by first | assumption | omega) (fun x z => by cases z; omega)) (va_cwS 6 F.2.2.2.2 gL_lays_L_next rfl rfl rfl (by decide +kernel) ⟨Nat.le_of_ble_eq_true rfl, Nat.le_of_ble_eq_true rfl⟩) rfl hl.1 rfl (lv_room (Nat.le_of_ble_eq_true rfl)) ⟨Nat.zero_le _, Nat.zero_le _⟩ dL_lays_249 ?_
                    refine lw_E (oI rxc_4.head?) (congrArg oI ((lNx_cg (show _ = F9 1 from hGa 1 (by omega)) (show _ = F9 2 from hGa 2 (by omega)) (show _ = F9 3 from hGa 3 (by omega)) n vw (some xc_4)).trans hch.1)) ?_
                    refine lv_istore (lv' := [(10, .int (oI (rxc_4.head?))), (12, .int (nI (it F9 xc_4))), (11, .int (nI (kd F9 xc_4))), (9, .int (nI pl)), (0, .ref (q 0)), (1, .ref (q 1)), (2, .ref (q 2)), (3, .ref (q 3)), (4, .ref (q 4)), (5, .int (nI vw)), (6, .ref (q 8)), (7, .ref (q 9)), (8, .ref (q 10))]) hx hb dL_lays_252 hl (by decide) rfl (fun ls hl => ?_)
                    refine lv_goto (tgt := 49) hx hb dL_lays_254 (by decide) ?_
                    exact ihu_3  rxc_4 (upA (upA G 10 11 (G 10 11 ||| 0)) 8 (it F9 xc_4) 0) pl _ _ ls (by have z := hk; simp at z; omega) (fun k hk => by (try rw [upA_k (show k ≠ 8 by omega)]); (try rw [upA_k (show k ≠ 9 by omega)]); (try rw [upA_k (show k ≠ 10 by omega)]); (try rw [upA_k (show k ≠ 10 by omega)]); exact hGa k hk) (fun z hz => hsub z (List.mem_cons_of_mem _ hz)) (hch.2) (by rw [← hf, List.foldl_cons]; simp [lyS, c_2, mc_2, c_5, c_6, c_10]) hA hS (lv_sub hl [3, 0, 4, 5, 6, 7, 8, 9, 10, 11, 12] rfl)
                  · skip
                    refine lv_aload hx hb dL_lays_117 (lv_at hl 10 rfl) ?_
                    refine lv_iload hx hb dL_lays_119 (lv_at hl 0 rfl) ?_
                    refine cg_ald F hK hA 8 40 rfl (it F9 xc_4) rfl (by omega) (by decide) dL_lays_121 ?_
                    refine lv_if_ne (tgt := 137) hx hb dL_lays_122 (by decide) (fun c_11 => ?_) (fun c_11 => ?_)
                    · skip
                      refine lv_iconst (v := 0) hx hb dL_lays_137 (by decide) ?_
                      refine lv_ior hx hb dL_lays_138 ?_
                      refine la_ast F hK hN hA hS 10 40 (by simp) rfl 11 rfl (by omega) (by decide) rfl dL_lays_139 (fun H locs hA _ hS => ?_)
                      refine lv_aload hx hb dL_lays_140 (lv_at hl 10 rfl) ?_
                      refine lv_iload hx hb dL_lays_142 (lv_at hl 0 rfl) ?_
                      refine lv_iconst (v := 0) hx hb dL_lays_144 (by decide) ?_
                      refine la_ast F hK hN hA hS 8 40 (by simp) rfl (it F9 xc_4) rfl (by omega) (by decide) rfl dL_lays_145 (fun H locs hA _ hS => ?_)
                      refine lv_goto (tgt := 241) hx hb dL_lays_146 (by decide) ?_
                      refine lv_aload_n hx hb dL_lays_241 rfl (lv_at hl 4 rfl) ?_
                      refine lv_aload_n hx hb dL_lays_242 rfl (lv_at hl 5 rfl) ?_
                      refine lv_aload_n hx hb dL_lays_243 rfl (lv_at hl 6 rfl) ?_
                      refine lv_aload_n hx hb dL_lays_244 rfl (lv_at hl 7 rfl) ?_
                      refine lv_iload hx hb dL_lays_245 (lv_at hl 9 rfl) ?_
                      refine lv_iload hx hb dL_lays_247 (lv_at hl 3 rfl) ?_
                      refine ro_callS F hK [.ref (q 0), .ref (q 1), .ref (q 2), .ref (q 3), .int (nI vw), .int (nI xc_4)] (lc_next hA vw (some xc_4) (show _ = nI n from (congrFun (show _ = F9 0 from hGa 0 (by omega)) 0).trans hn0) (by first | assumption | omega) (by first | assumption | omega) (fun x z => by cases z; omega)) (va_cwS 6 F.2.2.2.2 gL_lays_L_next rfl rfl rfl (by decide +kernel) ⟨Nat.le_of_ble_eq_true rfl, Nat.le_of_ble_eq_true rfl⟩) rfl hl.1 rfl (lv_room (Nat.le_of_ble_eq_true rfl)) ⟨Nat.zero_le _, Nat.zero_le _⟩ dL_lays_249 ?_
                      refine lw_E (oI rxc_4.head?) (congrArg oI ((lNx_cg (show _ = F9 1 from hGa 1 (by omega)) (show _ = F9 2 from hGa 2 (by omega)) (show _ = F9 3 from hGa 3 (by omega)) n vw (some xc_4)).trans hch.1)) ?_
                      refine lv_istore (lv' := [(10, .int (oI (rxc_4.head?))), (12, .int (nI (it F9 xc_4))), (11, .int (nI (kd F9 xc_4))), (9, .int (nI pl)), (0, .ref (q 0)), (1, .ref (q 1)), (2, .ref (q 2)), (3, .ref (q 3)), (4, .ref (q 4)), (5, .int (nI vw)), (6, .ref (q 8)), (7, .ref (q 9)), (8, .ref (q 10))]) hx hb dL_lays_252 hl (by decide) rfl (fun ls hl => ?_)
                      refine lv_goto (tgt := 49) hx hb dL_lays_254 (by decide) ?_
                      exact ihu_3  rxc_4 (upA (upA G 10 11 (G 10 11 ||| 0)) 8 (it F9 xc_4) 0) pl _ _ ls (by have z := hk; simp at z; omega) (fun k hk => by (try rw [upA_k (show k ≠ 8 by omega)]); (try rw [upA_k (show k ≠ 9 by omega)]); (try rw [upA_k (show k ≠ 10 by omega)]); (try rw [upA_k (show k ≠ 10 by omega)]); exact hGa k hk) (fun z hz => hsub z (List.mem_cons_of_mem _ hz)) (hch.2) (by rw [← hf, List.foldl_cons]; simp [lyS, c_2, mc_2, c_5, c_6, c_10, c_11]) hA hS (lv_sub hl [3, 0, 4, 5, 6, 7, 8, 9, 10, 11, 12] rfl)
                    · skip
                      refine lv_iconst (v := 1) hx hb dL_lays_125 (by decide) ?_
                      refine lv_aload hx hb dL_lays_126 (lv_at hl 8 rfl) ?_
                      refine lv_iload hx hb dL_lays_128 (lv_at hl 3 rfl) ?_
                      refine cg_ald F hK hA 4 64 rfl xc_4 rfl (by omega) (by decide) dL_lays_130 ?_
                      refine lw_E (F9 4 xc_4) (congrFun (show _ = F9 4 from hGa 4 (by omega)) xc_4) ?_
                      refine lv_iconst (v := 1) hx hb dL_lays_131 (by decide) ?_
                      refine lv_isub hx hb dL_lays_132 ?_
                      refine lv_ishl hx hb dL_lays_133 ?_
                      refine lv_goto (tgt := 138) hx hb dL_lays_134 (by decide) ?_
                      refine lv_ior hx hb dL_lays_138 ?_
                      refine la_ast F hK hN hA hS 10 40 (by simp) rfl 11 rfl (by omega) (by decide) rfl dL_lays_139 (fun H locs hA _ hS => ?_)
                      refine lv_aload hx hb dL_lays_140 (lv_at hl 10 rfl) ?_
                      refine lv_iload hx hb dL_lays_142 (lv_at hl 0 rfl) ?_
                      refine lv_iconst (v := 0) hx hb dL_lays_144 (by decide) ?_
                      refine la_ast F hK hN hA hS 8 40 (by simp) rfl (it F9 xc_4) rfl (by omega) (by decide) rfl dL_lays_145 (fun H locs hA _ hS => ?_)
                      refine lv_goto (tgt := 241) hx hb dL_lays_146 (by decide) ?_
                      refine lv_aload_n hx hb dL_lays_241 rfl (lv_at hl 4 rfl) ?_
                      refine lv_aload_n hx hb dL_lays_242 rfl (lv_at hl 5 rfl) ?_
                      refine lv_aload_n hx hb dL_lays_243 rfl (lv_at hl 6 rfl) ?_
                      refine lv_aload_n hx hb dL_lays_244 rfl (lv_at hl 7 rfl) ?_
                      refine lv_iload hx hb dL_lays_245 (lv_at hl 9 rfl) ?_
                      refine lv_iload hx hb dL_lays_247 (lv_at hl 3 rfl) ?_
                      refine ro_callS F hK [.ref (q 0), .ref (q 1), .ref (q 2), .ref (q 3), .int (nI vw), .int (nI xc_4)] (lc_next hA vw (some xc_4) (show _ = nI n from (congrFun (show _ = F9 0 from hGa 0 (by omega)) 0).trans hn0) (by first | assumption | omega) (by first | assumption | omega) (fun x z => by cases z; omega)) (va_cwS 6 F.2.2.2.2 gL_lays_L_next rfl rfl rfl (by decide +kernel) ⟨Nat.le_of_ble_eq_true rfl, Nat.le_of_ble_eq_true rfl⟩) rfl hl.1 rfl (lv_room (Nat.le_of_ble_eq_true rfl)) ⟨Nat.zero_le _, Nat.zero_le _⟩ dL_lays_249 ?_
                      refine lw_E (oI rxc_4.head?) (congrArg oI ((lNx_cg (show _ = F9 1 from hGa 1 (by omega)) (show _ = F9 2 from hGa 2 (by omega)) (show _ = F9 3 from hGa 3 (by omega)) n vw (some xc_4)).trans hch.1)) ?_
                      refine lv_istore (lv' := [(10, .int (oI (rxc_4.head?))), (12, .int (nI (it F9 xc_4))), (11, .int (nI (kd F9 xc_4))), (9, .int (nI pl)), (0, .ref (q 0)), (1, .ref (q 1)), (2, .ref (q 2)), (3, .ref (q 3)), (4, .ref (q 4)), (5, .int (nI vw)), (6, .ref (q 8)), (7, .ref (q 9)), (8, .ref (q 10))]) hx hb dL_lays_252 hl (by decide) rfl (fun ls hl => ?_)
                      refine lv_goto (tgt := 49) hx hb dL_lays_254 (by decide) ?_
                      exact ihu_3  rxc_4 (upA (upA G 10 11 (G 10 11 ||| (1 <<< ((F9 4 xc_4 - 1) &&& 31)))) 8 (it F9 xc_4) 0) pl _ _ ls (by have z := hk; simp at z; omega) (fun k hk => by (try rw [upA_k (show k ≠ 8 by omega)]); (try rw [upA_k (show k ≠ 9 by omega)]); (try rw [upA_k (show k ≠ 10 by omega)]); (try rw [upA_k (show k ≠ 10 by omega)]); exact hGa k hk) (fun z hz => hsub z (List.mem_cons_of_mem _ hz)) (hch.2) (by rw [← hf, List.foldl_cons]; simp [lyS, c_2, mc_2, c_5, c_6, c_10, c_11]) hA hS (lv_sub hl [3, 0, 4, 5, 6, 7, 8, 9, 10, 11, 12] rfl)
              · skip
                refine lv_aload hx hb dL_lays_77 (lv_at hl 10 rfl) ?_
                refine lv_iload hx hb dL_lays_79 (lv_at hl 0 rfl) ?_
                refine lv_aload_n hx hb dL_lays_81 rfl (lv_at hl 5 rfl) ?_
                refine lv_iload hx hb dL_lays_82 (lv_at hl 3 rfl) ?_
                refine cg_ald F hK hA 1 64 rfl xc_4 rfl (by omega) (by decide) dL_lays_84 ?_
                refine lw_E (F9 1 xc_4) (congrFun (show _ = F9 1 from hGa 1 (by omega)) xc_4) ?_
                refine lv_bipush (v := 8) hx hb dL_lays_85 (by decide) ?_
                refine lv_idiv hx hb dL_lays_87 (by decide) ?_
                refine lv_bipush (v := 8) hx hb dL_lays_88 (by decide) ?_
                refine lw_rem hx hb dL_lays_90 (by decide) ?_
                refine lv_iconst (v := 1) hx hb dL_lays_91 (by decide) ?_
                refine lv_iadd hx hb dL_lays_92 ?_
                refine la_ast F hK hN hA hS 8 40 (by simp) rfl (it F9 xc_4) rfl (by omega) (by decide) rfl dL_lays_93 (fun H locs hA _ hS => ?_)
                refine lv_goto (tgt := 241) hx hb dL_lays_94 (by decide) ?_
                refine lv_aload_n hx hb dL_lays_241 rfl (lv_at hl 4 rfl) ?_
                refine lv_aload_n hx hb dL_lays_242 rfl (lv_at hl 5 rfl) ?_
                refine lv_aload_n hx hb dL_lays_243 rfl (lv_at hl 6 rfl) ?_
                refine lv_aload_n hx hb dL_lays_244 rfl (lv_at hl 7 rfl) ?_
                refine lv_iload hx hb dL_lays_245 (lv_at hl 9 rfl) ?_
                refine lv_iload hx hb dL_lays_247 (lv_at hl 3 rfl) ?_
                refine ro_callS F hK [.ref (q 0), .ref (q 1), .ref (q 2), .ref (q 3), .int (nI vw), .int (nI xc_4)] (lc_next hA vw (some xc_4) (show _ = nI n from (congrFun (show _ = F9 0 from hGa 0 (by omega)) 0).trans hn0) (by first | assumption | omega) (by first | assumption | omega) (fun x z => by cases z; omega)) (va_cwS 6 F.2.2.2.2 gL_lays_L_next rfl rfl rfl (by decide +kernel) ⟨Nat.le_of_ble_eq_true rfl, Nat.le_of_ble_eq_true rfl⟩) rfl hl.1 rfl (lv_room (Nat.le_of_ble_eq_true rfl)) ⟨Nat.zero_le _, Nat.zero_le _⟩ dL_lays_249 ?_
                refine lw_E (oI rxc_4.head?) (congrArg oI ((lNx_cg (show _ = F9 1 from hGa 1 (by omega)) (show _ = F9 2 from hGa 2 (by omega)) (show _ = F9 3 from hGa 3 (by omega)) n vw (some xc_4)).trans hch.1)) ?_
                refine lv_istore (lv' := [(10, .int (oI (rxc_4.head?))), (12, .int (nI (it F9 xc_4))), (11, .int (nI (kd F9 xc_4))), (9, .int (nI pl)), (0, .ref (q 0)), (1, .ref (q 1)), (2, .ref (q 2)), (3, .ref (q 3)), (4, .ref (q 4)), (5, .int (nI vw)), (6, .ref (q 8)), (7, .ref (q 9)), (8, .ref (q 10))]) hx hb dL_lays_252 hl (by decide) rfl (fun ls hl => ?_)
                refine lv_goto (tgt := 49) hx hb dL_lays_254 (by decide) ?_
                exact ihu_3  rxc_4 (upA G 8 (it F9 xc_4) ((md (F9 1 xc_4 / 8) 8) + 1)) pl _ _ ls (by have z := hk; simp at z; omega) (fun k hk => by (try rw [upA_k (show k ≠ 8 by omega)]); (try rw [upA_k (show k ≠ 9 by omega)]); (try rw [upA_k (show k ≠ 10 by omega)]); (try rw [upA_k (show k ≠ 10 by omega)]); exact hGa k hk) (fun z hz => hsub z (List.mem_cons_of_mem _ hz)) (hch.2) (by rw [← hf, List.foldl_cons]; simp [lyS, c_2, mc_2, c_5]) hA hS (lv_sub hl [3, 0, 4, 5, 6, 7, 8, 9, 10, 11, 12] rfl)
        exact L49_u_3 _ l9 G 0 _ _ ls (Nat.lt_succ_self _) (hGa0) (hsub) (hch) (by rw [hGf, show j = 40 by omega]) hA hS (lv_sub hl [1, 0, 2, 3, 4, 5, 6, 7, 8, 9, 10] rfl)
      · skip
        have mc_2 : ¬ 40 ≤ j := by omega
        refine lv_aload hx hb dL_lays_10 (lv_at hl 7 rfl) ?_
        refine lv_iload hx hb dL_lays_12 (lv_at hl 0 rfl) ?_
        refine lv_iconst (v := 0) hx hb dL_lays_14 (by decide) ?_
        refine la_ast F hK hN hA hS 8 40 (by simp) rfl j rfl (by omega) (by decide) rfl dL_lays_15 (fun H locs hA _ hS => ?_)
        refine lv_aload hx hb dL_lays_16 (lv_at hl 8 rfl) ?_
        refine lv_iload hx hb dL_lays_18 (lv_at hl 0 rfl) ?_
        refine lv_iconst (v := 0) hx hb dL_lays_20 (by decide) ?_
        refine la_ast F hK hN hA hS 9 40 (by simp) rfl j rfl (by omega) (by decide) rfl dL_lays_21 (fun H locs hA _ hS => ?_)
        refine lv_aload hx hb dL_lays_22 (lv_at hl 9 rfl) ?_
        refine lv_iload hx hb dL_lays_24 (lv_at hl 0 rfl) ?_
        refine lv_iconst (v := 0) hx hb dL_lays_26 (by decide) ?_
        refine la_ast F hK hN hA hS 10 40 (by simp) rfl j rfl (by omega) (by decide) rfl dL_lays_27 (fun H locs hA _ hS => ?_)
        refine lv_iinc (v := nI (j + 1)) (lv' := [(9, .int (nI (j + 1))), (0, .ref (q 0)), (1, .ref (q 1)), (2, .ref (q 2)), (3, .ref (q 3)), (4, .ref (q 4)), (5, .int (nI vw)), (6, .ref (q 8)), (7, .ref (q 9)), (8, .ref (q 10))]) hx hb dL_lays_28 hl (k := 0) rfl (show nI j + Int32.ofInt 1 = _ from nI_add j 1) (by decide) rfl (fun ls hl => ?_)
        refine lv_goto (tgt := 3) hx hb dL_lays_31 (by decide) ?_
        exact ihu_1  (upA (upA (upA G 8 j 0) 9 j 0) 10 j 0) (j + 1) _ _ ls (by omega) (by first | omega | assumption) (by rw [foldU_s, ← hGf]; rfl) hA hS (lv_sub hl [0, 1, 2, 3, 4, 5, 6, 7, 8, 9] rfl)
  exact L3_u_1 _ F9 0 _ _ ls (Nat.lt_succ_self _) (by first | omega | assumption) (rfl) hA hS (lv_sub hl [0, 1, 2, 3, 4, 5, 6, 7, 8, 9] rfl)
/-! the guests of a day, their number -/
def gsW (F : FF) (d : Int32) (w : Int32) : Bool := !decide (w < 0) && (!decide (d < md (F 4 (jn w)) 100) && !decide (md (F 4 (jn w) / 100) 100 < d))
def gsS (F : FF) (d : Int32) (g : Nat) (y : Int32) : Int32 := y ||| (if gsW F d (F 10 g - 1) then (1 : Int32) <<< (nI g &&& 31) else 0)
def lGs (F : FF) (d : Int32) : Int32 := foldU (gsS F d) 0 8
def gOk (F : FF) : Prop := ∀ g, g < 8 → ∃ o : Option Nat, F 10 g - 1 = oI o ∧ ∀ x, o = some x → x < 64
set_option maxHeartbeats 4000000 in
set_option maxRecDepth 100000 in
theorem lc_guests {l : Launch} {D : va_G} {cI cII : ClassId} {H : Heap} {q : Nat → Nat} {F9 : FF} (hA : va_P D vwCl (lX q cI F9) H)  (d : Int32) (hGu : gOk F9) : ro_Met l yL_guests wsL_guests 0 0 D (cT cI cII) H [.ref (q 4), .ref (q 10), .int d] (lGs F9 d) := by
  refine ro_start rfl (by decide +kernel) (Nat.le_of_ble_eq_true rfl) (fun p e9 s m below meth c F hr hlocks hK ls hl => ?_)
  have hl : lv_has ls 6 [(0, .ref (q 4)), (1, .ref (q 10)), (2, .int d)] := hl
  have hx := F.1
  have hb := F.2.1
  refine lv_iconst (v := 0) hx hb dL_guests_0 (by decide) ?_
  refine lv_istore_n (lv' := [(3, .int 0), (0, .ref (q 4)), (1, .ref (q 10)), (2, .int d)]) hx hb dL_guests_1 rfl hl (by decide) rfl (fun ls hl => ?_)
  refine lv_iconst (v := 0) hx hb dL_guests_2 (by decide) ?_
  refine lv_istore (lv' := [(4, .int 0), (3, .int 0), (0, .ref (q 4)), (1, .ref (q 10)), (2, .int d)]) hx hb dL_guests_3 hl (by decide) rfl (fun ls hl => ?_)
  have L5_u_1 : ∀ (k9u_1 : Nat) (g : Nat) (y : Int32) (ls : Array Slot), 8 - g < k9u_1 → (g ≤ 8) → (y = foldU (gsS F9 d) 0 g) → lv_has ls 6 [(3, .int y), (4, .int (nI g)), (0, .ref (q 4)), (1, .ref (q 10)), (2, .int d)] → roW p l e9 0 0 s m [.ref (q 4), .ref (q 10), .int d] below meth c H (lGs F9 d) (F0 m 5 ls []) := by
    intro k9u_1
    induction k9u_1 with
    | zero => intro g y ls hk; exact absurd hk (Nat.not_lt_zero _)
    | succ k9u_1 ihu_1 =>
      intro g y ls hk hg hf  hl
      refine lv_iload hx hb dL_guests_5 (lv_at hl 1 rfl) ?_
      refine lv_bipush (v := 8) hx hb dL_guests_7 (by decide) ?_
      refine lw_ge (tgt := 67) hx hb g 8 (by omega) (by omega) dL_guests_9 (by decide) (fun c_2 => ?_) (fun c_2 => ?_)
      · skip
        have mc_2 : ¬ g < 8 := by omega
        refine lv_iload_n hx hb dL_guests_67 rfl (lv_at hl 0 rfl) ?_
        exact ro_reti F hr hlocks (by rw [hf, show g = 8 by omega]; rfl) dL_guests_68
      · skip
        have mc_2 : ¬ 8 ≤ g := by omega
        refine lv_aload_n hx hb dL_guests_12 rfl (lv_at hl 3 rfl) ?_
        refine lv_iload hx hb dL_guests_13 (lv_at hl 1 rfl) ?_
        refine cg_ald F hK hA 10 40 rfl g rfl (by omega) (by decide) dL_guests_15 ?_
        refine lv_iconst (v := 1) hx hb dL_guests_16 (by decide) ?_
        refine lv_isub hx hb dL_guests_17 ?_
        obtain ⟨o9, ho9, hb9⟩ := hGu g (by omega)
        refine lw_E (oI o9) ho9 ?_
        refine lv_istore (lv' := [(5, .int (oI o9)), (3, .int y), (4, .int (nI g)), (0, .ref (q 4)), (1, .ref (q 10)), (2, .int d)]) hx hb dL_guests_18 hl (by decide) rfl (fun ls hl => ?_)
        refine lv_iload_n hx hb dL_guests_20 rfl (lv_at hl 1 rfl) ?_
        refine lv_iload hx hb dL_guests_21 (lv_at hl 0 rfl) ?_
        refine lw_olt (tgt := 58) hx hb (fun x hx => by have := hb9 x hx; omega) dL_guests_23 (by decide) (fun c_3 => ?_) (fun xc_3 c_3 => ?_)
        · skip
          refine lv_iconst (v := 0) hx hb dL_guests_58 (by decide) ?_
          refine lv_ior hx hb dL_guests_59 ?_
          refine lv_istore_n (lv' := [(3, .int (y ||| 0)), (5, .int (oI o9)), (4, .int (nI g)), (0, .ref (q 4)), (1, .ref (q 10)), (2, .int d)]) hx hb dL_guests_60 rfl hl (by decide) rfl (fun ls hl => ?_)
          refine lv_iinc (v := nI (g + 1)) (lv' := [(4, .int (nI (g + 1))), (3, .int (y ||| 0)), (5, .int (oI o9)), (0, .ref (q 4)), (1, .ref (q 10)), (2, .int d)]) hx hb dL_guests_61 hl (k := 2) rfl (show nI g + Int32.ofInt 1 = _ from nI_add g 1) (by decide) rfl (fun ls hl => ?_)
          refine lv_goto (tgt := 5) hx hb dL_guests_64 (by decide) ?_
          exact ihu_1  (g + 1) (y ||| 0)  ls (by omega) (by first | omega | assumption) (by rw [foldU_s, ← hf]; unfold gsS; rw [ho9]; simp [gsW, oI, c_2, mc_2, c_3])  (lv_sub hl [1, 0, 3, 4, 5] rfl)
        · skip
          have hxc_3 := hb9 xc_3 c_3
          have jxc_3 : jn (nI xc_3) = xc_3 := jn_nI (by omega)
          have kxc_3 : ¬ nI xc_3 < 0 := nI_nlt0 (by omega)
          refine lv_aload_n hx hb dL_guests_26 rfl (lv_at hl 3 rfl) ?_
          refine lv_iload hx hb dL_guests_27 (lv_at hl 0 rfl) ?_
          refine lw_E (nI xc_3) (by rw [c_3]; rfl) ?_
          refine cg_ald F hK hA 4 64 rfl xc_3 rfl (by omega) (by decide) dL_guests_29 ?_
          refine lv_bipush (v := 100) hx hb dL_guests_30 (by decide) ?_
          refine lw_rem hx hb dL_guests_32 (by decide) ?_
          refine lv_iload_n hx hb dL_guests_33 rfl (lv_at hl 5 rfl) ?_
          refine lv_icmp_gt (tgt := 58) hx hb dL_guests_34 (by decide) (fun c_4 => ?_) (fun c_4 => ?_)
          · skip
            refine lv_iconst (v := 0) hx hb dL_guests_58 (by decide) ?_
            refine lv_ior hx hb dL_guests_59 ?_
            refine lv_istore_n (lv' := [(3, .int (y ||| 0)), (5, .int (oI o9)), (4, .int (nI g)), (0, .ref (q 4)), (1, .ref (q 10)), (2, .int d)]) hx hb dL_guests_60 rfl hl (by decide) rfl (fun ls hl => ?_)
            refine lv_iinc (v := nI (g + 1)) (lv' := [(4, .int (nI (g + 1))), (3, .int (y ||| 0)), (5, .int (oI o9)), (0, .ref (q 4)), (1, .ref (q 10)), (2, .int d)]) hx hb dL_guests_61 hl (k := 2) rfl (show nI g + Int32.ofInt 1 = _ from nI_add g 1) (by decide) rfl (fun ls hl => ?_)
            refine lv_goto (tgt := 5) hx hb dL_guests_64 (by decide) ?_
            exact ihu_1  (g + 1) (y ||| 0)  ls (by omega) (by first | omega | assumption) (by rw [foldU_s, ← hf]; unfold gsS; rw [ho9]; simp [gsW, oI, c_2, mc_2, c_3, jxc_3, kxc_3, c_4])  (lv_sub hl [1, 0, 3, 4, 5] rfl)
          · skip
            refine lv_aload_n hx hb dL_guests_37 rfl (lv_at hl 3 rfl) ?_
            refine lv_iload hx hb dL_guests_38 (lv_at hl 0 rfl) ?_
            refine lw_E (nI xc_3) (by rw [c_3]; rfl) ?_
            refine cg_ald F hK hA 4 64 rfl xc_3 rfl (by omega) (by decide) dL_guests_40 ?_
            refine lv_bipush (v := 100) hx hb dL_guests_41 (by decide) ?_
            refine lv_idiv hx hb dL_guests_43 (by decide) ?_
            refine lv_bipush (v := 100) hx hb dL_guests_44 (by decide) ?_
            refine lw_rem hx hb dL_guests_46 (by decide) ?_
            refine lv_iload_n hx hb dL_guests_47 rfl (lv_at hl 5 rfl) ?_
            refine lv_icmp_lt (tgt := 58) hx hb dL_guests_48 (by decide) (fun c_5 => ?_) (fun c_5 => ?_)
            · skip
              refine lv_iconst (v := 0) hx hb dL_guests_58 (by decide) ?_
              refine lv_ior hx hb dL_guests_59 ?_
              refine lv_istore_n (lv' := [(3, .int (y ||| 0)), (5, .int (oI o9)), (4, .int (nI g)), (0, .ref (q 4)), (1, .ref (q 10)), (2, .int d)]) hx hb dL_guests_60 rfl hl (by decide) rfl (fun ls hl => ?_)
              refine lv_iinc (v := nI (g + 1)) (lv' := [(4, .int (nI (g + 1))), (3, .int (y ||| 0)), (5, .int (oI o9)), (0, .ref (q 4)), (1, .ref (q 10)), (2, .int d)]) hx hb dL_guests_61 hl (k := 2) rfl (show nI g + Int32.ofInt 1 = _ from nI_add g 1) (by decide) rfl (fun ls hl => ?_)
              refine lv_goto (tgt := 5) hx hb dL_guests_64 (by decide) ?_
              exact ihu_1  (g + 1) (y ||| 0)  ls (by omega) (by first | omega | assumption) (by rw [foldU_s, ← hf]; unfold gsS; rw [ho9]; simp [gsW, oI, c_2, mc_2, c_3, jxc_3, kxc_3, c_4, c_5])  (lv_sub hl [1, 0, 3, 4, 5] rfl)
            · skip
              refine lv_iconst (v := 1) hx hb dL_guests_51 (by decide) ?_
              refine lv_iload hx hb dL_guests_52 (lv_at hl 2 rfl) ?_
              refine lv_ishl hx hb dL_guests_54 ?_
              refine lv_goto (tgt := 59) hx hb dL_guests_55 (by decide) ?_
              refine lv_ior hx hb dL_guests_59 ?_
              refine lv_istore_n (lv' := [(3, .int (y ||| (1 <<< (nI g &&& 31)))), (5, .int (oI o9)), (4, .int (nI g)), (0, .ref (q 4)), (1, .ref (q 10)), (2, .int d)]) hx hb dL_guests_60 rfl hl (by decide) rfl (fun ls hl => ?_)
              refine lv_iinc (v := nI (g + 1)) (lv' := [(4, .int (nI (g + 1))), (3, .int (y ||| (1 <<< (nI g &&& 31)))), (5, .int (oI o9)), (0, .ref (q 4)), (1, .ref (q 10)), (2, .int d)]) hx hb dL_guests_61 hl (k := 2) rfl (show nI g + Int32.ofInt 1 = _ from nI_add g 1) (by decide) rfl (fun ls hl => ?_)
              refine lv_goto (tgt := 5) hx hb dL_guests_64 (by decide) ?_
              exact ihu_1  (g + 1) (y ||| (1 <<< (nI g &&& 31)))  ls (by omega) (by first | omega | assumption) (by rw [foldU_s, ← hf]; unfold gsS; rw [ho9]; simp [gsW, oI, c_2, mc_2, c_3, jxc_3, kxc_3, c_4, c_5])  (lv_sub hl [1, 0, 3, 4, 5] rfl)
  exact L5_u_1 _ 0 0  ls (Nat.lt_succ_self _) (by first | omega | assumption) (rfl)  (lv_sub hl [1, 0, 2, 3, 4] rfl)
def pcF : Nat → Nat → Nat
  | 0, _ => 0
  | k + 1, r => r % 2 + pcF k (r / 2)
theorem pcF_le : ∀ k r, pcF k r ≤ k
  | 0, _ => Nat.le_refl _
  | k + 1, r => by
    have := pcF_le k (r / 2)
    show r % 2 + pcF k (r / 2) ≤ k + 1
    omega
theorem pcF_0 : ∀ k, pcF k 0 = 0
  | 0 => rfl
  | k + 1 => by show 0 % 2 + pcF k (0 / 2) = 0; rw [show 0 / 2 = 0 from rfl, pcF_0 k]
set_option maxHeartbeats 4000000 in
set_option maxRecDepth 100000 in
theorem lc_bits {l : Launch} {D : va_G} {cI cII : ClassId} {H : Heap}  (x : Nat) (hx9 : x < 256) : ro_Met l yL_bits wsL_bits 0 0 D (cT cI cII) H [.int (nI x)] (nI (pcF 8 x)) := by
  refine ro_start rfl (by decide +kernel) (Nat.le_of_ble_eq_true rfl) (fun p e9 s m below meth c F hr hlocks hK ls hl => ?_)
  have hl : lv_has ls 3 [(0, .int (nI x))] := hl
  have hx := F.1
  have hb := F.2.1
  refine lv_iconst (v := 0) hx hb dL_bits_0 (by decide) ?_
  refine lv_istore_n (lv' := [(1, .int 0), (0, .int (nI x))]) hx hb dL_bits_1 rfl hl (by decide) rfl (fun ls hl => ?_)
  refine lv_iload_n hx hb dL_bits_2 rfl (lv_at hl 1 rfl) ?_
  refine lv_istore_n (lv' := [(2, .int (nI x)), (1, .int 0), (0, .int (nI x))]) hx hb dL_bits_3 rfl hl (by decide) rfl (fun ls hl => ?_)
  have L4_u_1 : ∀ (k9u_1 : Nat) (y : Nat) (r : Nat) (k : Nat) (ls : Array Slot), r < k9u_1 → (r < 2 ^ k) → (k ≤ 8) → (y + pcF k r = pcF 8 x) → lv_has ls 3 [(2, .int (nI r)), (1, .int (nI y)), (0, .int (nI x))] → roW p l e9 0 0 s m [.int (nI x)] below meth c H (nI (pcF 8 x)) (F0 m 4 ls []) := by
    intro k9u_1
    induction k9u_1 with
    | zero => intro y r k ls hk; exact absurd hk (Nat.not_lt_zero _)
    | succ k9u_1 ihu_1 =>
      intro y r k ls hk hrk hk8 hf  hl
      have hr9 : r < 2 ^ 8 := Nat.lt_of_lt_of_le hrk (Nat.pow_le_pow_right (by omega) hk8)
      refine lv_iload_n hx hb dL_bits_4 rfl (lv_at hl 0 rfl) ?_
      refine lw_zle (tgt := 21) hx hb r (by omega) dL_bits_5 (by decide) (fun c_2 => ?_) (fun c_2 => ?_)
      · skip
        refine lv_iload_n hx hb dL_bits_21 rfl (lv_at hl 1 rfl) ?_
        exact ro_reti F hr hlocks (by rw [← hf, show r = 0 by omega, pcF_0]; rfl) dL_bits_22
      · skip
        refine lv_iload_n hx hb dL_bits_8 rfl (lv_at hl 1 rfl) ?_
        refine lv_iload_n hx hb dL_bits_9 rfl (lv_at hl 0 rfl) ?_
        refine lv_iconst (v := 1) hx hb dL_bits_10 (by decide) ?_
        refine lv_iand hx hb dL_bits_11 ?_
        refine lw_N (r % 2) (pk_andN (n := r) (by omega) 1 (by decide)) ?_
        refine lw_add hx hb (i := y) (j := (r % 2)) dL_bits_12 ?_
        refine lv_istore_n (lv' := [(1, .int (nI (y + (r % 2)))), (2, .int (nI r)), (0, .int (nI x))]) hx hb dL_bits_13 rfl hl (by decide) rfl (fun ls hl => ?_)
        refine lv_iload_n hx hb dL_bits_14 rfl (lv_at hl 1 rfl) ?_
        refine lv_iconst (v := 1) hx hb dL_bits_15 (by decide) ?_
        refine lv_ishr hx hb dL_bits_16 ?_
        refine lw_N (r / 2) (pk_shrN (n := r) (by omega) _ 1 (by decide)) ?_
        refine lv_istore_n (lv' := [(2, .int (nI (r / 2))), (1, .int (nI (y + (r % 2)))), (0, .int (nI x))]) hx hb dL_bits_17 rfl hl (by decide) rfl (fun ls hl => ?_)
        refine lv_goto (tgt := 4) hx hb dL_bits_18 (by decide) ?_
        exact ihu_1  (y + (r % 2)) (r / 2) (k - 1)  ls (by omega) (by cases k with | zero => omega | succ k => (rw [Nat.pow_succ] at hrk; show r / 2 < 2 ^ k; omega)) (by first | omega | assumption) (by rw [← hf]; cases k with | zero => (simp at hrk; omega) | succ k => (show y + r % 2 + pcF k (r / 2) = y + (r % 2 + pcF k (r / 2)); omega))  (lv_sub hl [0, 1, 2] rfl)
  exact L4_u_1 _ 0 x 8  ls (Nat.lt_succ_self _) (by omega) (by first | omega | assumption) (Nat.zero_add _)  (lv_sub hl [0, 1, 2] rfl)
/-! open cakes, the first of a set, who is kept for what -/
def lOp (F : FF) (k : Nat) : Bool := decide ((F 10 8 >>> (nI k &&& 31)) &&& 1 = 1) && decide (((F 10 9 ||| F 10 10) >>> (nI k &&& 31)) &&& 1 = 0)
set_option maxHeartbeats 4000000 in
set_option maxRecDepth 100000 in
theorem lc_isOpen {l : Launch} {D : va_G} {cI cII : ClassId} {H : Heap} {q : Nat → Nat} {F9 : FF} (hA : va_P D vwCl (lX q cI F9) H)  (k : Nat)  : ro_Met l yL_isOpen wsL_isOpen 0 0 D (cT cI cII) H [.ref (q 10), .int (nI k)] (bI (lOp F9 k)) := by
  refine ro_start rfl (by decide +kernel) (Nat.le_of_ble_eq_true rfl) (fun p e9 s m below meth c F hr hlocks hK ls hl => ?_)
  have hl : lv_has ls 2 [(0, .ref (q 10)), (1, .int (nI k))] := hl
  have hx := F.1
  have hb := F.2.1
  refine lv_aload_n hx hb dL_isOpen_0 rfl (lv_at hl 0 rfl) ?_
  refine lv_bipush (v := 8) hx hb dL_isOpen_1 (by decide) ?_
  refine cg_ald F hK hA 10 40 rfl 8 rfl (by omega) (by decide) dL_isOpen_3 ?_
  refine lv_iload_n hx hb dL_isOpen_4 rfl (lv_at hl 1 rfl) ?_
  refine lv_ishr hx hb dL_isOpen_5 ?_
  refine lv_iconst (v := 1) hx hb dL_isOpen_6 (by decide) ?_
  refine lv_iand hx hb dL_isOpen_7 ?_
  refine lv_iconst (v := 1) hx hb dL_isOpen_8 (by decide) ?_
  refine lv_icmp_ne (tgt := 32) hx hb dL_isOpen_9 (by decide) (fun c_1 => ?_) (fun c_1 => ?_)
  · skip
    refine lv_iconst (v := 0) hx hb dL_isOpen_32 (by decide) ?_
    exact ro_retz F hr hlocks (by simp [lOp, bI, c_1]) dL_isOpen_33
  · skip
    refine lv_aload_n hx hb dL_isOpen_12 rfl (lv_at hl 0 rfl) ?_
    refine lv_bipush (v := 9) hx hb dL_isOpen_13 (by decide) ?_
    refine cg_ald F hK hA 10 40 rfl 9 rfl (by omega) (by decide) dL_isOpen_15 ?_
    refine lv_aload_n hx hb dL_isOpen_16 rfl (lv_at hl 0 rfl) ?_
    refine lv_bipush (v := 10) hx hb dL_isOpen_17 (by decide) ?_
    refine cg_ald F hK hA 10 40 rfl 10 rfl (by omega) (by decide) dL_isOpen_19 ?_
    refine lv_ior hx hb dL_isOpen_20 ?_
    refine lv_iload_n hx hb dL_isOpen_21 rfl (lv_at hl 1 rfl) ?_
    refine lv_ishr hx hb dL_isOpen_22 ?_
    refine lv_iconst (v := 1) hx hb dL_isOpen_23 (by decide) ?_
    refine lv_iand hx hb dL_isOpen_24 ?_
    refine lv_if_ne (tgt := 32) hx hb dL_isOpen_25 (by decide) (fun c_2 => ?_) (fun c_2 => ?_)
    · skip
      refine lv_iconst (v := 0) hx hb dL_isOpen_32 (by decide) ?_
      exact ro_retz F hr hlocks (by simp [lOp, bI, c_1, c_2]) dL_isOpen_33
    · skip
      refine lv_iconst (v := 1) hx hb dL_isOpen_28 (by decide) ?_
      refine lv_goto (tgt := 33) hx hb dL_isOpen_29 (by decide) ?_
      exact ro_retz F hr hlocks (by simp [lOp, bI, c_1, c_2]) dL_isOpen_33
theorem gs_8 : ∀ c : Nat → Bool, ∀ n, n ≤ 8 → ∃ x, x < 256 ∧ foldU (fun g y => y ||| (if c g then (1 : Int32) <<< (nI g &&& 31) else 0)) 0 n = nI x
  | c, 0, _ => ⟨0, by omega, rfl⟩
  | c, n + 1, h => by
    obtain ⟨x, hx, e⟩ := gs_8 c n (by omega)
    rw [foldU_s, e]
    cases c n with
    | false => exact ⟨x, hx, by simp⟩
    | true =>
      have h1 : ∀ (g : Fin 8) (x : Fin 256), nI x.val ||| ((1 : Int32) <<< (nI g.val &&& 31)) = nI (x.val ||| (2 ^ g.val)) ∧ x.val ||| (2 ^ g.val) < 256 := by decide +kernel
      obtain ⟨h2, h3⟩ := h1 ⟨n, by omega⟩ ⟨x, hx⟩
      exact ⟨x ||| 2 ^ n, h3, h2⟩
theorem gs_N (F : FF) (d : Int32) : lGs F d = nI (jn (lGs F d)) ∧ jn (lGs F d) < 256 := by
  obtain ⟨x, hx, e⟩ := gs_8 (fun g => gsW F d (F 10 g - 1)) 8 (by omega)
  have e2 : lGs F d = nI x := e
  rw [e2, jn_nI (by omega)]
  exact ⟨rfl, hx⟩
def fiR (F : FF) (j : Nat) : Int64 := (((Int32.toInt64 (nI (pcF 8 (jn (lGs F (F 7 (2 * j + 1)))))) * 1000000) + (Int32.toInt64 (99 - F 7 (2 * j + 1)) * 1000)) + 999) - Int32.toInt64 (F 10 (12 + j))
def fiS (F : FF) (set : Int32) (j : Nat) (z : Option Nat × Int64) : Option Nat × Int64 := if (decide ((set >>> (nI j &&& 31)) &&& 1 = 1) && lOp F j) && !decide (lg_cmp (fiR F j) z.2 ≤ 0) then (some j, fiR F j) else z
def lFi (F : FF) (cm : Nat) (set : Int32) : Option Nat := (foldU (fiS F set) (none, -1) cm).1
theorem fi_lt (F : FF) (set : Int32) : ∀ n x, (foldU (fiS F set) (none, -1) n).1 = some x → x < n
  | 0, x, h => by cases h
  | n + 1, x, h => by
    rw [foldU_s] at h
    unfold fiS at h
    split at h
    · cases h; omega
    · exact Nat.lt_succ_of_lt (fi_lt F set n x h)
set_option maxHeartbeats 4000000 in
set_option maxRecDepth 100000 in
theorem lc_first {l : Launch} {D : va_G} {cI cII : ClassId} {H : Heap} {q : Nat → Nat} {F9 : FF} (hA : va_P D vwCl (lX q cI F9) H) {cm : Nat} (set : Int32) (hn1 : F9 0 1 = nI cm) (hcm : cm ≤ 10) (hGu : gOk F9) : ro_Met l yL_first wsL_first 1 25 D (cT cI cII) H [.ref (q 0), .ref (q 4), .ref (q 7), .ref (q 10), .int set] (oI (lFi F9 cm set)) := by
  refine ro_start rfl (by decide +kernel) (Nat.le_of_ble_eq_true rfl) (fun p e9 s m below meth c F hr hlocks hK ls hl => ?_)
  have hl : lv_has ls 13 [(0, .ref (q 0)), (1, .ref (q 4)), (2, .ref (q 7)), (3, .ref (q 10)), (4, .int set)] := hl
  have hx := F.1
  have hb := F.2.1
  refine lv_iconst (v := (-1)) hx hb dL_first_0 (by decide) ?_
  refine lv_istore (lv' := [(5, .int (-1)), (0, .ref (q 0)), (1, .ref (q 4)), (2, .ref (q 7)), (3, .ref (q 10)), (4, .int set)]) hx hb dL_first_1 hl (by decide) rfl (fun ls hl => ?_)
  refine lv_ldc2 (v := -1) hx hb F.2.2.2.1 (F.2.2.2.2 (.constantLong RL 13 (-1)) (by decide +kernel)) dL_first_3 ?_
  refine lv_lstore (lv' := [(6, .long (-1)), (5, .int (-1)), (0, .ref (q 0)), (1, .ref (q 4)), (2, .ref (q 7)), (3, .ref (q 10)), (4, .int set)]) hx hb dL_first_6 hl (by decide) rfl (fun ls hl => ?_)
  refine lv_iconst (v := 0) hx hb dL_first_8 (by decide) ?_
  refine lv_istore (lv' := [(8, .int 0), (6, .long (-1)), (5, .int (-1)), (0, .ref (q 0)), (1, .ref (q 4)), (2, .ref (q 7)), (3, .ref (q 10)), (4, .int set)]) hx hb dL_first_9 hl (by decide) rfl (fun ls hl => ?_)
  have L11_u_1 : ∀ (k9u_1 : Nat) (f : Option Nat) (bs : Int64) (j : Nat) (ls : Array Slot), cm - j < k9u_1 → (j ≤ cm) → ((f, bs) = foldU (fiS F9 set) (none, -1) j) → lv_has ls 13 [(8, .int (nI j)), (6, .long bs), (5, .int (oI f)), (0, .ref (q 0)), (1, .ref (q 4)), (2, .ref (q 7)), (3, .ref (q 10)), (4, .int set)] → roW p l e9 1 25 s m [.ref (q 0), .ref (q 4), .ref (q 7), .ref (q 10), .int set] below meth c H (oI (lFi F9 cm set)) (F0 m 11 ls []) := by
    intro k9u_1
    induction k9u_1 with
    | zero => intro f bs j ls hk; exact absurd hk (Nat.not_lt_zero _)
    | succ k9u_1 ihu_1 =>
      intro f bs j ls hk hj hf  hl
      refine lv_iload hx hb dL_first_11 (lv_at hl 0 rfl) ?_
      refine lv_aload_n hx hb dL_first_13 rfl (lv_at hl 3 rfl) ?_
      refine lv_iconst (v := 1) hx hb dL_first_14 (by decide) ?_
      refine cg_ald F hK hA 0 2 rfl 1 rfl (by omega) (by decide) dL_first_15 ?_
      refine lw_N cm hn1 ?_
      refine lw_ge (tgt := 139) hx hb j cm (by omega) (by omega) dL_first_16 (by decide) (fun c_2 => ?_) (fun c_2 => ?_)
      · skip
        have mc_2 : ¬ j < cm := by omega
        refine lv_iload hx hb dL_first_139 (lv_at hl 2 rfl) ?_
        exact ro_reti F hr hlocks (by have z := congrArg Prod.fst hf; rw [show j = cm by omega] at z; exact congrArg oI z) dL_first_141
      · skip
        have mc_2 : ¬ cm ≤ j := by omega
        refine lv_aload_n hx hb dL_first_19 rfl (lv_at hl 5 rfl) ?_
        refine lv_iconst (v := 2) hx hb dL_first_20 (by decide) ?_
        refine lv_iload hx hb dL_first_21 (lv_at hl 0 rfl) ?_
        refine lw_mul hx hb (i := 2) (j := j) dL_first_23 ?_
        refine lv_iconst (v := 1) hx hb dL_first_24 (by decide) ?_
        refine lw_add hx hb (i := (2 * j)) (j := 1) dL_first_25 ?_
        refine cg_ald F hK hA 7 20 rfl ((2 * j) + 1) rfl (by omega) (by decide) dL_first_26 ?_
        refine lv_istore (lv' := [(9, .int (F9 7 ((2 * j) + 1))), (8, .int (nI j)), (6, .long bs), (5, .int (oI f)), (0, .ref (q 0)), (1, .ref (q 4)), (2, .ref (q 7)), (3, .ref (q 10)), (4, .int set)]) hx hb dL_first_27 hl (by decide) rfl (fun ls hl => ?_)
        refine lv_aload_n hx hb dL_first_29 rfl (lv_at hl 5 rfl) ?_
        refine lv_aload_n hx hb dL_first_30 rfl (lv_at hl 7 rfl) ?_
        refine lv_iload hx hb dL_first_31 (lv_at hl 0 rfl) ?_
        refine ro_callS F hK [.ref (q 4), .ref (q 10), .int (F9 7 ((2 * j) + 1))] (lc_guests hA (F9 7 ((2 * j) + 1)) (by first | assumption | omega)) (va_cwS 3 F.2.2.2.2 gL_first_L_guests rfl rfl rfl (by decide +kernel) ⟨Nat.le_of_ble_eq_true rfl, Nat.le_of_ble_eq_true rfl⟩) rfl hl.1 rfl (lv_room (Nat.le_of_ble_eq_true rfl)) ⟨Nat.zero_le _, Nat.zero_le _⟩ dL_first_33 ?_
        refine lw_N (jn (lGs F9 (F9 7 (2 * j + 1)))) ((gs_N F9 _).1) ?_
        refine ro_callS F hK [.int (nI (jn (lGs F9 (F9 7 (2 * j + 1)))))] (lc_bits  (jn (lGs F9 (F9 7 (2 * j + 1)))) ((gs_N F9 _).2)) (va_cwS 1 F.2.2.2.2 gL_first_L_bits rfl rfl rfl (by decide +kernel) ⟨Nat.le_of_ble_eq_true rfl, Nat.le_of_ble_eq_true rfl⟩) rfl hl.1 rfl (lv_room (Nat.le_of_ble_eq_true rfl)) ⟨Nat.zero_le _, Nat.zero_le _⟩ dL_first_36 ?_
        refine lv_i2l (v := Int32.toInt64 (nI (pcF 8 (jn (lGs F9 (F9 7 (2 * j + 1))))))) hx hb dL_first_39 rfl ?_
        refine lv_ldc2 (v := 1000000) hx hb F.2.2.2.1 (F.2.2.2.2 (.constantLong RL 23 (1000000)) (by decide +kernel)) dL_first_40 ?_
        refine lv_lmul hx hb dL_first_43 ?_
        refine lv_bipush (v := 99) hx hb dL_first_44 (by decide) ?_
        refine lv_iload hx hb dL_first_46 (lv_at hl 0 rfl) ?_
        refine lv_isub hx hb dL_first_48 ?_
        refine lv_i2l (v := Int32.toInt64 (99 - F9 7 ((2 * j) + 1))) hx hb dL_first_49 rfl ?_
        refine lv_ldc2 (v := 1000) hx hb F.2.2.2.1 (F.2.2.2.2 (.constantLong RL 25 (1000)) (by decide +kernel)) dL_first_50 ?_
        refine lv_lmul hx hb dL_first_53 ?_
        refine lv_ladd hx hb dL_first_54 ?_
        refine lv_ldc2 (v := 999) hx hb F.2.2.2.1 (F.2.2.2.2 (.constantLong RL 27 (999)) (by decide +kernel)) dL_first_55 ?_
        refine lv_ladd hx hb dL_first_58 ?_
        refine lv_aload_n hx hb dL_first_59 rfl (lv_at hl 7 rfl) ?_
        refine lv_bipush (v := 12) hx hb dL_first_60 (by decide) ?_
        refine lv_iload hx hb dL_first_62 (lv_at hl 1 rfl) ?_
        refine lw_add hx hb (i := 12) (j := j) dL_first_64 ?_
        refine cg_ald F hK hA 10 40 rfl (12 + j) rfl (by omega) (by decide) dL_first_65 ?_
        refine lv_i2l (v := Int32.toInt64 (F9 10 (12 + j))) hx hb dL_first_66 rfl ?_
        refine lv_lsub hx hb dL_first_67 ?_
        refine lv_lstore (lv' := [(10, .long (((((Int32.toInt64 (nI (pcF 8 (jn (lGs F9 (F9 7 (2 * j + 1))))))) * 1000000) + ((Int32.toInt64 (99 - F9 7 ((2 * j) + 1))) * 1000)) + 999) - (Int32.toInt64 (F9 10 (12 + j))))), (9, .int (F9 7 ((2 * j) + 1))), (8, .int (nI j)), (6, .long bs), (5, .int (oI f)), (0, .ref (q 0)), (1, .ref (q 4)), (2, .ref (q 7)), (3, .ref (q 10)), (4, .int set)]) hx hb dL_first_68 hl (by decide) rfl (fun ls hl => ?_)
        refine lv_iload hx hb dL_first_70 (lv_at hl 9 rfl) ?_
        refine lv_iload hx hb dL_first_72 (lv_at hl 2 rfl) ?_
        refine lv_ishr hx hb dL_first_74 ?_
        refine lv_iconst (v := 1) hx hb dL_first_75 (by decide) ?_
        refine lv_iand hx hb dL_first_76 ?_
        refine lv_iconst (v := 1) hx hb dL_first_77 (by decide) ?_
        refine lv_icmp_ne (tgt := 102) hx hb dL_first_78 (by decide) (fun c_3 => ?_) (fun c_3 => ?_)
        · skip
          refine lv_iconst (v := 0) hx hb dL_first_102 (by decide) ?_
          refine lv_istore (lv' := [(12, .int 0), (10, .long (((((Int32.toInt64 (nI (pcF 8 (jn (lGs F9 (F9 7 (2 * j + 1))))))) * 1000000) + ((Int32.toInt64 (99 - F9 7 ((2 * j) + 1))) * 1000)) + 999) - (Int32.toInt64 (F9 10 (12 + j))))), (9, .int (F9 7 ((2 * j) + 1))), (8, .int (nI j)), (6, .long bs), (5, .int (oI f)), (0, .ref (q 0)), (1, .ref (q 4)), (2, .ref (q 7)), (3, .ref (q 10)), (4, .int set)]) hx hb dL_first_103 hl (by decide) rfl (fun ls hl => ?_)
          refine lv_iload hx hb dL_first_105 (lv_at hl 0 rfl) ?_
          refine lv_if_eq (tgt := 115) hx hb dL_first_107 (by decide) (fun _ => ?_) (fun z9 => absurd (by decide) z9)
          refine lv_iload hx hb dL_first_115 (lv_at hl 5 rfl) ?_
          refine lv_istore (lv' := [(5, .int (oI f)), (12, .int 0), (10, .long (((((Int32.toInt64 (nI (pcF 8 (jn (lGs F9 (F9 7 (2 * j + 1))))))) * 1000000) + ((Int32.toInt64 (99 - F9 7 ((2 * j) + 1))) * 1000)) + 999) - (Int32.toInt64 (F9 10 (12 + j))))), (9, .int (F9 7 ((2 * j) + 1))), (8, .int (nI j)), (6, .long bs), (0, .ref (q 0)), (1, .ref (q 4)), (2, .ref (q 7)), (3, .ref (q 10)), (4, .int set)]) hx hb dL_first_117 hl (by decide) rfl (fun ls hl => ?_)
          refine lv_iload hx hb dL_first_119 (lv_at hl 1 rfl) ?_
          refine lv_if_eq (tgt := 129) hx hb dL_first_121 (by decide) (fun _ => ?_) (fun z9 => absurd (by decide) z9)
          refine lv_lload hx hb dL_first_129 (lv_at hl 5 rfl) ?_
          refine lv_lstore (lv' := [(6, .long bs), (5, .int (oI f)), (12, .int 0), (10, .long (((((Int32.toInt64 (nI (pcF 8 (jn (lGs F9 (F9 7 (2 * j + 1))))))) * 1000000) + ((Int32.toInt64 (99 - F9 7 ((2 * j) + 1))) * 1000)) + 999) - (Int32.toInt64 (F9 10 (12 + j))))), (9, .int (F9 7 ((2 * j) + 1))), (8, .int (nI j)), (0, .ref (q 0)), (1, .ref (q 4)), (2, .ref (q 7)), (3, .ref (q 10)), (4, .int set)]) hx hb dL_first_131 hl (by decide) rfl (fun ls hl => ?_)
          refine lv_iinc (v := nI (j + 1)) (lv' := [(8, .int (nI (j + 1))), (6, .long bs), (5, .int (oI f)), (12, .int 0), (10, .long (((((Int32.toInt64 (nI (pcF 8 (jn (lGs F9 (F9 7 (2 * j + 1))))))) * 1000000) + ((Int32.toInt64 (99 - F9 7 ((2 * j) + 1))) * 1000)) + 999) - (Int32.toInt64 (F9 10 (12 + j))))), (9, .int (F9 7 ((2 * j) + 1))), (0, .ref (q 0)), (1, .ref (q 4)), (2, .ref (q 7)), (3, .ref (q 10)), (4, .int set)]) hx hb dL_first_133 hl (k := 5) rfl (show nI j + Int32.ofInt 1 = _ from nI_add j 1) (by decide) rfl (fun ls hl => ?_)
          refine lv_goto (tgt := 11) hx hb dL_first_136 (by decide) ?_
          exact ihu_1  f bs (j + 1)  ls (by omega) (by first | omega | assumption) (by rw [foldU_s, ← hf]; simp [fiS, fiR, c_2, mc_2, c_3])  (lv_sub hl [0, 1, 2, 6, 7, 8, 9, 10] rfl)
        · skip
          refine lv_aload_n hx hb dL_first_81 rfl (lv_at hl 8 rfl) ?_
          refine lv_iload hx hb dL_first_82 (lv_at hl 2 rfl) ?_
          refine ro_callS F hK [.ref (q 10), .int (nI j)] (lc_isOpen hA j ) (va_cwS 2 F.2.2.2.2 gL_first_L_isOpen rfl rfl rfl (by decide +kernel) ⟨Nat.le_of_ble_eq_true rfl, Nat.le_of_ble_eq_true rfl⟩) rfl hl.1 rfl (lv_room (Nat.le_of_ble_eq_true rfl)) ⟨Nat.zero_le _, Nat.zero_le _⟩ dL_first_84 ?_
          refine lw_beq (tgt := 102) hx hb dL_first_87 (by decide) (fun c_4 => ?_) (fun c_4 => ?_)
          · skip
            refine lv_iconst (v := 0) hx hb dL_first_102 (by decide) ?_
            refine lv_istore (lv' := [(12, .int 0), (10, .long (((((Int32.toInt64 (nI (pcF 8 (jn (lGs F9 (F9 7 (2 * j + 1))))))) * 1000000) + ((Int32.toInt64 (99 - F9 7 ((2 * j) + 1))) * 1000)) + 999) - (Int32.toInt64 (F9 10 (12 + j))))), (9, .int (F9 7 ((2 * j) + 1))), (8, .int (nI j)), (6, .long bs), (5, .int (oI f)), (0, .ref (q 0)), (1, .ref (q 4)), (2, .ref (q 7)), (3, .ref (q 10)), (4, .int set)]) hx hb dL_first_103 hl (by decide) rfl (fun ls hl => ?_)
            refine lv_iload hx hb dL_first_105 (lv_at hl 0 rfl) ?_
            refine lv_if_eq (tgt := 115) hx hb dL_first_107 (by decide) (fun _ => ?_) (fun z9 => absurd (by decide) z9)
            refine lv_iload hx hb dL_first_115 (lv_at hl 5 rfl) ?_
            refine lv_istore (lv' := [(5, .int (oI f)), (12, .int 0), (10, .long (((((Int32.toInt64 (nI (pcF 8 (jn (lGs F9 (F9 7 (2 * j + 1))))))) * 1000000) + ((Int32.toInt64 (99 - F9 7 ((2 * j) + 1))) * 1000)) + 999) - (Int32.toInt64 (F9 10 (12 + j))))), (9, .int (F9 7 ((2 * j) + 1))), (8, .int (nI j)), (6, .long bs), (0, .ref (q 0)), (1, .ref (q 4)), (2, .ref (q 7)), (3, .ref (q 10)), (4, .int set)]) hx hb dL_first_117 hl (by decide) rfl (fun ls hl => ?_)
            refine lv_iload hx hb dL_first_119 (lv_at hl 1 rfl) ?_
            refine lv_if_eq (tgt := 129) hx hb dL_first_121 (by decide) (fun _ => ?_) (fun z9 => absurd (by decide) z9)
            refine lv_lload hx hb dL_first_129 (lv_at hl 5 rfl) ?_
            refine lv_lstore (lv' := [(6, .long bs), (5, .int (oI f)), (12, .int 0), (10, .long (((((Int32.toInt64 (nI (pcF 8 (jn (lGs F9 (F9 7 (2 * j + 1))))))) * 1000000) + ((Int32.toInt64 (99 - F9 7 ((2 * j) + 1))) * 1000)) + 999) - (Int32.toInt64 (F9 10 (12 + j))))), (9, .int (F9 7 ((2 * j) + 1))), (8, .int (nI j)), (0, .ref (q 0)), (1, .ref (q 4)), (2, .ref (q 7)), (3, .ref (q 10)), (4, .int set)]) hx hb dL_first_131 hl (by decide) rfl (fun ls hl => ?_)
            refine lv_iinc (v := nI (j + 1)) (lv' := [(8, .int (nI (j + 1))), (6, .long bs), (5, .int (oI f)), (12, .int 0), (10, .long (((((Int32.toInt64 (nI (pcF 8 (jn (lGs F9 (F9 7 (2 * j + 1))))))) * 1000000) + ((Int32.toInt64 (99 - F9 7 ((2 * j) + 1))) * 1000)) + 999) - (Int32.toInt64 (F9 10 (12 + j))))), (9, .int (F9 7 ((2 * j) + 1))), (0, .ref (q 0)), (1, .ref (q 4)), (2, .ref (q 7)), (3, .ref (q 10)), (4, .int set)]) hx hb dL_first_133 hl (k := 5) rfl (show nI j + Int32.ofInt 1 = _ from nI_add j 1) (by decide) rfl (fun ls hl => ?_)
            refine lv_goto (tgt := 11) hx hb dL_first_136 (by decide) ?_
            exact ihu_1  f bs (j + 1)  ls (by omega) (by first | omega | assumption) (by rw [foldU_s, ← hf]; simp [fiS, fiR, c_2, mc_2, c_3, c_4])  (lv_sub hl [0, 1, 2, 6, 7, 8, 9, 10] rfl)
          · skip
            refine lv_lload hx hb dL_first_90 (lv_at hl 0 rfl) ?_
            refine lv_lload hx hb dL_first_92 (lv_at hl 3 rfl) ?_
            refine W.lcmp hx hb dL_first_94 ?_
            refine lv_if_le (tgt := 102) hx hb dL_first_95 (by decide) (fun c_5 => ?_) (fun c_5 => ?_)
            · skip
              refine lv_iconst (v := 0) hx hb dL_first_102 (by decide) ?_
              refine lv_istore (lv' := [(12, .int 0), (10, .long (((((Int32.toInt64 (nI (pcF 8 (jn (lGs F9 (F9 7 (2 * j + 1))))))) * 1000000) + ((Int32.toInt64 (99 - F9 7 ((2 * j) + 1))) * 1000)) + 999) - (Int32.toInt64 (F9 10 (12 + j))))), (9, .int (F9 7 ((2 * j) + 1))), (8, .int (nI j)), (6, .long bs), (5, .int (oI f)), (0, .ref (q 0)), (1, .ref (q 4)), (2, .ref (q 7)), (3, .ref (q 10)), (4, .int set)]) hx hb dL_first_103 hl (by decide) rfl (fun ls hl => ?_)
              refine lv_iload hx hb dL_first_105 (lv_at hl 0 rfl) ?_
              refine lv_if_eq (tgt := 115) hx hb dL_first_107 (by decide) (fun _ => ?_) (fun z9 => absurd (by decide) z9)
              refine lv_iload hx hb dL_first_115 (lv_at hl 5 rfl) ?_
              refine lv_istore (lv' := [(5, .int (oI f)), (12, .int 0), (10, .long (((((Int32.toInt64 (nI (pcF 8 (jn (lGs F9 (F9 7 (2 * j + 1))))))) * 1000000) + ((Int32.toInt64 (99 - F9 7 ((2 * j) + 1))) * 1000)) + 999) - (Int32.toInt64 (F9 10 (12 + j))))), (9, .int (F9 7 ((2 * j) + 1))), (8, .int (nI j)), (6, .long bs), (0, .ref (q 0)), (1, .ref (q 4)), (2, .ref (q 7)), (3, .ref (q 10)), (4, .int set)]) hx hb dL_first_117 hl (by decide) rfl (fun ls hl => ?_)
              refine lv_iload hx hb dL_first_119 (lv_at hl 1 rfl) ?_
              refine lv_if_eq (tgt := 129) hx hb dL_first_121 (by decide) (fun _ => ?_) (fun z9 => absurd (by decide) z9)
              refine lv_lload hx hb dL_first_129 (lv_at hl 5 rfl) ?_
              refine lv_lstore (lv' := [(6, .long bs), (5, .int (oI f)), (12, .int 0), (10, .long (((((Int32.toInt64 (nI (pcF 8 (jn (lGs F9 (F9 7 (2 * j + 1))))))) * 1000000) + ((Int32.toInt64 (99 - F9 7 ((2 * j) + 1))) * 1000)) + 999) - (Int32.toInt64 (F9 10 (12 + j))))), (9, .int (F9 7 ((2 * j) + 1))), (8, .int (nI j)), (0, .ref (q 0)), (1, .ref (q 4)), (2, .ref (q 7)), (3, .ref (q 10)), (4, .int set)]) hx hb dL_first_131 hl (by decide) rfl (fun ls hl => ?_)
              refine lv_iinc (v := nI (j + 1)) (lv' := [(8, .int (nI (j + 1))), (6, .long bs), (5, .int (oI f)), (12, .int 0), (10, .long (((((Int32.toInt64 (nI (pcF 8 (jn (lGs F9 (F9 7 (2 * j + 1))))))) * 1000000) + ((Int32.toInt64 (99 - F9 7 ((2 * j) + 1))) * 1000)) + 999) - (Int32.toInt64 (F9 10 (12 + j))))), (9, .int (F9 7 ((2 * j) + 1))), (0, .ref (q 0)), (1, .ref (q 4)), (2, .ref (q 7)), (3, .ref (q 10)), (4, .int set)]) hx hb dL_first_133 hl (k := 5) rfl (show nI j + Int32.ofInt 1 = _ from nI_add j 1) (by decide) rfl (fun ls hl => ?_)
              refine lv_goto (tgt := 11) hx hb dL_first_136 (by decide) ?_
              exact ihu_1  f bs (j + 1)  ls (by omega) (by first | omega | assumption) (by rw [foldU_s, ← hf]; simp [fiS, fiR, c_2, mc_2, c_3, c_4, c_5])  (lv_sub hl [0, 1, 2, 6, 7, 8, 9, 10] rfl)
            · skip
              refine lv_iconst (v := 1) hx hb dL_first_98 (by decide) ?_
              refine lv_goto (tgt := 103) hx hb dL_first_99 (by decide) ?_
              refine lv_istore (lv' := [(12, .int 1), (10, .long (((((Int32.toInt64 (nI (pcF 8 (jn (lGs F9 (F9 7 (2 * j + 1))))))) * 1000000) + ((Int32.toInt64 (99 - F9 7 ((2 * j) + 1))) * 1000)) + 999) - (Int32.toInt64 (F9 10 (12 + j))))), (9, .int (F9 7 ((2 * j) + 1))), (8, .int (nI j)), (6, .long bs), (5, .int (oI f)), (0, .ref (q 0)), (1, .ref (q 4)), (2, .ref (q 7)), (3, .ref (q 10)), (4, .int set)]) hx hb dL_first_103 hl (by decide) rfl (fun ls hl => ?_)
              refine lv_iload hx hb dL_first_105 (lv_at hl 0 rfl) ?_
              refine lv_if_eq (tgt := 115) hx hb dL_first_107 (by decide) (fun z9 => absurd z9 (by decide)) (fun _ => ?_)
              refine lv_iload hx hb dL_first_110 (lv_at hl 3 rfl) ?_
              refine lv_goto (tgt := 117) hx hb dL_first_112 (by decide) ?_
              refine lv_istore (lv' := [(5, .int (nI j)), (12, .int 1), (10, .long (((((Int32.toInt64 (nI (pcF 8 (jn (lGs F9 (F9 7 (2 * j + 1))))))) * 1000000) + ((Int32.toInt64 (99 - F9 7 ((2 * j) + 1))) * 1000)) + 999) - (Int32.toInt64 (F9 10 (12 + j))))), (9, .int (F9 7 ((2 * j) + 1))), (8, .int (nI j)), (6, .long bs), (0, .ref (q 0)), (1, .ref (q 4)), (2, .ref (q 7)), (3, .ref (q 10)), (4, .int set)]) hx hb dL_first_117 hl (by decide) rfl (fun ls hl => ?_)
              refine lv_iload hx hb dL_first_119 (lv_at hl 1 rfl) ?_
              refine lv_if_eq (tgt := 129) hx hb dL_first_121 (by decide) (fun z9 => absurd z9 (by decide)) (fun _ => ?_)
              refine lv_lload hx hb dL_first_124 (lv_at hl 2 rfl) ?_
              refine lv_goto (tgt := 131) hx hb dL_first_126 (by decide) ?_
              refine lv_lstore (lv' := [(6, .long (((((Int32.toInt64 (nI (pcF 8 (jn (lGs F9 (F9 7 (2 * j + 1))))))) * 1000000) + ((Int32.toInt64 (99 - F9 7 ((2 * j) + 1))) * 1000)) + 999) - (Int32.toInt64 (F9 10 (12 + j))))), (5, .int (nI j)), (12, .int 1), (10, .long (((((Int32.toInt64 (nI (pcF 8 (jn (lGs F9 (F9 7 (2 * j + 1))))))) * 1000000) + ((Int32.toInt64 (99 - F9 7 ((2 * j) + 1))) * 1000)) + 999) - (Int32.toInt64 (F9 10 (12 + j))))), (9, .int (F9 7 ((2 * j) + 1))), (8, .int (nI j)), (0, .ref (q 0)), (1, .ref (q 4)), (2, .ref (q 7)), (3, .ref (q 10)), (4, .int set)]) hx hb dL_first_131 hl (by decide) rfl (fun ls hl => ?_)
              refine lv_iinc (v := nI (j + 1)) (lv' := [(8, .int (nI (j + 1))), (6, .long (((((Int32.toInt64 (nI (pcF 8 (jn (lGs F9 (F9 7 (2 * j + 1))))))) * 1000000) + ((Int32.toInt64 (99 - F9 7 ((2 * j) + 1))) * 1000)) + 999) - (Int32.toInt64 (F9 10 (12 + j))))), (5, .int (nI j)), (12, .int 1), (10, .long (((((Int32.toInt64 (nI (pcF 8 (jn (lGs F9 (F9 7 (2 * j + 1))))))) * 1000000) + ((Int32.toInt64 (99 - F9 7 ((2 * j) + 1))) * 1000)) + 999) - (Int32.toInt64 (F9 10 (12 + j))))), (9, .int (F9 7 ((2 * j) + 1))), (0, .ref (q 0)), (1, .ref (q 4)), (2, .ref (q 7)), (3, .ref (q 10)), (4, .int set)]) hx hb dL_first_133 hl (k := 5) rfl (show nI j + Int32.ofInt 1 = _ from nI_add j 1) (by decide) rfl (fun ls hl => ?_)
              refine lv_goto (tgt := 11) hx hb dL_first_136 (by decide) ?_
              exact ihu_1  (some j) (((((Int32.toInt64 (nI (pcF 8 (jn (lGs F9 (F9 7 (2 * j + 1))))))) * 1000000) + ((Int32.toInt64 (99 - F9 7 ((2 * j) + 1))) * 1000)) + 999) - (Int32.toInt64 (F9 10 (12 + j)))) (j + 1)  ls (by omega) (by first | omega | assumption) (by rw [foldU_s, ← hf]; simp [fiS, fiR, c_2, mc_2, c_3, c_4, c_5])  (lv_sub hl [0, 1, 2, 6, 7, 8, 9, 10] rfl)
  exact L11_u_1 _ none (-1) 0  ls (Nat.lt_succ_self _) (by first | omega | assumption) (rfl)  (lv_sub hl [0, 1, 2, 3, 4, 5, 6, 7] rfl)
def lKp (F : FF) (cm t : Nat) : Option Nat := if F 8 t = 0 then none else lFi F cm (F 9 t)
theorem kp_lt (F : FF) (cm t x : Nat) (h : lKp F cm t = some x) : x < cm := by
  unfold lKp at h
  split at h
  · cases h
  · exact fi_lt F _ cm x h
set_option maxHeartbeats 4000000 in
set_option maxRecDepth 100000 in
theorem lc_kept {l : Launch} {D : va_G} {cI cII : ClassId} {H : Heap} {q : Nat → Nat} {F9 : FF} (hA : va_P D vwCl (lX q cI F9) H) {cm : Nat} (t : Nat) (hn1 : F9 0 1 = nI cm) (hcm : cm ≤ 10) (hGu : gOk F9) (ht : t < 40) : ro_Met l yL_kept wsL_kept 2 57 D (cT cI cII) H [.ref (q 0), .ref (q 4), .ref (q 7), .ref (q 8), .ref (q 9), .ref (q 10), .int (nI t)] (oI (lKp F9 cm t)) := by
  refine ro_start rfl (by decide +kernel) (Nat.le_of_ble_eq_true rfl) (fun p e9 s m below meth c F hr hlocks hK ls hl => ?_)
  have hl : lv_has ls 7 [(0, .ref (q 0)), (1, .ref (q 4)), (2, .ref (q 7)), (3, .ref (q 8)), (4, .ref (q 9)), (5, .ref (q 10)), (6, .int (nI t))] := hl
  have hx := F.1
  have hb := F.2.1
  refine lv_aload_n hx hb dL_kept_0 rfl (lv_at hl 3 rfl) ?_
  refine lv_iload hx hb dL_kept_1 (lv_at hl 6 rfl) ?_
  refine cg_ald F hK hA 8 40 rfl t rfl (by omega) (by decide) dL_kept_3 ?_
  refine lv_if_ne (tgt := 11) hx hb dL_kept_4 (by decide) (fun c_1 => ?_) (fun c_1 => ?_)
  · skip
    refine lv_aload_n hx hb dL_kept_11 rfl (lv_at hl 0 rfl) ?_
    refine lv_aload_n hx hb dL_kept_12 rfl (lv_at hl 1 rfl) ?_
    refine lv_aload_n hx hb dL_kept_13 rfl (lv_at hl 2 rfl) ?_
    refine lv_aload hx hb dL_kept_14 (lv_at hl 5 rfl) ?_
    refine lv_aload hx hb dL_kept_16 (lv_at hl 4 rfl) ?_
    refine lv_iload hx hb dL_kept_18 (lv_at hl 6 rfl) ?_
    refine cg_ald F hK hA 9 40 rfl t rfl (by omega) (by decide) dL_kept_20 ?_
    refine ro_callS F hK [.ref (q 0), .ref (q 4), .ref (q 7), .ref (q 10), .int (F9 9 t)] (lc_first hA (F9 9 t) (by first | assumption | omega) (by first | assumption | omega) (by first | assumption | omega)) (va_cwS 5 F.2.2.2.2 gL_kept_L_first rfl rfl rfl (by decide +kernel) ⟨Nat.le_of_ble_eq_true rfl, Nat.le_of_ble_eq_true rfl⟩) rfl hl.1 rfl (lv_room (Nat.le_of_ble_eq_true rfl)) ⟨Nat.zero_le _, Nat.zero_le _⟩ dL_kept_21 ?_
    exact ro_reti F hr hlocks (by simp [lKp, oI, c_1]) dL_kept_24
  · skip
    refine lv_iconst (v := (-1)) hx hb dL_kept_7 (by decide) ?_
    refine lv_goto (tgt := 24) hx hb dL_kept_8 (by decide) ?_
    exact ro_reti F hr hlocks (by simp [lKp, oI, c_1]) dL_kept_24
def lkS (F : FF) (cm k fo i : Nat) (y : Int32) : Int32 := y - (if oI (lKp F cm (fo + 8 * i)) = nI k then 1 else 0)
def lkN (F : FF) (cm rc k fo : Nat) : Int32 := foldU (lkS F cm k fo) (F 6 (8 * rc + fo)) 5
def lLk (F : FF) (cm rc k fo : Nat) : Int32 := if !decide (lkN F cm rc k fo ≤ 0) && lOp F k then lkN F cm rc k fo else 0
set_option maxHeartbeats 4000000 in
set_option maxRecDepth 100000 in
theorem lc_lacks {l : Launch} {D : va_G} {cI cII : ClassId} {H : Heap} {q : Nat → Nat} {F9 : FF} (hA : va_P D vwCl (lX q cI F9) H) {cm rc : Nat} (k : Nat) (fo : Nat) (hn1 : F9 0 1 = nI cm) (hcm : cm ≤ 10) (hGu : gOk F9) (hk : k < 10) (hfo : fo < 8) (hrc : F9 7 (2 * k) = nI rc) (hrc6 : rc < 6) : ro_Met l yL_lacks wsL_lacks 3 83 D (cT cI cII) H [.ref (q 0), .ref (q 4), .ref (q 6), .ref (q 7), .ref (q 8), .ref (q 9), .ref (q 10), .int (nI k), .int (nI fo)] (lLk F9 cm rc k fo) := by
  refine ro_start rfl (by decide +kernel) (Nat.le_of_ble_eq_true rfl) (fun p e9 s m below meth c F hr hlocks hK ls hl => ?_)
  have hl : lv_has ls 11 [(0, .ref (q 0)), (1, .ref (q 4)), (2, .ref (q 6)), (3, .ref (q 7)), (4, .ref (q 8)), (5, .ref (q 9)), (6, .ref (q 10)), (7, .int (nI k)), (8, .int (nI fo))] := hl
  have hx := F.1
  have hb := F.2.1
  refine lv_aload_n hx hb dL_lacks_0 rfl (lv_at hl 2 rfl) ?_
  refine lv_bipush (v := 8) hx hb dL_lacks_1 (by decide) ?_
  refine lv_aload_n hx hb dL_lacks_3 rfl (lv_at hl 3 rfl) ?_
  refine lv_iconst (v := 2) hx hb dL_lacks_4 (by decide) ?_
  refine lv_iload hx hb dL_lacks_5 (lv_at hl 7 rfl) ?_
  refine lw_mul hx hb (i := 2) (j := k) dL_lacks_7 ?_
  refine cg_ald F hK hA 7 20 rfl (2 * k) rfl (by omega) (by decide) dL_lacks_8 ?_
  refine lw_N rc hrc ?_
  refine lw_mul hx hb (i := 8) (j := rc) dL_lacks_9 ?_
  refine lv_iload hx hb dL_lacks_10 (lv_at hl 8 rfl) ?_
  refine lw_add hx hb (i := (8 * rc)) (j := fo) dL_lacks_12 ?_
  refine cg_ald F hK hA 6 48 rfl ((8 * rc) + fo) rfl (by omega) (by decide) dL_lacks_13 ?_
  refine lv_istore (lv' := [(9, .int (F9 6 ((8 * rc) + fo))), (0, .ref (q 0)), (1, .ref (q 4)), (2, .ref (q 6)), (3, .ref (q 7)), (4, .ref (q 8)), (5, .ref (q 9)), (6, .ref (q 10)), (7, .int (nI k)), (8, .int (nI fo))]) hx hb dL_lacks_14 hl (by decide) rfl (fun ls hl => ?_)
  refine lv_iload hx hb dL_lacks_16 (lv_at hl 9 rfl) ?_
  refine lv_istore (lv' := [(10, .int (nI fo)), (9, .int (F9 6 ((8 * rc) + fo))), (0, .ref (q 0)), (1, .ref (q 4)), (2, .ref (q 6)), (3, .ref (q 7)), (4, .ref (q 8)), (5, .ref (q 9)), (6, .ref (q 10)), (7, .int (nI k)), (8, .int (nI fo))]) hx hb dL_lacks_18 hl (by decide) rfl (fun ls hl => ?_)
  have L20_u_1 : ∀ (k9u_1 : Nat) (y : Int32) (t : Nat) (i : Nat) (ls : Array Slot), 5 - i < k9u_1 → (i ≤ 5) → (t = fo + 8 * i) → (y = foldU (lkS F9 cm k fo) (F9 6 (8 * rc + fo)) i) → lv_has ls 11 [(10, .int (nI t)), (9, .int y), (0, .ref (q 0)), (1, .ref (q 4)), (2, .ref (q 6)), (3, .ref (q 7)), (4, .ref (q 8)), (5, .ref (q 9)), (6, .ref (q 10)), (7, .int (nI k)), (8, .int (nI fo))] → roW p l e9 3 83 s m [.ref (q 0), .ref (q 4), .ref (q 6), .ref (q 7), .ref (q 8), .ref (q 9), .ref (q 10), .int (nI k), .int (nI fo)] below meth c H (lLk F9 cm rc k fo) (F0 m 20 ls []) := by
    intro k9u_1
    induction k9u_1 with
    | zero => intro y t i ls hk; exact absurd hk (Nat.not_lt_zero _)
    | succ k9u_1 ihu_1 =>
      intro y t i ls hk hi ht hf  hl
      refine lv_iload hx hb dL_lacks_20 (lv_at hl 0 rfl) ?_
      refine lv_bipush (v := 40) hx hb dL_lacks_22 (by decide) ?_
      refine lw_ge (tgt := 62) hx hb t 40 (by omega) (by omega) dL_lacks_24 (by decide) (fun c_2 => ?_) (fun c_2 => ?_)
      · skip
        have mc_2 : ¬ t < 40 := by omega
        have hy5 : y = lkN F9 cm rc k fo := by rw [hf, show i = 5 by omega]; rfl
        refine lv_iload hx hb dL_lacks_62 (lv_at hl 1 rfl) ?_
        refine lv_if_le (tgt := 82) hx hb dL_lacks_64 (by decide) (fun c_3 => ?_) (fun c_3 => ?_)
        · skip
          refine lv_iconst (v := 0) hx hb dL_lacks_82 (by decide) ?_
          exact ro_reti F hr hlocks (by simp [lLk, ← hy5, c_2, mc_2, c_3]) dL_lacks_83
        · skip
          refine lv_aload hx hb dL_lacks_67 (lv_at hl 8 rfl) ?_
          refine lv_iload hx hb dL_lacks_69 (lv_at hl 9 rfl) ?_
          refine ro_callS F hK [.ref (q 10), .int (nI k)] (lc_isOpen hA k ) (va_cwS 2 F.2.2.2.2 gL_lacks_L_isOpen rfl rfl rfl (by decide +kernel) ⟨Nat.le_of_ble_eq_true rfl, Nat.le_of_ble_eq_true rfl⟩) rfl hl.1 rfl (lv_room (Nat.le_of_ble_eq_true rfl)) ⟨Nat.zero_le _, Nat.zero_le _⟩ dL_lacks_71 ?_
          refine lw_beq (tgt := 82) hx hb dL_lacks_74 (by decide) (fun c_4 => ?_) (fun c_4 => ?_)
          · skip
            refine lv_iconst (v := 0) hx hb dL_lacks_82 (by decide) ?_
            exact ro_reti F hr hlocks (by simp [lLk, ← hy5, c_2, mc_2, c_3, c_4]) dL_lacks_83
          · skip
            refine lv_iload hx hb dL_lacks_77 (lv_at hl 1 rfl) ?_
            refine lv_goto (tgt := 83) hx hb dL_lacks_79 (by decide) ?_
            exact ro_reti F hr hlocks (by simp [lLk, ← hy5, c_2, mc_2, c_3, c_4]) dL_lacks_83
      · skip
        have mc_2 : ¬ 40 ≤ t := by omega
        refine lv_iload hx hb dL_lacks_27 (lv_at hl 1 rfl) ?_
        refine lv_aload_n hx hb dL_lacks_29 rfl (lv_at hl 2 rfl) ?_
        refine lv_aload_n hx hb dL_lacks_30 rfl (lv_at hl 3 rfl) ?_
        refine lv_aload_n hx hb dL_lacks_31 rfl (lv_at hl 5 rfl) ?_
        refine lv_aload hx hb dL_lacks_32 (lv_at hl 6 rfl) ?_
        refine lv_aload hx hb dL_lacks_34 (lv_at hl 7 rfl) ?_
        refine lv_aload hx hb dL_lacks_36 (lv_at hl 8 rfl) ?_
        refine lv_iload hx hb dL_lacks_38 (lv_at hl 0 rfl) ?_
        refine ro_callS F hK [.ref (q 0), .ref (q 4), .ref (q 7), .ref (q 8), .ref (q 9), .ref (q 10), .int (nI t)] (lc_kept hA t (by first | assumption | omega) (by first | assumption | omega) (by first | assumption | omega) (by first | assumption | omega)) (va_cwS 7 F.2.2.2.2 gL_lacks_L_kept rfl rfl rfl (by decide +kernel) ⟨Nat.le_of_ble_eq_true rfl, Nat.le_of_ble_eq_true rfl⟩) rfl hl.1 rfl (lv_room (Nat.le_of_ble_eq_true rfl)) ⟨Nat.zero_le _, Nat.zero_le _⟩ dL_lacks_40 ?_
        refine lv_iload hx hb dL_lacks_43 (lv_at hl 9 rfl) ?_
        refine lv_icmp_ne (tgt := 52) hx hb dL_lacks_45 (by decide) (fun c_5 => ?_) (fun c_5 => ?_)
        · skip
          refine lv_iconst (v := 0) hx hb dL_lacks_52 (by decide) ?_
          refine lv_isub hx hb dL_lacks_53 ?_
          refine lv_istore (lv' := [(9, .int (y - 0)), (10, .int (nI t)), (0, .ref (q 0)), (1, .ref (q 4)), (2, .ref (q 6)), (3, .ref (q 7)), (4, .ref (q 8)), (5, .ref (q 9)), (6, .ref (q 10)), (7, .int (nI k)), (8, .int (nI fo))]) hx hb dL_lacks_54 hl (by decide) rfl (fun ls hl => ?_)
          refine lv_iinc (v := nI (t + 8)) (lv' := [(10, .int (nI (t + 8))), (9, .int (y - 0)), (0, .ref (q 0)), (1, .ref (q 4)), (2, .ref (q 6)), (3, .ref (q 7)), (4, .ref (q 8)), (5, .ref (q 9)), (6, .ref (q 10)), (7, .int (nI k)), (8, .int (nI fo))]) hx hb dL_lacks_56 hl (k := 1) rfl (show nI t + Int32.ofInt 8 = _ from nI_add t 8) (by decide) rfl (fun ls hl => ?_)
          refine lv_goto (tgt := 20) hx hb dL_lacks_59 (by decide) ?_
          exact ihu_1  (y - 0) (t + 8) (i + 1)  ls (by omega) (by first | omega | assumption) (by first | omega | assumption) (by rw [foldU_s, ← hf]; subst ht; simp [lkS, c_2, mc_2, c_5])  (lv_sub hl [0, 1, 2, 3, 4, 5, 6, 7, 8, 9, 10] rfl)
        · skip
          refine lv_iconst (v := 1) hx hb dL_lacks_48 (by decide) ?_
          refine lv_goto (tgt := 53) hx hb dL_lacks_49 (by decide) ?_
          refine lv_isub hx hb dL_lacks_53 ?_
          refine lv_istore (lv' := [(9, .int (y - 1)), (10, .int (nI t)), (0, .ref (q 0)), (1, .ref (q 4)), (2, .ref (q 6)), (3, .ref (q 7)), (4, .ref (q 8)), (5, .ref (q 9)), (6, .ref (q 10)), (7, .int (nI k)), (8, .int (nI fo))]) hx hb dL_lacks_54 hl (by decide) rfl (fun ls hl => ?_)
          refine lv_iinc (v := nI (t + 8)) (lv' := [(10, .int (nI (t + 8))), (9, .int (y - 1)), (0, .ref (q 0)), (1, .ref (q 4)), (2, .ref (q 6)), (3, .ref (q 7)), (4, .ref (q 8)), (5, .ref (q 9)), (6, .ref (q 10)), (7, .int (nI k)), (8, .int (nI fo))]) hx hb dL_lacks_56 hl (k := 1) rfl (show nI t + Int32.ofInt 8 = _ from nI_add t 8) (by decide) rfl (fun ls hl => ?_)
          refine lv_goto (tgt := 20) hx hb dL_lacks_59 (by decide) ?_
          exact ihu_1  (y - 1) (t + 8) (i + 1)  ls (by omega) (by first | omega | assumption) (by first | omega | assumption) (by rw [foldU_s, ← hf]; subst ht; simp [lkS, c_2, mc_2, c_5])  (lv_sub hl [0, 1, 2, 3, 4, 5, 6, 7, 8, 9, 10] rfl)
  exact L20_u_1 _ (F9 6 ((8 * rc) + fo)) fo 0  ls (Nat.lt_succ_self _) (by first | omega | assumption) (by first | omega | assumption) (rfl)  (lv_sub hl [0, 1, 2, 3, 4, 5, 6, 7, 8, 9, 10] rfl)
def dlS (F : FF) (S : Int32) (g : Nat) (y : Int32) : Int32 := y ||| (if (S >>> (nI g &&& 31)) &&& 1 = 1 then F 4 (jn (F 10 g - 1)) / 10000 else 0)
def lAl (F : FF) (d : Int32) : Int32 := foldU (dlS F (lGs F d)) 0 8
def ddP (F : FF) (al : Int32) (rc fo : Nat) : Bool := decide ((al >>> (nI fo &&& 31)) &&& 1 = 1) && !decide (F 6 (8 * rc + fo) ≤ 0)
def lDl (F : FF) (rc : Nat) (d : Int32) : Bool := foldU (fun fo b => b || ddP F (lAl F d) rc fo) false 8
def dOk (F : FF) (d : Int32) : Prop := ∀ g, g < 8 → (lGs F d >>> (nI g &&& 31)) &&& 1 = 1 → ∃ x, x < 64 ∧ F 10 g - 1 = nI x
set_option maxHeartbeats 4000000 in
set_option maxRecDepth 100000 in
theorem lc_isDisliked {l : Launch} {D : va_G} {cI cII : ClassId} {H : Heap} {q : Nat → Nat} {F9 : FF} (hA : va_P D vwCl (lX q cI F9) H)  (rc : Nat) (d : Int32) (hGu : gOk F9) (hDs : dOk F9 d) (hrc6 : rc < 6) : ro_Met l yL_isDisliked wsL_isDisliked 1 25 D (cT cI cII) H [.ref (q 4), .ref (q 6), .ref (q 10), .int (nI rc), .int d] (bI (lDl F9 rc d)) := by
  refine ro_start rfl (by decide +kernel) (Nat.le_of_ble_eq_true rfl) (fun p e9 s m below meth c F hr hlocks hK ls hl => ?_)
  have hl : lv_has ls 9 [(0, .ref (q 4)), (1, .ref (q 6)), (2, .ref (q 10)), (3, .int (nI rc)), (4, .int d)] := hl
  have hx := F.1
  have hb := F.2.1
  refine lv_aload_n hx hb dL_isDisliked_0 rfl (lv_at hl 0 rfl) ?_
  refine lv_aload_n hx hb dL_isDisliked_1 rfl (lv_at hl 2 rfl) ?_
  refine lv_iload hx hb dL_isDisliked_2 (lv_at hl 4 rfl) ?_
  refine ro_callS F hK [.ref (q 4), .ref (q 10), .int d] (lc_guests hA d (by first | assumption | omega)) (va_cwS 3 F.2.2.2.2 gL_isDisliked_L_guests rfl rfl rfl (by decide +kernel) ⟨Nat.le_of_ble_eq_true rfl, Nat.le_of_ble_eq_true rfl⟩) rfl hl.1 rfl (lv_room (Nat.le_of_ble_eq_true rfl)) ⟨Nat.zero_le _, Nat.zero_le _⟩ dL_isDisliked_4 ?_
  refine lv_istore (lv' := [(5, .int (lGs F9 d)), (0, .ref (q 4)), (1, .ref (q 6)), (2, .ref (q 10)), (3, .int (nI rc)), (4, .int d)]) hx hb dL_isDisliked_7 hl (by decide) rfl (fun ls hl => ?_)
  refine lv_iconst (v := 0) hx hb dL_isDisliked_9 (by decide) ?_
  refine lv_istore (lv' := [(6, .int 0), (5, .int (lGs F9 d)), (0, .ref (q 4)), (1, .ref (q 6)), (2, .ref (q 10)), (3, .int (nI rc)), (4, .int d)]) hx hb dL_isDisliked_10 hl (by decide) rfl (fun ls hl => ?_)
  refine lv_iconst (v := 0) hx hb dL_isDisliked_12 (by decide) ?_
  refine lv_istore (lv' := [(7, .int 0), (6, .int 0), (5, .int (lGs F9 d)), (0, .ref (q 4)), (1, .ref (q 6)), (2, .ref (q 10)), (3, .int (nI rc)), (4, .int d)]) hx hb dL_isDisliked_13 hl (by decide) rfl (fun ls hl => ?_)
  have L15_u_1 : ∀ (k9u_1 : Nat) (y : Int32) (g : Nat) (ls : Array Slot), 8 - g < k9u_1 → (g ≤ 8) → (y = foldU (dlS F9 (lGs F9 d)) 0 g) → lv_has ls 9 [(7, .int (nI g)), (6, .int y), (5, .int (lGs F9 d)), (0, .ref (q 4)), (1, .ref (q 6)), (2, .ref (q 10)), (3, .int (nI rc)), (4, .int d)] → roW p l e9 1 25 s m [.ref (q 4), .ref (q 6), .ref (q 10), .int (nI rc), .int d] below meth c H (bI (lDl F9 rc d)) (F0 m 15 ls []) := by
    intro k9u_1
    induction k9u_1 with
    | zero => intro y g ls hk; exact absurd hk (Nat.not_lt_zero _)
    | succ k9u_1 ihu_1 =>
      intro y g ls hk hg hf  hl
      refine lv_iload hx hb dL_isDisliked_15 (lv_at hl 0 rfl) ?_
      refine lv_bipush (v := 8) hx hb dL_isDisliked_17 (by decide) ?_
      refine lw_ge (tgt := 60) hx hb g 8 (by omega) (by omega) dL_isDisliked_19 (by decide) (fun c_2 => ?_) (fun c_2 => ?_)
      · skip
        have mc_2 : ¬ g < 8 := by omega
        have hy8 : y = lAl F9 d := by rw [hf, show g = 8 by omega]; rfl
        refine lv_iconst (v := 0) hx hb dL_isDisliked_60 (by decide) ?_
        refine lv_istore (lv' := [(7, .int 0), (6, .int y), (5, .int (lGs F9 d)), (0, .ref (q 4)), (1, .ref (q 6)), (2, .ref (q 10)), (3, .int (nI rc)), (4, .int d)]) hx hb dL_isDisliked_61 hl (by decide) rfl (fun ls hl => ?_)
        refine lv_iconst (v := 0) hx hb dL_isDisliked_63 (by decide) ?_
        refine lv_istore (lv' := [(8, .int 0), (7, .int 0), (6, .int y), (5, .int (lGs F9 d)), (0, .ref (q 4)), (1, .ref (q 6)), (2, .ref (q 10)), (3, .int (nI rc)), (4, .int d)]) hx hb dL_isDisliked_64 hl (by decide) rfl (fun ls hl => ?_)
        have L66_u_3 : ∀ (k9u_3 : Nat) (b : Bool) (fo : Nat) (ls : Array Slot), 8 - fo < k9u_3 → (fo ≤ 8) → (b = foldU (fun fo b => b || ddP F9 (lAl F9 d) rc fo) false fo) → lv_has ls 9 [(8, .int (nI fo)), (7, .int (bI b)), (6, .int y), (5, .int (lGs F9 d)), (0, .ref (q 4)), (1, .ref (q 6)), (2, .ref (q 10)), (3, .int (nI rc)), (4, .int d)] → roW p l e9 1 25 s m [.ref (q 4), .ref (q 6), .ref (q 10), .int (nI rc), .int d] below meth c H (bI (lDl F9 rc d)) (F0 m 66 ls []) := by
          intro k9u_3
          induction k9u_3 with
          | zero => intro b fo ls hk; exact absurd hk (Nat.not_lt_zero _)
          | succ k9u_3 ihu_3 =>
            intro b fo ls hk hfo hb9  hl
            refine lv_iload hx hb dL_isDisliked_66 (lv_at hl 0 rfl) ?_
            refine lv_bipush (v := 8) hx hb dL_isDisliked_68 (by decide) ?_
            refine lw_ge (tgt := 114) hx hb fo 8 (by omega) (by omega) dL_isDisliked_70 (by decide) (fun c_4 => ?_) (fun c_4 => ?_)
            · skip
              have mc_4 : ¬ fo < 8 := by omega
              refine lv_iload hx hb dL_isDisliked_114 (lv_at hl 1 rfl) ?_
              exact ro_retz F hr hlocks (by rw [hb9, show fo = 8 by omega]; rfl) dL_isDisliked_116
            · skip
              have mc_4 : ¬ 8 ≤ fo := by omega
              refine lv_iload hx hb dL_isDisliked_73 (lv_at hl 1 rfl) ?_
              refine lw_bne (tgt := 101) hx hb dL_isDisliked_75 (by decide) (fun c_5 => ?_) (fun c_5 => ?_)
              · skip
                refine lv_iconst (v := 1) hx hb dL_isDisliked_101 (by decide) ?_
                refine lv_goto (tgt := 106) hx hb dL_isDisliked_102 (by decide) ?_
                refine lv_istore (lv' := [(7, .int 1), (8, .int (nI fo)), (6, .int y), (5, .int (lGs F9 d)), (0, .ref (q 4)), (1, .ref (q 6)), (2, .ref (q 10)), (3, .int (nI rc)), (4, .int d)]) hx hb dL_isDisliked_106 hl (by decide) rfl (fun ls hl => ?_)
                refine lv_iinc (v := nI (fo + 1)) (lv' := [(8, .int (nI (fo + 1))), (7, .int 1), (6, .int y), (5, .int (lGs F9 d)), (0, .ref (q 4)), (1, .ref (q 6)), (2, .ref (q 10)), (3, .int (nI rc)), (4, .int d)]) hx hb dL_isDisliked_108 hl (k := 1) rfl (show nI fo + Int32.ofInt 1 = _ from nI_add fo 1) (by decide) rfl (fun ls hl => ?_)
                refine lv_goto (tgt := 66) hx hb dL_isDisliked_111 (by decide) ?_
                exact ihu_3  true (fo + 1)  ls (by omega) (by first | omega | assumption) (by rw [foldU_s, ← hb9]; simp [ddP, ← hy8, c_2, mc_2, c_4, mc_4, c_5])  (lv_sub hl [0, 1, 2, 3, 4, 5, 6, 7, 8] rfl)
              · skip
                refine lv_iload hx hb dL_isDisliked_78 (lv_at hl 2 rfl) ?_
                refine lv_iload hx hb dL_isDisliked_80 (lv_at hl 0 rfl) ?_
                refine lv_ishr hx hb dL_isDisliked_82 ?_
                refine lv_iconst (v := 1) hx hb dL_isDisliked_83 (by decide) ?_
                refine lv_iand hx hb dL_isDisliked_84 ?_
                refine lv_iconst (v := 1) hx hb dL_isDisliked_85 (by decide) ?_
                refine lv_icmp_ne (tgt := 105) hx hb dL_isDisliked_86 (by decide) (fun c_6 => ?_) (fun c_6 => ?_)
                · skip
                  refine lv_iconst (v := 0) hx hb dL_isDisliked_105 (by decide) ?_
                  refine lv_istore (lv' := [(7, .int 0), (8, .int (nI fo)), (6, .int y), (5, .int (lGs F9 d)), (0, .ref (q 4)), (1, .ref (q 6)), (2, .ref (q 10)), (3, .int (nI rc)), (4, .int d)]) hx hb dL_isDisliked_106 hl (by decide) rfl (fun ls hl => ?_)
                  refine lv_iinc (v := nI (fo + 1)) (lv' := [(8, .int (nI (fo + 1))), (7, .int 0), (6, .int y), (5, .int (lGs F9 d)), (0, .ref (q 4)), (1, .ref (q 6)), (2, .ref (q 10)), (3, .int (nI rc)), (4, .int d)]) hx hb dL_isDisliked_108 hl (k := 1) rfl (show nI fo + Int32.ofInt 1 = _ from nI_add fo 1) (by decide) rfl (fun ls hl => ?_)
                  refine lv_goto (tgt := 66) hx hb dL_isDisliked_111 (by decide) ?_
                  exact ihu_3  false (fo + 1)  ls (by omega) (by first | omega | assumption) (by rw [foldU_s, ← hb9]; simp [ddP, ← hy8, c_2, mc_2, c_4, mc_4, c_5, c_6])  (lv_sub hl [0, 1, 2, 3, 4, 5, 6, 7, 8] rfl)
                · skip
                  refine lv_aload_n hx hb dL_isDisliked_89 rfl (lv_at hl 5 rfl) ?_
                  refine lv_bipush (v := 8) hx hb dL_isDisliked_90 (by decide) ?_
                  refine lv_iload_n hx hb dL_isDisliked_92 rfl (lv_at hl 7 rfl) ?_
                  refine lw_mul hx hb (i := 8) (j := rc) dL_isDisliked_93 ?_
                  refine lv_iload hx hb dL_isDisliked_94 (lv_at hl 0 rfl) ?_
                  refine lw_add hx hb (i := (8 * rc)) (j := fo) dL_isDisliked_96 ?_
                  refine cg_ald F hK hA 6 48 rfl ((8 * rc) + fo) rfl (by omega) (by decide) dL_isDisliked_97 ?_
                  refine lv_if_le (tgt := 105) hx hb dL_isDisliked_98 (by decide) (fun c_7 => ?_) (fun c_7 => ?_)
                  · skip
                    refine lv_iconst (v := 0) hx hb dL_isDisliked_105 (by decide) ?_
                    refine lv_istore (lv' := [(7, .int 0), (8, .int (nI fo)), (6, .int y), (5, .int (lGs F9 d)), (0, .ref (q 4)), (1, .ref (q 6)), (2, .ref (q 10)), (3, .int (nI rc)), (4, .int d)]) hx hb dL_isDisliked_106 hl (by decide) rfl (fun ls hl => ?_)
                    refine lv_iinc (v := nI (fo + 1)) (lv' := [(8, .int (nI (fo + 1))), (7, .int 0), (6, .int y), (5, .int (lGs F9 d)), (0, .ref (q 4)), (1, .ref (q 6)), (2, .ref (q 10)), (3, .int (nI rc)), (4, .int d)]) hx hb dL_isDisliked_108 hl (k := 1) rfl (show nI fo + Int32.ofInt 1 = _ from nI_add fo 1) (by decide) rfl (fun ls hl => ?_)
                    refine lv_goto (tgt := 66) hx hb dL_isDisliked_111 (by decide) ?_
                    exact ihu_3  false (fo + 1)  ls (by omega) (by first | omega | assumption) (by rw [foldU_s, ← hb9]; simp [ddP, ← hy8, c_2, mc_2, c_4, mc_4, c_5, c_6, c_7])  (lv_sub hl [0, 1, 2, 3, 4, 5, 6, 7, 8] rfl)
                  · skip
                    refine lv_iconst (v := 1) hx hb dL_isDisliked_101 (by decide) ?_
                    refine lv_goto (tgt := 106) hx hb dL_isDisliked_102 (by decide) ?_
                    refine lv_istore (lv' := [(7, .int 1), (8, .int (nI fo)), (6, .int y), (5, .int (lGs F9 d)), (0, .ref (q 4)), (1, .ref (q 6)), (2, .ref (q 10)), (3, .int (nI rc)), (4, .int d)]) hx hb dL_isDisliked_106 hl (by decide) rfl (fun ls hl => ?_)
                    refine lv_iinc (v := nI (fo + 1)) (lv' := [(8, .int (nI (fo + 1))), (7, .int 1), (6, .int y), (5, .int (lGs F9 d)), (0, .ref (q 4)), (1, .ref (q 6)), (2, .ref (q 10)), (3, .int (nI rc)), (4, .int d)]) hx hb dL_isDisliked_108 hl (k := 1) rfl (show nI fo + Int32.ofInt 1 = _ from nI_add fo 1) (by decide) rfl (fun ls hl => ?_)
                    refine lv_goto (tgt := 66) hx hb dL_isDisliked_111 (by decide) ?_
                    exact ihu_3  true (fo + 1)  ls (by omega) (by first | omega | assumption) (by rw [foldU_s, ← hb9]; simp [ddP, ← hy8, c_2, mc_2, c_4, mc_4, c_5, c_6, c_7])  (lv_sub hl [0, 1, 2, 3, 4, 5, 6, 7, 8] rfl)
        exact L66_u_3 _ false 0  ls (Nat.lt_succ_self _) (by first | omega | assumption) (rfl)  (lv_sub hl [0, 1, 2, 3, 4, 5, 6, 7, 8] rfl)
      · skip
        have mc_2 : ¬ 8 ≤ g := by omega
        refine lv_iload hx hb dL_isDisliked_22 (lv_at hl 1 rfl) ?_
        refine lv_iload hx hb dL_isDisliked_24 (lv_at hl 2 rfl) ?_
        refine lv_iload hx hb dL_isDisliked_26 (lv_at hl 0 rfl) ?_
        refine lv_ishr hx hb dL_isDisliked_28 ?_
        refine lv_iconst (v := 1) hx hb dL_isDisliked_29 (by decide) ?_
        refine lv_iand hx hb dL_isDisliked_30 ?_
        refine lv_iconst (v := 1) hx hb dL_isDisliked_31 (by decide) ?_
        refine lv_icmp_ne (tgt := 50) hx hb dL_isDisliked_32 (by decide) (fun c_8 => ?_) (fun c_8 => ?_)
        · skip
          refine lv_iconst (v := 0) hx hb dL_isDisliked_50 (by decide) ?_
          refine lv_ior hx hb dL_isDisliked_51 ?_
          refine lv_istore (lv' := [(6, .int (y ||| 0)), (7, .int (nI g)), (5, .int (lGs F9 d)), (0, .ref (q 4)), (1, .ref (q 6)), (2, .ref (q 10)), (3, .int (nI rc)), (4, .int d)]) hx hb dL_isDisliked_52 hl (by decide) rfl (fun ls hl => ?_)
          refine lv_iinc (v := nI (g + 1)) (lv' := [(7, .int (nI (g + 1))), (6, .int (y ||| 0)), (5, .int (lGs F9 d)), (0, .ref (q 4)), (1, .ref (q 6)), (2, .ref (q 10)), (3, .int (nI rc)), (4, .int d)]) hx hb dL_isDisliked_54 hl (k := 1) rfl (show nI g + Int32.ofInt 1 = _ from nI_add g 1) (by decide) rfl (fun ls hl => ?_)
          refine lv_goto (tgt := 15) hx hb dL_isDisliked_57 (by decide) ?_
          exact ihu_1  (y ||| 0) (g + 1)  ls (by omega) (by first | omega | assumption) (by rw [foldU_s, ← hf]; simp [dlS, c_2, mc_2, c_8])  (lv_sub hl [0, 1, 2, 3, 4, 5, 6, 7] rfl)
        · skip
          refine lv_aload_n hx hb dL_isDisliked_35 rfl (lv_at hl 3 rfl) ?_
          refine lv_aload_n hx hb dL_isDisliked_36 rfl (lv_at hl 5 rfl) ?_
          refine lv_iload hx hb dL_isDisliked_37 (lv_at hl 0 rfl) ?_
          refine cg_ald F hK hA 10 40 rfl g rfl (by omega) (by decide) dL_isDisliked_39 ?_
          refine lv_iconst (v := 1) hx hb dL_isDisliked_40 (by decide) ?_
          refine lv_isub hx hb dL_isDisliked_41 ?_
          obtain ⟨x9, hx9, ex9⟩ := hDs g (by omega) c_8
          refine lw_N x9 ex9 ?_
          have jx9 : jn (F9 10 g - 1) = x9 := by rw [ex9]; exact jn_nI (by omega)
          refine cg_ald F hK hA 4 64 rfl x9 rfl (by omega) (by decide) dL_isDisliked_42 ?_
          refine lv_sipush (v := 10000) hx hb dL_isDisliked_43 (by decide) ?_
          refine lv_idiv hx hb dL_isDisliked_46 (by decide) ?_
          refine lv_goto (tgt := 51) hx hb dL_isDisliked_47 (by decide) ?_
          refine lv_ior hx hb dL_isDisliked_51 ?_
          refine lv_istore (lv' := [(6, .int (y ||| (F9 4 x9 / 10000))), (7, .int (nI g)), (5, .int (lGs F9 d)), (0, .ref (q 4)), (1, .ref (q 6)), (2, .ref (q 10)), (3, .int (nI rc)), (4, .int d)]) hx hb dL_isDisliked_52 hl (by decide) rfl (fun ls hl => ?_)
          refine lv_iinc (v := nI (g + 1)) (lv' := [(7, .int (nI (g + 1))), (6, .int (y ||| (F9 4 x9 / 10000))), (5, .int (lGs F9 d)), (0, .ref (q 4)), (1, .ref (q 6)), (2, .ref (q 10)), (3, .int (nI rc)), (4, .int d)]) hx hb dL_isDisliked_54 hl (k := 1) rfl (show nI g + Int32.ofInt 1 = _ from nI_add g 1) (by decide) rfl (fun ls hl => ?_)
          refine lv_goto (tgt := 15) hx hb dL_isDisliked_57 (by decide) ?_
          exact ihu_1  (y ||| (F9 4 x9 / 10000)) (g + 1)  ls (by omega) (by first | omega | assumption) (by rw [foldU_s, ← hf]; simp [dlS, c_2, mc_2, c_8, jx9])  (lv_sub hl [0, 1, 2, 3, 4, 5, 6, 7] rfl)
  exact L15_u_1 _ 0 0  ls (Nat.lt_succ_self _) (by first | omega | assumption) (rfl)  (lv_sub hl [0, 1, 2, 3, 4, 5, 6, 7] rfl)
def clS (F : FF) (t : Nat) (y : Int32) (i : Nat) : Int32 := if decide (1 < md (F 1 i) 8) || !decide (F 1 i / 64 = nI t) then y else if md (F 1 i) 8 = 0 then y ||| ((1 : Int32) <<< (md (F 1 i / 8) 8 &&& 31)) else y &&& (((1 : Int32) <<< (md (F 1 i / 8) 8 &&& 31)) ^^^ (-1))
def lCm (F : FF) (l : List Nat) (t : Nat) : Int32 := if F 8 t = 0 then l.foldl (clS F t) 0 else l.foldl (clS F t) 0 &&& (((1 : Int32) <<< ((F 8 t - 1) &&& 31)) ^^^ (-1))
set_option maxHeartbeats 4000000 in
set_option maxRecDepth 100000 in
theorem lc_claims {l : Launch} {D : va_G} {cI cII : ClassId} {H : Heap} {q : Nat → Nat} {F9 : FF} (hA : va_P D vwCl (lX q cI F9) H) {n : Nat} {l9 : List Nat} (vw : Nat) (t : Nat) (hn0 : F9 0 0 = nI n) (hn : n ≤ 64) (hv : vw ≤ 5) (hc0 : lNx F9 n vw none = l9.head?) (hch : nxC F9 n vw l9) (hsub : ∀ z, z ∈ l9 → z < n) (ht : t < 40) : ro_Met l yL_claims wsL_claims 1 29 D (cT cI cII) H [.ref (q 0), .ref (q 1), .ref (q 2), .ref (q 3), .ref (q 8), .int (nI vw), .int (nI t)] (lCm F9 l9 t) := by
  refine ro_start rfl (by decide +kernel) (Nat.le_of_ble_eq_true rfl) (fun p e9 s m below meth c F hr hlocks hK ls hl => ?_)
  have hl : lv_has ls 10 [(0, .ref (q 0)), (1, .ref (q 1)), (2, .ref (q 2)), (3, .ref (q 3)), (4, .ref (q 8)), (5, .int (nI vw)), (6, .int (nI t))] := hl
  have hx := F.1
  have hb := F.2.1
  refine lv_iconst (v := 0) hx hb dL_claims_0 (by decide) ?_
  refine lv_istore (lv' := [(7, .int 0), (0, .ref (q 0)), (1, .ref (q 1)), (2, .ref (q 2)), (3, .ref (q 3)), (4, .ref (q 8)), (5, .int (nI vw)), (6, .int (nI t))]) hx hb dL_claims_1 hl (by decide) rfl (fun ls hl => ?_)
  refine lv_aload_n hx hb dL_claims_3 rfl (lv_at hl 1 rfl) ?_
  refine lv_aload_n hx hb dL_claims_4 rfl (lv_at hl 2 rfl) ?_
  refine lv_aload_n hx hb dL_claims_5 rfl (lv_at hl 3 rfl) ?_
  refine lv_aload_n hx hb dL_claims_6 rfl (lv_at hl 4 rfl) ?_
  refine lv_iload hx hb dL_claims_7 (lv_at hl 6 rfl) ?_
  refine lv_iconst (v := (-1)) hx hb dL_claims_9 (by decide) ?_
  refine ro_callS F hK [.ref (q 0), .ref (q 1), .ref (q 2), .ref (q 3), .int (nI vw), .int (-1)] (lc_next hA vw none (by first | assumption | omega) (by first | assumption | omega) (by first | assumption | omega) (fun x z => nomatch z)) (va_cwS 6 F.2.2.2.2 gL_claims_L_next rfl rfl rfl (by decide +kernel) ⟨Nat.le_of_ble_eq_true rfl, Nat.le_of_ble_eq_true rfl⟩) rfl hl.1 rfl (lv_room (Nat.le_of_ble_eq_true rfl)) ⟨Nat.zero_le _, Nat.zero_le _⟩ dL_claims_10 ?_
  refine lw_E (oI l9.head?) (congrArg oI ((lNx_cg rfl rfl rfl n vw none).trans hc0)) ?_
  refine lv_istore (lv' := [(8, .int (oI (l9.head?))), (7, .int 0), (0, .ref (q 0)), (1, .ref (q 1)), (2, .ref (q 2)), (3, .ref (q 3)), (4, .ref (q 8)), (5, .int (nI vw)), (6, .int (nI t))]) hx hb dL_claims_13 hl (by decide) rfl (fun ls hl => ?_)
  have L15_u_1 : ∀ (k9u_1 : Nat) (r : List Nat) (y : Int32) (ls : Array Slot), r.length < k9u_1 → (∀ z, z ∈ r → z < n) → (nxC F9 n vw r) → (r.foldl (clS F9 t) y = l9.foldl (clS F9 t) 0) → lv_has ls 10 [(7, .int y), (8, .int (oI (r.head?))), (0, .ref (q 0)), (1, .ref (q 1)), (2, .ref (q 2)), (3, .ref (q 3)), (4, .ref (q 8)), (5, .int (nI vw)), (6, .int (nI t))] → roW p l e9 1 29 s m [.ref (q 0), .ref (q 1), .ref (q 2), .ref (q 3), .ref (q 8), .int (nI vw), .int (nI t)] below meth c H (lCm F9 l9 t) (F0 m 15 ls []) := by
    intro k9u_1
    induction k9u_1 with
    | zero => intro r y ls hk; exact absurd hk (Nat.not_lt_zero _)
    | succ k9u_1 ihu_1 =>
      intro r y ls hk hsub hch hf  hl
      refine lv_iload hx hb dL_claims_15 (lv_at hl 1 rfl) ?_
      refine lw_olt (tgt := 105) hx hb (fun x hx => by have := hsub x (hd_mem hx); omega) dL_claims_17 (by decide) (fun c_2 => ?_) (fun xc_2 c_2 => ?_)
      · skip
        obtain rfl := hd_nil c_2
        refine lv_aload hx hb dL_claims_105 (lv_at hl 6 rfl) ?_
        refine lv_iload hx hb dL_claims_107 (lv_at hl 8 rfl) ?_
        refine cg_ald F hK hA 8 40 rfl t rfl (by omega) (by decide) dL_claims_109 ?_
        refine lv_if_ne (tgt := 118) hx hb dL_claims_110 (by decide) (fun c_3 => ?_) (fun c_3 => ?_)
        · skip
          refine lv_iload hx hb dL_claims_118 (lv_at hl 0 rfl) ?_
          refine lv_iconst (v := 1) hx hb dL_claims_120 (by decide) ?_
          refine lv_aload hx hb dL_claims_121 (lv_at hl 6 rfl) ?_
          refine lv_iload hx hb dL_claims_123 (lv_at hl 8 rfl) ?_
          refine cg_ald F hK hA 8 40 rfl t rfl (by omega) (by decide) dL_claims_125 ?_
          refine lv_iconst (v := 1) hx hb dL_claims_126 (by decide) ?_
          refine lv_isub hx hb dL_claims_127 ?_
          refine lv_ishl hx hb dL_claims_128 ?_
          refine lv_iconst (v := (-1)) hx hb dL_claims_129 (by decide) ?_
          refine lv_ixor hx hb dL_claims_130 ?_
          refine lv_iand hx hb dL_claims_131 ?_
          exact ro_reti F hr hlocks (by have z : y = l9.foldl (clS F9 t) 0 := hf; simp [lCm, ← z, c_2, c_3]) dL_claims_132
        · skip
          refine lv_iload hx hb dL_claims_113 (lv_at hl 0 rfl) ?_
          refine lv_goto (tgt := 132) hx hb dL_claims_115 (by decide) ?_
          exact ro_reti F hr hlocks (by have z : y = l9.foldl (clS F9 t) 0 := hf; simp [lCm, ← z, c_2, c_3]) dL_claims_132
      · skip
        obtain ⟨rxc_2, rfl⟩ := hd_cons c_2
        have hl : lv_has ls 10 [(7, .int y), (8, .int (nI xc_2)), (0, .ref (q 0)), (1, .ref (q 1)), (2, .ref (q 2)), (3, .ref (q 3)), (4, .ref (q 8)), (5, .int (nI vw)), (6, .int (nI t))] := hl
        have hxn := hsub xc_2 List.mem_cons_self
        refine lv_iconst (v := 1) hx hb dL_claims_20 (by decide) ?_
        refine lv_aload_n hx hb dL_claims_21 rfl (lv_at hl 3 rfl) ?_
        refine lv_iload hx hb dL_claims_22 (lv_at hl 1 rfl) ?_
        refine cg_ald F hK hA 1 64 rfl xc_2 rfl (by omega) (by decide) dL_claims_24 ?_
        refine lv_bipush (v := 8) hx hb dL_claims_25 (by decide) ?_
        refine lv_idiv hx hb dL_claims_27 (by decide) ?_
        refine lv_bipush (v := 8) hx hb dL_claims_28 (by decide) ?_
        refine lw_rem hx hb dL_claims_30 (by decide) ?_
        refine lv_ishl hx hb dL_claims_31 ?_
        refine lv_istore (lv' := [(9, .int (1 <<< ((md (F9 1 xc_2 / 8) 8) &&& 31))), (7, .int y), (8, .int (nI xc_2)), (0, .ref (q 0)), (1, .ref (q 1)), (2, .ref (q 2)), (3, .ref (q 3)), (4, .ref (q 8)), (5, .int (nI vw)), (6, .int (nI t))]) hx hb dL_claims_32 hl (by decide) rfl (fun ls hl => ?_)
        refine lv_aload_n hx hb dL_claims_34 rfl (lv_at hl 4 rfl) ?_
        refine lv_iload hx hb dL_claims_35 (lv_at hl 2 rfl) ?_
        refine cg_ald F hK hA 1 64 rfl xc_2 rfl (by omega) (by decide) dL_claims_37 ?_
        refine lv_bipush (v := 8) hx hb dL_claims_38 (by decide) ?_
        refine lw_rem hx hb dL_claims_40 (by decide) ?_
        refine lv_iconst (v := 1) hx hb dL_claims_41 (by decide) ?_
        refine lv_icmp_gt (tgt := 57) hx hb dL_claims_42 (by decide) (fun c_4 => ?_) (fun c_4 => ?_)
        · skip
          refine lv_iload hx hb dL_claims_57 (lv_at hl 1 rfl) ?_
          refine lv_goto (tgt := 87) hx hb dL_claims_59 (by decide) ?_
          refine lv_istore (lv' := [(7, .int y), (9, .int (1 <<< ((md (F9 1 xc_2 / 8) 8) &&& 31))), (8, .int (nI xc_2)), (0, .ref (q 0)), (1, .ref (q 1)), (2, .ref (q 2)), (3, .ref (q 3)), (4, .ref (q 8)), (5, .int (nI vw)), (6, .int (nI t))]) hx hb dL_claims_87 hl (by decide) rfl (fun ls hl => ?_)
          refine lv_aload_n hx hb dL_claims_89 rfl (lv_at hl 3 rfl) ?_
          refine lv_aload_n hx hb dL_claims_90 rfl (lv_at hl 4 rfl) ?_
          refine lv_aload_n hx hb dL_claims_91 rfl (lv_at hl 5 rfl) ?_
          refine lv_aload_n hx hb dL_claims_92 rfl (lv_at hl 6 rfl) ?_
          refine lv_iload hx hb dL_claims_93 (lv_at hl 8 rfl) ?_
          refine lv_iload hx hb dL_claims_95 (lv_at hl 2 rfl) ?_
          refine ro_callS F hK [.ref (q 0), .ref (q 1), .ref (q 2), .ref (q 3), .int (nI vw), .int (nI xc_2)] (lc_next hA vw (some xc_2) (by first | assumption | omega) (by first | assumption | omega) (by first | assumption | omega) (fun x z => by cases z; omega)) (va_cwS 6 F.2.2.2.2 gL_claims_L_next rfl rfl rfl (by decide +kernel) ⟨Nat.le_of_ble_eq_true rfl, Nat.le_of_ble_eq_true rfl⟩) rfl hl.1 rfl (lv_room (Nat.le_of_ble_eq_true rfl)) ⟨Nat.zero_le _, Nat.zero_le _⟩ dL_claims_97 ?_
          refine lw_E (oI rxc_2.head?) (congrArg oI ((lNx_cg rfl rfl rfl n vw (some xc_2)).trans hch.1)) ?_
          refine lv_istore (lv' := [(8, .int (oI (rxc_2.head?))), (7, .int y), (9, .int (1 <<< ((md (F9 1 xc_2 / 8) 8) &&& 31))), (0, .ref (q 0)), (1, .ref (q 1)), (2, .ref (q 2)), (3, .ref (q 3)), (4, .ref (q 8)), (5, .int (nI vw)), (6, .int (nI t))]) hx hb dL_claims_100 hl (by decide) rfl (fun ls hl => ?_)
          refine lv_goto (tgt := 15) hx hb dL_claims_102 (by decide) ?_
          exact ihu_1  rxc_2 y  ls (by have z := hk; simp at z; omega) (fun z hz => hsub z (List.mem_cons_of_mem _ hz)) (hch.2) (by rw [← hf, List.foldl_cons]; simp [clS, c_4])  (lv_sub hl [1, 0, 3, 4, 5, 6, 7, 8, 9] rfl)
        · skip
          refine lv_aload_n hx hb dL_claims_45 rfl (lv_at hl 4 rfl) ?_
          refine lv_iload hx hb dL_claims_46 (lv_at hl 2 rfl) ?_
          refine cg_ald F hK hA 1 64 rfl xc_2 rfl (by omega) (by decide) dL_claims_48 ?_
          refine lv_bipush (v := 64) hx hb dL_claims_49 (by decide) ?_
          refine lv_idiv hx hb dL_claims_51 (by decide) ?_
          refine lv_iload hx hb dL_claims_52 (lv_at hl 9 rfl) ?_
          refine lv_icmp_eq (tgt := 62) hx hb dL_claims_54 (by decide) (fun c_5 => ?_) (fun c_5 => ?_)
          · skip
            refine lv_aload_n hx hb dL_claims_62 rfl (lv_at hl 4 rfl) ?_
            refine lv_iload hx hb dL_claims_63 (lv_at hl 2 rfl) ?_
            refine cg_ald F hK hA 1 64 rfl xc_2 rfl (by omega) (by decide) dL_claims_65 ?_
            refine lv_bipush (v := 8) hx hb dL_claims_66 (by decide) ?_
            refine lw_rem hx hb dL_claims_68 (by decide) ?_
            refine lv_if_ne (tgt := 80) hx hb dL_claims_69 (by decide) (fun c_6 => ?_) (fun c_6 => ?_)
            · skip
              refine lv_iload hx hb dL_claims_80 (lv_at hl 1 rfl) ?_
              refine lv_iload hx hb dL_claims_82 (lv_at hl 0 rfl) ?_
              refine lv_iconst (v := (-1)) hx hb dL_claims_84 (by decide) ?_
              refine lv_ixor hx hb dL_claims_85 ?_
              refine lv_iand hx hb dL_claims_86 ?_
              refine lv_istore (lv' := [(7, .int (y &&& ((1 <<< ((md (F9 1 xc_2 / 8) 8) &&& 31)) ^^^ (-1)))), (9, .int (1 <<< ((md (F9 1 xc_2 / 8) 8) &&& 31))), (8, .int (nI xc_2)), (0, .ref (q 0)), (1, .ref (q 1)), (2, .ref (q 2)), (3, .ref (q 3)), (4, .ref (q 8)), (5, .int (nI vw)), (6, .int (nI t))]) hx hb dL_claims_87 hl (by decide) rfl (fun ls hl => ?_)
              refine lv_aload_n hx hb dL_claims_89 rfl (lv_at hl 3 rfl) ?_
              refine lv_aload_n hx hb dL_claims_90 rfl (lv_at hl 4 rfl) ?_
              refine lv_aload_n hx hb dL_claims_91 rfl (lv_at hl 5 rfl) ?_
              refine lv_aload_n hx hb dL_claims_92 rfl (lv_at hl 6 rfl) ?_
              refine lv_iload hx hb dL_claims_93 (lv_at hl 8 rfl) ?_
              refine lv_iload hx hb dL_claims_95 (lv_at hl 2 rfl) ?_
              refine ro_callS F hK [.ref (q 0), .ref (q 1), .ref (q 2), .ref (q 3), .int (nI vw), .int (nI xc_2)] (lc_next hA vw (some xc_2) (by first | assumption | omega) (by first | assumption | omega) (by first | assumption | omega) (fun x z => by cases z; omega)) (va_cwS 6 F.2.2.2.2 gL_claims_L_next rfl rfl rfl (by decide +kernel) ⟨Nat.le_of_ble_eq_true rfl, Nat.le_of_ble_eq_true rfl⟩) rfl hl.1 rfl (lv_room (Nat.le_of_ble_eq_true rfl)) ⟨Nat.zero_le _, Nat.zero_le _⟩ dL_claims_97 ?_
              refine lw_E (oI rxc_2.head?) (congrArg oI ((lNx_cg rfl rfl rfl n vw (some xc_2)).trans hch.1)) ?_
              refine lv_istore (lv' := [(8, .int (oI (rxc_2.head?))), (7, .int (y &&& ((1 <<< ((md (F9 1 xc_2 / 8) 8) &&& 31)) ^^^ (-1)))), (9, .int (1 <<< ((md (F9 1 xc_2 / 8) 8) &&& 31))), (0, .ref (q 0)), (1, .ref (q 1)), (2, .ref (q 2)), (3, .ref (q 3)), (4, .ref (q 8)), (5, .int (nI vw)), (6, .int (nI t))]) hx hb dL_claims_100 hl (by decide) rfl (fun ls hl => ?_)
              refine lv_goto (tgt := 15) hx hb dL_claims_102 (by decide) ?_
              exact ihu_1  rxc_2 (y &&& ((1 <<< ((md (F9 1 xc_2 / 8) 8) &&& 31)) ^^^ (-1)))  ls (by have z := hk; simp at z; omega) (fun z hz => hsub z (List.mem_cons_of_mem _ hz)) (hch.2) (by rw [← hf, List.foldl_cons]; simp [clS, c_4, c_5, c_6])  (lv_sub hl [1, 0, 3, 4, 5, 6, 7, 8, 9] rfl)
            · skip
              refine lv_iload hx hb dL_claims_72 (lv_at hl 1 rfl) ?_
              refine lv_iload hx hb dL_claims_74 (lv_at hl 0 rfl) ?_
              refine lv_ior hx hb dL_claims_76 ?_
              refine lv_goto (tgt := 87) hx hb dL_claims_77 (by decide) ?_
              refine lv_istore (lv' := [(7, .int (y ||| (1 <<< ((md (F9 1 xc_2 / 8) 8) &&& 31)))), (9, .int (1 <<< ((md (F9 1 xc_2 / 8) 8) &&& 31))), (8, .int (nI xc_2)), (0, .ref (q 0)), (1, .ref (q 1)), (2, .ref (q 2)), (3, .ref (q 3)), (4, .ref (q 8)), (5, .int (nI vw)), (6, .int (nI t))]) hx hb dL_claims_87 hl (by decide) rfl (fun ls hl => ?_)
              refine lv_aload_n hx hb dL_claims_89 rfl (lv_at hl 3 rfl) ?_
              refine lv_aload_n hx hb dL_claims_90 rfl (lv_at hl 4 rfl) ?_
              refine lv_aload_n hx hb dL_claims_91 rfl (lv_at hl 5 rfl) ?_
              refine lv_aload_n hx hb dL_claims_92 rfl (lv_at hl 6 rfl) ?_
              refine lv_iload hx hb dL_claims_93 (lv_at hl 8 rfl) ?_
              refine lv_iload hx hb dL_claims_95 (lv_at hl 2 rfl) ?_
              refine ro_callS F hK [.ref (q 0), .ref (q 1), .ref (q 2), .ref (q 3), .int (nI vw), .int (nI xc_2)] (lc_next hA vw (some xc_2) (by first | assumption | omega) (by first | assumption | omega) (by first | assumption | omega) (fun x z => by cases z; omega)) (va_cwS 6 F.2.2.2.2 gL_claims_L_next rfl rfl rfl (by decide +kernel) ⟨Nat.le_of_ble_eq_true rfl, Nat.le_of_ble_eq_true rfl⟩) rfl hl.1 rfl (lv_room (Nat.le_of_ble_eq_true rfl)) ⟨Nat.zero_le _, Nat.zero_le _⟩ dL_claims_97 ?_
              refine lw_E (oI rxc_2.head?) (congrArg oI ((lNx_cg rfl rfl rfl n vw (some xc_2)).trans hch.1)) ?_
              refine lv_istore (lv' := [(8, .int (oI (rxc_2.head?))), (7, .int (y ||| (1 <<< ((md (F9 1 xc_2 / 8) 8) &&& 31)))), (9, .int (1 <<< ((md (F9 1 xc_2 / 8) 8) &&& 31))), (0, .ref (q 0)), (1, .ref (q 1)), (2, .ref (q 2)), (3, .ref (q 3)), (4, .ref (q 8)), (5, .int (nI vw)), (6, .int (nI t))]) hx hb dL_claims_100 hl (by decide) rfl (fun ls hl => ?_)
              refine lv_goto (tgt := 15) hx hb dL_claims_102 (by decide) ?_
              exact ihu_1  rxc_2 (y ||| (1 <<< ((md (F9 1 xc_2 / 8) 8) &&& 31)))  ls (by have z := hk; simp at z; omega) (fun z hz => hsub z (List.mem_cons_of_mem _ hz)) (hch.2) (by rw [← hf, List.foldl_cons]; simp [clS, c_4, c_5, c_6])  (lv_sub hl [1, 0, 3, 4, 5, 6, 7, 8, 9] rfl)
          · skip
            refine lv_iload hx hb dL_claims_57 (lv_at hl 1 rfl) ?_
            refine lv_goto (tgt := 87) hx hb dL_claims_59 (by decide) ?_
            refine lv_istore (lv' := [(7, .int y), (9, .int (1 <<< ((md (F9 1 xc_2 / 8) 8) &&& 31))), (8, .int (nI xc_2)), (0, .ref (q 0)), (1, .ref (q 1)), (2, .ref (q 2)), (3, .ref (q 3)), (4, .ref (q 8)), (5, .int (nI vw)), (6, .int (nI t))]) hx hb dL_claims_87 hl (by decide) rfl (fun ls hl => ?_)
            refine lv_aload_n hx hb dL_claims_89 rfl (lv_at hl 3 rfl) ?_
            refine lv_aload_n hx hb dL_claims_90 rfl (lv_at hl 4 rfl) ?_
            refine lv_aload_n hx hb dL_claims_91 rfl (lv_at hl 5 rfl) ?_
            refine lv_aload_n hx hb dL_claims_92 rfl (lv_at hl 6 rfl) ?_
            refine lv_iload hx hb dL_claims_93 (lv_at hl 8 rfl) ?_
            refine lv_iload hx hb dL_claims_95 (lv_at hl 2 rfl) ?_
            refine ro_callS F hK [.ref (q 0), .ref (q 1), .ref (q 2), .ref (q 3), .int (nI vw), .int (nI xc_2)] (lc_next hA vw (some xc_2) (by first | assumption | omega) (by first | assumption | omega) (by first | assumption | omega) (fun x z => by cases z; omega)) (va_cwS 6 F.2.2.2.2 gL_claims_L_next rfl rfl rfl (by decide +kernel) ⟨Nat.le_of_ble_eq_true rfl, Nat.le_of_ble_eq_true rfl⟩) rfl hl.1 rfl (lv_room (Nat.le_of_ble_eq_true rfl)) ⟨Nat.zero_le _, Nat.zero_le _⟩ dL_claims_97 ?_
            refine lw_E (oI rxc_2.head?) (congrArg oI ((lNx_cg rfl rfl rfl n vw (some xc_2)).trans hch.1)) ?_
            refine lv_istore (lv' := [(8, .int (oI (rxc_2.head?))), (7, .int y), (9, .int (1 <<< ((md (F9 1 xc_2 / 8) 8) &&& 31))), (0, .ref (q 0)), (1, .ref (q 1)), (2, .ref (q 2)), (3, .ref (q 3)), (4, .ref (q 8)), (5, .int (nI vw)), (6, .int (nI t))]) hx hb dL_claims_100 hl (by decide) rfl (fun ls hl => ?_)
            refine lv_goto (tgt := 15) hx hb dL_claims_102 (by decide) ?_
            exact ihu_1  rxc_2 y  ls (by have z := hk; simp at z; omega) (fun z hz => hsub z (List.mem_cons_of_mem _ hz)) (hch.2) (by rw [← hf, List.foldl_cons]; simp [clS, c_4, c_5])  (lv_sub hl [1, 0, 3, 4, 5, 6, 7, 8, 9] rfl)
  exact L15_u_1 _ l9 0  ls (Nat.lt_succ_self _) (hsub) (hch) (rfl)  (lv_sub hl [1, 0, 2, 3, 4, 5, 6, 7, 8] rfl)
/-! one word more in the law's rows -/
def lWr (F : FF) (n f kd its : Nat) (more : Int32) : FF := upA (upA (upA (upA (upA (upA F 5 f (F 5 f + 1)) 1 n (nI (kd + 8 * f + 64 * its))) 2 n (F 5 f + 1)) 3 n ((1 : Int32) <<< (nI f &&& 31))) 4 n more) 0 0 (nI (n + 1))
set_option maxHeartbeats 4000000 in
set_option maxRecDepth 100000 in
theorem la_writes {l : Launch} {D : va_G} {cI cII : ClassId} {q : Nat → Nat} {F9 : FF} (hN : (lA q).Nodup) {n : Nat} (f : Nat) (kd9 : Nat) (its : Nat) (more : Int32) (hn0 : F9 0 0 = nI n) (hn : n < 64) (hf5 : f < 5) : la_Met l yL_writes wsL_writes 0 0 D cI cII q [q 0, q 1, q 2, q 3, q 4, q 5] F9 [.ref (q 0), .ref (q 1), .ref (q 2), .ref (q 3), .ref (q 4), .ref (q 5), .int (nI f), .int (nI kd9), .int (nI its), .int more] (lWr F9 n f kd9 its more) := by
  refine la_start rfl (by decide +kernel) (Nat.le_of_ble_eq_true rfl) (fun p e9 s m below meth c F hr hlocks hK H locs hA hS ls hl => ?_)
  have hl : lv_has ls 10 [(0, .ref (q 0)), (1, .ref (q 1)), (2, .ref (q 2)), (3, .ref (q 3)), (4, .ref (q 4)), (5, .ref (q 5)), (6, .int (nI f)), (7, .int (nI kd9)), (8, .int (nI its)), (9, .int more)] := hl
  have hx := F.1
  have hb := F.2.1
  refine lv_aload hx hb dL_writes_0 (lv_at hl 5 rfl) ?_
  refine lv_iload hx hb dL_writes_2 (lv_at hl 6 rfl) ?_
  refine lv_dup2_11 hx hb dL_writes_4 rfl rfl ?_
  refine cg_ald F hK hA 5 5 rfl f rfl (by omega) (by decide) dL_writes_5 ?_
  refine lv_iconst (v := 1) hx hb dL_writes_6 (by decide) ?_
  refine lv_iadd hx hb dL_writes_7 ?_
  refine la_ast F hK hN hA hS 5 5 (by simp) rfl f rfl (by omega) (by decide) rfl dL_writes_8 (fun H locs hA _ hS => ?_)
  refine lv_aload_n hx hb dL_writes_9 rfl (lv_at hl 1 rfl) ?_
  refine lv_aload_n hx hb dL_writes_10 rfl (lv_at hl 0 rfl) ?_
  refine lv_iconst (v := 0) hx hb dL_writes_11 (by decide) ?_
  refine cg_ald F hK hA 0 2 rfl 0 rfl (by omega) (by decide) dL_writes_12 ?_
  refine lw_N n (show _ = nI n from hn0) ?_
  refine lv_iload hx hb dL_writes_13 (lv_at hl 7 rfl) ?_
  refine lv_bipush (v := 8) hx hb dL_writes_15 (by decide) ?_
  refine lv_iload hx hb dL_writes_17 (lv_at hl 6 rfl) ?_
  refine lw_mul hx hb (i := 8) (j := f) dL_writes_19 ?_
  refine lw_add hx hb (i := kd9) (j := (8 * f)) dL_writes_20 ?_
  refine lv_bipush (v := 64) hx hb dL_writes_21 (by decide) ?_
  refine lv_iload hx hb dL_writes_23 (lv_at hl 8 rfl) ?_
  refine lw_mul hx hb (i := 64) (j := its) dL_writes_25 ?_
  refine lw_add hx hb (i := (kd9 + (8 * f))) (j := (64 * its)) dL_writes_26 ?_
  refine la_ast F hK hN hA hS 1 64 (by simp) rfl n rfl (by omega) (by decide) rfl dL_writes_27 (fun H locs hA _ hS => ?_)
  refine lv_aload_n hx hb dL_writes_28 rfl (lv_at hl 2 rfl) ?_
  refine lv_aload_n hx hb dL_writes_29 rfl (lv_at hl 0 rfl) ?_
  refine lv_iconst (v := 0) hx hb dL_writes_30 (by decide) ?_
  refine cg_ald F hK hA 0 2 rfl 0 rfl (by omega) (by decide) dL_writes_31 ?_
  refine lw_N n (show _ = nI n from hn0) ?_
  refine lv_aload hx hb dL_writes_32 (lv_at hl 5 rfl) ?_
  refine lv_iload hx hb dL_writes_34 (lv_at hl 6 rfl) ?_
  refine cg_ald F hK hA 5 5 rfl f rfl (by omega) (by decide) dL_writes_36 ?_
  refine lw_E (F9 5 f + 1) (by simp [upA, upd]) ?_
  refine la_ast F hK hN hA hS 2 64 (by simp) rfl n rfl (by omega) (by decide) rfl dL_writes_37 (fun H locs hA _ hS => ?_)
  refine lv_aload_n hx hb dL_writes_38 rfl (lv_at hl 3 rfl) ?_
  refine lv_aload_n hx hb dL_writes_39 rfl (lv_at hl 0 rfl) ?_
  refine lv_iconst (v := 0) hx hb dL_writes_40 (by decide) ?_
  refine cg_ald F hK hA 0 2 rfl 0 rfl (by omega) (by decide) dL_writes_41 ?_
  refine lw_N n (show _ = nI n from hn0) ?_
  refine lv_iconst (v := 1) hx hb dL_writes_42 (by decide) ?_
  refine lv_iload hx hb dL_writes_43 (lv_at hl 6 rfl) ?_
  refine lv_ishl hx hb dL_writes_45 ?_
  refine la_ast F hK hN hA hS 3 64 (by simp) rfl n rfl (by omega) (by decide) rfl dL_writes_46 (fun H locs hA _ hS => ?_)
  refine lv_aload hx hb dL_writes_47 (lv_at hl 4 rfl) ?_
  refine lv_aload_n hx hb dL_writes_49 rfl (lv_at hl 0 rfl) ?_
  refine lv_iconst (v := 0) hx hb dL_writes_50 (by decide) ?_
  refine cg_ald F hK hA 0 2 rfl 0 rfl (by omega) (by decide) dL_writes_51 ?_
  refine lw_N n (show _ = nI n from hn0) ?_
  refine lv_iload hx hb dL_writes_52 (lv_at hl 9 rfl) ?_
  refine la_ast F hK hN hA hS 4 64 (by simp) rfl n rfl (by omega) (by decide) rfl dL_writes_54 (fun H locs hA _ hS => ?_)
  refine lv_aload_n hx hb dL_writes_55 rfl (lv_at hl 0 rfl) ?_
  refine lv_iconst (v := 0) hx hb dL_writes_56 (by decide) ?_
  refine lv_dup2_11 hx hb dL_writes_57 rfl rfl ?_
  refine cg_ald F hK hA 0 2 rfl 0 rfl (by omega) (by decide) dL_writes_58 ?_
  refine lw_N n (show _ = nI n from hn0) ?_
  refine lv_iconst (v := 1) hx hb dL_writes_59 (by decide) ?_
  refine lw_add hx hb (i := n) (j := 1) dL_writes_60 ?_
  refine la_ast F hK hN hA hS 0 2 (by simp) rfl 0 rfl (by omega) (by decide) rfl dL_writes_61 (fun H locs hA _ hS => ?_)
  exact la_ret F hr hlocks hA hS (rfl) dL_writes_62
