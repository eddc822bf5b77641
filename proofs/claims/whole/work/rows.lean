section
-- ===== PART A: goes FIRST, ahead of the names: the tables' words, and 'selects' of the private methods out of them =====
/-- a private method of a class that the tables say can be made, by its rows of tables_1 -/
def lw_okq (q : MethodName × Nat) : Prop := (q.1.cls ≠ "java/lang/invoke/MethodHandle" ∧ q.1.cls ≠ "java/lang/invoke/VarHandle") ∧ Cond.instantiable q.1.cls q.2 ∈ tables_1 ∧ Cond.privateMethod q.1 ∈ tables_1 ∧ Cond.instanceMethod q.1 ∈ tables_1
theorem lw_p0 : lw_okq (⟨"java/lang/Throwable", "fillInStackTrace", "(I)Ljava/lang/Throwable;"⟩, 6) := ⟨⟨by decide +kernel, by decide +kernel⟩, List.mem_of_getElem? (i := 163) (by decide +kernel), List.mem_of_getElem? (i := 161) (by decide +kernel), List.mem_of_getElem? (i := 162) (by decide +kernel)⟩
theorem lw_p1 : lw_okq (⟨"FridgeGossip", "lookAs", "(I)V"⟩, 7) := ⟨⟨by decide +kernel, by decide +kernel⟩, List.mem_of_getElem? (i := 16) (by decide +kernel), List.mem_of_getElem? (i := 193) (by decide +kernel), List.mem_of_getElem? (i := 194) (by decide +kernel)⟩
theorem lw_p2 : lw_okq (⟨"FridgeGossip$View", "forget", "()V"⟩, 10) := ⟨⟨by decide +kernel, by decide +kernel⟩, List.mem_of_getElem? (i := 39) (by decide +kernel), List.mem_of_getElem? (i := 201) (by decide +kernel), List.mem_of_getElem? (i := 202) (by decide +kernel)⟩
theorem lw_p3 : lw_okq (⟨"FridgeGossip$View", "hear", "(LFridgeGossip$Word;)V"⟩, 10) := ⟨⟨by decide +kernel, by decide +kernel⟩, List.mem_of_getElem? (i := 39) (by decide +kernel), List.mem_of_getElem? (i := 208) (by decide +kernel), List.mem_of_getElem? (i := 209) (by decide +kernel)⟩
theorem lw_p4 : lw_okq (⟨"FridgeGossip$View", "hearTake", "(LFridgeGossip$Word;)V"⟩, 10) := ⟨⟨by decide +kernel, by decide +kernel⟩, List.mem_of_getElem? (i := 39) (by decide +kernel), List.mem_of_getElem? (i := 212) (by decide +kernel), List.mem_of_getElem? (i := 213) (by decide +kernel)⟩
theorem lw_p5 : lw_okq (⟨"FridgeGossip$View", "hearKeep", "(II[I)V"⟩, 10) := ⟨⟨by decide +kernel, by decide +kernel⟩, List.mem_of_getElem? (i := 39) (by decide +kernel), List.mem_of_getElem? (i := 216) (by decide +kernel), List.mem_of_getElem? (i := 217) (by decide +kernel)⟩
theorem lw_p6 : lw_okq (⟨"FridgeGossip$View", "isAhead", "(II[I)Z"⟩, 10) := ⟨⟨by decide +kernel, by decide +kernel⟩, List.mem_of_getElem? (i := 39) (by decide +kernel), List.mem_of_getElem? (i := 220) (by decide +kernel), List.mem_of_getElem? (i := 221) (by decide +kernel)⟩
theorem lw_p7 : lw_okq (⟨"FridgeGossip", "checkRoomFor", "(I)V"⟩, 7) := ⟨⟨by decide +kernel, by decide +kernel⟩, List.mem_of_getElem? (i := 16) (by decide +kernel), List.mem_of_getElem? (i := 254) (by decide +kernel), List.mem_of_getElem? (i := 255) (by decide +kernel)⟩
theorem lw_p8 : lw_okq (⟨"FridgeGossip", "write", "(IIII)LFridgeGossip$Word;"⟩, 7) := ⟨⟨by decide +kernel, by decide +kernel⟩, List.mem_of_getElem? (i := 16) (by decide +kernel), List.mem_of_getElem? (i := 259) (by decide +kernel), List.mem_of_getElem? (i := 260) (by decide +kernel)⟩
theorem lw_p9 : lw_okq (⟨"FridgeGossip", "lookByAll", "()V"⟩, 7) := ⟨⟨by decide +kernel, by decide +kernel⟩, List.mem_of_getElem? (i := 16) (by decide +kernel), List.mem_of_getElem? (i := 345) (by decide +kernel), List.mem_of_getElem? (i := 346) (by decide +kernel)⟩
theorem lw_p10 : lw_okq (⟨"FridgeGossip", "isDisliked", "(II)Z"⟩, 7) := ⟨⟨by decide +kernel, by decide +kernel⟩, List.mem_of_getElem? (i := 16) (by decide +kernel), List.mem_of_getElem? (i := 460) (by decide +kernel), List.mem_of_getElem? (i := 461) (by decide +kernel)⟩
theorem lw_p11 : lw_okq (⟨"FridgeGossip", "checkOpen", "(I)V"⟩, 7) := ⟨⟨by decide +kernel, by decide +kernel⟩, List.mem_of_getElem? (i := 16) (by decide +kernel), List.mem_of_getElem? (i := 477) (by decide +kernel), List.mem_of_getElem? (i := 478) (by decide +kernel)⟩
theorem lw_p12 : lw_okq (⟨"FridgeGossip", "keepable", "(II)I"⟩, 7) := ⟨⟨by decide +kernel, by decide +kernel⟩, List.mem_of_getElem? (i := 16) (by decide +kernel), List.mem_of_getElem? (i := 482) (by decide +kernel), List.mem_of_getElem? (i := 483) (by decide +kernel)⟩
theorem lw_p13 : lw_okq (⟨"FridgeGossip", "lacking", "(II)I"⟩, 7) := ⟨⟨by decide +kernel, by decide +kernel⟩, List.mem_of_getElem? (i := 16) (by decide +kernel), List.mem_of_getElem? (i := 486) (by decide +kernel), List.mem_of_getElem? (i := 487) (by decide +kernel)⟩
theorem lw_p14 : lw_okq (⟨"FridgeGossip", "writeKeeps", "(III)V"⟩, 7) := ⟨⟨by decide +kernel, by decide +kernel⟩, List.mem_of_getElem? (i := 16) (by decide +kernel), List.mem_of_getElem? (i := 505) (by decide +kernel), List.mem_of_getElem? (i := 506) (by decide +kernel)⟩
theorem lw_p15 : lw_okq (⟨"FridgeGossip", "keptInAll", "(I)I"⟩, 7) := ⟨⟨by decide +kernel, by decide +kernel⟩, List.mem_of_getElem? (i := 16) (by decide +kernel), List.mem_of_getElem? (i := 517) (by decide +kernel), List.mem_of_getElem? (i := 518) (by decide +kernel)⟩
def lw_privs_1 : List (MethodName × Nat) := [(⟨"java/lang/Throwable", "fillInStackTrace", "(I)Ljava/lang/Throwable;"⟩, 6), (⟨"FridgeGossip", "lookAs", "(I)V"⟩, 7), (⟨"FridgeGossip$View", "forget", "()V"⟩, 10), (⟨"FridgeGossip$View", "hear", "(LFridgeGossip$Word;)V"⟩, 10), (⟨"FridgeGossip$View", "hearTake", "(LFridgeGossip$Word;)V"⟩, 10), (⟨"FridgeGossip$View", "hearKeep", "(II[I)V"⟩, 10), (⟨"FridgeGossip$View", "isAhead", "(II[I)Z"⟩, 10), (⟨"FridgeGossip", "checkRoomFor", "(I)V"⟩, 7), (⟨"FridgeGossip", "write", "(IIII)LFridgeGossip$Word;"⟩, 7), (⟨"FridgeGossip", "lookByAll", "()V"⟩, 7), (⟨"FridgeGossip", "isDisliked", "(II)Z"⟩, 7), (⟨"FridgeGossip", "checkOpen", "(I)V"⟩, 7), (⟨"FridgeGossip", "keepable", "(II)I"⟩, 7), (⟨"FridgeGossip", "lacking", "(II)I"⟩, 7), (⟨"FridgeGossip", "writeKeeps", "(III)V"⟩, 7), (⟨"FridgeGossip", "keptInAll", "(I)I"⟩, 7)]
theorem lw_r1 : ∀ q ∈ lw_privs_1, lw_okq q := List.forall_mem_cons.mpr ⟨lw_p0, List.forall_mem_cons.mpr ⟨lw_p1, List.forall_mem_cons.mpr ⟨lw_p2, List.forall_mem_cons.mpr ⟨lw_p3, List.forall_mem_cons.mpr ⟨lw_p4, List.forall_mem_cons.mpr ⟨lw_p5, List.forall_mem_cons.mpr ⟨lw_p6, List.forall_mem_cons.mpr ⟨lw_p7, List.forall_mem_cons.mpr ⟨lw_p8, List.forall_mem_cons.mpr ⟨lw_p9, List.forall_mem_cons.mpr ⟨lw_p10, List.forall_mem_cons.mpr ⟨lw_p11, List.forall_mem_cons.mpr ⟨lw_p12, List.forall_mem_cons.mpr ⟨lw_p13, List.forall_mem_cons.mpr ⟨lw_p14, List.forall_mem_cons.mpr ⟨lw_p15, fun _ h => absurd h List.not_mem_nil⟩⟩⟩⟩⟩⟩⟩⟩⟩⟩⟩⟩⟩⟩⟩⟩
theorem lw_p16 : lw_okq (⟨"FridgeGossipModel", "areOne", "(II)Z"⟩, 19) := ⟨⟨by decide +kernel, by decide +kernel⟩, List.mem_of_getElem? (i := 578) (by decide +kernel), List.mem_of_getElem? (i := 651) (by decide +kernel), List.mem_of_getElem? (i := 652) (by decide +kernel)⟩
theorem lw_p17 : lw_okq (⟨"FridgeGossipModel", "placeOf", "(II)I"⟩, 19) := ⟨⟨by decide +kernel, by decide +kernel⟩, List.mem_of_getElem? (i := 578) (by decide +kernel), List.mem_of_getElem? (i := 664) (by decide +kernel), List.mem_of_getElem? (i := 665) (by decide +kernel)⟩
theorem lw_p18 : lw_okq (⟨"FridgeGossipModel", "latestMove", "(III)I"⟩, 19) := ⟨⟨by decide +kernel, by decide +kernel⟩, List.mem_of_getElem? (i := 578) (by decide +kernel), List.mem_of_getElem? (i := 668) (by decide +kernel), List.mem_of_getElem? (i := 669) (by decide +kernel)⟩
theorem lw_p19 : lw_okq (⟨"FridgeGossipModel", "knows", "(II)Z"⟩, 19) := ⟨⟨by decide +kernel, by decide +kernel⟩, List.mem_of_getElem? (i := 578) (by decide +kernel), List.mem_of_getElem? (i := 672) (by decide +kernel), List.mem_of_getElem? (i := 673) (by decide +kernel)⟩
theorem lw_p20 : lw_okq (⟨"FridgeGossipModel", "isMove", "(II)Z"⟩, 19) := ⟨⟨by decide +kernel, by decide +kernel⟩, List.mem_of_getElem? (i := 578) (by decide +kernel), List.mem_of_getElem? (i := 676) (by decide +kernel), List.mem_of_getElem? (i := 677) (by decide +kernel)⟩
theorem lw_p21 : lw_okq (⟨"FridgeGossipModel", "isLater", "(II)Z"⟩, 19) := ⟨⟨by decide +kernel, by decide +kernel⟩, List.mem_of_getElem? (i := 578) (by decide +kernel), List.mem_of_getElem? (i := 680) (by decide +kernel), List.mem_of_getElem? (i := 681) (by decide +kernel)⟩
theorem lw_p22 : lw_okq (⟨"FridgeGossipModel", "isFull", "(I)Z"⟩, 19) := ⟨⟨by decide +kernel, by decide +kernel⟩, List.mem_of_getElem? (i := 578) (by decide +kernel), List.mem_of_getElem? (i := 684) (by decide +kernel), List.mem_of_getElem? (i := 685) (by decide +kernel)⟩
theorem lw_p23 : lw_okq (⟨"FridgeGossipModel", "write", "(IIII)I"⟩, 19) := ⟨⟨by decide +kernel, by decide +kernel⟩, List.mem_of_getElem? (i := 578) (by decide +kernel), List.mem_of_getElem? (i := 688) (by decide +kernel), List.mem_of_getElem? (i := 689) (by decide +kernel)⟩
theorem lw_p24 : lw_okq (⟨"FridgeGossipModel", "countOf", "(II)I"⟩, 19) := ⟨⟨by decide +kernel, by decide +kernel⟩, List.mem_of_getElem? (i := 578) (by decide +kernel), List.mem_of_getElem? (i := 711) (by decide +kernel), List.mem_of_getElem? (i := 712) (by decide +kernel)⟩
theorem lw_p25 : lw_okq (⟨"FridgeGossipModel", "coming", "(III)I"⟩, 19) := ⟨⟨by decide +kernel, by decide +kernel⟩, List.mem_of_getElem? (i := 578) (by decide +kernel), List.mem_of_getElem? (i := 747) (by decide +kernel), List.mem_of_getElem? (i := 748) (by decide +kernel)⟩
theorem lw_p26 : lw_okq (⟨"FridgeGossipModel", "isDisliked", "(III)Z"⟩, 19) := ⟨⟨by decide +kernel, by decide +kernel⟩, List.mem_of_getElem? (i := 578) (by decide +kernel), List.mem_of_getElem? (i := 759) (by decide +kernel), List.mem_of_getElem? (i := 760) (by decide +kernel)⟩
theorem lw_p27 : lw_okq (⟨"FridgeGossipModel", "isOpen", "(II)Z"⟩, 19) := ⟨⟨by decide +kernel, by decide +kernel⟩, List.mem_of_getElem? (i := 578) (by decide +kernel), List.mem_of_getElem? (i := 767) (by decide +kernel), List.mem_of_getElem? (i := 768) (by decide +kernel)⟩
theorem lw_p28 : lw_okq (⟨"FridgeGossipModel", "areCake", "(II)Z"⟩, 19) := ⟨⟨by decide +kernel, by decide +kernel⟩, List.mem_of_getElem? (i := 578) (by decide +kernel), List.mem_of_getElem? (i := 771) (by decide +kernel), List.mem_of_getElem? (i := 772) (by decide +kernel)⟩
theorem lw_p29 : lw_okq (⟨"FridgeGossipModel", "isCake", "(I)Z"⟩, 19) := ⟨⟨by decide +kernel, by decide +kernel⟩, List.mem_of_getElem? (i := 578) (by decide +kernel), List.mem_of_getElem? (i := 775) (by decide +kernel), List.mem_of_getElem? (i := 776) (by decide +kernel)⟩
theorem lw_p30 : lw_okq (⟨"FridgeGossipModel", "stateOf", "(II)I"⟩, 19) := ⟨⟨by decide +kernel, by decide +kernel⟩, List.mem_of_getElem? (i := 578) (by decide +kernel), List.mem_of_getElem? (i := 779) (by decide +kernel), List.mem_of_getElem? (i := 780) (by decide +kernel)⟩
theorem lw_p31 : lw_okq (⟨"FridgeGossipModel", "layKeeps", "(II)V"⟩, 19) := ⟨⟨by decide +kernel, by decide +kernel⟩, List.mem_of_getElem? (i := 578) (by decide +kernel), List.mem_of_getElem? (i := 783) (by decide +kernel), List.mem_of_getElem? (i := 784) (by decide +kernel)⟩
def lw_privs_2 : List (MethodName × Nat) := [(⟨"FridgeGossipModel", "areOne", "(II)Z"⟩, 19), (⟨"FridgeGossipModel", "placeOf", "(II)I"⟩, 19), (⟨"FridgeGossipModel", "latestMove", "(III)I"⟩, 19), (⟨"FridgeGossipModel", "knows", "(II)Z"⟩, 19), (⟨"FridgeGossipModel", "isMove", "(II)Z"⟩, 19), (⟨"FridgeGossipModel", "isLater", "(II)Z"⟩, 19), (⟨"FridgeGossipModel", "isFull", "(I)Z"⟩, 19), (⟨"FridgeGossipModel", "write", "(IIII)I"⟩, 19), (⟨"FridgeGossipModel", "countOf", "(II)I"⟩, 19), (⟨"FridgeGossipModel", "coming", "(III)I"⟩, 19), (⟨"FridgeGossipModel", "isDisliked", "(III)Z"⟩, 19), (⟨"FridgeGossipModel", "isOpen", "(II)Z"⟩, 19), (⟨"FridgeGossipModel", "areCake", "(II)Z"⟩, 19), (⟨"FridgeGossipModel", "isCake", "(I)Z"⟩, 19), (⟨"FridgeGossipModel", "stateOf", "(II)I"⟩, 19), (⟨"FridgeGossipModel", "layKeeps", "(II)V"⟩, 19)]
theorem lw_r2 : ∀ q ∈ lw_privs_2, lw_okq q := List.forall_mem_cons.mpr ⟨lw_p16, List.forall_mem_cons.mpr ⟨lw_p17, List.forall_mem_cons.mpr ⟨lw_p18, List.forall_mem_cons.mpr ⟨lw_p19, List.forall_mem_cons.mpr ⟨lw_p20, List.forall_mem_cons.mpr ⟨lw_p21, List.forall_mem_cons.mpr ⟨lw_p22, List.forall_mem_cons.mpr ⟨lw_p23, List.forall_mem_cons.mpr ⟨lw_p24, List.forall_mem_cons.mpr ⟨lw_p25, List.forall_mem_cons.mpr ⟨lw_p26, List.forall_mem_cons.mpr ⟨lw_p27, List.forall_mem_cons.mpr ⟨lw_p28, List.forall_mem_cons.mpr ⟨lw_p29, List.forall_mem_cons.mpr ⟨lw_p30, List.forall_mem_cons.mpr ⟨lw_p31, fun _ h => absurd h List.not_mem_nil⟩⟩⟩⟩⟩⟩⟩⟩⟩⟩⟩⟩⟩⟩⟩⟩
theorem lw_p32 : lw_okq (⟨"FridgeGossipModel", "lackOf", "(III)I"⟩, 19) := ⟨⟨by decide +kernel, by decide +kernel⟩, List.mem_of_getElem? (i := 578) (by decide +kernel), List.mem_of_getElem? (i := 787) (by decide +kernel), List.mem_of_getElem? (i := 788) (by decide +kernel)⟩
theorem lw_p33 : lw_okq (⟨"FridgeGossipModel", "keptOf", "(III)I"⟩, 19) := ⟨⟨by decide +kernel, by decide +kernel⟩, List.mem_of_getElem? (i := 578) (by decide +kernel), List.mem_of_getElem? (i := 791) (by decide +kernel), List.mem_of_getElem? (i := 792) (by decide +kernel)⟩
theorem lw_p34 : lw_okq (⟨"FridgeGossipModel", "keeper", "(II)I"⟩, 19) := ⟨⟨by decide +kernel, by decide +kernel⟩, List.mem_of_getElem? (i := 578) (by decide +kernel), List.mem_of_getElem? (i := 795) (by decide +kernel), List.mem_of_getElem? (i := 796) (by decide +kernel)⟩
theorem lw_p35 : lw_okq (⟨"FridgeGossipModel", "isAhead", "(III)Z"⟩, 19) := ⟨⟨by decide +kernel, by decide +kernel⟩, List.mem_of_getElem? (i := 578) (by decide +kernel), List.mem_of_getElem? (i := 799) (by decide +kernel), List.mem_of_getElem? (i := 800) (by decide +kernel)⟩
theorem lw_p36 : lw_okq (⟨"FridgeGossipModel", "guestMany", "(II)I"⟩, 19) := ⟨⟨by decide +kernel, by decide +kernel⟩, List.mem_of_getElem? (i := 578) (by decide +kernel), List.mem_of_getElem? (i := 803) (by decide +kernel), List.mem_of_getElem? (i := 804) (by decide +kernel)⟩
theorem lw_p37 : lw_okq (⟨"FridgeGossipModel", "layKept", "(II)V"⟩, 19) := ⟨⟨by decide +kernel, by decide +kernel⟩, List.mem_of_getElem? (i := 578) (by decide +kernel), List.mem_of_getElem? (i := 811) (by decide +kernel), List.mem_of_getElem? (i := 812) (by decide +kernel)⟩
theorem lw_p38 : lw_okq (⟨"FridgeGossipModel", "isVain", "(II)Z"⟩, 19) := ⟨⟨by decide +kernel, by decide +kernel⟩, List.mem_of_getElem? (i := 578) (by decide +kernel), List.mem_of_getElem? (i := 847) (by decide +kernel), List.mem_of_getElem? (i := 848) (by decide +kernel)⟩
def lw_privs_3 : List (MethodName × Nat) := [(⟨"FridgeGossipModel", "lackOf", "(III)I"⟩, 19), (⟨"FridgeGossipModel", "keptOf", "(III)I"⟩, 19), (⟨"FridgeGossipModel", "keeper", "(II)I"⟩, 19), (⟨"FridgeGossipModel", "isAhead", "(III)Z"⟩, 19), (⟨"FridgeGossipModel", "guestMany", "(II)I"⟩, 19), (⟨"FridgeGossipModel", "layKept", "(II)V"⟩, 19), (⟨"FridgeGossipModel", "isVain", "(II)Z"⟩, 19)]
theorem lw_r3 : ∀ q ∈ lw_privs_3, lw_okq q := List.forall_mem_cons.mpr ⟨lw_p32, List.forall_mem_cons.mpr ⟨lw_p33, List.forall_mem_cons.mpr ⟨lw_p34, List.forall_mem_cons.mpr ⟨lw_p35, List.forall_mem_cons.mpr ⟨lw_p36, List.forall_mem_cons.mpr ⟨lw_p37, List.forall_mem_cons.mpr ⟨lw_p38, fun _ h => absurd h List.not_mem_nil⟩⟩⟩⟩⟩⟩⟩
def lw_privs : List (MethodName × Nat) := lw_privs_1 ++ (lw_privs_2 ++ (lw_privs_3))
def lw_tbl : List Cond := k2_sels lw_privs ++ tables_1
theorem lw_privs_ok : ∀ q ∈ lw_privs, lw_okq q := by
  show ∀ q ∈ lw_privs_1 ++ (lw_privs_2 ++ (lw_privs_3)), lw_okq q
  exact List.forall_mem_append.mpr ⟨lw_r1, List.forall_mem_append.mpr ⟨lw_r2, lw_r3⟩⟩
-- ===== end of PART A; then your names; then what follows =====
end
section
/-! ===== BEGIN words of one list among another's, by their places ===== -/
theorem goodIn_r {big : List Cond} (ws : List Cond) (ps : List Nat) (hp : ws = ps.filterMap (fun i => big[i]?)) (h : ws.all goodWord = true) : GoodIn big ws := by
  intro w hw
  have h1 := List.all_eq_true.mp h w hw
  rw [hp] at hw
  obtain ⟨i, -, hi⟩ := List.mem_filterMap.mp hw
  have hm : w ∈ big := by first | exact List.mem_of_getElem? hi | exact List.getElem?_mem hi
  exact ⟨hm, good_of_word h1⟩
theorem goodIn_app {big a b : List Cond} (ha : GoodIn big a) (hb : GoodIn big b) : GoodIn big (a ++ b) := fun w h => (List.mem_append.mp h).elim (ha w) (hb w)
theorem goodIn_ca {big a b : List Cond} {c : Cond} (ha : GoodIn big (c :: a)) (hb : GoodIn big b) : GoodIn big (c :: (a ++ b)) := fun w h => (List.mem_cons.mp h).elim (fun e => ha w (List.mem_cons.mpr (Or.inl e))) (fun h => (List.mem_append.mp h).elim (fun h => ha w (List.mem_cons.mpr (Or.inr h))) (hb w))
theorem goodIn_sub {big ws : List Cond} (hm : ∀ w ∈ ws, w ∈ big) (h : ws.all goodWord = true) : GoodIn big ws := fun w hw => ⟨hm w hw, good_of_word (List.all_eq_true.mp h w hw)⟩
/-! ===== END ===== -/


/-! ===== BEGIN exceptions that leave a method, and their catching by the caller (launches without stack traces) ===== -/
section VXA
/-! The laws vx_back, vx_callV, vx_callS, vx_callSW, vx_throw0, vx_throwS follow proofs of the library, with one case more: JvmDerived/Free/Laws.lean (Back.of_free), Shelf42/LK1.lean (callV, callS), Shelf/KitTraced.lean (throwNew0V, throwNewS). -/
/-- where a method has thrown q: the class by its name, the cell, what was written, the world -/
def vx_T (XC : String → State → State → Prop) (st : State) (q : Addr) (t : State) (mc ms : Nat) (free : Addr → Prop) : Prop :=
  ∃ (E : String) (ce : Cell) (L : List Loc), XC E st t ∧ t.heap[q]? = some ce ∧ ce.vm = .none ∧ st.vm.findClass E = some ce.cls ∧ st.WarmedH t.vm ∧ st.sameButNew ({ t with vm := st.vm } : State) L mc ms ∧ ∀ z ∈ L, free z.base
def vx_Q (Qc : Array Value → State → Outcome → State → Prop) (XC : String → State → State → Prop) (mc ms : Nat) (free : Addr → Prop) : Array Value → State → Outcome → State → Prop := fun a st o t =>
  (Qc a st o t ∧ ∃ L, FrameEnd st o t L mc ms ∧ ∀ q ∈ L, free q.base) ∨ ∃ q, o = .threw q ∧ vx_T XC st q t mc ms free
/-- a callee that returns or throws -/
def vx_Met (l : Launch) (y : MethodName) (ws : List Cond) (rm : Room) (Pc : Array Value → State → Prop) (Qc : Array Value → State → Outcome → State → Prop) (XC : String → State → State → Prop) (mc ms : Nat) (free : Addr → Prop) : Prop :=
  MetFree l y (headSpec ws rm) Pc (fun _ _ _ _ _ => True) (vx_Q Qc XC mc ms free)
def vx_Post (XC : String → State → State → Prop) (mc ms : Nat) (free : Addr → Prop) : Pt → Array Value → Addr → Pt → Prop := fun A a q B =>
  ∃ (g : JFrame) (mk : MethodId) (t : State) (L : List Loc) (E : String) (ce : Cell), B.U.heap = t.heap ∧ B.U.vm = t.vm ∧ XC E (A.U.calling g mk a) t ∧ t.heap[q]? = some ce ∧ ce.vm = .none ∧ A.U.vm.findClass E = some ce.cls ∧ B.locs = A.locs ++ L ∧ (∀ z ∈ L, free z.base) ∧ B.cells = A.cells + mc ∧ B.slots = A.slots + ms
def vx_Back (l : Launch) (R : Room) (p : Program) (e : Env) (below : List Frame) (s : State) (sargs : Array Value) (y : MethodName) (len W9 : Nat)
    (Pre : Pt → Array Value → Prop) (Post : Pt → Array Value → Option Value → Pt → Prop) (PostX : Pt → Array Value → Addr → Pt → Prop) : Prop :=
  ∀ (m : MethodId) (meth : Method) (c : Code) (A : Pt) (g : JFrame) (ig : Instr) (mk : MethodId) (a : Array Value),
    Stand p l e R s m sargs below meth c A.U A.locs A.cells A.slots → g.method = m → g.locals.size = c.maxLocals → decode c.code g.pc = .ok (ig, len) →
    2 * g.monitorRoom + (g.stack.map fun v => v.category).sum ≤ W9 → A.U.methodNamed? y = some mk → Pre A a →
    (∃ (v : Option Value) (B : Pt), Stand p l e R s m sargs below meth c B.U B.locs B.cells B.slots ∧ Post A a v B ∧
      Steps p.tables e below (doInvoke e (A.U.setTop g) [] mk a).1 (B.U.setTop { g with pc := g.pc + len, stack := v.toList ++ g.stack })) ∨
    (∃ (q : Addr) (B : Pt), Stand p l e R s m sargs below meth c B.U B.locs B.cells B.slots ∧ PostX A a q B ∧
      Steps p.tables e below (doInvoke e (A.U.setTop g) [] mk a).1 ((B.U.setTop g).pushFrame (.throwing q)))
section Payer
variable {l : Launch} {R : Room} {p : Program} {e : Env} {below : List Frame} {s : State} {sargs : Array Value} {y : MethodName} {len W9 : Nat}
theorem vx_back {ws : List Cond} {rm : Room} {Pc : Array Value → State → Prop} {Qc : Array Value → State → Outcome → State → Prop} {XC : String → State → State → Prop} {mc ms : Nat} {free : Addr → Prop} {bytes : ByteArray} {maxL : Nat} {ret : Option FieldType}
    (hM : vx_Met l y ws rm Pc Qc XC mc ms free) (hblind : FrameBlind Pc) (hrc : rm.cells = mc) (hrs : rm.slots = ms)
    (hframes : rm.frames + 1 ≤ R.frames) (hlocals : W9 + (maxL + 11) + rm.locals ≤ R.locals)
    (hws : ∀ w ∈ ws, ∀ a' U, s.WarmedH U.vm → w.before a' U = true) (hcode : Cond.code y bytes maxL ret ∈ ws) (hinit : ∀ a' U, s.WarmedH U.vm → (Cond.initialized y.cls).before a' U = true) :
    vx_Back l R p e below s sargs y len W9 (PreOf R mc ms Pc) (PostOf Qc mc ms free) (vx_Post XC mc ms free) := by
  intro m meth c A g ig mk a X hg hsize hdg hW hn hp
  have h1 : (headSpec ws rm).pre.before a A.U = true := atoms_intro fun w hw => hws w hw _ _ X.warmed
  have h2 : (Cond.code y bytes maxL ret).before a A.U = true := hws _ hcode _ _ X.warmed
  have h3 : (Cond.initialized y.cls).before a A.U = true := hinit _ _ X.warmed
  have h4 : A.cells + (headSpec ws rm).room.cells ≤ R.cells := by rw [show (headSpec ws rm).room.cells = mc from hrc]; exact hp.1
  have h5 : A.slots + (headSpec ws rm).room.slots ≤ R.slots := by rw [show (headSpec ws rm).room.slots = ms from hrs]; exact hp.2.1
  have hPc : Pc a (A.U.calling g mk a) := hblind _ _ _ _ hp.2.2
  obtain ⟨U, Ls, c0, s0⟩ := A
  dsimp only [Pt.U, Pt.locs, Pt.cells, Pt.slots] at h1 h2 h3 h4 h5 X hn hPc ⊢
  obtain ⟨methY, cY, hmY, hcY, -, hlY, -, -, -, -⟩ := Cond.code_spec hn h2
  obtain ⟨kY, hkY, -⟩ := className_of_methodNamed hn
  have hinitY : kY.init = .initialized := Cond.initialized_spec (findClass_of_methodNamed hn) hkY h3
  have h : At U g.method c below := by rw [hg]; exact X.here
  have hlocals9 : W9 + (maxL + 11) + (headSpec ws rm).room.locals ≤ R.locals := hlocals
  have happ : (headSpec ws rm).appliesLoose y e.platform (U.calling g mk a) = true :=
    Spec.appliesLoose_calling (g := g) h hdg hn hkY hinitY
      (X.room_calling (g := g) (R' := (headSpec ws rm).room) hsize hmY hcY hframes (by rw [hlY]; omega) h4 h5) h1
  obtain ⟨mid, hmid⟩ := h.above
  have hfr : (U.setTop g).frames = (.java g :: mid) ++ below := by rw [State.frames_setTop' g h.top, hmid]; rfl
  obtain ⟨o, s₂, hsteps, -, hend, hq⟩ := Steps.callFree hM p X.admits X.cas X.clock (acts := []) hfr happ hPc trivial
  have hq' : vx_Q Qc XC mc ms free a (U.calling g mk a) o s₂ := hq
  rw [State.frames_setTop' g h.top] at hend
  obtain ⟨g₀, hg0⟩ := Option.isSome_iff_exists.mp h.top
  obtain ⟨r, hr⟩ := State.topJava?_eq_some.mp hg0
  have hr' : (({ U with heap := s₂.heap, slotsUsed := s₂.slotsUsed } : State).setVm s₂.vm).frames = .java g₀ :: r := hr
  rcases hq' with ⟨hqc, L, hfe, hL⟩ | ⟨q, rfl, E, ce, L, hx, hce, hcv, hcl, hW₂, hsm, hL⟩
  · obtain ⟨⟨v, rfl⟩, hW₂, e2, q2, q3, q4, q5, q6⟩ := id hfe
    have e3 : s₂ = ({ (U.calling g mk a).setFrames s₂.frames with heap := s₂.heap, slotsUsed := s₂.slotsUsed } : State).setVm s₂.vm := by
      have : s₂ = ({ s₂ with vm := (U.calling g mk a).vm } : State).setVm s₂.vm := rfl
      rw [e2] at this
      exact this
    obtain ⟨c₂, i₂, len₂, hc₂, hd₂, hf₂⟩ := hend
    have hW' : U.WarmedH s₂.vm := hW₂
    have hcc : c₂ = c := by
      have h1 : s₂.code? g.method = U.code? g.method := by
        rw [State.code?_eq, State.code?_eq, hW'.alike.method?]
      exact Option.some.inj (hc₂.symm.trans (h1.trans h.code))
    subst hcc
    have hlen : len₂ = len := by rw [hdg] at hd₂; cases hd₂; rfl
    subst hlen
    have hs₂ : s₂ = (({ U with heap := s₂.heap, slotsUsed := s₂.slotsUsed } : State).setVm s₂.vm).setTop { g with pc := g.pc + len₂, stack := v.toList ++ g.stack } := by
      refine e3.trans ?_
      rw [hf₂, State.calling_eq h.top, State.setFrames_setFrames, State.setTop_of_frames _ hr', hr]
      rfl
    have hsame : U.sameButNew ({ U with heap := s₂.heap, slotsUsed := s₂.slotsUsed } : State) L mc ms := by
      refine ⟨?_, q2, q3, q4, q5, q6⟩
      obtain ⟨t, ht, -⟩ := State.frames_cons hr
      show ({ U with heap := s₂.heap, slotsUsed := s₂.slotsUsed } : State) = { U.setFrames U.frames with heap := s₂.heap, slotsUsed := s₂.slotsUsed }
      rw [State.setFrames_self ht]
    subst hg
    refine Or.inl ⟨v, ⟨(({ U with heap := s₂.heap, slotsUsed := s₂.slotsUsed } : State).setVm s₂.vm), Ls ++ L, c0 + mc, s0 + ms⟩,
      ⟨X.admits, X.cas, X.clock, X.frames, X.room, X.hears, X.method, X.code, (X.here.setHeapUsed s₂.heap s₂.slotsUsed).setVm hW'.alike, X.tail, State.WarmedH.trans X.warmed hW', X.limits, X.bytes, X.same.trans (hsame.setVm s.vm)⟩,
      ⟨g, mk, s₂, L, rfl, rfl, hqc, rfl, hL, rfl, rfl⟩, ?_⟩
    show Steps p.tables e below _ ((({ U with heap := s₂.heap, slotsUsed := s₂.slotsUsed } : State).setVm s₂.vm).setTop { g with pc := g.pc + len₂, stack := v.toList ++ g.stack })
    rw [← hs₂]
    exact hsteps
  · obtain ⟨e2, q2, q3, q4, q5, q6⟩ := id hsm
    have e3 : s₂ = ({ (U.calling g mk a).setFrames s₂.frames with heap := s₂.heap, slotsUsed := s₂.slotsUsed } : State).setVm s₂.vm := by
      have : s₂ = ({ s₂ with vm := (U.calling g mk a).vm } : State).setVm s₂.vm := rfl
      rw [e2] at this
      exact this
    have hf₂ : s₂.frames = .throwing q :: .java g :: U.frames.tail := hend
    have hW' : U.WarmedH s₂.vm := hW₂
    have hs₂ : s₂ = ((({ U with heap := s₂.heap, slotsUsed := s₂.slotsUsed } : State).setVm s₂.vm).setTop g).pushFrame (.throwing q) := by
      refine e3.trans ?_
      rw [hf₂, State.calling_eq h.top, State.setFrames_setFrames, State.pushFrame, State.frames_setTop _ hr', State.setTop_of_frames _ hr', State.setFrames_setFrames, hr]
      rfl
    have hsame : U.sameButNew ({ U with heap := s₂.heap, slotsUsed := s₂.slotsUsed } : State) L mc ms := by
      refine ⟨?_, q2, q3, q4, q5, q6⟩
      obtain ⟨t, ht, -⟩ := State.frames_cons hr
      show ({ U with heap := s₂.heap, slotsUsed := s₂.slotsUsed } : State) = { U.setFrames U.frames with heap := s₂.heap, slotsUsed := s₂.slotsUsed }
      rw [State.setFrames_self ht]
    subst hg
    refine Or.inr ⟨q, ⟨(({ U with heap := s₂.heap, slotsUsed := s₂.slotsUsed } : State).setVm s₂.vm), Ls ++ L, c0 + mc, s0 + ms⟩,
      ⟨X.admits, X.cas, X.clock, X.frames, X.room, X.hears, X.method, X.code, (X.here.setHeapUsed s₂.heap s₂.slotsUsed).setVm hW'.alike, X.tail, State.WarmedH.trans X.warmed hW', X.limits, X.bytes, X.same.trans (hsame.setVm s.vm)⟩,
      ⟨g, mk, s₂, L, E, ce, rfl, rfl, hx, hce, hcv, hcl, rfl, hL, rfl, rfl⟩, ?_⟩
    show Steps p.tables e below _ (((({ U with heap := s₂.heap, slotsUsed := s₂.slotsUsed } : State).setVm s₂.vm).setTop g).pushFrame (.throwing q))
    rw [← hs₂]
    exact hsteps
end Payer
section Calls
variable {p : Program} {l : Launch} {e : Env} {R : Room} {s : State} {m : MethodId} {args : Array Value} {below : List Frame} {meth : Method} {c : Code} {T : State} {locs : List Loc} {cells slots : Nat}
theorem vx_callV (X : Stand p l e R s m args below meth c T locs cells slots) (hexec : p.tables.exec = Jvm.exec) {own C : String} {index : Nat} {y : MethodName} {bytes : ByteArray} {maxL : Nat} {ret : Option FieldType}
    (hown : s.vm.findClass own = some m.cls) (hlink : (Cond.methodLink own index y).before args s = true) (hinst : (Cond.instanceMethod y).before args s = true) (hsel : (Cond.selects C y y).before args s = true)
    (hcode : (Cond.code y bytes maxL ret).before args s = true) (hy : y.cls ≠ "java/lang/invoke/MethodHandle" ∧ y.cls ≠ "java/lang/invoke/VarHandle")
    {W9 : Nat} {Pre : Pt → Array Value → Prop} {Post : Pt → Array Value → Option Value → Pt → Prop} {PostX : Pt → Array Value → Addr → Pt → Prop} (hK : vx_Back l R p e below s args y 3 W9 Pre Post PostX)
    {b : Addr} {cellB : Cell} (hcell : T.heap[b]? = some cellB) (hobj : cellB.vm.isStatics = false) (hcls : s.vm.findClass C = some cellB.cls)
    {g : JFrame} (hg : g.method = m) (hsize : g.locals.size = c.maxLocals) {argsL rest : List Value} (hlen : ∀ sig, parseMethodDescriptor y.desc = some sig → argsL.length = sig.parameters.length)
    (hstack : g.stack = argsL.reverse ++ .ref b :: rest) (hW : 2 * g.monitorRoom + (rest.map fun v => v.category).sum ≤ W9) (hdg : decode c.code g.pc = .ok (.invokevirtual index, 3))
    (hpre : ∀ vm₁, s.WarmedH vm₁ → Pre ⟨T.setVm vm₁, locs, cells, slots⟩ (Value.ref b :: argsL).toArray) :
    (∃ (v : Option Value) (vm₁ : Vm) (B : Pt), s.WarmedH vm₁ ∧ Stand p l e R s m args below meth c B.U B.locs B.cells B.slots ∧ Post ⟨T.setVm vm₁, locs, cells, slots⟩ (Value.ref b :: argsL).toArray v B ∧
      ∀ target, Steps p.tables e below (B.U.setTop { g with pc := g.pc + 3, stack := v.toList ++ rest }) target → Steps p.tables e below (T.setTop g) target) ∨
    (∃ (q : Addr) (vm₁ : Vm) (B : Pt), s.WarmedH vm₁ ∧ Stand p l e R s m args below meth c B.U B.locs B.cells B.slots ∧ PostX ⟨T.setVm vm₁, locs, cells, slots⟩ (Value.ref b :: argsL).toArray q B ∧
      Steps p.tables e below (T.setTop g) ((B.U.setTop { g with stack := rest }).pushFrame (.throwing q))) := by
  obtain ⟨mk, methM, hnamed, hmethM, hstM, habM⟩ := Cond.instanceMethod_spec hinst
  obtain ⟨methM', cM, hmethM', -, -, -, -, -, -, hsigM⟩ := Cond.code_spec hnamed hcode
  cases hmethM.symm.trans hmethM'
  obtain ⟨c2, r2, m2, q1, q2, q3, q4, kP, hkP, hkPi⟩ := Cond.selects_spec hsel
  cases hcls.symm.trans q1
  cases (State.methodFound?_of_named hnamed hy).symm.trans q2
  cases hnamed.symm.trans q3
  have hselP : selectMethod e.platform s.vm cellB.cls mk = .method mk := by rw [Launch.admits_selectMethod X.admits]; exact q4
  obtain ⟨vm₁, X₁, hstep₁⟩ := X.invokevirtual hexec hown hlink hnamed hmethM hstM hkP hkPi hy (a := b) (cell := cellB) hcell
    (fun z h => by rw [h] at hobj; cases hobj) hselP hmethM habM hkP hkPi (g := g) hg (argsL := argsL) (rest := rest) (hlen _ hsigM) hstack hdg
  rcases hK m meth c ⟨T.setVm vm₁, locs, cells, slots⟩ { g with stack := rest } (.invokevirtual index) mk (Value.ref b :: argsL).toArray X₁ hg hsize hdg hW (X₁.named hnamed) (hpre vm₁ X₁.warmed) with ⟨v, B, X', hpost, hsteps⟩ | ⟨q, B, X', hpost, hsteps⟩
  · exact Or.inl ⟨v, vm₁, B, X₁.warmed, X', hpost, fun target h => hstep₁ _ fun acts => by rw [doInvoke_state]; exact hsteps.trans h⟩
  · exact Or.inr ⟨q, vm₁, B, X₁.warmed, X', hpost, hstep₁ _ fun acts => by rw [doInvoke_state]; exact hsteps⟩
theorem vx_callS (X : Stand p l e R s m args below meth c T locs cells slots) (hexec : p.tables.exec = Jvm.exec) {own : String} {index : Nat} {y : MethodName} {bytes : ByteArray} {maxL : Nat} {ret : Option FieldType}
    (hown : s.vm.findClass own = some m.cls) (hlink : (Cond.methodLink own index y).before args s = true) (hstat : (Cond.static y).before args s = true) (hinit : (Cond.initialized y.cls).before args s = true)
    (hcode : (Cond.code y bytes maxL ret).before args s = true) (hy : y.cls ≠ "java/lang/invoke/MethodHandle" ∧ y.cls ≠ "java/lang/invoke/VarHandle")
    {W9 : Nat} {Pre : Pt → Array Value → Prop} {Post : Pt → Array Value → Option Value → Pt → Prop} {PostX : Pt → Array Value → Addr → Pt → Prop} (hK : vx_Back l R p e below s args y 3 W9 Pre Post PostX)
    {g : JFrame} (hg : g.method = m) (hsize : g.locals.size = c.maxLocals) {argsL rest : List Value} (hlen : ∀ sig, parseMethodDescriptor y.desc = some sig → argsL.length = sig.parameters.length)
    (hstack : g.stack = argsL.reverse ++ rest) (hW : 2 * g.monitorRoom + (rest.map fun v => v.category).sum ≤ W9) (hdg : decode c.code g.pc = .ok (.invokestatic index, 3))
    (hpre : ∀ vm₁, s.WarmedH vm₁ → Pre ⟨T.setVm vm₁, locs, cells, slots⟩ argsL.toArray) :
    (∃ (v : Option Value) (vm₁ : Vm) (B : Pt), s.WarmedH vm₁ ∧ Stand p l e R s m args below meth c B.U B.locs B.cells B.slots ∧ Post ⟨T.setVm vm₁, locs, cells, slots⟩ argsL.toArray v B ∧
      ∀ target, Steps p.tables e below (B.U.setTop { g with pc := g.pc + 3, stack := v.toList ++ rest }) target → Steps p.tables e below (T.setTop g) target) ∨
    (∃ (q : Addr) (vm₁ : Vm) (B : Pt), s.WarmedH vm₁ ∧ Stand p l e R s m args below meth c B.U B.locs B.cells B.slots ∧ PostX ⟨T.setVm vm₁, locs, cells, slots⟩ argsL.toArray q B ∧
      Steps p.tables e below (T.setTop g) ((B.U.setTop { g with stack := rest }).pushFrame (.throwing q))) := by
  obtain ⟨mk, hnamed⟩ := Cond.code_named hcode
  obtain ⟨methM, cM, hmethM, -, -, -, -, -, -, hsigM⟩ := Cond.code_spec hnamed hcode
  have hstatic : methM.isStatic = true := Cond.static_spec hnamed hmethM hstat
  obtain ⟨kP, hkP, -⟩ := className_of_methodNamed hnamed
  have hinitP : kP.init = .initialized := Cond.initialized_spec (findClass_of_methodNamed hnamed) hkP hinit
  obtain ⟨vm₁, X₁, hstep₁⟩ := X.invokestatic hexec hown hlink hnamed hmethM hstatic hkP hinitP hy (g := g) hg (argsL := argsL) (rest := rest) (hlen _ hsigM) hstack hdg
  rcases hK m meth c ⟨T.setVm vm₁, locs, cells, slots⟩ { g with stack := rest } (.invokestatic index) mk argsL.toArray X₁ hg hsize hdg hW (X₁.named hnamed) (hpre vm₁ X₁.warmed) with ⟨v, B, X', hpost, hsteps⟩ | ⟨q, B, X', hpost, hsteps⟩
  · exact Or.inl ⟨v, vm₁, B, X₁.warmed, X', hpost, fun target h => hstep₁ _ fun acts => by rw [doInvoke_state]; exact hsteps.trans h⟩
  · exact Or.inr ⟨q, vm₁, B, X₁.warmed, X', hpost, hstep₁ _ fun acts => by rw [doInvoke_state]; exact hsteps⟩
end Calls
theorem vx_cls {s : State} {T : State} {vm₁ : Vm} {E : String} {k : ClassId} (hW : s.WarmedH vm₁) (h : (T.setVm vm₁).vm.findClass E = some k) : s.vm.findClass E = some k := by
  have h1 : vm₁.findClass E = some k := h
  rw [hW.alike.findClass] at h1
  exact h1
/-- the method's frame g, with q thrown over it -/
def vx_W (p : Program) (l : Launch) (e : Env) (R : Room) (s : State) (m : MethodId) (args : Array Value) (below : List Frame) (meth : Method) (c : Code) (H : Heap) (locs : List Loc) (cells slots : Nat) (Q : State → Prop) (g : JFrame) (q : Addr) : Prop :=
  ∀ T : State, T.heap = H → Stand p l e R s m args below meth c T locs cells slots → ∃ t, Steps p.tables e below ((T.setTop g).pushFrame (.throwing q)) t ∧ Q t
def vx_Run (p : Program) (l : Launch) (e : Env) (R : Room) (s : State) (m : MethodId) (args : Array Value) (below : List Frame) (meth : Method) (c : Code) (H : Heap) (locs : List Loc) (cells slots mc ms : Nat) (g : JFrame) (rest : List Value) (Qa : State → Outcome → State → Prop) (XC : String → State → State → Prop) (free : Addr → Prop) : Prop :=
  ∀ T : State, T.heap = H → Stand p l e R s m args below meth c T locs cells slots →
    (∃ (v : Option Value) (st₀ t T' : State) (L : List Loc), st₀.heap = H ∧ Stand p l e R s m args below meth c T' (locs ++ L) (cells + mc) (slots + ms) ∧ (∀ q ∈ L, free q.base) ∧ T'.heap = t.heap ∧ T'.vm = t.vm ∧ Qa st₀ (.returned v) t ∧
      Goes p e below T g T' { g with pc := g.pc + 3, stack := v.toList ++ rest }) ∨
    (∃ (q : Addr) (st₀ t T' : State) (L : List Loc) (E : String) (ce : Cell), st₀.heap = H ∧ Stand p l e R s m args below meth c T' (locs ++ L) (cells + mc) (slots + ms) ∧ (∀ z ∈ L, free z.base) ∧ T'.heap = t.heap ∧ T'.vm = t.vm ∧ XC E st₀ t ∧ t.heap[q]? = some ce ∧ ce.vm = .none ∧ s.vm.findClass E = some ce.cls ∧
      Steps p.tables e below (T.setTop g) ((T'.setTop { g with stack := rest }).pushFrame (.throwing q)))
def vx_X {S : Type} (px : S → Prop) (B : String → S → State → Prop) (A : Nat → Prop) : String → State → State → Prop := fun E st t => ∃ u : S, px u ∧ B E u t ∧ va_F A st t
section Runs
variable {p : Program} {l : Launch} {e : Env} {R : Room} {s : State} {m : MethodId} {args : Array Value} {below : List Frame} {meth : Method} {c : Code} {H : Heap} {locs : List Loc} {cells slots : Nat}
variable {y : MethodName} {bytes cc : ByteArray} {maxL nL mc ms n index : Nat} {ret : Option FieldType} {ws : List Cond} {rm : Room} {Pc : Array Value → State → Prop} {Qc : Array Value → State → Outcome → State → Prop} {XC : String → State → State → Prop} {free : Addr → Prop} {Ts : List Cond} {own C : String} {b : Addr} {As rest : List Value} {g : JFrame}
theorem vx_callBack (cb : CallB R s args own index y bytes maxL ret ws rm mc ms n) (hM : vx_Met l y ws rm Pc Qc XC mc ms free) (hbl : FrameBlind Pc) : vx_Back l R p e below s args y 3 8 (PreOf R mc ms Pc) (PostOf Qc mc ms free) (vx_Post XC mc ms free) := by
  obtain ⟨hrc, hrs, hfr, hlo, hws, hcw, -, hini, -⟩ := cb
  exact vx_back (bytes := bytes) (maxL := maxL) (ret := ret) hM hbl hrc hrs hfr hlo hws hcw (fun a' U hW => word_at hW (Or.inl (by first | rfl | simp [Cond.onTables, Cond.keeps, Cond.steady])) hini)
theorem vx_runV (S : CallFix p m c cc nL s args Ts own) (hM : vx_Met l y ws rm Pc Qc XC mc ms free) (cw : CallW R s args own C index y bytes maxL ret ws rm mc ms n) (hp : PreV s H C b Pc As)
    (hg : g.method = m) (hn : As.length = n) (hsize : g.locals.size = nL) (hstack : g.stack = As.reverse ++ .ref b :: rest) (hW : 2 * g.monitorRoom + (rest.map fun v => v.category).sum ≤ 8) (hdg : decode cc g.pc = .ok (.invokevirtual index, 3)) (hf : cells + mc ≤ R.cells ∧ slots + ms ≤ R.slots) :
    vx_Run p l e R s m args below meth c H locs cells slots mc ms g rest (Qc (Value.ref b :: As).toArray) XC free := by
  have hK : vx_Back l R p e below s args y 3 8 (PreOf R mc ms Pc) (PostOf Qc mc ms free) (vx_Post XC mc ms free) := vx_callBack cw.1 hM hp.1
  obtain ⟨⟨-, -, -, -, -, -, hcode, -, hy, hlen, hl⟩, hin, hse⟩ := cw
  obtain ⟨hx, hb, hml, ho, -⟩ := S
  obtain ⟨-, ⟨cellB, hcB, hoB, hclB⟩, hPc⟩ := hp
  intro T hT X
  rcases vx_callV X hx (C := C) (bytes := bytes) (maxL := maxL) (ret := ret) ho hl hin hse hcode hy hK (by rw [hT]; exact hcB) hoB hclB hg (hsize.trans hml.symm) (argsL := As) (rest := rest) (fun sig h => hn.trans (hlen sig h)) hstack hW (by rw [hb]; exact hdg)
    (fun vm₁ hW₁ => ⟨hf.1, hf.2, hPc (T.setVm vm₁) hT hW₁⟩) with ⟨v, vm₁, ⟨U', l2, c2, s2⟩, hW₁, X', ⟨g', mk, t, L, e1, e2, hq, h1, hL, h2, h3⟩, st⟩ | ⟨q, vm₁, ⟨U', l2, c2, s2⟩, hW₁, X', ⟨g', mk, t, L, E, ce, e1, e2, hq, hce, hcv, hcl, h1, hL, h2, h3⟩, st⟩
  · dsimp only [Pt.U, Pt.locs, Pt.cells, Pt.slots] at X' e1 e2 h1 h2 h3 st
    subst h1; subst h2; subst h3
    exact Or.inl ⟨v, (T.setVm vm₁).calling g' mk (Value.ref b :: As).toArray, t, U', L, hT, X', hL, e1, e2, hq, st⟩
  · dsimp only [Pt.U, Pt.locs, Pt.cells, Pt.slots] at X' e1 e2 h1 h2 h3 st hcl
    subst h1; subst h2; subst h3
    exact Or.inr ⟨q, (T.setVm vm₁).calling g' mk (Value.ref b :: As).toArray, t, U', L, E, ce, hT, X', hL, e1, e2, hq, hce, hcv, vx_cls hW₁ hcl, st⟩
theorem vx_runS (S : CallFix p m c cc nL s args Ts own) (hM : vx_Met l y ws rm Pc Qc XC mc ms free) (cw : CallB R s args own index y bytes maxL ret ws rm mc ms n ∧ (Cond.static y).before args s = true) (hp : PreS s H Pc As)
    (hg : g.method = m) (hn : As.length = n) (hsize : g.locals.size = nL) (hstack : g.stack = As.reverse ++ rest) (hW : 2 * g.monitorRoom + (rest.map fun v => v.category).sum ≤ 8) (hdg : decode cc g.pc = .ok (.invokestatic index, 3)) (hf : cells + mc ≤ R.cells ∧ slots + ms ≤ R.slots) :
    vx_Run p l e R s m args below meth c H locs cells slots mc ms g rest (Qc As.toArray) XC free := by
  have hK : vx_Back l R p e below s args y 3 8 (PreOf R mc ms Pc) (PostOf Qc mc ms free) (vx_Post XC mc ms free) := vx_callBack cw.1 hM hp.1
  obtain ⟨⟨-, -, -, -, -, -, hcode, hini, hy, hlen, hl⟩, hstt⟩ := cw
  obtain ⟨hx, hb, hml, ho, -⟩ := S
  intro T hT X
  rcases vx_callS X hx (bytes := bytes) (maxL := maxL) (ret := ret) ho hl hstt hini hcode hy hK hg (hsize.trans hml.symm) (argsL := As) (rest := rest) (fun sig h => hn.trans (hlen sig h)) hstack hW (by rw [hb]; exact hdg)
    (fun vm₁ hW₁ => ⟨hf.1, hf.2, hp.2 (T.setVm vm₁) hT hW₁⟩) with ⟨v, vm₁, ⟨U', l2, c2, s2⟩, hW₁, X', ⟨g', mk, t, L, e1, e2, hq, h1, hL, h2, h3⟩, st⟩ | ⟨q, vm₁, ⟨U', l2, c2, s2⟩, hW₁, X', ⟨g', mk, t, L, E, ce, e1, e2, hq, hce, hcv, hcl, h1, hL, h2, h3⟩, st⟩
  · dsimp only [Pt.U, Pt.locs, Pt.cells, Pt.slots] at X' e1 e2 h1 h2 h3 st
    subst h1; subst h2; subst h3
    exact Or.inl ⟨v, (T.setVm vm₁).calling g' mk As.toArray, t, U', L, hT, X', hL, e1, e2, hq, st⟩
  · dsimp only [Pt.U, Pt.locs, Pt.cells, Pt.slots] at X' e1 e2 h1 h2 h3 st hcl
    subst h1; subst h2; subst h3
    exact Or.inr ⟨q, (T.setVm vm₁).calling g' mk As.toArray, t, U', L, E, ce, hT, X', hL, e1, e2, hq, hce, hcv, vx_cls hW₁ hcl, st⟩
end Runs
section Rows
variable {p : Program} {l : Launch} {e : Env} {R : Room} {s : State} {m : MethodId} {args : Array Value} {below : List Frame} {meth : Method} {c : Code} {H : Heap} {locs : List Loc} {cells slots : Nat} {Q : State → Prop}
variable {mc ms : Nat} {free : Addr → Prop} {A0 A1 : Nat → Prop} {H0 : Heap} {a : Array Value} {pc : Nat} {ls : Array Slot} {st0 rest : List Value}
theorem vx_keep {st₀ t T' : State} {L : List Loc} (h0 : st₀.heap = H) (e1 : T'.heap = t.heap) (hS : va_S A0 H0 H locs) (hA : ∀ q, q < H.size → A1 q → A0 q) (hf : ∀ q, free q → A0 q) (hL : ∀ q ∈ L, free q.base) (hF : va_F A1 st₀ t) :
    H.size ≤ T'.heap.size ∧ (∀ q : Nat, q < H.size → ¬ A1 q → T'.heap[q]? = H[q]?) ∧ va_S A0 H0 T'.heap (locs ++ L) := by
  obtain ⟨hz, hk⟩ := hF
  rw [h0] at hz hk
  exact ⟨by rw [e1]; exact hz, fun q h1 h2 => by rw [e1]; exact hk q h1 h2,
    ⟨Nat.le_trans hS.1 (by rw [e1]; exact hz), fun q h1 h2 => by rw [e1, hk q (Nat.lt_of_lt_of_le h1 hS.1) (fun z => h2 (hA q (Nat.lt_of_lt_of_le h1 hS.1) z))]; exact hS.2.1 q h1 h2, fun q hq => by
      rcases List.mem_append.mp hq with h | h
      · exact hS.2.2 q h
      · exact hf _ (hL q h)⟩⟩
theorem vx_calli {S SX : Type} {post : Int32 → S → Prop} {px : SX → Prop} {B : S → State → Prop} {BX : String → SX → State → Prop} {AX : Nat → Prop} (hr : vx_Run p l e R s m args below meth c H locs cells slots mc ms (F0 m pc ls st0) rest (va_Qi post B A1 a) (vx_X px BX AX) free) (hS : va_S A0 H0 H locs) (hA : ∀ q, q < H.size → A1 q → A0 q) (hf : ∀ q, free q → A0 q) (hAX : ∀ q, q < H.size → AX q → A0 q)
    (kx : ∀ (E : String) (ce : Cell) (q9 : Addr) (u : SX) (t : State) (H1 : Heap) (locs1 : List Loc), t.heap = H1 → s.vm.Alike t.vm → px u → BX E u t → H.size ≤ H1.size → (∀ q : Nat, q < H.size → ¬ AX q → H1[q]? = H[q]?) → va_S A0 H0 H1 locs1 → H1[q9]? = some ce → ce.vm = .none → s.vm.findClass E = some ce.cls → vx_W p l e R s m args below meth c H1 locs1 (cells + mc) (slots + ms) Q (F0 m pc ls rest) q9)
    (kk : ∀ (r : Int32) (u : S) (t : State) (H1 : Heap) (locs1 : List Loc), t.heap = H1 → s.vm.Alike t.vm → post r u → B u t → H.size ≤ H1.size → (∀ q : Nat, q < H.size → ¬ A1 q → H1[q]? = H[q]?) → va_S A0 H0 H1 locs1 → W p l e R s m args below meth c H1 locs1 (cells + mc) (slots + ms) Q (F0 m (pc + 3) ls (.int r :: rest))) : W p l e R s m args below meth c H locs cells slots Q (F0 m pc ls st0) := by
  intro T hT X
  rcases hr T hT X with ⟨v, st₀, t, T', L, h0, X', hL, e1, e2, ⟨⟨r, u, hv, hp, hb⟩, hF⟩, st⟩ | ⟨q, st₀, t, T', L, E, ce, h0, X', hL, e1, e2, ⟨u, hp, hb, hF⟩, hce, hcv, hcl, st⟩
  · cases hv
    obtain ⟨k1, k2, k3⟩ := vx_keep h0 e1 hS hA hf hL hF
    obtain ⟨t2, a1, b1⟩ := kk r u t T'.heap (locs ++ L) e1.symm (by rw [← e2]; exact X'.warmed.alike) hp hb k1 k2 k3 T' rfl X'
    exact ⟨t2, st t2 a1, b1⟩
  · obtain ⟨k1, k2, k3⟩ := vx_keep h0 e1 hS hAX hf hL hF
    obtain ⟨t2, a1, b1⟩ := kx E ce q u t T'.heap (locs ++ L) e1.symm (by rw [← e2]; exact X'.warmed.alike) hp hb k1 k2 k3 (by rw [e1]; exact hce) hcv hcl T' rfl X'
    exact ⟨t2, st.trans a1, b1⟩
theorem vx_calll {S SX : Type} {post : Int64 → S → Prop} {px : SX → Prop} {B : S → State → Prop} {BX : String → SX → State → Prop} {AX : Nat → Prop} (hr : vx_Run p l e R s m args below meth c H locs cells slots mc ms (F0 m pc ls st0) rest (va_Ql post B A1 a) (vx_X px BX AX) free) (hS : va_S A0 H0 H locs) (hA : ∀ q, q < H.size → A1 q → A0 q) (hf : ∀ q, free q → A0 q) (hAX : ∀ q, q < H.size → AX q → A0 q)
    (kx : ∀ (E : String) (ce : Cell) (q9 : Addr) (u : SX) (t : State) (H1 : Heap) (locs1 : List Loc), t.heap = H1 → s.vm.Alike t.vm → px u → BX E u t → H.size ≤ H1.size → (∀ q : Nat, q < H.size → ¬ AX q → H1[q]? = H[q]?) → va_S A0 H0 H1 locs1 → H1[q9]? = some ce → ce.vm = .none → s.vm.findClass E = some ce.cls → vx_W p l e R s m args below meth c H1 locs1 (cells + mc) (slots + ms) Q (F0 m pc ls rest) q9)
    (kk : ∀ (r : Int64) (u : S) (t : State) (H1 : Heap) (locs1 : List Loc), t.heap = H1 → s.vm.Alike t.vm → post r u → B u t → H.size ≤ H1.size → (∀ q : Nat, q < H.size → ¬ A1 q → H1[q]? = H[q]?) → va_S A0 H0 H1 locs1 → W p l e R s m args below meth c H1 locs1 (cells + mc) (slots + ms) Q (F0 m (pc + 3) ls (.long r :: rest))) : W p l e R s m args below meth c H locs cells slots Q (F0 m pc ls st0) := by
  intro T hT X
  rcases hr T hT X with ⟨v, st₀, t, T', L, h0, X', hL, e1, e2, ⟨⟨r, u, hv, hp, hb⟩, hF⟩, st⟩ | ⟨q, st₀, t, T', L, E, ce, h0, X', hL, e1, e2, ⟨u, hp, hb, hF⟩, hce, hcv, hcl, st⟩
  · cases hv
    obtain ⟨k1, k2, k3⟩ := vx_keep h0 e1 hS hA hf hL hF
    obtain ⟨t2, a1, b1⟩ := kk r u t T'.heap (locs ++ L) e1.symm (by rw [← e2]; exact X'.warmed.alike) hp hb k1 k2 k3 T' rfl X'
    exact ⟨t2, st t2 a1, b1⟩
  · obtain ⟨k1, k2, k3⟩ := vx_keep h0 e1 hS hAX hf hL hF
    obtain ⟨t2, a1, b1⟩ := kx E ce q u t T'.heap (locs ++ L) e1.symm (by rw [← e2]; exact X'.warmed.alike) hp hb k1 k2 k3 (by rw [e1]; exact hce) hcv hcl T' rfl X'
    exact ⟨t2, st.trans a1, b1⟩
theorem vx_callf {S SX : Type} {post : UInt32 → S → Prop} {px : SX → Prop} {B : S → State → Prop} {BX : String → SX → State → Prop} {AX : Nat → Prop} (hr : vx_Run p l e R s m args below meth c H locs cells slots mc ms (F0 m pc ls st0) rest (va_Qf post B A1 a) (vx_X px BX AX) free) (hS : va_S A0 H0 H locs) (hA : ∀ q, q < H.size → A1 q → A0 q) (hf : ∀ q, free q → A0 q) (hAX : ∀ q, q < H.size → AX q → A0 q)
    (kx : ∀ (E : String) (ce : Cell) (q9 : Addr) (u : SX) (t : State) (H1 : Heap) (locs1 : List Loc), t.heap = H1 → s.vm.Alike t.vm → px u → BX E u t → H.size ≤ H1.size → (∀ q : Nat, q < H.size → ¬ AX q → H1[q]? = H[q]?) → va_S A0 H0 H1 locs1 → H1[q9]? = some ce → ce.vm = .none → s.vm.findClass E = some ce.cls → vx_W p l e R s m args below meth c H1 locs1 (cells + mc) (slots + ms) Q (F0 m pc ls rest) q9)
    (kk : ∀ (r : UInt32) (u : S) (t : State) (H1 : Heap) (locs1 : List Loc), t.heap = H1 → s.vm.Alike t.vm → post r u → B u t → H.size ≤ H1.size → (∀ q : Nat, q < H.size → ¬ A1 q → H1[q]? = H[q]?) → va_S A0 H0 H1 locs1 → W p l e R s m args below meth c H1 locs1 (cells + mc) (slots + ms) Q (F0 m (pc + 3) ls (.float r :: rest))) : W p l e R s m args below meth c H locs cells slots Q (F0 m pc ls st0) := by
  intro T hT X
  rcases hr T hT X with ⟨v, st₀, t, T', L, h0, X', hL, e1, e2, ⟨⟨r, u, hv, hp, hb⟩, hF⟩, st⟩ | ⟨q, st₀, t, T', L, E, ce, h0, X', hL, e1, e2, ⟨u, hp, hb, hF⟩, hce, hcv, hcl, st⟩
  · cases hv
    obtain ⟨k1, k2, k3⟩ := vx_keep h0 e1 hS hA hf hL hF
    obtain ⟨t2, a1, b1⟩ := kk r u t T'.heap (locs ++ L) e1.symm (by rw [← e2]; exact X'.warmed.alike) hp hb k1 k2 k3 T' rfl X'
    exact ⟨t2, st t2 a1, b1⟩
  · obtain ⟨k1, k2, k3⟩ := vx_keep h0 e1 hS hAX hf hL hF
    obtain ⟨t2, a1, b1⟩ := kx E ce q u t T'.heap (locs ++ L) e1.symm (by rw [← e2]; exact X'.warmed.alike) hp hb k1 k2 k3 (by rw [e1]; exact hce) hcv hcl T' rfl X'
    exact ⟨t2, st.trans a1, b1⟩
theorem vx_calld {S SX : Type} {post : UInt64 → S → Prop} {px : SX → Prop} {B : S → State → Prop} {BX : String → SX → State → Prop} {AX : Nat → Prop} (hr : vx_Run p l e R s m args below meth c H locs cells slots mc ms (F0 m pc ls st0) rest (va_Qd post B A1 a) (vx_X px BX AX) free) (hS : va_S A0 H0 H locs) (hA : ∀ q, q < H.size → A1 q → A0 q) (hf : ∀ q, free q → A0 q) (hAX : ∀ q, q < H.size → AX q → A0 q)
    (kx : ∀ (E : String) (ce : Cell) (q9 : Addr) (u : SX) (t : State) (H1 : Heap) (locs1 : List Loc), t.heap = H1 → s.vm.Alike t.vm → px u → BX E u t → H.size ≤ H1.size → (∀ q : Nat, q < H.size → ¬ AX q → H1[q]? = H[q]?) → va_S A0 H0 H1 locs1 → H1[q9]? = some ce → ce.vm = .none → s.vm.findClass E = some ce.cls → vx_W p l e R s m args below meth c H1 locs1 (cells + mc) (slots + ms) Q (F0 m pc ls rest) q9)
    (kk : ∀ (r : UInt64) (u : S) (t : State) (H1 : Heap) (locs1 : List Loc), t.heap = H1 → s.vm.Alike t.vm → post r u → B u t → H.size ≤ H1.size → (∀ q : Nat, q < H.size → ¬ A1 q → H1[q]? = H[q]?) → va_S A0 H0 H1 locs1 → W p l e R s m args below meth c H1 locs1 (cells + mc) (slots + ms) Q (F0 m (pc + 3) ls (.double r :: rest))) : W p l e R s m args below meth c H locs cells slots Q (F0 m pc ls st0) := by
  intro T hT X
  rcases hr T hT X with ⟨v, st₀, t, T', L, h0, X', hL, e1, e2, ⟨⟨r, u, hv, hp, hb⟩, hF⟩, st⟩ | ⟨q, st₀, t, T', L, E, ce, h0, X', hL, e1, e2, ⟨u, hp, hb, hF⟩, hce, hcv, hcl, st⟩
  · cases hv
    obtain ⟨k1, k2, k3⟩ := vx_keep h0 e1 hS hA hf hL hF
    obtain ⟨t2, a1, b1⟩ := kk r u t T'.heap (locs ++ L) e1.symm (by rw [← e2]; exact X'.warmed.alike) hp hb k1 k2 k3 T' rfl X'
    exact ⟨t2, st t2 a1, b1⟩
  · obtain ⟨k1, k2, k3⟩ := vx_keep h0 e1 hS hAX hf hL hF
    obtain ⟨t2, a1, b1⟩ := kx E ce q u t T'.heap (locs ++ L) e1.symm (by rw [← e2]; exact X'.warmed.alike) hp hb k1 k2 k3 (by rw [e1]; exact hce) hcv hcl T' rfl X'
    exact ⟨t2, st.trans a1, b1⟩
theorem vx_callv {S SX : Type} {post : S → Prop} {px : SX → Prop} {B : S → State → Prop} {BX : String → SX → State → Prop} {AX : Nat → Prop} (hr : vx_Run p l e R s m args below meth c H locs cells slots mc ms (F0 m pc ls st0) rest (va_Qv post B A1 a) (vx_X px BX AX) free) (hS : va_S A0 H0 H locs) (hA : ∀ q, q < H.size → A1 q → A0 q) (hf : ∀ q, free q → A0 q) (hAX : ∀ q, q < H.size → AX q → A0 q)
    (kx : ∀ (E : String) (ce : Cell) (q9 : Addr) (u : SX) (t : State) (H1 : Heap) (locs1 : List Loc), t.heap = H1 → s.vm.Alike t.vm → px u → BX E u t → H.size ≤ H1.size → (∀ q : Nat, q < H.size → ¬ AX q → H1[q]? = H[q]?) → va_S A0 H0 H1 locs1 → H1[q9]? = some ce → ce.vm = .none → s.vm.findClass E = some ce.cls → vx_W p l e R s m args below meth c H1 locs1 (cells + mc) (slots + ms) Q (F0 m pc ls rest) q9)
    (kk : ∀ (u : S) (t : State) (H1 : Heap) (locs1 : List Loc), t.heap = H1 → s.vm.Alike t.vm → post u → B u t → H.size ≤ H1.size → (∀ q : Nat, q < H.size → ¬ A1 q → H1[q]? = H[q]?) → va_S A0 H0 H1 locs1 → W p l e R s m args below meth c H1 locs1 (cells + mc) (slots + ms) Q (F0 m (pc + 3) ls (rest))) : W p l e R s m args below meth c H locs cells slots Q (F0 m pc ls st0) := by
  intro T hT X
  rcases hr T hT X with ⟨v, st₀, t, T', L, h0, X', hL, e1, e2, ⟨⟨u, hv, hp, hb⟩, hF⟩, st⟩ | ⟨q, st₀, t, T', L, E, ce, h0, X', hL, e1, e2, ⟨u, hp, hb, hF⟩, hce, hcv, hcl, st⟩
  · cases hv
    obtain ⟨k1, k2, k3⟩ := vx_keep h0 e1 hS hA hf hL hF
    obtain ⟨t2, a1, b1⟩ := kk u t T'.heap (locs ++ L) e1.symm (by rw [← e2]; exact X'.warmed.alike) hp hb k1 k2 k3 T' rfl X'
    exact ⟨t2, st t2 a1, b1⟩
  · obtain ⟨k1, k2, k3⟩ := vx_keep h0 e1 hS hAX hf hL hF
    obtain ⟨t2, a1, b1⟩ := kx E ce q u t T'.heap (locs ++ L) e1.symm (by rw [← e2]; exact X'.warmed.alike) hp hb k1 k2 k3 (by rw [e1]; exact hce) hcv hcl T' rfl X'
    exact ⟨t2, st.trans a1, b1⟩
/-- caught by the row x of this method's table; the rows ahead don't take it -/
theorem vx_catch {own name : String} {E : String} {ce : Cell} {q : Addr} (hown : s.vm.findClass own = some m.cls) (pre : List ExceptionTableEntry) (x : ExceptionTableEntry) (suf : List ExceptionTableEntry) (hsplit : c.exceptionTable.toList = pre ++ x :: suf)
    (hpass : ∀ z ∈ pre, covers z pc = false ∨ (z.catchType ≠ 0 ∧ ∃ nm : String, (Cond.classLink own z.catchType nm).before args s = true ∧ va_Nc E nm s)) (hx : covers x pc = true) (h0 : x.catchType ≠ 0)
    (hlink : (Cond.classLink own x.catchType name).before args s = true) (hcast : (Cond.castable E name).before args s = true) (hcell : H[q]? = some ce) (hv : ce.vm = .none) (hcl : s.vm.findClass E = some ce.cls)
    (kk : W p l e R s m args below meth c H locs cells slots Q (F0 m x.handlerPc ls [.ref q])) : vx_W p l e R s m args below meth c H locs cells slots Q (F0 m pc ls rest) q := by
  intro T hT X
  have hpl : e.platform.magicAccessors = ({} : Platform).magicAccessors := by rw [X.admits.platform]
  obtain ⟨c3, c4, hc3, hc4, hasg⟩ := Cond.castable_spec hcast
  cases Option.some.inj (hc3.symm.trans hcl)
  obtain ⟨c5, hc5, hcl5⟩ := Cond.classLink_spec hown hlink e.platform hpl
  cases Option.some.inj (hc4.symm.trans hc5)
  obtain ⟨vm', X', st⟩ := X.thenCaughtThrough q (g := F0 m pc ls rest) rfl (Steps.refl _) (by rw [hT]; exact hcell) (by rw [hv]; rfl) (by obtain ⟨k9, h9, -⟩ := Vm.findClass_spec hcl; exact ⟨k9, h9⟩) pre x suf hsplit
    (fun z hz => by
      rcases hpass z hz with h | ⟨hz0, nm, hl1, hn1⟩
      · exact Or.inl h
      · obtain ⟨c6, hc6, hcl6⟩ := Cond.classLink_spec hown hl1 e.platform hpl
        obtain ⟨a8, b8, h1, h2, h3⟩ := hn1
        cases Option.some.inj (h1.symm.trans hcl)
        cases Option.some.inj (h2.symm.trans hc6)
        exact Or.inr ⟨hz0, _, hcl6, h3⟩) hx (Or.inr ⟨h0, c4, hcl5, hasg⟩)
  obtain ⟨t, a1, b1⟩ := kk (T.setVm vm') hT X'
  exact ⟨t, st.trans a1, b1⟩
end Rows
section Ends
variable {p : Program} {l : Launch} {e : Env} {R : Room} {s : State} {m : MethodId} {args : Array Value} {below : List Frame} {meth : Method} {c : Code} {H : Heap} {locs : List Loc} {cells slots : Nat} {Q : State → Prop}
variable {mc ms : Nat} {free : Addr → Prop} {A0 A1 : Nat → Prop} {H0 : Heap} {a : Array Value} {ls : Array Slot} {st0 rest : List Value}
variable {Qc : Array Value → State → Outcome → State → Prop} {XC : String → State → State → Prop}
/-- what a body that may throw owes at its end -/
def vx_MQ (below : List Frame) (Qc : Array Value → State → Outcome → State → Prop) (XC : String → State → State → Prop) (a : Array Value) (s : State) (mc ms : Nat) (free : Addr → Prop) : State → Prop := fun t =>
  ∃ o, t.status = .running ∧ Ended t below o ∧ vx_Q Qc XC mc ms free a s o t
theorem vx_ret {g : JFrame} {mc ms : Nat} (k : W p l e R s m args below meth c H locs cells slots (MQ below Qc args s mc ms free) g) : W p l e R s m args below meth c H locs cells slots (vx_MQ below Qc XC args s mc ms free) g := by
  intro T hT X
  obtain ⟨t, a1, o, b1, b2, b3, b4⟩ := k T hT X
  exact ⟨t, a1, o, b1, b2, Or.inl ⟨b3, b4⟩⟩
/-- not caught here: it goes on to the caller -/
theorem vx_widen {g : JFrame} {q : Addr} {k n : Nat} (h1 : cells ≤ k) (h2 : slots ≤ n) (kk : vx_W p l e R s m args below meth c H locs k n Q g q) : vx_W p l e R s m args below meth c H locs cells slots Q g q := fun T hT X => kk T hT (stand_widen X h1 h2)
theorem vx_out {pc : Nat} {E : String} {ce : Cell} {q : Addr} {mc ms : Nat} (hout : ∀ x ∈ c.exceptionTable.toList, covers x pc = false) (hlocks : meth.locks = false) (hcell : H[q]? = some ce) (hv : ce.vm = .none) (hcl : s.vm.findClass E = some ce.cls)
    (hx : ∀ t : State, t.heap = H → s.vm.Alike t.vm → XC E s t) (hf : ∀ z ∈ locs, free z.base) (hc : cells ≤ mc) (hs : slots ≤ ms) :
    vx_W p l e R s m args below meth c H locs cells slots (vx_MQ below Qc XC args s mc ms free) (F0 m pc ls rest) q := by
  intro T hT X
  obtain ⟨st1, hrun, hend, hW, hsm⟩ := X.leaveThrown q (g := F0 m pc ls rest) rfl rfl rfl hout hlocks
  have hcell9 : (T.setFrames (.throwing q :: below)).heap[q]? = some ce := by
    show T.heap[q]? = some ce
    rw [hT]; exact hcell
  exact ⟨_, st1, .threw q, hrun, hend, Or.inr ⟨q, rfl, E, ce, locs, hx _ hT hW.alike, hcell9, hv, hcl, hW, hsm.mono hc hs, hf⟩⟩
theorem vx_frame {U : State} {k n : Nat} (h : s.sameButNew ({ U with vm := s.vm } : State) locs k n) : s.heap.size ≤ U.heap.size ∧ ∀ q : Nat, q < s.heap.size → (∀ z ∈ locs, z.base ≠ q) → U.heap[q]? = s.heap[q]? := by
  obtain ⟨-, h2, -, -, -, h6⟩ := h
  refine ⟨h2, fun q hq hz => ?_⟩
  obtain ⟨c9, e1, e2, e3, e4⟩ := h6 q _ (Array.getElem?_eq_getElem hq)
  have hs : c9.slots = (s.heap[q]).slots := Array.ext_getElem? fun i => e4 i fun hm => hz _ hm rfl
  have h9 : c9 = s.heap[q] := by
    rw [hs] at e2
    exact e2
  have e5 : U.heap[q]? = some c9 := e1
  rw [e5, h9, Array.getElem?_eq_getElem hq]
/-- the words of a throw but the four that speak of the heap -/
def vx_no (w : Cond) : Bool := decide (w ≠ .isRef (.static Bundle.tN "UNASSIGNED_STACK" Bundle.steD)) && decide (w ≠ .isRef (.static Bundle.tN "SUPPRESSED_SENTINEL" Bundle.listD)) && decide (w ≠ .laysStatic Bundle.tN "UNASSIGNED_STACK" Bundle.steD) && decide (w ≠ .laysStatic Bundle.tN "SUPPRESSED_SENTINEL" Bundle.listD)
def vx_at0 (own : String) (ic : Nat) (X : String) (names : List String) : List Cond := (Bundle.ownAtoms0 own ic X names).filter vx_no
def vx_atS (own : String) (ic : Nat) (X : String) (names : List String) : List Cond := (Bundle.ownAtoms own ic X names).filter vx_no
/-- a word that the tables alone decide, or a good one -/
def vx_ot (w : Cond) : Bool := w.onTables || goodWord w
theorem vx_ot_at {args a' : Array Value} {s U : State} {w : Cond} (hW : s.WarmedH U.vm) (hvm : s.vm = U.vm) (hg : vx_ot w = true) (h : w.before args s = true) : w.before a' U = true := by
  simp only [vx_ot, Bool.or_eq_true] at hg
  rcases hg with hg | hg
  · exact va_tabs hg hvm h
  · exact word_at hW (good_of_word hg) h
/-- a list's words: the good ones out of the method's own list, the others by premises of their own -/
theorem vx_hat {args : Array Value} {s : State} {L B : List Cond} (h1 : ∀ w ∈ L.filter goodWord, w.before args s = true) (h2 : ∀ w ∈ L.filter (fun w => !goodWord w), w ∈ B) (h3 : ∀ w ∈ B, w.before args s = true) : ∀ w ∈ L, w.before args s = true := by
  intro w hw
  by_cases g : goodWord w = true
  · exact h1 w (List.mem_filter.mpr ⟨hw, g⟩)
  · refine h3 w (h2 w (List.mem_filter.mpr ⟨hw, ?_⟩))
    show (!goodWord w) = true
    cases hgw : goodWord w
    · rfl
    · exact absurd hgw g
theorem vx_c {args : Array Value} {s : State} {w : Cond} {B : List Cond} (h : w.before args s = true) (t : ∀ w ∈ B, w.before args s = true) : ∀ w' ∈ w :: B, w'.before args s = true := fun w' h' => (List.mem_cons.mp h').elim (fun e => by rw [e]; exact h) (t w')
theorem vx_n {args : Array Value} {s : State} : ∀ w ∈ ([] : List Cond), w.before args s = true := fun _ h => nomatch h
theorem vx_own {args : Array Value} {s : State} {L : List Cond} (h1 : ∀ w ∈ L.filter vx_no, w.before args s = true)
    (hU : (Cond.isRef (.static Bundle.tN "UNASSIGNED_STACK" Bundle.steD)).before args s = true) (hN : (Cond.isRef (.static Bundle.tN "SUPPRESSED_SENTINEL" Bundle.listD)).before args s = true)
    (lU : (Cond.laysStatic Bundle.tN "UNASSIGNED_STACK" Bundle.steD).before args s = true) (lN : (Cond.laysStatic Bundle.tN "SUPPRESSED_SENTINEL" Bundle.listD).before args s = true) : ∀ w ∈ L, w.before args s = true := by
  intro w hw
  by_cases e1 : w = .isRef (.static Bundle.tN "UNASSIGNED_STACK" Bundle.steD)
  · rw [e1]; exact hU
  · by_cases e2 : w = .isRef (.static Bundle.tN "SUPPRESSED_SENTINEL" Bundle.listD)
    · rw [e2]; exact hN
    · by_cases e3 : w = .laysStatic Bundle.tN "UNASSIGNED_STACK" Bundle.steD
      · rw [e3]; exact lU
      · by_cases e4 : w = .laysStatic Bundle.tN "SUPPRESSED_SENTINEL" Bundle.listD
        · rw [e4]; exact lN
        · exact h1 w (List.mem_filter.mpr ⟨hw, by unfold vx_no; rw [decide_eq_true e1, decide_eq_true e2, decide_eq_true e3, decide_eq_true e4]; rfl⟩)
/-- where a static field lies, its class's statics cell in H -/
def vx_L (C n d : String) (A : Nat → Prop) (U : State) (H : Heap) : Prop := ∃ (c : ClassId) (k : Class) (i : Nat) (f : Field) (a : Nat) (cell : Cell), U.vm.findClass C = some c ∧ U.fieldFound? C n d = some (c, k, i, f) ∧ f.isStatic = true ∧ k.statics = some a ∧ H[a]? = some cell ∧ cell.vm.isStatics = true ∧ cell.cls = c ∧ f.slot < cell.slots.size ∧ k.staticTypes[f.slot]? = some f.type ∧ ¬ A a
theorem vx_L.moved {C n d : String} {A : Nat → Prop} {u U : State} {H : Heap} (hvm : u.vm.Alike U.vm) (h : vx_L C n d A u H) : vx_L C n d A U H := by
  obtain ⟨c, k, i, f, a, cell, h1, h2, h3, h4, h5, h6, h7, h8, h9, h10⟩ := h
  obtain ⟨k', hi', he⟩ := State.fieldFound?_setVm hvm h2
  exact ⟨c, k', i, f, a, cell, by rw [hvm.findClass]; exact h1, hi', h3, by rw [he]; exact h4, h5, h6, h7, h8, by rw [he]; exact h9, h10⟩
theorem vx_L.kept {C n d : String} {A : Nat → Prop} {U : State} {H H1 : Heap} (h : vx_L C n d A U H) (hq : ∀ a : Nat, a < H.size → ¬ A a → H1[a]? = H[a]?) : vx_L C n d A U H1 := by
  obtain ⟨c, k, i, f, a, cell, h1, h2, h3, h4, h5, h6, h7, h8, h9, h10⟩ := h
  exact ⟨c, k, i, f, a, cell, h1, h2, h3, h4, by rw [hq a (Array.getElem?_eq_some_iff.mp h5).1 h10]; exact h5, h6, h7, h8, h9, h10⟩
theorem vx_L.narrow {C n d : String} {A B : Nat → Prop} {U : State} {H : Heap} (h : vx_L C n d A U H) (hAB : ∀ q, B q → A q) : vx_L C n d B U H := by
  obtain ⟨c, k, i, f, a, cell, h1, h2, h3, h4, h5, h6, h7, h8, h9, h10⟩ := h
  exact ⟨c, k, i, f, a, cell, h1, h2, h3, h4, h5, h6, h7, h8, h9, fun z => h10 (hAB _ z)⟩
theorem vx_L.word {C n d : String} {A : Nat → Prop} {s : State} {args : Array Value} (h : vx_L C n d A s s.heap) : (Cond.laysStatic C n d).before args s = true := by
  obtain ⟨c, k, i, f, a, cell, h1, h2, h3, h4, h5, h6, h7, h8, h9, -⟩ := h
  show (Cond.laysStatic C n d).holds args s none s [] = true
  exact Cond.laysStatic_of h1 h2 h3 h4 h5 h6 h7 h8 h9
/-- .. and what it holds: null or some reference -/
def vx_Zq (C n d : String) (A : Nat → Prop) (U : State) (H : Heap) : Prop := va_Zq C n d A U H ∧ vx_L C n d A U H
theorem vx_Zq.moved {C n d : String} {A : Nat → Prop} {u U : State} {H : Heap} (hvm : u.vm.Alike U.vm) (h : vx_Zq C n d A u H) : vx_Zq C n d A U H := ⟨va_Zq.moved hvm h.1, vx_L.moved hvm h.2⟩
theorem vx_Zq.kept {C n d : String} {A : Nat → Prop} {U : State} {H H1 : Heap} (h : vx_Zq C n d A U H) (hq : ∀ a : Nat, a < H.size → ¬ A a → H1[a]? = H[a]?) : vx_Zq C n d A U H1 := ⟨va_Zq.kept h.1 hq, vx_L.kept h.2 hq⟩
theorem vx_Zq.narrow {C n d : String} {A B : Nat → Prop} {U : State} {H : Heap} (h : vx_Zq C n d A U H) (hAB : ∀ q, B q → A q) : vx_Zq C n d B U H := ⟨va_Zq.narrow h.1 hAB, vx_L.narrow h.2 hAB⟩
theorem vx_Zqof {args : Array Value} {s : State} {C n d : String} {A : Nat → Prop} (hl : (Cond.laysStatic C n d).before args s = true) (hini : (Cond.initialized C).before args s = true) (h : (Cond.isRef (.static C n d)).before args s = true) (hA : ∀ a : Nat, a < s.heap.size → ¬ A a) : vx_Zq C n d A s s.heap := by
  refine ⟨va_Zqof hl hini h hA, ?_⟩
  obtain ⟨c, k, i, f, a, cell, h1, h2, h3, h4, h5, h6, h7, h8, h9⟩ := Cond.laysStatic_spec hl
  exact ⟨c, k, i, f, a, cell, h1, h2, h3, h4, h5, h6, h7, h8, h9, hA a (Array.getElem?_eq_some_iff.mp h5).1⟩
theorem vx_isRef {C n d : String} {v : Value} {A : Nat → Prop} {s : State} {args : Array Value} (h : va_Z C n d v A s s.heap) (hv : v.isRef = true) : (Cond.isRef (.static C n d)).before args s = true := by
  obtain ⟨cf, kf, fi, f, a, cell, h1, h2, h3, h4, h5, h6, h7, -⟩ := h
  have he : (Term.static C n d).eval args s none [] s = some v := by
    simp [Term.eval, State.fieldNamed?, h1, h2, h4, h5, h6, h7]
  simp only [Cond.before, Cond.holds, Cond.value, he]
  cases v <;> simp_all [Value.isRef]
theorem vx_isRefq {C n d : String} {A : Nat → Prop} {s : State} {args : Array Value} (h : va_Zq C n d A s s.heap) : (Cond.isRef (.static C n d)).before args s = true := by
  rcases h with h | ⟨t, h⟩
  · exact vx_isRef h rfl
  · exact vx_isRef h rfl
/-- the same frame, seen from here: as if the method were called anew in this heap -/
theorem vx_rebase {T : State} (X : Stand p l e R s m args below meth c T locs cells slots) {R' : Room} (hf : R'.frames ≤ R.frames) (hl : R'.locals ≤ R.locals) (hc : cells + R'.cells ≤ R.cells) (hs : slots + R'.slots ≤ R.slots) :
    Stand p l e R' ((T.setVm s.vm).setFrames (.invoking m args :: below)) m args below meth c T [] 0 0 := by
  have htop : (T.setVm s.vm).topJava?.isSome := X.here.top
  have hF : ((T.setVm s.vm).setFrames (.invoking m args :: below)).frames = .invoking m args :: below := State.frames_setFrames _ (State.cur_lt_of_top htop)
  obtain ⟨g₀, hg0⟩ := Option.isSome_iff_exists.mp htop
  obtain ⟨r, hr⟩ := State.topJava?_eq_some.mp hg0
  have hl9 : e.platform.stackLimits (T.setVm s.vm).me = e.platform.stackLimits s.me := X.limits
  have hb9 : (T.setVm s.vm).me.stackBytes = s.me.stackBytes := X.bytes
  refine ⟨X.admits, X.cas, X.clock, hF, ?_, X.hears, X.method, X.code, X.here, X.tail, X.warmed, ?_, ?_, ?_⟩
  · have h := X.room
    have hU : ((T.setVm s.vm).setFrames (.invoking m args :: below)).localsInUse = s.localsInUse := by
      rw [State.localsInUse_invoking hF (meth := meth) (c := c) X.method X.code, State.localsInUse_invoking X.frames X.method X.code]
    simp only [State.hasRoom, Bool.and_eq_true, decide_eq_true_eq] at h ⊢
    obtain ⟨⟨⟨⟨h1, h2, h3, h4, h5, h6⟩, h7⟩, h8⟩, h9⟩ := h
    rw [X.frames, List.length_cons] at h2 h3
    have q1 := X.heapSize
    have q2 := X.used
    simp only [hF, hU, List.length_cons, State.stackLimits_setFrames, State.stackBytes_setFrames, hl9, hb9]
    refine ⟨⟨⟨⟨by omega, by omega, by omega, by omega, by omega, h6⟩, ?_⟩, ?_⟩, X.book⟩
    · show T.heap.size + R'.cells ≤ e.platform.maxCells
      omega
    · show T.slotsUsed + R'.slots ≤ e.platform.maxSlots
      omega
  · rw [State.stackLimits_setFrames]; rfl
  · rw [State.stackBytes_setFrames]; rfl
  · refine ⟨?_, Nat.le_refl _, Nat.le_refl _, ?_, ?_, fun a c9 h9 => ⟨c9, h9, rfl, rfl, fun _ _ => rfl⟩⟩
    · obtain ⟨t, ht, -⟩ := State.frames_cons hr
      show T.setVm s.vm = { ((T.setVm s.vm).setFrames (.invoking m args :: below)).setFrames (T.setVm s.vm).frames with heap := T.heap, slotsUsed := T.slotsUsed }
      rw [State.setFrames_setFrames, State.setFrames_self ht]
      rfl
    · show T.slotsUsed = T.slotsUsed + ((T.heap.toList.drop T.heap.size).map (·.slots.size)).sum
      rw [List.drop_eq_nil_of_le (Nat.le_of_eq Array.length_toList)]
      rfl
    · show ((T.heap.toList.drop T.heap.size).map (·.slots.size)).sum ≤ 0
      rw [List.drop_eq_nil_of_le (Nat.le_of_eq Array.length_toList)]
      exact Nat.le_refl _
/-- 'throw new E()': new; dup; invokespecial; athrow -/
theorem vx_throw0 {cc : ByteArray} {pc : Nat} (hexec : p.tables.exec = Jvm.exec) (hb : c.code = cc) (hl : l.stackTraces = false) {own cls : String} {names : List String} {ik ic mc ms : Nat} {A : Nat → Prop}
    (hown : s.vm.findClass own = some m.cls) (hcls : Bundle.fit cls = true) (hnames : ∀ n ∈ names, Bundle.fit n = true)
    (hk : (Cond.classLink own ik cls).before args s = true) (hini : (Cond.initialized cls).before args s = true) (hat : ∀ w ∈ vx_at0 own ic cls names, w.before args s = true)
    (hgood : ∀ w ∈ Cond.classLink own ik cls :: Cond.initialized cls :: vx_at0 own ic cls names, vx_ot w = true)
    (hU : vx_Zq Bundle.tN "UNASSIGNED_STACK" Bundle.steD A s s.heap) (hN : vx_Zq Bundle.tN "SUPPRESSED_SENTINEL" Bundle.listD A s s.heap) (hS : va_S A s.heap H locs) (hsize : ls.size = c.maxLocals)
    (d0 : decode cc pc = .ok (.new ik, 3)) (d3 : decode cc (pc + 3) = .ok (.dup, 1)) (d4 : decode cc (pc + 4) = .ok (.invokespecial ic, 3)) (d7 : decode cc (pc + 7) = .ok (.athrow, 1))
    (hout : ∀ x ∈ c.exceptionTable.toList, covers x (pc + 7) = false)
    (hRframes : names.length + 3 < R.frames) (hRlocals : (rest.map fun v => v.category).sum + (13 * (names.length + 1) + 42) ≤ R.locals) (hRcells : cells + 1 ≤ R.cells) (hRslots : slots + 6 ≤ R.slots) (hlocks : meth.locks = false)
    (hx : ∀ t : State, s.vm.Alike t.vm → H.size ≤ t.heap.size → (∀ q : Nat, q < H.size → t.heap[q]? = H[q]?) → XC cls s t)
    (hf : ∀ z ∈ locs, free z.base) (hc : cells + 1 ≤ mc) (hs : slots + 6 ≤ ms) :
    W p l e R s m args below meth c H locs cells slots (vx_MQ below Qc XC args s mc ms free) (F0 m pc ls rest) := by
  intro T hT X
  have htr : e.platform.stackTraces = false := (show e.platform.stackTraces = l.stackTraces by rw [X.admits.platform]).trans hl
  have Y := vx_rebase X (R' := { frames := R.frames, locals := R.locals, cells := 1, slots := 6 }) (Nat.le_refl _) (Nat.le_refl _) hRcells hRslots
  obtain ⟨s', hA⟩ : ∃ z, z = (T.setVm s.vm).setFrames (.invoking m args :: below) := ⟨_, rfl⟩
  rw [← hA] at Y
  have hvm : s'.vm = s.vm := by rw [hA]; rfl
  have hhp : s'.heap = H := by rw [hA]; exact hT
  have hW0 : s.WarmedH s'.vm := by rw [hvm]; exact State.WarmedH.refl s
  have hat' : ∀ w ∈ vx_at0 own ic cls names, w.before args s' = true := fun w hw => vx_ot_at hW0 hvm.symm (hgood w (List.mem_cons_of_mem _ (List.mem_cons_of_mem _ hw))) (hat w hw)
  have hk' : (Cond.classLink own ik cls).before args s' = true := vx_ot_at hW0 hvm.symm (hgood _ List.mem_cons_self) hk
  have hini' : (Cond.initialized cls).before args s' = true := vx_ot_at hW0 hvm.symm (hgood _ (List.mem_cons_of_mem _ List.mem_cons_self)) hini
  have hU' : vx_Zq Bundle.tN "UNASSIGNED_STACK" Bundle.steD A s' s'.heap := by rw [hhp]; exact vx_Zq.moved hW0.alike (hU.kept hS.2.1)
  have hN' : vx_Zq Bundle.tN "SUPPRESSED_SENTINEL" Bundle.listD A s' s'.heap := by rw [hhp]; exact vx_Zq.moved hW0.alike (hN.kept hS.2.1)
  have h : ∀ w ∈ Bundle.ownAtoms0 own ic cls names, w.before args s' = true := vx_own hat' (vx_isRefq hU'.1) (vx_isRefq hN'.1) hU'.2.word hN'.2.word
  have hown' : s'.vm.findClass own = some m.cls := by rw [hvm]; exact hown
  have hins : (Cond.instantiable cls 6).before args s' = true := h _ (by simp [Bundle.ownAtoms0])
  obtain ⟨vm₁, cX, kX, hfX, hkX, -, -, X₁, st1⟩ := Y.newCold hexec (own := own) (C := cls) (index := ik) (n := 6) hown' hk' hins hini'
    (g := F0 m pc ls rest) rfl (by rw [hb]; exact d0) (Nat.le_refl _) (Nat.le_refl _)
  generalize hT1 : (T.setVm vm₁).pushCell { cls := cX, slots := kX.instanceTypes.map defaultValue, vm := .none } = T1 at X₁ st1
  have hcat : (Value.ref T.heap.size).category = 1 := rfl
  have hcellA : T1.heap[T.heap.size]? = some (freshCell cX kX) := by rw [← hT1]; exact State.heap_pushCell_size _ _
  have d3' : decode c.code (pc + 3) = .ok (.dup, 1) := by rw [hb]; exact d3
  obtain ⟨U, hsteps, hrun, hend, hW, hsame, ce, hce, hO⟩ := X₁.ctorThrow0 hexec htr (own := own) (cls := cls) (names := names) (ic := ic) hown' hcls hnames h (fun x hx => nomatch hx) hfX hkX hcellA (by rw [hhp, hT]; exact Nat.le_refl _)
    (g := { method := m, pc := pc + 4, locals := ls, stack := .ref T.heap.size :: .ref T.heap.size :: rest, locked := none }) rfl hsize rfl rfl (rest := rest) rfl
    (by rw [hb]; exact d4) (by rw [hb]; exact d7) hout hRframes (by simp only [List.map_cons, List.sum_cons, hcat]; omega) hlocks
  obtain ⟨f1, f2⟩ := vx_frame hsame
  rw [hhp] at f1 f2
  have hWs : s.WarmedH U.vm := State.WarmedH.trans hW0 hW
  have hcl : s.vm.findClass cls = some ce.cls := by
    have h9 := hO.cls
    rw [hvm] at h9
    exact h9
  have hall : s.sameButNew ({ U with vm := s.vm } : State) locs mc ms := by
    subst hA
    obtain ⟨e1, e2⟩ := hsame
    rw [State.setFrames_setFrames] at e1
    have h2 : (T.setVm s.vm).sameButNew ({ U with vm := s.vm } : State) [] (0 + 1) (0 + 6) := ⟨e1, e2⟩
    have h3 := X.same.trans h2
    rw [List.append_nil] at h3
    exact h3.mono hc hs
  refine ⟨U, ?_, .threw T.heap.size, hrun, hend, Or.inr ⟨T.heap.size, rfl, cls, ce, locs, hx U hWs.alike f1 (fun q hq => f2 q hq (fun z hz => nomatch hz)), hce, hO.vm, hcl, hWs, hall, hf⟩⟩
  refine st1 _ ?_
  show Steps p.tables e below (T1.setTop { method := m, pc := pc + 3, locals := ls, stack := .ref T.heap.size :: rest, locked := none }) _
  jvm_step X₁.here [X₁.here.top, hexec, d3', Value.category]
  exact hsteps
/-- 'throw new E("text")': new; dup; ldc; invokespecial; athrow -/
theorem vx_throwS {cc : ByteArray} {pc : Nat} (hexec : p.tables.exec = Jvm.exec) (hb : c.code = cc) (hl : l.stackTraces = false) {own cls text : String} {names : List String} {ik is ic mc ms sa : Nat} {A : Nat → Prop}
    (hown : s.vm.findClass own = some m.cls) (hcls : Bundle.fit cls = true) (hnames : ∀ n ∈ names, Bundle.fit n = true)
    (hk : (Cond.classLink own ik cls).before args s = true) (hini : (Cond.initialized cls).before args s = true) (hstr : vk_R own is text sa s) (hat : ∀ w ∈ vx_atS own ic cls names, w.before args s = true)
    (hgood : ∀ w ∈ Cond.classLink own ik cls :: Cond.initialized cls :: vx_atS own ic cls names, vx_ot w = true)
    (hU : vx_Zq Bundle.tN "UNASSIGNED_STACK" Bundle.steD A s s.heap) (hN : vx_Zq Bundle.tN "SUPPRESSED_SENTINEL" Bundle.listD A s s.heap) (hS : va_S A s.heap H locs) (hsize : ls.size = c.maxLocals)
    (d0 : decode cc pc = .ok (.new ik, 3)) (d3 : decode cc (pc + 3) = .ok (.dup, 1)) (d4 : decode cc (pc + 4) = .ok (.ldc is, 2)) (d6 : decode cc (pc + 6) = .ok (.invokespecial ic, 3)) (d9 : decode cc (pc + 9) = .ok (.athrow, 1))
    (hout : ∀ x ∈ c.exceptionTable.toList, covers x (pc + 9) = false)
    (hRframes : names.length + 3 < R.frames) (hRlocals : (rest.map fun v => v.category).sum + (13 * (names.length + 1) + 43) ≤ R.locals) (hRcells : cells + 1 ≤ R.cells) (hRslots : slots + 6 ≤ R.slots) (hlocks : meth.locks = false)
    (hx : ∀ t : State, s.vm.Alike t.vm → H.size ≤ t.heap.size → (∀ q : Nat, q < H.size → t.heap[q]? = H[q]?) → XC cls s t)
    (hf : ∀ z ∈ locs, free z.base) (hc : cells + 1 ≤ mc) (hs : slots + 6 ≤ ms) :
    W p l e R s m args below meth c H locs cells slots (vx_MQ below Qc XC args s mc ms free) (F0 m pc ls rest) := by
  intro T hT X
  have htr : e.platform.stackTraces = false := (show e.platform.stackTraces = l.stackTraces by rw [X.admits.platform]).trans hl
  have Y := vx_rebase X (R' := { frames := R.frames, locals := R.locals, cells := 1, slots := 6 }) (Nat.le_refl _) (Nat.le_refl _) hRcells hRslots
  obtain ⟨s', hA⟩ : ∃ z, z = (T.setVm s.vm).setFrames (.invoking m args :: below) := ⟨_, rfl⟩
  rw [← hA] at Y
  have hvm : s'.vm = s.vm := by rw [hA]; rfl
  have hhp : s'.heap = H := by rw [hA]; exact hT
  have hW0 : s.WarmedH s'.vm := by rw [hvm]; exact State.WarmedH.refl s
  have hat' : ∀ w ∈ vx_atS own ic cls names, w.before args s' = true := fun w hw => vx_ot_at hW0 hvm.symm (hgood w (List.mem_cons_of_mem _ (List.mem_cons_of_mem _ hw))) (hat w hw)
  have hk' : (Cond.classLink own ik cls).before args s' = true := vx_ot_at hW0 hvm.symm (hgood _ List.mem_cons_self) hk
  have hini' : (Cond.initialized cls).before args s' = true := vx_ot_at hW0 hvm.symm (hgood _ (List.mem_cons_of_mem _ List.mem_cons_self)) hini
  have hU' : vx_Zq Bundle.tN "UNASSIGNED_STACK" Bundle.steD A s' s'.heap := by rw [hhp]; exact vx_Zq.moved hW0.alike (hU.kept hS.2.1)
  have hN' : vx_Zq Bundle.tN "SUPPRESSED_SENTINEL" Bundle.listD A s' s'.heap := by rw [hhp]; exact vx_Zq.moved hW0.alike (hN.kept hS.2.1)
  have h : ∀ w ∈ Bundle.ownAtoms own ic cls names, w.before args s' = true := vx_own hat' (vx_isRefq hU'.1) (vx_isRefq hN'.1) hU'.2.word hN'.2.word
  have hown' : s'.vm.findClass own = some m.cls := by rw [hvm]; exact hown
  have hins : (Cond.instantiable cls 6).before args s' = true := h _ (by simp [Bundle.ownAtoms])
  obtain ⟨vm₁, cX, kX, hfX, hkX, -, -, X₁, st1⟩ := Y.newCold hexec (own := own) (C := cls) (index := ik) (n := 6) hown' hk' hins hini'
    (g := F0 m pc ls rest) rfl (by rw [hb]; exact d0) (Nat.le_refl _) (Nat.le_refl _)
  generalize hT1 : (T.setVm vm₁).pushCell { cls := cX, slots := kX.instanceTypes.map defaultValue, vm := .none } = T1 at X₁ st1
  have hcat : (Value.ref T.heap.size).category = 1 := rfl
  have hcellA : T1.heap[T.heap.size]? = some (freshCell cX kX) := by rw [← hT1]; exact State.heap_pushCell_size _ _
  have d3' : decode c.code (pc + 3) = .ok (.dup, 1) := by rw [hb]; exact d3
  have d4' : decode c.code (pc + 4) = .ok (.ldc is, 2) := by rw [hb]; exact d4
  have hstr' : vk_R own is text sa s' := vk_R.warm hW0 hstr
  obtain ⟨U, hsteps, hrun, hend, hW, hsame, ce, hce, hO⟩ := X₁.ctorThrowS hexec htr (own := own) (cls := cls) (names := names) (ic := ic) hown' hcls hnames h (fun x hx => nomatch hx) hfX hkX hcellA (by rw [hhp, hT]; exact Nat.le_refl _) (msg := .ref sa) rfl
    (g := { method := m, pc := pc + 6, locals := ls, stack := .ref sa :: .ref T.heap.size :: .ref T.heap.size :: rest, locked := none }) rfl hsize rfl rfl (rest := rest) rfl
    (by rw [hb]; exact d6) (by rw [hb]; exact d9) hout hRframes (by simp only [List.map_cons, List.sum_cons, hcat]; omega) hlocks
  obtain ⟨f1, f2⟩ := vx_frame hsame
  rw [hhp] at f1 f2
  have hWs : s.WarmedH U.vm := State.WarmedH.trans hW0 hW
  have hcl : s.vm.findClass cls = some ce.cls := by
    have h9 := hO.cls
    rw [hvm] at h9
    exact h9
  have hall : s.sameButNew ({ U with vm := s.vm } : State) locs mc ms := by
    subst hA
    obtain ⟨e1, e2⟩ := hsame
    rw [State.setFrames_setFrames] at e1
    have h2 : (T.setVm s.vm).sameButNew ({ U with vm := s.vm } : State) [] (0 + 1) (0 + 6) := ⟨e1, e2⟩
    have h3 := X.same.trans h2
    rw [List.append_nil] at h3
    exact h3.mono hc hs
  refine ⟨U, ?_, .threw T.heap.size, hrun, hend, Or.inr ⟨T.heap.size, rfl, cls, ce, locs, hx U hWs.alike f1 (fun q hq => f2 q hq (fun z hz => nomatch hz)), hce, hO.vm, hcl, hWs, hall, hf⟩⟩
  refine st1 _ ?_
  show Steps p.tables e below (T1.setTop { method := m, pc := pc + 3, locals := ls, stack := .ref T.heap.size :: rest, locked := none }) _
  jvm_step X₁.here [X₁.here.top, hexec, d3', Value.category]
  exact X₁.ldcString hexec (own := own) (text := text) (index := is) (a := sa) hown' hstr'.1 hstr'.2
    (g := { method := m, pc := pc + 4, locals := ls, stack := .ref T.heap.size :: .ref T.heap.size :: rest, locked := none }) rfl d4' _ hsteps
/-- 'throw new E("text")', the text by a wide index -/
theorem vx_throwSW {cc : ByteArray} {pc : Nat} (hexec : p.tables.exec = Jvm.exec) (hb : c.code = cc) (hl : l.stackTraces = false) {own cls text : String} {names : List String} {ik is ic mc ms sa : Nat} {A : Nat → Prop}
    (hown : s.vm.findClass own = some m.cls) (hcls : Bundle.fit cls = true) (hnames : ∀ n ∈ names, Bundle.fit n = true)
    (hk : (Cond.classLink own ik cls).before args s = true) (hini : (Cond.initialized cls).before args s = true) (hstr : vk_R own is text sa s) (hat : ∀ w ∈ vx_atS own ic cls names, w.before args s = true)
    (hgood : ∀ w ∈ Cond.classLink own ik cls :: Cond.initialized cls :: vx_atS own ic cls names, vx_ot w = true)
    (hU : vx_Zq Bundle.tN "UNASSIGNED_STACK" Bundle.steD A s s.heap) (hN : vx_Zq Bundle.tN "SUPPRESSED_SENTINEL" Bundle.listD A s s.heap) (hS : va_S A s.heap H locs) (hsize : ls.size = c.maxLocals)
    (d0 : decode cc pc = .ok (.new ik, 3)) (d3 : decode cc (pc + 3) = .ok (.dup, 1)) (d4 : decode cc (pc + 4) = .ok (.ldc_w is, 3)) (d7 : decode cc (pc + 7) = .ok (.invokespecial ic, 3)) (d10 : decode cc (pc + 10) = .ok (.athrow, 1))
    (hout : ∀ x ∈ c.exceptionTable.toList, covers x (pc + 10) = false)
    (hRframes : names.length + 3 < R.frames) (hRlocals : (rest.map fun v => v.category).sum + (13 * (names.length + 1) + 43) ≤ R.locals) (hRcells : cells + 1 ≤ R.cells) (hRslots : slots + 6 ≤ R.slots) (hlocks : meth.locks = false)
    (hx : ∀ t : State, s.vm.Alike t.vm → H.size ≤ t.heap.size → (∀ q : Nat, q < H.size → t.heap[q]? = H[q]?) → XC cls s t)
    (hf : ∀ z ∈ locs, free z.base) (hc : cells + 1 ≤ mc) (hs : slots + 6 ≤ ms) :
    W p l e R s m args below meth c H locs cells slots (vx_MQ below Qc XC args s mc ms free) (F0 m pc ls rest) := by
  intro T hT X
  have htr : e.platform.stackTraces = false := (show e.platform.stackTraces = l.stackTraces by rw [X.admits.platform]).trans hl
  have Y := vx_rebase X (R' := { frames := R.frames, locals := R.locals, cells := 1, slots := 6 }) (Nat.le_refl _) (Nat.le_refl _) hRcells hRslots
  obtain ⟨s', hA⟩ : ∃ z, z = (T.setVm s.vm).setFrames (.invoking m args :: below) := ⟨_, rfl⟩
  rw [← hA] at Y
  have hvm : s'.vm = s.vm := by rw [hA]; rfl
  have hhp : s'.heap = H := by rw [hA]; exact hT
  have hW0 : s.WarmedH s'.vm := by rw [hvm]; exact State.WarmedH.refl s
  have hat' : ∀ w ∈ vx_atS own ic cls names, w.before args s' = true := fun w hw => vx_ot_at hW0 hvm.symm (hgood w (List.mem_cons_of_mem _ (List.mem_cons_of_mem _ hw))) (hat w hw)
  have hk' : (Cond.classLink own ik cls).before args s' = true := vx_ot_at hW0 hvm.symm (hgood _ List.mem_cons_self) hk
  have hini' : (Cond.initialized cls).before args s' = true := vx_ot_at hW0 hvm.symm (hgood _ (List.mem_cons_of_mem _ List.mem_cons_self)) hini
  have hU' : vx_Zq Bundle.tN "UNASSIGNED_STACK" Bundle.steD A s' s'.heap := by rw [hhp]; exact vx_Zq.moved hW0.alike (hU.kept hS.2.1)
  have hN' : vx_Zq Bundle.tN "SUPPRESSED_SENTINEL" Bundle.listD A s' s'.heap := by rw [hhp]; exact vx_Zq.moved hW0.alike (hN.kept hS.2.1)
  have h : ∀ w ∈ Bundle.ownAtoms own ic cls names, w.before args s' = true := vx_own hat' (vx_isRefq hU'.1) (vx_isRefq hN'.1) hU'.2.word hN'.2.word
  have hown' : s'.vm.findClass own = some m.cls := by rw [hvm]; exact hown
  have hins : (Cond.instantiable cls 6).before args s' = true := h _ (by simp [Bundle.ownAtoms])
  obtain ⟨vm₁, cX, kX, hfX, hkX, -, -, X₁, st1⟩ := Y.newCold hexec (own := own) (C := cls) (index := ik) (n := 6) hown' hk' hins hini'
    (g := F0 m pc ls rest) rfl (by rw [hb]; exact d0) (Nat.le_refl _) (Nat.le_refl _)
  generalize hT1 : (T.setVm vm₁).pushCell { cls := cX, slots := kX.instanceTypes.map defaultValue, vm := .none } = T1 at X₁ st1
  have hcat : (Value.ref T.heap.size).category = 1 := rfl
  have hcellA : T1.heap[T.heap.size]? = some (freshCell cX kX) := by rw [← hT1]; exact State.heap_pushCell_size _ _
  have d3' : decode c.code (pc + 3) = .ok (.dup, 1) := by rw [hb]; exact d3
  have d4' : decode c.code (pc + 4) = .ok (.ldc_w is, 3) := by rw [hb]; exact d4
  have hstr' : vk_R own is text sa s' := vk_R.warm hW0 hstr
  obtain ⟨U, hsteps, hrun, hend, hW, hsame, ce, hce, hO⟩ := X₁.ctorThrowS hexec htr (own := own) (cls := cls) (names := names) (ic := ic) hown' hcls hnames h (fun x hx => nomatch hx) hfX hkX hcellA (by rw [hhp, hT]; exact Nat.le_refl _) (msg := .ref sa) rfl
    (g := { method := m, pc := pc + 7, locals := ls, stack := .ref sa :: .ref T.heap.size :: .ref T.heap.size :: rest, locked := none }) rfl hsize rfl rfl (rest := rest) rfl
    (by rw [hb]; exact d7) (by rw [hb]; exact d10) hout hRframes (by simp only [List.map_cons, List.sum_cons, hcat]; omega) hlocks
  obtain ⟨f1, f2⟩ := vx_frame hsame
  rw [hhp] at f1 f2
  have hWs : s.WarmedH U.vm := State.WarmedH.trans hW0 hW
  have hcl : s.vm.findClass cls = some ce.cls := by
    have h9 := hO.cls
    rw [hvm] at h9
    exact h9
  have hall : s.sameButNew ({ U with vm := s.vm } : State) locs mc ms := by
    subst hA
    obtain ⟨e1, e2⟩ := hsame
    rw [State.setFrames_setFrames] at e1
    have h2 : (T.setVm s.vm).sameButNew ({ U with vm := s.vm } : State) [] (0 + 1) (0 + 6) := ⟨e1, e2⟩
    have h3 := X.same.trans h2
    rw [List.append_nil] at h3
    exact h3.mono hc hs
  refine ⟨U, ?_, .threw T.heap.size, hrun, hend, Or.inr ⟨T.heap.size, rfl, cls, ce, locs, hx U hWs.alike f1 (fun q hq => f2 q hq (fun z hz => nomatch hz)), hce, hO.vm, hcl, hWs, hall, hf⟩⟩
  refine st1 _ ?_
  show Steps p.tables e below (T1.setTop { method := m, pc := pc + 3, locals := ls, stack := .ref T.heap.size :: rest, locked := none }) _
  jvm_step X₁.here [X₁.here.top, hexec, d3', Value.category]
  exact X₁.ldcStringW hexec (own := own) (text := text) (index := is) (a := sa) hown' hstr'.1 hstr'.2
    (g := { method := m, pc := pc + 4, locals := ls, stack := .ref T.heap.size :: .ref T.heap.size :: rest, locked := none }) rfl d4' _ hsteps
end Ends
section Bodies
variable {l : Launch}
theorem vx_ofW {y : MethodName} {ws ws' : List Cond} {rm : Room} {Pc : Array Value → State → Prop} {Qc : Array Value → State → Outcome → State → Prop} {XC : String → State → State → Prop} {mc ms : Nat} {free : Addr → Prop} {cc : ByteArray} {maxL : Nat} {ret : Option FieldType}
    (hy : plainName y.cls = true) (hw : ws = Cond.code y cc maxL ret :: ws')
    (body : ∀ p e s m args below meth c s₁, BodyLoose p l y (headSpec ws rm) cc maxL ret e s m args below meth c s₁ → c.maxLocals = maxL → (∀ x ∈ c.exceptionTable.toList, False) → Pc args s →
      W p l e (headSpec ws rm).room s m args below meth c s.heap [] 0 0 (vx_MQ below Qc XC args s mc ms free) (entryFrame m args maxL)) : vx_Met l y ws rm Pc Qc XC mc ms free := by
  refine MetFree.of_bodyS (code := cc) (maxLocals := maxL) (ret := ret) hy ?_ ?_
  · intro args s m h hn
    obtain ⟨meth, c, h1, h2, h3, h4, h5, h6, -, -⟩ := Cond.code_spec hn (atoms_spec (ws := ws) h _ (by rw [hw]; exact List.mem_cons_self))
    exact ⟨meth, c, h1, h2, h3, h4, h5, h6⟩
  · intro p e s m args below meth c s₁ B hml hP _
    have hh0 : s₁.heap = s.heap := by rw [B.state]; rfl
    have ht : ∀ x ∈ c.exceptionTable.toList, False := by
      obtain ⟨meth9, c9, h1, h2, -, -, -, -, h7, -⟩ := Cond.code_spec B.named (atoms_spec (ws := ws) B.pre _ (by rw [hw]; exact List.mem_cons_self))
      cases Option.some.inj (h1.symm.trans B.method)
      cases Option.some.inj (h2.symm.trans (Stand.of_body B).code)
      intro x hx
      rw [Array.isEmpty_iff.mp h7] at hx
      cases hx
    obtain ⟨t, a1, o, b1, b2, b3⟩ := body p e s m args below meth c s₁ B hml ht hP s₁ hh0 (Stand.of_body B)
    exact ⟨t, o, a1, b1, b2, b3⟩
/-- the table of a body with handlers -/
theorem vx_table {p : Program} {x y : MethodName} {S : Spec} {cc bytes : ByteArray} {maxL maxL' : Nat} {ret ret' : Option FieldType} {e : Env} {s s₁ : State} {m : MethodId} {args : Array Value} {below : List Frame} {meth : Method} {c : Code} {hh : List (Nat × Nat × Nat × Nat)}
    (B : BodyLoose p l y S cc maxL ret e s m args below meth c s₁) (h : (Cond.codeWith y bytes maxL' ret' hh).before args s = true) : c.exceptionTable.toList = tableOf hh := by
  obtain ⟨m9, meth9, c9, hn9, h1, h2, -, -, h6, -⟩ := Cond.codeWith_spec h
  cases Option.some.inj (hn9.symm.trans B.named)
  cases Option.some.inj (h1.symm.trans B.method)
  cases Option.some.inj (h2.symm.trans (Stand.of_body B).code)
  rw [← h6, table_eq]
end Bodies
end VXA
/-! ===== END ===== -/
/-! ===== BEGIN a static call of a method with an exception table ===== -/
section VXS
variable {p : Program} {l : Launch} {e : Env} {R : Room} {s : State} {m : MethodId} {args : Array Value} {below : List Frame} {meth : Method} {c : Code} {T : State} {H : Heap} {locs : List Loc} {cells slots : Nat}
abbrev vx_CSW (R : Room) (s : State) (args : Array Value) (own : String) (index : Nat) (y : MethodName) (bytes : ByteArray) (maxL : Nat) (ret : Option FieldType) (hh : List (Nat × Nat × Nat × Nat)) (ws : List Cond) (rm : Room) (mc ms n : Nat) : Prop :=
  (rm.cells = mc ∧ rm.slots = ms ∧ rm.frames + 1 ≤ R.frames ∧ 8 + (maxL + 11) + rm.locals ≤ R.locals ∧ (∀ w ∈ ws, ∀ (a' : Array Value) (U : State), s.WarmedH U.vm → w.before a' U = true) ∧ Cond.codeWith y bytes maxL ret hh ∈ ws) ∧
  (Cond.codeWith y bytes maxL ret hh).before args s = true ∧ (Cond.initialized y.cls).before args s = true ∧ (y.cls ≠ "java/lang/invoke/MethodHandle" ∧ y.cls ≠ "java/lang/invoke/VarHandle") ∧
  (∀ sig, parseMethodDescriptor y.desc = some sig → n = sig.parameters.length) ∧ (Cond.methodLink own index y).before args s = true ∧ (Cond.static y).before args s = true
theorem vx_cwSW {own : String} {index maxL mc ms : Nat} {y : MethodName} {bytes : ByteArray} {ret : Option FieldType} {hh : List (Nat × Nat × Nat × Nat)} {Ts ws ws' : List Cond} {rm : Room} (n : Nat) (ht : ∀ w ∈ Ts, w.before args s = true) (hT : GoodIn Ts (va_wsS own index y ws)) (hw : ws = Cond.codeWith y bytes maxL ret hh :: ws') (hrc : rm.cells = mc) (hrs : rm.slots = ms)
    (hd : y.cls ≠ "java/lang/invoke/MethodHandle" ∧ y.cls ≠ "java/lang/invoke/VarHandle" ∧ (parseMethodDescriptor y.desc).map (fun d => d.parameters.length) = some n) (hR : rm.frames + 1 ≤ R.frames ∧ 8 + (maxL + 11) + rm.locals ≤ R.locals) :
    vx_CSW R s args own index y bytes maxL ret hh ws rm mc ms n := by
  have ok : ∀ w ∈ va_wsS own index y ws, w.before args s = true := fun w h => ht w (hT w h).1
  have hG : GoodIn Ts ws := fun w h => hT w (by unfold va_wsS; exact List.mem_append_right _ h)
  have hc : Cond.codeWith y bytes maxL ret hh ∈ ws := by rw [hw]; exact List.mem_cons_self
  refine ⟨⟨hrc, hrs, hR.1, hR.2, pay_in ht hG, hc⟩, ht _ (hG _ hc).1, ok _ (by simp [va_wsS]), ⟨hd.1, hd.2.1⟩, fun sig h => ?_, ok _ (by simp [va_wsS]), ok _ (by simp [va_wsS])⟩
  have h2 := hd.2.2
  rw [h] at h2
  exact (Option.some.inj h2).symm
theorem vx_callSW (X : Stand p l e R s m args below meth c T locs cells slots) (hexec : p.tables.exec = Jvm.exec) {own : String} {index : Nat} {y : MethodName} {bytes : ByteArray} {maxL : Nat} {ret : Option FieldType} {hh : List (Nat × Nat × Nat × Nat)}
    (hown : s.vm.findClass own = some m.cls) (hlink : (Cond.methodLink own index y).before args s = true) (hstat : (Cond.static y).before args s = true) (hinit : (Cond.initialized y.cls).before args s = true)
    (hcode : (Cond.codeWith y bytes maxL ret hh).before args s = true) (hy : y.cls ≠ "java/lang/invoke/MethodHandle" ∧ y.cls ≠ "java/lang/invoke/VarHandle")
    {W9 : Nat} {Pre : Pt → Array Value → Prop} {Post : Pt → Array Value → Option Value → Pt → Prop} (hK : Back l R p e below s args y 3 W9 Pre Post)
    {g : JFrame} (hg : g.method = m) (hsize : g.locals.size = c.maxLocals) {argsL rest : List Value} (hlen : ∀ sig, parseMethodDescriptor y.desc = some sig → argsL.length = sig.parameters.length)
    (hstack : g.stack = argsL.reverse ++ rest) (hW : 2 * g.monitorRoom + (rest.map fun v => v.category).sum ≤ W9) (hdg : decode c.code g.pc = .ok (.invokestatic index, 3))
    (hpre : ∀ vm₁, s.WarmedH vm₁ → Pre ⟨T.setVm vm₁, locs, cells, slots⟩ argsL.toArray) :
    ∃ (v : Option Value) (vm₁ : Vm) (B : Pt), s.WarmedH vm₁ ∧ Stand p l e R s m args below meth c B.U B.locs B.cells B.slots ∧ Post ⟨T.setVm vm₁, locs, cells, slots⟩ argsL.toArray v B ∧
      ∀ target, Steps p.tables e below (B.U.setTop { g with pc := g.pc + 3, stack := v.toList ++ rest }) target → Steps p.tables e below (T.setTop g) target := by
  obtain ⟨mk, methM, cM, hnamed, hmethM, -, -, -, -, -, -, hsigM⟩ := Cond.codeWith_spec hcode
  have hstatic : methM.isStatic = true := Cond.static_spec hnamed hmethM hstat
  obtain ⟨kP, hkP, -⟩ := className_of_methodNamed hnamed
  have hinitP : kP.init = .initialized := Cond.initialized_spec (findClass_of_methodNamed hnamed) hkP hinit
  obtain ⟨vm₁, X₁, hstep₁⟩ := X.invokestatic hexec hown hlink hnamed hmethM hstatic hkP hinitP hy (g := g) hg (argsL := argsL) (rest := rest) (hlen _ hsigM) hstack hdg
  obtain ⟨v, B, X', hpost, hsteps⟩ := hK m meth c ⟨T.setVm vm₁, locs, cells, slots⟩ { g with stack := rest } (.invokestatic index) mk argsL.toArray X₁ hg hsize hdg hW (X₁.named hnamed) (hpre vm₁ X₁.warmed)
  exact ⟨v, vm₁, B, X₁.warmed, X', hpost, fun target h => hstep₁ _ fun acts => by rw [doInvoke_state]; exact hsteps.trans h⟩
theorem vx_runSW {y : MethodName} {bytes cc : ByteArray} {maxL nL mc ms n index : Nat} {ret : Option FieldType} {hh : List (Nat × Nat × Nat × Nat)} {ws : List Cond} {rm : Room} {Pc : Array Value → State → Prop} {Qc : Array Value → State → Outcome → State → Prop} {free : Addr → Prop} {Ts : List Cond} {own : String} {As rest : List Value} {g : JFrame}
    (S : CallFix p m c cc nL s args Ts own) (hM : Met l y ws rm Pc Qc mc ms free) (cw : vx_CSW R s args own index y bytes maxL ret hh ws rm mc ms n) (hp : PreS s H Pc As)
    (hg : g.method = m) (hn : As.length = n) (hsize : g.locals.size = nL) (hstack : g.stack = As.reverse ++ rest) (hW : 2 * g.monitorRoom + (rest.map fun v => v.category).sum ≤ 8) (hdg : decode cc g.pc = .ok (.invokestatic index, 3)) (hf : cells + mc ≤ R.cells ∧ slots + ms ≤ R.slots) :
    va_Run p l e R s m args below meth c H locs cells slots mc ms g rest (Qc As.toArray) (free) := by
  obtain ⟨⟨hrc, hrs, hfr, hlo, hws, hcw⟩, hcode, hini, hy, hlen, hl, hstt⟩ := cw
  have hK : Back l R p e below s args y 3 8 (PreOf R mc ms Pc) (PostOf Qc mc ms free) := va_backW (hh := hh) (bytes := bytes) (maxL := maxL) (ret := ret) hM hp.1 hrc hrs hfr hlo hws hcw (fun a' U hW => word_at hW (Or.inl (by first | rfl | simp [Cond.onTables, Cond.keeps, Cond.steady])) hini)
  obtain ⟨hx, hb, hml, ho, -⟩ := S
  intro T hT X
  obtain ⟨v, vm₁, ⟨U', l2, c2, s2⟩, hW₁, X', ⟨g', mk, t, L, e1, e2, hq, h1, hL, h2, h3⟩, st⟩ := vx_callSW X hx (hh := hh) (bytes := bytes) (maxL := maxL) (ret := ret) ho hl hstt hini hcode hy hK hg (hsize.trans hml.symm) (argsL := As) (rest := rest) (fun sig h => hn.trans (hlen sig h)) hstack hW (by rw [hb]; exact hdg)
    (fun vm₁ hW₁ => ⟨hf.1, hf.2, hp.2 (T.setVm vm₁) hT hW₁⟩)
  dsimp only [Pt.U, Pt.locs, Pt.cells, Pt.slots] at X' e1 e2 h1 h2 h3 st
  subst h1; subst h2; subst h3
  exact ⟨v, (T.setVm vm₁).calling g' mk As.toArray, t, U', L, hT, X', hL, e1, e2, hq, st⟩
/-- not caught here, past rows that name other classes: it goes on to the caller -/
theorem vx_outP {p : Program} {l : Launch} {e : Env} {R : Room} {s : State} {m : MethodId} {args : Array Value} {below : List Frame} {meth : Method} {c : Code} {H : Heap} {locs : List Loc} {cells slots : Nat} {free : Addr → Prop} {ls : Array Slot} {rest : List Value} {Qc : Array Value → State → Outcome → State → Prop} {XC : String → State → State → Prop}
    {pc : Nat} {own E : String} {ce : Cell} {q : Addr} {mc ms : Nat} (hown : s.vm.findClass own = some m.cls) (hlocks : meth.locks = false)
    (hpass : ∀ z ∈ c.exceptionTable.toList, covers z pc = false ∨ (z.catchType ≠ 0 ∧ ∃ nm : String, (Cond.classLink own z.catchType nm).before args s = true ∧ va_Nc E nm s)) (hcell : H[q]? = some ce) (hv : ce.vm = .none) (hcl : s.vm.findClass E = some ce.cls)
    (hx : ∀ t : State, t.heap = H → s.vm.Alike t.vm → XC E s t) (hf : ∀ z ∈ locs, free z.base) (hc : cells ≤ mc) (hs : slots ≤ ms) :
    vx_W p l e R s m args below meth c H locs cells slots (vx_MQ below Qc XC args s mc ms free) (F0 m pc ls rest) q := by
  intro T hT X
  have hpl : e.platform.magicAccessors = ({} : Platform).magicAccessors := by rw [X.admits.platform]
  obtain ⟨vm', hW', X', st⟩ := X.outThrough hlocks q (g := F0 m pc ls rest) rfl rfl rfl (cell := ce) (by rw [hT]; exact hcell) (by rw [hv]; rfl)
    (by obtain ⟨k9, h9, -⟩ := Vm.findClass_spec hcl; exact ⟨k9, h9⟩) (fun z hz => by
      rcases hpass z hz with h | ⟨hz0, nm, hl1, hn1⟩
      · exact Or.inl h
      · obtain ⟨c6, hc6, hcl6⟩ := Cond.classLink_spec hown hl1 e.platform hpl
        obtain ⟨a8, b8, h1, h2, h3⟩ := hn1
        cases Option.some.inj (h1.symm.trans hcl)
        cases Option.some.inj (h2.symm.trans hc6)
        exact Or.inr ⟨hz0, _, hcl6, h3⟩)
  obtain ⟨g₀, hfr⟩ := X'.frames_eq
  have hcell9 : ((T.setVm vm').setFrames (.throwing q :: below)).heap[q]? = some ce := by
    show T.heap[q]? = some ce
    rw [hT]; exact hcell
  have hend : Ended ((T.setVm vm').setFrames (.throwing q :: below)) below (.threw q) := State.frames_setFrames _ (State.cur_lt_of_frames hfr)
  refine ⟨(T.setVm vm').setFrames (.throwing q :: below), ?_, .threw q, X'.here.running, hend, Or.inr ⟨q, rfl, E, ce, locs, hx _ hT (X'.ends _).1.alike, hcell9, hv, hcl, (X'.ends _).1, (X'.ends _).2.mono hc hs, hf⟩⟩
  rw [X.pushThrowing_eq]
  exact st
/-- a thing of a world lies in the heap -/
theorem vx_lt {D : va_G} {cl : List vw_C} {ws : va_W} {H1 : Heap} (h : va_P D cl ws H1) {k : Nat} {q : Nat × va_E} (hk : ws[k]? = some q) : q.1 < H1.size := (h k q hk).lt
end VXS
/-! ===== END ===== -/
/-! ===== BEGIN methods with a table of their own: called by a name, returning or throwing ===== -/
section VXH
/-! vx_backW, vx_callVX, vx_callSX, vx_callVW, vx_runVW, vx_runVX, vx_runSX, vx_ofWH follow the same proofs as their sisters above (Free/Laws.lean, Shelf42/LK1.lean); vx_outP calls Shelf42/NT130.lean (outThrough). -/
section
variable {l : Launch} {R : Room} {p : Program} {e : Env} {below : List Frame} {s : State} {sargs : Array Value} {y : MethodName} {len W9 : Nat}
theorem vx_backW {ws : List Cond} {rm : Room} {Pc : Array Value → State → Prop} {Qc : Array Value → State → Outcome → State → Prop} {XC : String → State → State → Prop} {mc ms : Nat} {free : Addr → Prop} {bytes : ByteArray} {maxL : Nat} {ret : Option FieldType} {hh : List (Nat × Nat × Nat × Nat)}
    (hM : vx_Met l y ws rm Pc Qc XC mc ms free) (hblind : FrameBlind Pc) (hrc : rm.cells = mc) (hrs : rm.slots = ms)
    (hframes : rm.frames + 1 ≤ R.frames) (hlocals : W9 + (maxL + 11) + rm.locals ≤ R.locals)
    (hws : ∀ w ∈ ws, ∀ a' U, s.WarmedH U.vm → w.before a' U = true) (hcode : Cond.codeWith y bytes maxL ret hh ∈ ws) (hinit : ∀ a' U, s.WarmedH U.vm → (Cond.initialized y.cls).before a' U = true) :
    vx_Back l R p e below s sargs y len W9 (PreOf R mc ms Pc) (PostOf Qc mc ms free) (vx_Post XC mc ms free) := by
  intro m meth c A g ig mk a X hg hsize hdg hW hn hp
  have h1 : (headSpec ws rm).pre.before a A.U = true := atoms_intro fun w hw => hws w hw _ _ X.warmed
  have h2 : (Cond.codeWith y bytes maxL ret hh).before a A.U = true := hws _ hcode _ _ X.warmed
  have h3 : (Cond.initialized y.cls).before a A.U = true := hinit _ _ X.warmed
  have h4 : A.cells + (headSpec ws rm).room.cells ≤ R.cells := by rw [show (headSpec ws rm).room.cells = mc from hrc]; exact hp.1
  have h5 : A.slots + (headSpec ws rm).room.slots ≤ R.slots := by rw [show (headSpec ws rm).room.slots = ms from hrs]; exact hp.2.1
  have hPc : Pc a (A.U.calling g mk a) := hblind _ _ _ _ hp.2.2
  obtain ⟨U, Ls, c0, s0⟩ := A
  dsimp only [Pt.U, Pt.locs, Pt.cells, Pt.slots] at h1 h2 h3 h4 h5 X hn hPc ⊢
  obtain ⟨m9, methY, cY, hn9, hmY, hcY, -, hlY, -⟩ := Cond.codeWith_spec h2
  cases Option.some.inj (hn9.symm.trans hn)
  obtain ⟨kY, hkY, -⟩ := className_of_methodNamed hn
  have hinitY : kY.init = .initialized := Cond.initialized_spec (findClass_of_methodNamed hn) hkY h3
  have h : At U g.method c below := by rw [hg]; exact X.here
  have hlocals9 : W9 + (maxL + 11) + (headSpec ws rm).room.locals ≤ R.locals := hlocals
  have happ : (headSpec ws rm).appliesLoose y e.platform (U.calling g mk a) = true :=
    Spec.appliesLoose_calling (g := g) h hdg hn hkY hinitY
      (X.room_calling (g := g) (R' := (headSpec ws rm).room) hsize hmY hcY hframes (by rw [hlY]; omega) h4 h5) h1
  obtain ⟨mid, hmid⟩ := h.above
  have hfr : (U.setTop g).frames = (.java g :: mid) ++ below := by rw [State.frames_setTop' g h.top, hmid]; rfl
  obtain ⟨o, s₂, hsteps, -, hend, hq⟩ := Steps.callFree hM p X.admits X.cas X.clock (acts := []) hfr happ hPc trivial
  have hq' : vx_Q Qc XC mc ms free a (U.calling g mk a) o s₂ := hq
  rw [State.frames_setTop' g h.top] at hend
  obtain ⟨g₀, hg0⟩ := Option.isSome_iff_exists.mp h.top
  obtain ⟨r, hr⟩ := State.topJava?_eq_some.mp hg0
  have hr' : (({ U with heap := s₂.heap, slotsUsed := s₂.slotsUsed } : State).setVm s₂.vm).frames = .java g₀ :: r := hr
  rcases hq' with ⟨hqc, L, hfe, hL⟩ | ⟨q, rfl, E, ce, L, hx, hce, hcv, hcl, hW₂, hsm, hL⟩
  · obtain ⟨⟨v, rfl⟩, hW₂, e2, q2, q3, q4, q5, q6⟩ := id hfe
    have e3 : s₂ = ({ (U.calling g mk a).setFrames s₂.frames with heap := s₂.heap, slotsUsed := s₂.slotsUsed } : State).setVm s₂.vm := by
      have : s₂ = ({ s₂ with vm := (U.calling g mk a).vm } : State).setVm s₂.vm := rfl
      rw [e2] at this
      exact this
    obtain ⟨c₂, i₂, len₂, hc₂, hd₂, hf₂⟩ := hend
    have hW' : U.WarmedH s₂.vm := hW₂
    have hcc : c₂ = c := by
      have h1 : s₂.code? g.method = U.code? g.method := by
        rw [State.code?_eq, State.code?_eq, hW'.alike.method?]
      exact Option.some.inj (hc₂.symm.trans (h1.trans h.code))
    subst hcc
    have hlen : len₂ = len := by rw [hdg] at hd₂; cases hd₂; rfl
    subst hlen
    have hs₂ : s₂ = (({ U with heap := s₂.heap, slotsUsed := s₂.slotsUsed } : State).setVm s₂.vm).setTop { g with pc := g.pc + len₂, stack := v.toList ++ g.stack } := by
      refine e3.trans ?_
      rw [hf₂, State.calling_eq h.top, State.setFrames_setFrames, State.setTop_of_frames _ hr', hr]
      rfl
    have hsame : U.sameButNew ({ U with heap := s₂.heap, slotsUsed := s₂.slotsUsed } : State) L mc ms := by
      refine ⟨?_, q2, q3, q4, q5, q6⟩
      obtain ⟨t, ht, -⟩ := State.frames_cons hr
      show ({ U with heap := s₂.heap, slotsUsed := s₂.slotsUsed } : State) = { U.setFrames U.frames with heap := s₂.heap, slotsUsed := s₂.slotsUsed }
      rw [State.setFrames_self ht]
    subst hg
    refine Or.inl ⟨v, ⟨(({ U with heap := s₂.heap, slotsUsed := s₂.slotsUsed } : State).setVm s₂.vm), Ls ++ L, c0 + mc, s0 + ms⟩,
      ⟨X.admits, X.cas, X.clock, X.frames, X.room, X.hears, X.method, X.code, (X.here.setHeapUsed s₂.heap s₂.slotsUsed).setVm hW'.alike, X.tail, State.WarmedH.trans X.warmed hW', X.limits, X.bytes, X.same.trans (hsame.setVm s.vm)⟩,
      ⟨g, mk, s₂, L, rfl, rfl, hqc, rfl, hL, rfl, rfl⟩, ?_⟩
    show Steps p.tables e below _ ((({ U with heap := s₂.heap, slotsUsed := s₂.slotsUsed } : State).setVm s₂.vm).setTop { g with pc := g.pc + len₂, stack := v.toList ++ g.stack })
    rw [← hs₂]
    exact hsteps
  · obtain ⟨e2, q2, q3, q4, q5, q6⟩ := id hsm
    have e3 : s₂ = ({ (U.calling g mk a).setFrames s₂.frames with heap := s₂.heap, slotsUsed := s₂.slotsUsed } : State).setVm s₂.vm := by
      have : s₂ = ({ s₂ with vm := (U.calling g mk a).vm } : State).setVm s₂.vm := rfl
      rw [e2] at this
      exact this
    have hf₂ : s₂.frames = .throwing q :: .java g :: U.frames.tail := hend
    have hW' : U.WarmedH s₂.vm := hW₂
    have hs₂ : s₂ = ((({ U with heap := s₂.heap, slotsUsed := s₂.slotsUsed } : State).setVm s₂.vm).setTop g).pushFrame (.throwing q) := by
      refine e3.trans ?_
      rw [hf₂, State.calling_eq h.top, State.setFrames_setFrames, State.pushFrame, State.frames_setTop _ hr', State.setTop_of_frames _ hr', State.setFrames_setFrames, hr]
      rfl
    have hsame : U.sameButNew ({ U with heap := s₂.heap, slotsUsed := s₂.slotsUsed } : State) L mc ms := by
      refine ⟨?_, q2, q3, q4, q5, q6⟩
      obtain ⟨t, ht, -⟩ := State.frames_cons hr
      show ({ U with heap := s₂.heap, slotsUsed := s₂.slotsUsed } : State) = { U.setFrames U.frames with heap := s₂.heap, slotsUsed := s₂.slotsUsed }
      rw [State.setFrames_self ht]
    subst hg
    refine Or.inr ⟨q, ⟨(({ U with heap := s₂.heap, slotsUsed := s₂.slotsUsed } : State).setVm s₂.vm), Ls ++ L, c0 + mc, s0 + ms⟩,
      ⟨X.admits, X.cas, X.clock, X.frames, X.room, X.hears, X.method, X.code, (X.here.setHeapUsed s₂.heap s₂.slotsUsed).setVm hW'.alike, X.tail, State.WarmedH.trans X.warmed hW', X.limits, X.bytes, X.same.trans (hsame.setVm s.vm)⟩,
      ⟨g, mk, s₂, L, E, ce, rfl, rfl, hx, hce, hcv, hcl, rfl, hL, rfl, rfl⟩, ?_⟩
    show Steps p.tables e below _ (((({ U with heap := s₂.heap, slotsUsed := s₂.slotsUsed } : State).setVm s₂.vm).setTop g).pushFrame (.throwing q))
    rw [← hs₂]
    exact hsteps
end
variable {p : Program} {l : Launch} {e : Env} {R : Room} {s : State} {m : MethodId} {args : Array Value} {below : List Frame} {meth : Method} {c : Code} {T : State} {H : Heap} {locs : List Loc} {cells slots : Nat}
theorem vx_callVX (X : Stand p l e R s m args below meth c T locs cells slots) (hexec : p.tables.exec = Jvm.exec) {own C : String} {index : Nat} {y : MethodName} {bytes : ByteArray} {maxL : Nat} {ret : Option FieldType} {hh : List (Nat × Nat × Nat × Nat)}
    (hown : s.vm.findClass own = some m.cls) (hlink : (Cond.methodLink own index y).before args s = true) (hinst : (Cond.instanceMethod y).before args s = true) (hsel : (Cond.selects C y y).before args s = true)
    (hcode : (Cond.codeWith y bytes maxL ret hh).before args s = true) (hy : y.cls ≠ "java/lang/invoke/MethodHandle" ∧ y.cls ≠ "java/lang/invoke/VarHandle")
    {W9 : Nat} {Pre : Pt → Array Value → Prop} {Post : Pt → Array Value → Option Value → Pt → Prop} {PostX : Pt → Array Value → Addr → Pt → Prop} (hK : vx_Back l R p e below s args y 3 W9 Pre Post PostX)
    {b : Addr} {cellB : Cell} (hcell : T.heap[b]? = some cellB) (hobj : cellB.vm.isStatics = false) (hcls : s.vm.findClass C = some cellB.cls)
    {g : JFrame} (hg : g.method = m) (hsize : g.locals.size = c.maxLocals) {argsL rest : List Value} (hlen : ∀ sig, parseMethodDescriptor y.desc = some sig → argsL.length = sig.parameters.length)
    (hstack : g.stack = argsL.reverse ++ .ref b :: rest) (hW : 2 * g.monitorRoom + (rest.map fun v => v.category).sum ≤ W9) (hdg : decode c.code g.pc = .ok (.invokevirtual index, 3))
    (hpre : ∀ vm₁, s.WarmedH vm₁ → Pre ⟨T.setVm vm₁, locs, cells, slots⟩ (Value.ref b :: argsL).toArray) :
    (∃ (v : Option Value) (vm₁ : Vm) (B : Pt), s.WarmedH vm₁ ∧ Stand p l e R s m args below meth c B.U B.locs B.cells B.slots ∧ Post ⟨T.setVm vm₁, locs, cells, slots⟩ (Value.ref b :: argsL).toArray v B ∧
      ∀ target, Steps p.tables e below (B.U.setTop { g with pc := g.pc + 3, stack := v.toList ++ rest }) target → Steps p.tables e below (T.setTop g) target) ∨
    (∃ (q : Addr) (vm₁ : Vm) (B : Pt), s.WarmedH vm₁ ∧ Stand p l e R s m args below meth c B.U B.locs B.cells B.slots ∧ PostX ⟨T.setVm vm₁, locs, cells, slots⟩ (Value.ref b :: argsL).toArray q B ∧
      Steps p.tables e below (T.setTop g) ((B.U.setTop { g with stack := rest }).pushFrame (.throwing q))) := by
  obtain ⟨mk, methM, hnamed, hmethM, hstM, habM⟩ := Cond.instanceMethod_spec hinst
  obtain ⟨m8, methM', cM, hn8, hmethM', -, -, -, -, -, -, hsigM⟩ := Cond.codeWith_spec hcode
  cases Option.some.inj (hn8.symm.trans hnamed)
  cases hmethM.symm.trans hmethM'
  obtain ⟨c2, r2, m2, q1, q2, q3, q4, kP, hkP, hkPi⟩ := Cond.selects_spec hsel
  cases hcls.symm.trans q1
  cases (State.methodFound?_of_named hnamed hy).symm.trans q2
  cases hnamed.symm.trans q3
  have hselP : selectMethod e.platform s.vm cellB.cls mk = .method mk := by rw [Launch.admits_selectMethod X.admits]; exact q4
  obtain ⟨vm₁, X₁, hstep₁⟩ := X.invokevirtual hexec hown hlink hnamed hmethM hstM hkP hkPi hy (a := b) (cell := cellB) hcell
    (fun z h => by rw [h] at hobj; cases hobj) hselP hmethM habM hkP hkPi (g := g) hg (argsL := argsL) (rest := rest) (hlen _ hsigM) hstack hdg
  rcases hK m meth c ⟨T.setVm vm₁, locs, cells, slots⟩ { g with stack := rest } (.invokevirtual index) mk (Value.ref b :: argsL).toArray X₁ hg hsize hdg hW (X₁.named hnamed) (hpre vm₁ X₁.warmed) with ⟨v, B, X', hpost, hsteps⟩ | ⟨q, B, X', hpost, hsteps⟩
  · exact Or.inl ⟨v, vm₁, B, X₁.warmed, X', hpost, fun target h => hstep₁ _ fun acts => by rw [doInvoke_state]; exact hsteps.trans h⟩
  · exact Or.inr ⟨q, vm₁, B, X₁.warmed, X', hpost, hstep₁ _ fun acts => by rw [doInvoke_state]; exact hsteps⟩
theorem vx_callSX (X : Stand p l e R s m args below meth c T locs cells slots) (hexec : p.tables.exec = Jvm.exec) {own : String} {index : Nat} {y : MethodName} {bytes : ByteArray} {maxL : Nat} {ret : Option FieldType} {hh : List (Nat × Nat × Nat × Nat)}
    (hown : s.vm.findClass own = some m.cls) (hlink : (Cond.methodLink own index y).before args s = true) (hstat : (Cond.static y).before args s = true) (hinit : (Cond.initialized y.cls).before args s = true)
    (hcode : (Cond.codeWith y bytes maxL ret hh).before args s = true) (hy : y.cls ≠ "java/lang/invoke/MethodHandle" ∧ y.cls ≠ "java/lang/invoke/VarHandle")
    {W9 : Nat} {Pre : Pt → Array Value → Prop} {Post : Pt → Array Value → Option Value → Pt → Prop} {PostX : Pt → Array Value → Addr → Pt → Prop} (hK : vx_Back l R p e below s args y 3 W9 Pre Post PostX)
    {g : JFrame} (hg : g.method = m) (hsize : g.locals.size = c.maxLocals) {argsL rest : List Value} (hlen : ∀ sig, parseMethodDescriptor y.desc = some sig → argsL.length = sig.parameters.length)
    (hstack : g.stack = argsL.reverse ++ rest) (hW : 2 * g.monitorRoom + (rest.map fun v => v.category).sum ≤ W9) (hdg : decode c.code g.pc = .ok (.invokestatic index, 3))
    (hpre : ∀ vm₁, s.WarmedH vm₁ → Pre ⟨T.setVm vm₁, locs, cells, slots⟩ argsL.toArray) :
    (∃ (v : Option Value) (vm₁ : Vm) (B : Pt), s.WarmedH vm₁ ∧ Stand p l e R s m args below meth c B.U B.locs B.cells B.slots ∧ Post ⟨T.setVm vm₁, locs, cells, slots⟩ argsL.toArray v B ∧
      ∀ target, Steps p.tables e below (B.U.setTop { g with pc := g.pc + 3, stack := v.toList ++ rest }) target → Steps p.tables e below (T.setTop g) target) ∨
    (∃ (q : Addr) (vm₁ : Vm) (B : Pt), s.WarmedH vm₁ ∧ Stand p l e R s m args below meth c B.U B.locs B.cells B.slots ∧ PostX ⟨T.setVm vm₁, locs, cells, slots⟩ argsL.toArray q B ∧
      Steps p.tables e below (T.setTop g) ((B.U.setTop { g with stack := rest }).pushFrame (.throwing q))) := by
  obtain ⟨mk, methM, cM, hnamed, hmethM, -, -, -, -, -, -, hsigM⟩ := Cond.codeWith_spec hcode
  have hstatic : methM.isStatic = true := Cond.static_spec hnamed hmethM hstat
  obtain ⟨kP, hkP, -⟩ := className_of_methodNamed hnamed
  have hinitP : kP.init = .initialized := Cond.initialized_spec (findClass_of_methodNamed hnamed) hkP hinit
  obtain ⟨vm₁, X₁, hstep₁⟩ := X.invokestatic hexec hown hlink hnamed hmethM hstatic hkP hinitP hy (g := g) hg (argsL := argsL) (rest := rest) (hlen _ hsigM) hstack hdg
  rcases hK m meth c ⟨T.setVm vm₁, locs, cells, slots⟩ { g with stack := rest } (.invokestatic index) mk argsL.toArray X₁ hg hsize hdg hW (X₁.named hnamed) (hpre vm₁ X₁.warmed) with ⟨v, B, X', hpost, hsteps⟩ | ⟨q, B, X', hpost, hsteps⟩
  · exact Or.inl ⟨v, vm₁, B, X₁.warmed, X', hpost, fun target h => hstep₁ _ fun acts => by rw [doInvoke_state]; exact hsteps.trans h⟩
  · exact Or.inr ⟨q, vm₁, B, X₁.warmed, X', hpost, hstep₁ _ fun acts => by rw [doInvoke_state]; exact hsteps⟩
theorem vx_callVW (X : Stand p l e R s m args below meth c T locs cells slots) (hexec : p.tables.exec = Jvm.exec) {own C : String} {index : Nat} {y : MethodName} {bytes : ByteArray} {maxL : Nat} {ret : Option FieldType} {hh : List (Nat × Nat × Nat × Nat)}
    (hown : s.vm.findClass own = some m.cls) (hlink : (Cond.methodLink own index y).before args s = true) (hinst : (Cond.instanceMethod y).before args s = true) (hsel : (Cond.selects C y y).before args s = true)
    (hcode : (Cond.codeWith y bytes maxL ret hh).before args s = true) (hy : y.cls ≠ "java/lang/invoke/MethodHandle" ∧ y.cls ≠ "java/lang/invoke/VarHandle")
    {W9 : Nat} {Pre : Pt → Array Value → Prop} {Post : Pt → Array Value → Option Value → Pt → Prop} (hK : Back l R p e below s args y 3 W9 Pre Post)
    {b : Addr} {cellB : Cell} (hcell : T.heap[b]? = some cellB) (hobj : cellB.vm.isStatics = false) (hcls : s.vm.findClass C = some cellB.cls)
    {g : JFrame} (hg : g.method = m) (hsize : g.locals.size = c.maxLocals) {argsL rest : List Value} (hlen : ∀ sig, parseMethodDescriptor y.desc = some sig → argsL.length = sig.parameters.length)
    (hstack : g.stack = argsL.reverse ++ .ref b :: rest) (hW : 2 * g.monitorRoom + (rest.map fun v => v.category).sum ≤ W9) (hdg : decode c.code g.pc = .ok (.invokevirtual index, 3))
    (hpre : ∀ vm₁, s.WarmedH vm₁ → Pre ⟨T.setVm vm₁, locs, cells, slots⟩ (Value.ref b :: argsL).toArray) :
    ∃ (v : Option Value) (vm₁ : Vm) (B : Pt), s.WarmedH vm₁ ∧ Stand p l e R s m args below meth c B.U B.locs B.cells B.slots ∧ Post ⟨T.setVm vm₁, locs, cells, slots⟩ (Value.ref b :: argsL).toArray v B ∧
      ∀ target, Steps p.tables e below (B.U.setTop { g with pc := g.pc + 3, stack := v.toList ++ rest }) target → Steps p.tables e below (T.setTop g) target := by
  obtain ⟨mk, methM, hnamed, hmethM, hstM, habM⟩ := Cond.instanceMethod_spec hinst
  obtain ⟨m8, methM', cM, hn8, hmethM', -, -, -, -, -, -, hsigM⟩ := Cond.codeWith_spec hcode
  cases Option.some.inj (hn8.symm.trans hnamed)
  cases hmethM.symm.trans hmethM'
  obtain ⟨c2, r2, m2, q1, q2, q3, q4, kP, hkP, hkPi⟩ := Cond.selects_spec hsel
  cases hcls.symm.trans q1
  cases (State.methodFound?_of_named hnamed hy).symm.trans q2
  cases hnamed.symm.trans q3
  have hselP : selectMethod e.platform s.vm cellB.cls mk = .method mk := by rw [Launch.admits_selectMethod X.admits]; exact q4
  obtain ⟨vm₁, X₁, hstep₁⟩ := X.invokevirtual hexec hown hlink hnamed hmethM hstM hkP hkPi hy (a := b) (cell := cellB) hcell
    (fun z h => by rw [h] at hobj; cases hobj) hselP hmethM habM hkP hkPi (g := g) hg (argsL := argsL) (rest := rest) (hlen _ hsigM) hstack hdg
  obtain ⟨v, B, X', hpost, hsteps⟩ := hK m meth c ⟨T.setVm vm₁, locs, cells, slots⟩ { g with stack := rest } (.invokevirtual index) mk (Value.ref b :: argsL).toArray X₁ hg hsize hdg hW (X₁.named hnamed) (hpre vm₁ X₁.warmed)
  exact ⟨v, vm₁, B, X₁.warmed, X', hpost, fun target h => hstep₁ _ fun acts => by rw [doInvoke_state]; exact hsteps.trans h⟩
abbrev vx_CVW (R : Room) (s : State) (args : Array Value) (own C : String) (index : Nat) (y : MethodName) (bytes : ByteArray) (maxL : Nat) (ret : Option FieldType) (hh : List (Nat × Nat × Nat × Nat)) (ws : List Cond) (rm : Room) (mc ms n : Nat) : Prop :=
  (rm.cells = mc ∧ rm.slots = ms ∧ rm.frames + 1 ≤ R.frames ∧ 8 + (maxL + 11) + rm.locals ≤ R.locals ∧ (∀ w ∈ ws, ∀ (a' : Array Value) (U : State), s.WarmedH U.vm → w.before a' U = true) ∧ Cond.codeWith y bytes maxL ret hh ∈ ws) ∧
  (Cond.codeWith y bytes maxL ret hh).before args s = true ∧ (Cond.initialized y.cls).before args s = true ∧ (y.cls ≠ "java/lang/invoke/MethodHandle" ∧ y.cls ≠ "java/lang/invoke/VarHandle") ∧
  (∀ sig, parseMethodDescriptor y.desc = some sig → n = sig.parameters.length) ∧ (Cond.methodLink own index y).before args s = true ∧ (Cond.instanceMethod y).before args s = true ∧ (Cond.selects C y y).before args s = true
theorem vx_cwVW {own C : String} {index maxL mc ms : Nat} {y : MethodName} {bytes : ByteArray} {ret : Option FieldType} {hh : List (Nat × Nat × Nat × Nat)} {Ts ws ws' : List Cond} {rm : Room} (n : Nat) (ht : ∀ w ∈ Ts, w.before args s = true) (hT : GoodIn Ts (wsV own index C y ws)) (hw : ws = Cond.codeWith y bytes maxL ret hh :: ws') (hrc : rm.cells = mc) (hrs : rm.slots = ms)
    (hd : y.cls = C ∧ y.cls ≠ "java/lang/invoke/MethodHandle" ∧ y.cls ≠ "java/lang/invoke/VarHandle" ∧ (parseMethodDescriptor y.desc).map (fun d => d.parameters.length) = some n) (hR : rm.frames + 1 ≤ R.frames ∧ 8 + (maxL + 11) + rm.locals ≤ R.locals) :
    vx_CVW R s args own C index y bytes maxL ret hh ws rm mc ms n := by
  obtain ⟨hC, hd⟩ := hd
  subst hC
  have ok : ∀ w ∈ wsV own index y.cls y ws, w.before args s = true := fun w h => ht w (hT w h).1
  have hG : GoodIn Ts ws := fun w h => hT w (by unfold wsV; exact List.mem_append_right _ h)
  have hc : Cond.codeWith y bytes maxL ret hh ∈ ws := by rw [hw]; exact List.mem_cons_self
  refine ⟨⟨hrc, hrs, hR.1, hR.2, pay_in ht hG, hc⟩, ht _ (hG _ hc).1, ok _ (by simp [wsV]), ⟨hd.1, hd.2.1⟩, fun sig h => ?_, ok _ (by simp [wsV]), ok _ (by simp [wsV]), ok _ (by simp [wsV])⟩
  have h2 := hd.2.2
  rw [h] at h2
  exact (Option.some.inj h2).symm
theorem vx_runVW {y : MethodName} {bytes cc : ByteArray} {maxL nL mc ms n index : Nat} {ret : Option FieldType} {hh : List (Nat × Nat × Nat × Nat)} {ws : List Cond} {rm : Room} {Pc : Array Value → State → Prop} {Qc : Array Value → State → Outcome → State → Prop} {free : Addr → Prop} {Ts : List Cond} {own C : String} {b : Addr} {As rest : List Value} {g : JFrame}
    (S : CallFix p m c cc nL s args Ts own) (hM : Met l y ws rm Pc Qc mc ms free) (cw : vx_CVW R s args own C index y bytes maxL ret hh ws rm mc ms n) (hp : PreV s H C b Pc As)
    (hg : g.method = m) (hn : As.length = n) (hsize : g.locals.size = nL) (hstack : g.stack = As.reverse ++ .ref b :: rest) (hW : 2 * g.monitorRoom + (rest.map fun v => v.category).sum ≤ 8) (hdg : decode cc g.pc = .ok (.invokevirtual index, 3)) (hf : cells + mc ≤ R.cells ∧ slots + ms ≤ R.slots) :
    va_Run p l e R s m args below meth c H locs cells slots mc ms g rest (Qc (Value.ref b :: As).toArray) free := by
  obtain ⟨⟨hrc, hrs, hfr, hlo, hws, hcw⟩, hcode, hini, hy, hlen, hl, hin, hse⟩ := cw
  have hK : Back l R p e below s args y 3 8 (PreOf R mc ms Pc) (PostOf Qc mc ms free) := va_backW (hh := hh) (bytes := bytes) (maxL := maxL) (ret := ret) hM hp.1 hrc hrs hfr hlo hws hcw (fun a' U hW => word_at hW (Or.inl (by first | rfl | simp [Cond.onTables, Cond.keeps, Cond.steady])) hini)
  obtain ⟨hx, hb, hml, ho, -⟩ := S
  obtain ⟨-, ⟨cellB, hcB, hoB, hclB⟩, hPc⟩ := hp
  intro T hT X
  obtain ⟨v, vm₁, ⟨U', l2, c2, s2⟩, hW₁, X', ⟨g', mk, t, L, e1, e2, hq, h1, hL, h2, h3⟩, st⟩ := vx_callVW X hx (C := C) (hh := hh) (bytes := bytes) (maxL := maxL) (ret := ret) ho hl hin hse hcode hy hK (by rw [hT]; exact hcB) hoB hclB hg (hsize.trans hml.symm) (argsL := As) (rest := rest) (fun sig h => hn.trans (hlen sig h)) hstack hW (by rw [hb]; exact hdg)
    (fun vm₁ hW₁ => ⟨hf.1, hf.2, hPc (T.setVm vm₁) hT hW₁⟩)
  dsimp only [Pt.U, Pt.locs, Pt.cells, Pt.slots] at X' e1 e2 h1 h2 h3 st
  subst h1; subst h2; subst h3
  exact ⟨v, (T.setVm vm₁).calling g' mk (Value.ref b :: As).toArray, t, U', L, hT, X', hL, e1, e2, hq, st⟩
section
variable {y : MethodName} {bytes cc : ByteArray} {maxL nL mc ms n index : Nat} {ret : Option FieldType} {ws : List Cond} {rm : Room} {Pc : Array Value → State → Prop} {Qc : Array Value → State → Outcome → State → Prop} {XC : String → State → State → Prop} {free : Addr → Prop} {Ts : List Cond} {own C : String} {b : Addr} {As rest : List Value} {g : JFrame}
theorem vx_runVX {hh : List (Nat × Nat × Nat × Nat)} (S : CallFix p m c cc nL s args Ts own) (hM : vx_Met l y ws rm Pc Qc XC mc ms free) (cw : vx_CVW R s args own C index y bytes maxL ret hh ws rm mc ms n) (hp : PreV s H C b Pc As)
    (hg : g.method = m) (hn : As.length = n) (hsize : g.locals.size = nL) (hstack : g.stack = As.reverse ++ .ref b :: rest) (hW : 2 * g.monitorRoom + (rest.map fun v => v.category).sum ≤ 8) (hdg : decode cc g.pc = .ok (.invokevirtual index, 3)) (hf : cells + mc ≤ R.cells ∧ slots + ms ≤ R.slots) :
    vx_Run p l e R s m args below meth c H locs cells slots mc ms g rest (Qc (Value.ref b :: As).toArray) XC free := by
  obtain ⟨⟨hrc, hrs, hfr, hlo, hws, hcw⟩, hcode, hini, hy, hlen, hl, hin, hse⟩ := cw
  have hK : vx_Back l R p e below s args y 3 8 (PreOf R mc ms Pc) (PostOf Qc mc ms free) (vx_Post XC mc ms free) := vx_backW (hh := hh) (bytes := bytes) (maxL := maxL) (ret := ret) hM hp.1 hrc hrs hfr hlo hws hcw (fun a' U hW => word_at hW (Or.inl (by first | rfl | simp [Cond.onTables, Cond.keeps, Cond.steady])) hini)
  obtain ⟨hx, hb, hml, ho, -⟩ := S
  obtain ⟨-, ⟨cellB, hcB, hoB, hclB⟩, hPc⟩ := hp
  intro T hT X
  rcases vx_callVX X hx (C := C) (hh := hh) (bytes := bytes) (maxL := maxL) (ret := ret) ho hl hin hse hcode hy hK (by rw [hT]; exact hcB) hoB hclB hg (hsize.trans hml.symm) (argsL := As) (rest := rest) (fun sig h => hn.trans (hlen sig h)) hstack hW (by rw [hb]; exact hdg)
    (fun vm₁ hW₁ => ⟨hf.1, hf.2, hPc (T.setVm vm₁) hT hW₁⟩) with ⟨v, vm₁, ⟨U', l2, c2, s2⟩, hW₁, X', ⟨g', mk, t, L, e1, e2, hq, h1, hL, h2, h3⟩, st⟩ | ⟨q, vm₁, ⟨U', l2, c2, s2⟩, hW₁, X', ⟨g', mk, t, L, E, ce, e1, e2, hq, hce, hcv, hcl, h1, hL, h2, h3⟩, st⟩
  · dsimp only [Pt.U, Pt.locs, Pt.cells, Pt.slots] at X' e1 e2 h1 h2 h3 st
    subst h1; subst h2; subst h3
    exact Or.inl ⟨v, (T.setVm vm₁).calling g' mk (Value.ref b :: As).toArray, t, U', L, hT, X', hL, e1, e2, hq, st⟩
  · dsimp only [Pt.U, Pt.locs, Pt.cells, Pt.slots] at X' e1 e2 h1 h2 h3 st hcl
    subst h1; subst h2; subst h3
    exact Or.inr ⟨q, (T.setVm vm₁).calling g' mk (Value.ref b :: As).toArray, t, U', L, E, ce, hT, X', hL, e1, e2, hq, hce, hcv, vx_cls hW₁ hcl, st⟩
theorem vx_runSX {hh : List (Nat × Nat × Nat × Nat)} (S : CallFix p m c cc nL s args Ts own) (hM : vx_Met l y ws rm Pc Qc XC mc ms free) (cw : vx_CSW R s args own index y bytes maxL ret hh ws rm mc ms n) (hp : PreS s H Pc As)
    (hg : g.method = m) (hn : As.length = n) (hsize : g.locals.size = nL) (hstack : g.stack = As.reverse ++ rest) (hW : 2 * g.monitorRoom + (rest.map fun v => v.category).sum ≤ 8) (hdg : decode cc g.pc = .ok (.invokestatic index, 3)) (hf : cells + mc ≤ R.cells ∧ slots + ms ≤ R.slots) :
    vx_Run p l e R s m args below meth c H locs cells slots mc ms g rest (Qc As.toArray) XC free := by
  obtain ⟨⟨hrc, hrs, hfr, hlo, hws, hcw⟩, hcode, hini, hy, hlen, hl, hstt⟩ := cw
  have hK : vx_Back l R p e below s args y 3 8 (PreOf R mc ms Pc) (PostOf Qc mc ms free) (vx_Post XC mc ms free) := vx_backW (hh := hh) (bytes := bytes) (maxL := maxL) (ret := ret) hM hp.1 hrc hrs hfr hlo hws hcw (fun a' U hW => word_at hW (Or.inl (by first | rfl | simp [Cond.onTables, Cond.keeps, Cond.steady])) hini)
  obtain ⟨hx, hb, hml, ho, -⟩ := S
  intro T hT X
  rcases vx_callSX X hx (hh := hh) (bytes := bytes) (maxL := maxL) (ret := ret) ho hl hstt hini hcode hy hK hg (hsize.trans hml.symm) (argsL := As) (rest := rest) (fun sig h => hn.trans (hlen sig h)) hstack hW (by rw [hb]; exact hdg)
    (fun vm₁ hW₁ => ⟨hf.1, hf.2, hp.2 (T.setVm vm₁) hT hW₁⟩) with ⟨v, vm₁, ⟨U', l2, c2, s2⟩, hW₁, X', ⟨g', mk, t, L, e1, e2, hq, h1, hL, h2, h3⟩, st⟩ | ⟨q, vm₁, ⟨U', l2, c2, s2⟩, hW₁, X', ⟨g', mk, t, L, E, ce, e1, e2, hq, hce, hcv, hcl, h1, hL, h2, h3⟩, st⟩
  · dsimp only [Pt.U, Pt.locs, Pt.cells, Pt.slots] at X' e1 e2 h1 h2 h3 st
    subst h1; subst h2; subst h3
    exact Or.inl ⟨v, (T.setVm vm₁).calling g' mk As.toArray, t, U', L, hT, X', hL, e1, e2, hq, st⟩
  · dsimp only [Pt.U, Pt.locs, Pt.cells, Pt.slots] at X' e1 e2 h1 h2 h3 st hcl
    subst h1; subst h2; subst h3
    exact Or.inr ⟨q, (T.setVm vm₁).calling g' mk As.toArray, t, U', L, E, ce, hT, X', hL, e1, e2, hq, hce, hcv, vx_cls hW₁ hcl, st⟩
end
end VXH
theorem vx_ofWH {l : Launch} {y : MethodName} {ws ws' : List Cond} {rm : Room} {Pc : Array Value → State → Prop} {Qc : Array Value → State → Outcome → State → Prop} {XC : String → State → State → Prop} {mc ms : Nat} {free : Addr → Prop} {cc : ByteArray} {maxL : Nat} {ret : Option FieldType} {hh : List (Nat × Nat × Nat × Nat)}
    (hy : plainName y.cls = true) (hw : ws = Cond.codeWith y cc maxL ret hh :: ws')
    (body : ∀ p e s m args below meth c s₁, BodyLoose p l y (headSpec ws rm) cc maxL ret e s m args below meth c s₁ → c.maxLocals = maxL → Pc args s →
      W p l e (headSpec ws rm).room s m args below meth c s.heap [] 0 0 (vx_MQ below Qc XC args s mc ms free) (entryFrame m args maxL)) : vx_Met l y ws rm Pc Qc XC mc ms free := by
  refine MetFree.of_bodyS (code := cc) (maxLocals := maxL) (ret := ret) hy ?_ ?_
  · intro args s m h hn
    obtain ⟨m9, meth, c, hn9, h1, h2, h3, h4, -, h5, h6, -⟩ := Cond.codeWith_spec (atoms_spec (ws := ws) h _ (by rw [hw]; exact List.mem_cons_self))
    cases hn.symm.trans hn9
    exact ⟨meth, c, h1, h2, h3, h4, h5, h6⟩
  · intro p e s m args below meth c s₁ B hml hP _
    have hh0 : s₁.heap = s.heap := by rw [B.state]; rfl
    obtain ⟨t, a1, o, b1, b2, b3⟩ := body p e s m args below meth c s₁ B hml hP s₁ hh0 (Stand.of_body B)
    exact ⟨t, o, a1, b1, b2, b3⟩
/-! ===== END ===== -/
end
section
/-! ===== BEGIN printed: names, fields, word lists, decode rows ===== -/
def RX0 : String := "FridgeGossip$View"
def TX0 : u_T := fun k => match k with
  | 0 => ("FridgeGossip$View", "place", "[I", true)
  | 1 => ("FridgeGossip$View", "claimers", "[I", true)
  | 2 => ("FridgeGossip$View", "kept", "[I", true)
  | 3 => ("FridgeGossip$View", "firstDay", "[I", true)
  | 4 => ("FridgeGossip$View", "lastDay", "[I", true)
  | 5 => ("FridgeGossip$View", "dislikes", "[I", true)
  | 6 => ("FridgeGossip$View", "state", "[I", true)
  | 7 => ("FridgeGossip$View", "planRank", "[I", true)
  | 8 => ("FridgeGossip$View", "planCount", "I", false)
  | _ => ("FridgeGossip$View", "spoiltCakes", "I", false)
def tyX0 : Nat → FieldType := fun k => match k with
  | 0 => .array .int
  | 1 => .array .int
  | 2 => .array .int
  | 3 => .array .int
  | 4 => .array .int
  | 5 => .array .int
  | 6 => .array .int
  | 7 => .array .int
  | 8 => .int
  | _ => .int
abbrev wsX00 : List Cond := u_ws RX0 TX0 10
theorem nmX0 : ∀ a, a < 10 → ∀ b, b < 10 → a ≠ b → (TX0 a).2.1 ≠ (TX0 b).2.1 := by decide +kernel
theorem tyX0_ok : ∀ k, k < 10 → parseFieldDescriptor (TX0 k).2.2.1 = some (tyX0 k) := by decide +kernel
abbrev cX0_init : ByteArray := prog_2_method_1_code
def yX0_init : MethodName := ⟨RX0, "<init>", "()V"⟩
abbrev cX0_read : ByteArray := prog_2_method_2_code
def yX0_read : MethodName := ⟨RX0, "read", "(LFridgeGossip$WordChain;I[I)V"⟩
abbrev cX0_forget : ByteArray := prog_2_method_3_code
def yX0_forget : MethodName := ⟨RX0, "forget", "()V"⟩
abbrev cX0_hear : ByteArray := prog_2_method_4_code
def yX0_hear : MethodName := ⟨RX0, "hear", "(LFridgeGossip$Word;)V"⟩
abbrev cX0_hearTake : ByteArray := prog_2_method_5_code
def yX0_hearTake : MethodName := ⟨RX0, "hearTake", "(LFridgeGossip$Word;)V"⟩
abbrev cX0_hearKeep : ByteArray := prog_2_method_6_code
def yX0_hearKeep : MethodName := ⟨RX0, "hearKeep", "(II[I)V"⟩
abbrev cX0_isAhead : ByteArray := prog_2_method_7_code
def yX0_isAhead : MethodName := ⟨RX0, "isAhead", "(II[I)Z"⟩
abbrev cX0_comesOn : ByteArray := prog_2_method_8_code
def yX0_comesOn : MethodName := ⟨RX0, "comesOn", "(II)Z"⟩
abbrev cX0_guestsOn : ByteArray := prog_2_method_9_code
def yX0_guestsOn : MethodName := ⟨RX0, "guestsOn", "(I)I"⟩
abbrev cX0_dislikedOn : ByteArray := prog_2_method_10_code
def yX0_dislikedOn : MethodName := ⟨RX0, "dislikedOn", "(I)I"⟩
abbrev cX0_wrongClaimers : ByteArray := prog_2_method_11_code
def yX0_wrongClaimers : MethodName := ⟨RX0, "wrongClaimers", "(I)I"⟩
abbrev cX0_isFree : ByteArray := prog_2_method_12_code
def yX0_isFree : MethodName := ⟨RX0, "isFree", "(I)Z"⟩
abbrev cX0_thingsSomewhere : ByteArray := prog_2_method_13_code
def yX0_thingsSomewhere : MethodName := ⟨RX0, "thingsSomewhere", "(I)I"⟩
abbrev cX0_thingsFree : ByteArray := prog_2_method_14_code
def yX0_thingsFree : MethodName := ⟨RX0, "thingsFree", "(I)I"⟩
abbrev cX0_thingsKept : ByteArray := prog_2_method_15_code
def yX0_thingsKept : MethodName := ⟨RX0, "thingsKept", "(II)I"⟩
def RX1 : String := "FridgeGossip$Word"
def TX1 : u_T := fun k => match k with
  | 0 => ("FridgeGossip$Word", "kind", "I", true)
  | 1 => ("FridgeGossip$Word", "stamp", "I", true)
  | 2 => ("FridgeGossip$Word", "writer", "I", true)
  | 3 => ("FridgeGossip$Word", "subject", "I", true)
  | 4 => ("FridgeGossip$Word", "cake", "I", true)
  | 5 => ("FridgeGossip$Word", "firstDay", "I", false)
  | 6 => ("FridgeGossip$Word", "lastDay", "I", false)
  | 7 => ("FridgeGossip$Word", "dislikes", "I", false)
  | 8 => ("FridgeGossip$Word", "knownTo", "I", false)
  | _ => ("FridgeGossip$Word", "next", "LFridgeGossip$Word;", false)
def tyX1 : Nat → FieldType := fun k => match k with
  | 0 => .int
  | 1 => .int
  | 2 => .int
  | 3 => .int
  | 4 => .int
  | 5 => .int
  | 6 => .int
  | 7 => .int
  | 8 => .int
  | _ => .object "FridgeGossip$Word"
abbrev wsX10 : List Cond := u_ws RX1 TX1 10
theorem nmX1 : ∀ a, a < 10 → ∀ b, b < 10 → a ≠ b → (TX1 a).2.1 ≠ (TX1 b).2.1 := by decide +kernel
theorem tyX1_ok : ∀ k, k < 10 → parseFieldDescriptor (TX1 k).2.2.1 = some (tyX1 k) := by decide +kernel
abbrev cX1_init : ByteArray := prog_3_method_1_code
def yX1_init : MethodName := ⟨RX1, "<init>", "(IIIII)V"⟩
abbrev cX1_isLaterThan : ByteArray := prog_3_method_2_code
def yX1_isLaterThan : MethodName := ⟨RX1, "isLaterThan", "(LFridgeGossip$Word;)Z"⟩
def RX2 : String := "FridgeGossip$WordChain"
def TX2 : u_T := fun k => match k with
  | 0 => ("FridgeGossip$WordChain", "earliest", "LFridgeGossip$Word;", false)
  | _ => ("FridgeGossip$WordChain", "size", "I", false)
def tyX2 : Nat → FieldType := fun k => match k with
  | 0 => .object "FridgeGossip$Word"
  | _ => .int
abbrev wsX20 : List Cond := u_ws RX2 TX2 2
theorem nmX2 : ∀ a, a < 2 → ∀ b, b < 2 → a ≠ b → (TX2 a).2.1 ≠ (TX2 b).2.1 := by decide +kernel
theorem tyX2_ok : ∀ k, k < 2 → parseFieldDescriptor (TX2 k).2.2.1 = some (tyX2 k) := by decide +kernel
abbrev cX2_init : ByteArray := prog_4_method_1_code
def yX2_init : MethodName := ⟨RX2, "<init>", "()V"⟩
abbrev cX2_insert : ByteArray := prog_4_method_2_code
def yX2_insert : MethodName := ⟨RX2, "insert", "(LFridgeGossip$Word;)V"⟩
abbrev cX2_sizeKnownTo : ByteArray := prog_4_method_3_code
def yX2_sizeKnownTo : MethodName := ⟨RX2, "sizeKnownTo", "(I)I"⟩
abbrev cX2_shareAmong : ByteArray := prog_4_method_4_code
def yX2_shareAmong : MethodName := ⟨RX2, "shareAmong", "(I)I"⟩
def RX3 : String := "FridgeGossip"
def TX3 : u_T := fun k => match k with
  | 0 => ("FridgeGossip", "chain", "LFridgeGossip$WordChain;", true)
  | 1 => ("FridgeGossip", "view", "LFridgeGossip$View;", true)
  | 2 => ("FridgeGossip", "clocks", "[I", true)
  | 3 => ("FridgeGossip", "needs", "[[I", true)
  | 4 => ("FridgeGossip", "recipeOf", "[I", true)
  | 5 => ("FridgeGossip", "dayOf", "[I", true)
  | _ => ("FridgeGossip", "cakeCount", "I", false)
def tyX3 : Nat → FieldType := fun k => match k with
  | 0 => .object "FridgeGossip$WordChain"
  | 1 => .object "FridgeGossip$View"
  | 2 => .array .int
  | 3 => .array (.array .int)
  | 4 => .array .int
  | 5 => .array .int
  | _ => .int
abbrev wsX30 : List Cond := u_ws RX3 TX3 7
theorem nmX3 : ∀ a, a < 7 → ∀ b, b < 7 → a ≠ b → (TX3 a).2.1 ≠ (TX3 b).2.1 := by decide +kernel
theorem tyX3_ok : ∀ k, k < 7 → parseFieldDescriptor (TX3 k).2.2.1 = some (tyX3 k) := by decide +kernel
abbrev cX3_init : ByteArray := prog_1_method_1_code
def yX3_init : MethodName := ⟨RX3, "<init>", "()V"⟩
abbrev cX3_put : ByteArray := prog_1_method_2_code
def yX3_put : MethodName := ⟨RX3, "put", "(II)I"⟩
abbrev cX3_take : ByteArray := prog_1_method_3_code
def yX3_take : MethodName := ⟨RX3, "take", "(II)I"⟩
abbrev cX3_where : ByteArray := prog_1_method_4_code
def yX3_where : MethodName := ⟨RX3, "where", "(II)I"⟩
abbrev cX3_whereByAll : ByteArray := prog_1_method_5_code
def yX3_whereByAll : MethodName := ⟨RX3, "whereByAll", "(I)I"⟩
abbrev cX3_count : ByteArray := prog_1_method_6_code
def yX3_count : MethodName := ⟨RX3, "count", "(II)I"⟩
abbrev cX3_countByAll : ByteArray := prog_1_method_7_code
def yX3_countByAll : MethodName := ⟨RX3, "countByAll", "(I)I"⟩
abbrev cX3_claims : ByteArray := prog_1_method_8_code
def yX3_claims : MethodName := ⟨RX3, "claims", "(II)I"⟩
abbrev cX3_meet : ByteArray := prog_1_method_9_code
def yX3_meet : MethodName := ⟨RX3, "meet", "(II)I"⟩
abbrev cX3_words : ByteArray := prog_1_method_10_code
def yX3_words : MethodName := ⟨RX3, "words", "()I"⟩
abbrev cX3_known : ByteArray := prog_1_method_11_code
def yX3_known : MethodName := ⟨RX3, "known", "(I)I"⟩
abbrev cX3_clock : ByteArray := prog_1_method_12_code
def yX3_clock : MethodName := ⟨RX3, "clock", "(I)I"⟩
abbrev cX3_guest : ByteArray := prog_1_method_13_code
def yX3_guest : MethodName := ⟨RX3, "guest", "(IIIII)I"⟩
abbrev cX3_guests : ByteArray := prog_1_method_14_code
def yX3_guests : MethodName := ⟨RX3, "guests", "(II)I"⟩
abbrev cX3_setNeed : ByteArray := prog_1_method_15_code
def yX3_setNeed : MethodName := ⟨RX3, "setNeed", "(III)I"⟩
abbrev cX3_plan : ByteArray := prog_1_method_16_code
def yX3_plan : MethodName := ⟨RX3, "plan", "(III)I"⟩
abbrev cX3_keep : ByteArray := prog_1_method_17_code
def yX3_keep : MethodName := ⟨RX3, "keep", "(II)I"⟩
abbrev cX3_drop : ByteArray := prog_1_method_18_code
def yX3_drop : MethodName := ⟨RX3, "drop", "(II)I"⟩
abbrev cX3_bake : ByteArray := prog_1_method_19_code
def yX3_bake : MethodName := ⟨RX3, "bake", "(II)I"⟩
abbrev cX3_cakes : ByteArray := prog_1_method_20_code
def yX3_cakes : MethodName := ⟨RX3, "cakes", "()I"⟩
abbrev cX3_cake : ByteArray := prog_1_method_21_code
def yX3_cake : MethodName := ⟨RX3, "cake", "(II)I"⟩
abbrev cX3_keptFor : ByteArray := prog_1_method_22_code
def yX3_keptFor : MethodName := ⟨RX3, "keptFor", "(II)I"⟩
abbrev cX3_keptByAll : ByteArray := prog_1_method_23_code
def yX3_keptByAll : MethodName := ⟨RX3, "keptByAll", "(I)I"⟩
abbrev cX3_lacks : ByteArray := prog_1_method_24_code
def yX3_lacks : MethodName := ⟨RX3, "lacks", "(III)I"⟩
abbrev cX3_isUnfit : ByteArray := prog_1_method_25_code
def yX3_isUnfit : MethodName := ⟨RX3, "isUnfit", "(II)Z"⟩
abbrev cX3_isSpoilt : ByteArray := prog_1_method_26_code
def yX3_isSpoilt : MethodName := ⟨RX3, "isSpoilt", "(II)Z"⟩
abbrev cX3_missing : ByteArray := prog_1_method_27_code
def yX3_missing : MethodName := ⟨RX3, "missing", "(II)I"⟩
abbrev cX3_checkNumber : ByteArray := prog_1_method_28_code
def yX3_checkNumber : MethodName := ⟨RX3, "checkNumber", "(II)V"⟩
abbrev cX3_checkRange : ByteArray := prog_1_method_29_code
def yX3_checkRange : MethodName := ⟨RX3, "checkRange", "(III)V"⟩
abbrev cX3_checkRoomFor : ByteArray := prog_1_method_30_code
def yX3_checkRoomFor : MethodName := ⟨RX3, "checkRoomFor", "(I)V"⟩
abbrev cX3_checkOpen : ByteArray := prog_1_method_31_code
def yX3_checkOpen : MethodName := ⟨RX3, "checkOpen", "(I)V"⟩
abbrev cX3_lookAs : ByteArray := prog_1_method_32_code
def yX3_lookAs : MethodName := ⟨RX3, "lookAs", "(I)V"⟩
abbrev cX3_lookByAll : ByteArray := prog_1_method_33_code
def yX3_lookByAll : MethodName := ⟨RX3, "lookByAll", "()V"⟩
abbrev cX3_write : ByteArray := prog_1_method_34_code
def yX3_write : MethodName := ⟨RX3, "write", "(IIII)LFridgeGossip$Word;"⟩
abbrev cX3_isDisliked : ByteArray := prog_1_method_35_code
def yX3_isDisliked : MethodName := ⟨RX3, "isDisliked", "(II)Z"⟩
abbrev cX3_lacking : ByteArray := prog_1_method_36_code
def yX3_lacking : MethodName := ⟨RX3, "lacking", "(II)I"⟩
abbrev cX3_keptInAll : ByteArray := prog_1_method_37_code
def yX3_keptInAll : MethodName := ⟨RX3, "keptInAll", "(I)I"⟩
abbrev cX3_keepable : ByteArray := prog_1_method_38_code
def yX3_keepable : MethodName := ⟨RX3, "keepable", "(II)I"⟩
abbrev cX3_writeKeeps : ByteArray := prog_1_method_39_code
def yX3_writeKeeps : MethodName := ⟨RX3, "writeKeeps", "(III)V"⟩
def RX4 : String := "FridgeGossipModel"
def TX4 : u_T := fun k => match k with
  | 0 => ("FridgeGossipModel", "wordMany", "I", false)
  | 1 => ("FridgeGossipModel", "kinds", "[I", true)
  | 2 => ("FridgeGossipModel", "authors", "[I", true)
  | 3 => ("FridgeGossipModel", "stamps", "[I", true)
  | 4 => ("FridgeGossipModel", "subjects", "[I", true)
  | 5 => ("FridgeGossipModel", "cakesOf", "[I", true)
  | 6 => ("FridgeGossipModel", "firsts", "[I", true)
  | 7 => ("FridgeGossipModel", "lasts", "[I", true)
  | 8 => ("FridgeGossipModel", "dislikes", "[I", true)
  | 9 => ("FridgeGossipModel", "isKnown", "[Z", true)
  | 10 => ("FridgeGossipModel", "clocks", "[I", true)
  | 11 => ("FridgeGossipModel", "needs", "[I", true)
  | 12 => ("FridgeGossipModel", "cakeMany", "I", false)
  | 13 => ("FridgeGossipModel", "recipes", "[I", true)
  | 14 => ("FridgeGossipModel", "days", "[I", true)
  | 15 => ("FridgeGossipModel", "planWords", "[I", true)
  | 16 => ("FridgeGossipModel", "thrown", "I", false)
  | 17 => ("FridgeGossipModel", "list", "[I", true)
  | _ => ("FridgeGossipModel", "listMany", "I", false)
def tyX4 : Nat → FieldType := fun k => match k with
  | 0 => .int
  | 1 => .array .int
  | 2 => .array .int
  | 3 => .array .int
  | 4 => .array .int
  | 5 => .array .int
  | 6 => .array .int
  | 7 => .array .int
  | 8 => .array .int
  | 9 => .array .boolean
  | 10 => .array .int
  | 11 => .array .int
  | 12 => .int
  | 13 => .array .int
  | 14 => .array .int
  | 15 => .array .int
  | 16 => .int
  | 17 => .array .int
  | _ => .int
abbrev wsX40 : List Cond := u_ws RX4 TX4 19
theorem nmX4 : ∀ a, a < 19 → ∀ b, b < 19 → a ≠ b → (TX4 a).2.1 ≠ (TX4 b).2.1 := by decide +kernel
theorem tyX4_ok : ∀ k, k < 19 → parseFieldDescriptor (TX4 k).2.2.1 = some (tyX4 k) := by decide +kernel
abbrev cX4_init : ByteArray := prog_6_method_1_code
def yX4_init : MethodName := ⟨RX4, "<init>", "()V"⟩
abbrev cX4_thrown : ByteArray := prog_6_method_2_code
def yX4_thrown : MethodName := ⟨RX4, "thrown", "()I"⟩
abbrev cX4_in : ByteArray := prog_6_method_3_code
def yX4_in : MethodName := ⟨RX4, "in", "(III)Z"⟩
abbrev cX4_isFridge : ByteArray := prog_6_method_4_code
def yX4_isFridge : MethodName := ⟨RX4, "isFridge", "(I)Z"⟩
abbrev cX4_isThing : ByteArray := prog_6_method_5_code
def yX4_isThing : MethodName := ⟨RX4, "isThing", "(I)Z"⟩
abbrev cX4_isFood : ByteArray := prog_6_method_6_code
def yX4_isFood : MethodName := ⟨RX4, "isFood", "(I)Z"⟩
abbrev cX4_isCake : ByteArray := prog_6_method_7_code
def yX4_isCake : MethodName := ⟨RX4, "isCake", "(I)Z"⟩
abbrev cX4_knows : ByteArray := prog_6_method_8_code
def yX4_knows : MethodName := ⟨RX4, "knows", "(II)Z"⟩
abbrev cX4_isLater : ByteArray := prog_6_method_9_code
def yX4_isLater : MethodName := ⟨RX4, "isLater", "(II)Z"⟩
abbrev cX4_write : ByteArray := prog_6_method_10_code
def yX4_write : MethodName := ⟨RX4, "write", "(IIII)I"⟩
abbrev cX4_isMove : ByteArray := prog_6_method_11_code
def yX4_isMove : MethodName := ⟨RX4, "isMove", "(II)Z"⟩
abbrev cX4_latestMove : ByteArray := prog_6_method_12_code
def yX4_latestMove : MethodName := ⟨RX4, "latestMove", "(III)I"⟩
abbrev cX4_placeOf : ByteArray := prog_6_method_13_code
def yX4_placeOf : MethodName := ⟨RX4, "placeOf", "(II)I"⟩
abbrev cX4_isFull : ByteArray := prog_6_method_14_code
def yX4_isFull : MethodName := ⟨RX4, "isFull", "(I)Z"⟩
abbrev cX4_areOne : ByteArray := prog_6_method_15_code
def yX4_areOne : MethodName := ⟨RX4, "areOne", "(II)Z"⟩
abbrev cX4_put : ByteArray := prog_6_method_16_code
def yX4_put : MethodName := ⟨RX4, "put", "(II)I"⟩
abbrev cX4_take : ByteArray := prog_6_method_17_code
def yX4_take : MethodName := ⟨RX4, "take", "(II)I"⟩
abbrev cX4_where : ByteArray := prog_6_method_18_code
def yX4_where : MethodName := ⟨RX4, "where", "(II)I"⟩
abbrev cX4_whereByAll : ByteArray := prog_6_method_19_code
def yX4_whereByAll : MethodName := ⟨RX4, "whereByAll", "(I)I"⟩
abbrev cX4_countOf : ByteArray := prog_6_method_20_code
def yX4_countOf : MethodName := ⟨RX4, "countOf", "(II)I"⟩
abbrev cX4_count : ByteArray := prog_6_method_21_code
def yX4_count : MethodName := ⟨RX4, "count", "(II)I"⟩
abbrev cX4_countByAll : ByteArray := prog_6_method_22_code
def yX4_countByAll : MethodName := ⟨RX4, "countByAll", "(I)I"⟩
abbrev cX4_claims : ByteArray := prog_6_method_23_code
def yX4_claims : MethodName := ⟨RX4, "claims", "(II)I"⟩
abbrev cX4_meet : ByteArray := prog_6_method_24_code
def yX4_meet : MethodName := ⟨RX4, "meet", "(II)I"⟩
abbrev cX4_words : ByteArray := prog_6_method_25_code
def yX4_words : MethodName := ⟨RX4, "words", "()I"⟩
abbrev cX4_known : ByteArray := prog_6_method_26_code
def yX4_known : MethodName := ⟨RX4, "known", "(I)I"⟩
abbrev cX4_clock : ByteArray := prog_6_method_27_code
def yX4_clock : MethodName := ⟨RX4, "clock", "(I)I"⟩
abbrev cX4_guest : ByteArray := prog_6_method_28_code
def yX4_guest : MethodName := ⟨RX4, "guest", "(IIIII)I"⟩
abbrev cX4_coming : ByteArray := prog_6_method_29_code
def yX4_coming : MethodName := ⟨RX4, "coming", "(III)I"⟩
abbrev cX4_guests : ByteArray := prog_6_method_30_code
def yX4_guests : MethodName := ⟨RX4, "guests", "(II)I"⟩
abbrev cX4_guestMany : ByteArray := prog_6_method_31_code
def yX4_guestMany : MethodName := ⟨RX4, "guestMany", "(II)I"⟩
abbrev cX4_setNeed : ByteArray := prog_6_method_32_code
def yX4_setNeed : MethodName := ⟨RX4, "setNeed", "(III)I"⟩
abbrev cX4_isDisliked : ByteArray := prog_6_method_33_code
def yX4_isDisliked : MethodName := ⟨RX4, "isDisliked", "(III)Z"⟩
abbrev cX4_plan : ByteArray := prog_6_method_34_code
def yX4_plan : MethodName := ⟨RX4, "plan", "(III)I"⟩
abbrev cX4_stateOf : ByteArray := prog_6_method_35_code
def yX4_stateOf : MethodName := ⟨RX4, "stateOf", "(II)I"⟩
abbrev cX4_isAhead : ByteArray := prog_6_method_36_code
def yX4_isAhead : MethodName := ⟨RX4, "isAhead", "(III)Z"⟩
abbrev cX4_keeper : ByteArray := prog_6_method_37_code
def yX4_keeper : MethodName := ⟨RX4, "keeper", "(II)I"⟩
abbrev cX4_keptOf : ByteArray := prog_6_method_38_code
def yX4_keptOf : MethodName := ⟨RX4, "keptOf", "(III)I"⟩
abbrev cX4_lackOf : ByteArray := prog_6_method_39_code
def yX4_lackOf : MethodName := ⟨RX4, "lackOf", "(III)I"⟩
abbrev cX4_layKeeps : ByteArray := prog_6_method_40_code
def yX4_layKeeps : MethodName := ⟨RX4, "layKeeps", "(II)V"⟩
abbrev cX4_layKept : ByteArray := prog_6_method_41_code
def yX4_layKept : MethodName := ⟨RX4, "layKept", "(II)V"⟩
abbrev cX4_areCake : ByteArray := prog_6_method_42_code
def yX4_areCake : MethodName := ⟨RX4, "areCake", "(II)Z"⟩
abbrev cX4_isOpen : ByteArray := prog_6_method_43_code
def yX4_isOpen : MethodName := ⟨RX4, "isOpen", "(II)Z"⟩
abbrev cX4_keep : ByteArray := prog_6_method_44_code
def yX4_keep : MethodName := ⟨RX4, "keep", "(II)I"⟩
abbrev cX4_drop : ByteArray := prog_6_method_45_code
def yX4_drop : MethodName := ⟨RX4, "drop", "(II)I"⟩
abbrev cX4_bake : ByteArray := prog_6_method_46_code
def yX4_bake : MethodName := ⟨RX4, "bake", "(II)I"⟩
abbrev cX4_cakes : ByteArray := prog_6_method_47_code
def yX4_cakes : MethodName := ⟨RX4, "cakes", "()I"⟩
abbrev cX4_cake : ByteArray := prog_6_method_48_code
def yX4_cake : MethodName := ⟨RX4, "cake", "(II)I"⟩
abbrev cX4_keptFor : ByteArray := prog_6_method_49_code
def yX4_keptFor : MethodName := ⟨RX4, "keptFor", "(II)I"⟩
abbrev cX4_keptByAll : ByteArray := prog_6_method_50_code
def yX4_keptByAll : MethodName := ⟨RX4, "keptByAll", "(I)I"⟩
abbrev cX4_lacks : ByteArray := prog_6_method_51_code
def yX4_lacks : MethodName := ⟨RX4, "lacks", "(III)I"⟩
abbrev cX4_isUnfit : ByteArray := prog_6_method_52_code
def yX4_isUnfit : MethodName := ⟨RX4, "isUnfit", "(II)Z"⟩
abbrev cX4_isVain : ByteArray := prog_6_method_53_code
def yX4_isVain : MethodName := ⟨RX4, "isVain", "(II)Z"⟩
abbrev cX4_isSpoilt : ByteArray := prog_6_method_54_code
def yX4_isSpoilt : MethodName := ⟨RX4, "isSpoilt", "(II)Z"⟩
abbrev cX4_missing : ByteArray := prog_6_method_55_code
def yX4_missing : MethodName := ⟨RX4, "missing", "(II)I"⟩
def RJx145de : String := "java/io/Serializable"
def TJx145de : u_T := fun k => match k with
  | _ => ("", "", "", false)
def tyJx145de : Nat → FieldType := fun k => match k with
  | _ => .int
abbrev wsJx145de0 : List Cond := u_ws RJx145de TJx145de 0
theorem nmJx145de : ∀ a, a < 0 → ∀ b, b < 0 → a ≠ b → (TJx145de a).2.1 ≠ (TJx145de b).2.1 := by decide +kernel
theorem tyJx145de_ok : ∀ k, k < 0 → parseFieldDescriptor (TJx145de k).2.2.1 = some (tyJx145de k) := by decide +kernel
def RJ6 : String := "java/lang/Integer"
def TJ6 : u_T := fun k => match k with
  | _ => ("", "", "", false)
def tyJ6 : Nat → FieldType := fun k => match k with
  | _ => .int
abbrev wsJ60 : List Cond := u_ws RJ6 TJ6 0
theorem nmJ6 : ∀ a, a < 0 → ∀ b, b < 0 → a ≠ b → (TJ6 a).2.1 ≠ (TJ6 b).2.1 := by decide +kernel
theorem tyJ6_ok : ∀ k, k < 0 → parseFieldDescriptor (TJ6 k).2.2.1 = some (tyJ6 k) := by decide +kernel
abbrev cJ6_bitCount_0f7a4 : ByteArray := prog_11_method_49_code
def yJ6_bitCount_0f7a4 : MethodName := ⟨RJ6, "bitCount", "(I)I"⟩
def RJ9 : String := "java/lang/Math"
def TJ9 : u_T := fun k => match k with
  | _ => ("", "", "", false)
def tyJ9 : Nat → FieldType := fun k => match k with
  | _ => .int
abbrev wsJ90 : List Cond := u_ws RJ9 TJ9 0
theorem nmJ9 : ∀ a, a < 0 → ∀ b, b < 0 → a ≠ b → (TJ9 a).2.1 ≠ (TJ9 b).2.1 := by decide +kernel
theorem tyJ9_ok : ∀ k, k < 0 → parseFieldDescriptor (TJ9 k).2.2.1 = some (tyJ9 k) := by decide +kernel
abbrev cJ9_max_7cf53 : ByteArray := prog_12_method_65_code
def yJ9_max_7cf53 : MethodName := ⟨RJ9, "max", "(II)I"⟩
abbrev cJ9_min_7cf53 : ByteArray := prog_12_method_69_code
def yJ9_min_7cf53 : MethodName := ⟨RJ9, "min", "(II)I"⟩
def RJ0 : String := "java/lang/String"
def TJ0 : u_T := fun k => match k with
  | _ => ("", "", "", false)
def tyJ0 : Nat → FieldType := fun k => match k with
  | _ => .int
abbrev wsJ00 : List Cond := u_ws RJ0 TJ0 0
theorem nmJ0 : ∀ a, a < 0 → ∀ b, b < 0 → a ≠ b → (TJ0 a).2.1 ≠ (TJ0 b).2.1 := by decide +kernel
theorem tyJ0_ok : ∀ k, k < 0 → parseFieldDescriptor (TJ0 k).2.2.1 = some (tyJ0 k) := by decide +kernel
def RJ7 : String := "java/util/Arrays"
def TJ7 : u_T := fun k => match k with
  | _ => ("", "", "", false)
def tyJ7 : Nat → FieldType := fun k => match k with
  | _ => .int
abbrev wsJ70 : List Cond := u_ws RJ7 TJ7 0
theorem nmJ7 : ∀ a, a < 0 → ∀ b, b < 0 → a ≠ b → (TJ7 a).2.1 ≠ (TJ7 b).2.1 := by decide +kernel
theorem tyJ7_ok : ∀ k, k < 0 → parseFieldDescriptor (TJ7 k).2.2.1 = some (tyJ7 k) := by decide +kernel
abbrev cJ7_fill_53178 : ByteArray := prog_16_method_103_code
def yJ7_fill_53178 : MethodName := ⟨RJ7, "fill", "([II)V"⟩
def RL : String := "FridgeGossipLaw"
abbrev cL_put : ByteArray := method_3_code
def yL_put : MethodName := ⟨RL, "put", "(LFridgeGossip;II[J)I"⟩
abbrev cL_take : ByteArray := method_4_code
def yL_take : MethodName := ⟨RL, "take", "(LFridgeGossip;II[J)I"⟩
abbrev cL_where : ByteArray := method_5_code
def yL_where : MethodName := ⟨RL, "where", "(LFridgeGossip;II[J)I"⟩
abbrev cL_whereByAll : ByteArray := method_6_code
def yL_whereByAll : MethodName := ⟨RL, "whereByAll", "(LFridgeGossip;I[J)I"⟩
abbrev cL_count : ByteArray := method_7_code
def yL_count : MethodName := ⟨RL, "count", "(LFridgeGossip;II[J)I"⟩
abbrev cL_countByAll : ByteArray := method_8_code
def yL_countByAll : MethodName := ⟨RL, "countByAll", "(LFridgeGossip;I[J)I"⟩
abbrev cL_claims : ByteArray := method_9_code
def yL_claims : MethodName := ⟨RL, "claims", "(LFridgeGossip;II[J)I"⟩
abbrev cL_meet : ByteArray := method_10_code
def yL_meet : MethodName := ⟨RL, "meet", "(LFridgeGossip;II[J)I"⟩
abbrev cL_known : ByteArray := method_11_code
def yL_known : MethodName := ⟨RL, "known", "(LFridgeGossip;I[J)I"⟩
abbrev cL_clock : ByteArray := method_12_code
def yL_clock : MethodName := ⟨RL, "clock", "(LFridgeGossip;I[J)I"⟩
abbrev cL_guest : ByteArray := method_13_code
def yL_guest : MethodName := ⟨RL, "guest", "(LFridgeGossip;IIIII[J)I"⟩
abbrev cL_guests : ByteArray := method_14_code
def yL_guests : MethodName := ⟨RL, "guests", "(LFridgeGossip;II[J)I"⟩
abbrev cL_setNeed : ByteArray := method_15_code
def yL_setNeed : MethodName := ⟨RL, "setNeed", "(LFridgeGossip;III[J)I"⟩
abbrev cL_plan : ByteArray := method_16_code
def yL_plan : MethodName := ⟨RL, "plan", "(LFridgeGossip;III[J)I"⟩
abbrev cL_keep : ByteArray := method_17_code
def yL_keep : MethodName := ⟨RL, "keep", "(LFridgeGossip;II[J)I"⟩
abbrev cL_drop : ByteArray := method_18_code
def yL_drop : MethodName := ⟨RL, "drop", "(LFridgeGossip;II[J)I"⟩
abbrev cL_bake : ByteArray := method_19_code
def yL_bake : MethodName := ⟨RL, "bake", "(LFridgeGossip;II[J)I"⟩
abbrev cL_cake : ByteArray := method_20_code
def yL_cake : MethodName := ⟨RL, "cake", "(LFridgeGossip;II[J)I"⟩
abbrev cL_keptFor : ByteArray := method_21_code
def yL_keptFor : MethodName := ⟨RL, "keptFor", "(LFridgeGossip;II[J)I"⟩
abbrev cL_keptByAll : ByteArray := method_22_code
def yL_keptByAll : MethodName := ⟨RL, "keptByAll", "(LFridgeGossip;I[J)I"⟩
abbrev cL_lacks : ByteArray := method_23_code
def yL_lacks : MethodName := ⟨RL, "lacks", "(LFridgeGossip;III[J)I"⟩
abbrev cL_isUnfit : ByteArray := method_24_code
def yL_isUnfit : MethodName := ⟨RL, "isUnfit", "(LFridgeGossip;II[J)I"⟩
abbrev cL_isSpoilt : ByteArray := method_25_code
def yL_isSpoilt : MethodName := ⟨RL, "isSpoilt", "(LFridgeGossip;II[J)I"⟩
abbrev cL_missing : ByteArray := method_26_code
def yL_missing : MethodName := ⟨RL, "missing", "(LFridgeGossip;II[J)I"⟩
abbrev cL_law : ByteArray := code
def yL_law : MethodName := ⟨RL, "law", "([I)Z"⟩
def wsX0_init : List Cond := .code yX0_init cX0_init 1 none :: ([.methodLink RX0 3 objectInit, .instanceMethod objectInit, .code objectInit ⟨#[0xb1]⟩ 1 none, .arrayClass .int, .fieldLink RX0 9 "FridgeGossip$View" "place" "[I", .fieldLink RX0 15 "FridgeGossip$View" "claimers" "[I", .fieldLink RX0 18 "FridgeGossip$View" "kept" "[I", .fieldLink RX0 21 "FridgeGossip$View" "firstDay" "[I", .fieldLink RX0 24 "FridgeGossip$View" "lastDay" "[I", .fieldLink RX0 27 "FridgeGossip$View" "dislikes" "[I", .fieldLink RX0 30 "FridgeGossip$View" "state" "[I", .fieldLink RX0 33 "FridgeGossip$View" "planRank" "[I", .fieldLink RX0 36 "FridgeGossip$View" "planCount" "I", .fieldLink RX0 40 "FridgeGossip$View" "spoiltCakes" "I"] ++ wsX00)
def wsJ7_fill_53178 : List Cond := .code yJ7_fill_53178 cJ7_fill_53178 4 none :: ([])
def wsX0_forget : List Cond := .code yX0_forget cX0_forget 1 none :: ([.fieldLink RX0 9 "FridgeGossip$View" "place" "[I", .fieldLink RX0 15 "FridgeGossip$View" "claimers" "[I", .fieldLink RX0 18 "FridgeGossip$View" "kept" "[I", .fieldLink RX0 21 "FridgeGossip$View" "firstDay" "[I", .fieldLink RX0 24 "FridgeGossip$View" "lastDay" "[I", .fieldLink RX0 27 "FridgeGossip$View" "dislikes" "[I", .fieldLink RX0 30 "FridgeGossip$View" "state" "[I", .fieldLink RX0 33 "FridgeGossip$View" "planRank" "[I", .fieldLink RX0 36 "FridgeGossip$View" "planCount" "I", .fieldLink RX0 40 "FridgeGossip$View" "spoiltCakes" "I", .methodLink RX0 77 yJ7_fill_53178, .static yJ7_fill_53178, .initialized RJ7, .code yJ7_fill_53178 cJ7_fill_53178 4 none] ++ wsX00)
def wsX0_hearTake : List Cond := .code yX0_hearTake cX0_hearTake 2 none :: ([.fieldLink RX0 70 "FridgeGossip$Word" "cake" "I", .fieldLink RX0 9 "FridgeGossip$View" "place" "[I", .fieldLink RX0 67 "FridgeGossip$Word" "subject" "I", .fieldLink RX0 40 "FridgeGossip$View" "spoiltCakes" "I", .fieldLink RX0 15 "FridgeGossip$View" "claimers" "[I", .fieldLink RX0 83 "FridgeGossip$Word" "writer" "I"] ++ wsX10 ++ wsX00)
def wsX0_hear : List Cond := .code yX0_hear cX0_hear 2 none :: ([.fieldLink RX0 64 "FridgeGossip$Word" "kind" "I", .fieldLink RX0 9 "FridgeGossip$View" "place" "[I", .fieldLink RX0 67 "FridgeGossip$Word" "subject" "I", .fieldLink RX0 83 "FridgeGossip$Word" "writer" "I", .fieldLink RX0 15 "FridgeGossip$View" "claimers" "[I", .fieldLink RX0 21 "FridgeGossip$View" "firstDay" "[I", .fieldLink RX0 89 "FridgeGossip$Word" "firstDay" "I", .fieldLink RX0 24 "FridgeGossip$View" "lastDay" "[I", .fieldLink RX0 91 "FridgeGossip$Word" "lastDay" "I", .fieldLink RX0 27 "FridgeGossip$View" "dislikes" "[I", .fieldLink RX0 93 "FridgeGossip$Word" "dislikes" "I", .fieldLink RX0 30 "FridgeGossip$View" "state" "[I", .fieldLink RX0 70 "FridgeGossip$Word" "cake" "I", .fieldLink RX0 33 "FridgeGossip$View" "planRank" "[I", .fieldLink RX0 36 "FridgeGossip$View" "planCount" "I", .methodLink RX0 86 yX0_hearTake, .instanceMethod yX0_hearTake, .selects RX0 yX0_hearTake yX0_hearTake, .initialized RX0, .code yX0_hearTake cX0_hearTake 2 none, .fieldLink RX0 40 "FridgeGossip$View" "spoiltCakes" "I"] ++ wsX10 ++ wsX00)
def wsX0_comesOn : List Cond := .code yX0_comesOn cX0_comesOn 3 (some .boolean) :: ([.fieldLink RX0 21 "FridgeGossip$View" "firstDay" "[I", .fieldLink RX0 24 "FridgeGossip$View" "lastDay" "[I"] ++ wsX00)
def wsX0_guestsOn : List Cond := .code yX0_guestsOn cX0_guestsOn 4 (some .int) :: ([.methodLink RX0 108 yX0_comesOn, .instanceMethod yX0_comesOn, .selects RX0 yX0_comesOn yX0_comesOn, .initialized RX0, .code yX0_comesOn cX0_comesOn 3 (some .boolean), .fieldLink RX0 21 "FridgeGossip$View" "firstDay" "[I", .fieldLink RX0 24 "FridgeGossip$View" "lastDay" "[I"] ++ wsX00)
def wsJ6_bitCount_0f7a4 : List Cond := .code yJ6_bitCount_0f7a4 cJ6_bitCount_0f7a4 1 (some .int) :: ([.constant RJ6 265 (1431655765), .constant RJ6 266 (858993459), .constant RJ6 267 (252645135)])
def wsX0_isAhead : List Cond := .code yX0_isAhead cX0_isAhead 8 (some .boolean) :: ([.fieldLink RX0 33 "FridgeGossip$View" "planRank" "[I", .methodLink RX0 99 yX0_guestsOn, .instanceMethod yX0_guestsOn, .selects RX0 yX0_guestsOn yX0_guestsOn, .initialized RX0, .code yX0_guestsOn cX0_guestsOn 4 (some .int), .methodLink RX0 108 yX0_comesOn, .instanceMethod yX0_comesOn, .selects RX0 yX0_comesOn yX0_comesOn, .code yX0_comesOn cX0_comesOn 3 (some .boolean), .fieldLink RX0 21 "FridgeGossip$View" "firstDay" "[I", .fieldLink RX0 24 "FridgeGossip$View" "lastDay" "[I", .methodLink RX0 103 yJ6_bitCount_0f7a4, .static yJ6_bitCount_0f7a4, .initialized RJ6, .code yJ6_bitCount_0f7a4 cJ6_bitCount_0f7a4 1 (some .int), .constant RJ6 265 (1431655765), .constant RJ6 266 (858993459), .constant RJ6 267 (252645135)] ++ wsX00)
def wsX0_hearKeep_r1 : List Cond := [Cond.fieldLink RX0 9 "FridgeGossip$View" "place" "[I", Cond.fieldLink RX0 30 "FridgeGossip$View" "state" "[I", Cond.fieldLink RX0 18 "FridgeGossip$View" "kept" "[I", Cond.methodLink RX0 95 yX0_isAhead, Cond.instanceMethod yX0_isAhead, Cond.selects RX0 yX0_isAhead yX0_isAhead, Cond.initialized RX0, Cond.code yX0_isAhead cX0_isAhead 8 (some .boolean), Cond.fieldLink RX0 33 "FridgeGossip$View" "planRank" "[I", Cond.methodLink RX0 99 yX0_guestsOn, Cond.instanceMethod yX0_guestsOn, Cond.selects RX0 yX0_guestsOn yX0_guestsOn, Cond.code yX0_guestsOn cX0_guestsOn 4 (some .int), Cond.methodLink RX0 108 yX0_comesOn, Cond.instanceMethod yX0_comesOn, Cond.selects RX0 yX0_comesOn yX0_comesOn, Cond.code yX0_comesOn cX0_comesOn 3 (some .boolean), Cond.fieldLink RX0 21 "FridgeGossip$View" "firstDay" "[I", Cond.fieldLink RX0 24 "FridgeGossip$View" "lastDay" "[I", Cond.methodLink RX0 103 yJ6_bitCount_0f7a4, Cond.static yJ6_bitCount_0f7a4, Cond.initialized RJ6, Cond.code yJ6_bitCount_0f7a4 cJ6_bitCount_0f7a4 1 (some .int), Cond.constant RJ6 265 (1431655765)]
def wsX0_hearKeep_r2 : List Cond := [Cond.constant RJ6 266 (858993459), Cond.constant RJ6 267 (252645135)]
def wsX0_hearKeep : List Cond := .code yX0_hearKeep cX0_hearKeep 4 none :: ((wsX0_hearKeep_r1 ++ wsX0_hearKeep_r2) ++ wsX00)
def wsX0_read_r1 : List Cond := [Cond.fieldLink RX0 46 "FridgeGossip$WordChain" "earliest" "LFridgeGossip$Word;", Cond.fieldLink RX0 52 "FridgeGossip$Word" "knownTo" "I", Cond.fieldLink RX0 61 "FridgeGossip$Word" "next" "LFridgeGossip$Word;", Cond.fieldLink RX0 64 "FridgeGossip$Word" "kind" "I", Cond.fieldLink RX0 67 "FridgeGossip$Word" "subject" "I", Cond.fieldLink RX0 70 "FridgeGossip$Word" "cake" "I", Cond.methodLink RX0 43 yX0_forget, Cond.instanceMethod yX0_forget, Cond.selects RX0 yX0_forget yX0_forget, Cond.initialized RX0, Cond.code yX0_forget cX0_forget 1 none, Cond.fieldLink RX0 9 "FridgeGossip$View" "place" "[I", Cond.fieldLink RX0 15 "FridgeGossip$View" "claimers" "[I", Cond.fieldLink RX0 18 "FridgeGossip$View" "kept" "[I", Cond.fieldLink RX0 21 "FridgeGossip$View" "firstDay" "[I", Cond.fieldLink RX0 24 "FridgeGossip$View" "lastDay" "[I", Cond.fieldLink RX0 27 "FridgeGossip$View" "dislikes" "[I", Cond.fieldLink RX0 30 "FridgeGossip$View" "state" "[I", Cond.fieldLink RX0 33 "FridgeGossip$View" "planRank" "[I", Cond.fieldLink RX0 36 "FridgeGossip$View" "planCount" "I", Cond.fieldLink RX0 40 "FridgeGossip$View" "spoiltCakes" "I", Cond.methodLink RX0 77 yJ7_fill_53178, Cond.static yJ7_fill_53178, Cond.initialized RJ7]
def wsX0_read_r2 : List Cond := [Cond.code yJ7_fill_53178 cJ7_fill_53178 4 none, Cond.methodLink RX0 57 yX0_hear, Cond.instanceMethod yX0_hear, Cond.selects RX0 yX0_hear yX0_hear, Cond.code yX0_hear cX0_hear 2 none, Cond.fieldLink RX0 83 "FridgeGossip$Word" "writer" "I", Cond.fieldLink RX0 89 "FridgeGossip$Word" "firstDay" "I", Cond.fieldLink RX0 91 "FridgeGossip$Word" "lastDay" "I", Cond.fieldLink RX0 93 "FridgeGossip$Word" "dislikes" "I", Cond.methodLink RX0 86 yX0_hearTake, Cond.instanceMethod yX0_hearTake, Cond.selects RX0 yX0_hearTake yX0_hearTake, Cond.code yX0_hearTake cX0_hearTake 2 none, Cond.methodLink RX0 73 yX0_hearKeep, Cond.instanceMethod yX0_hearKeep, Cond.selects RX0 yX0_hearKeep yX0_hearKeep, Cond.code yX0_hearKeep cX0_hearKeep 4 none, Cond.methodLink RX0 95 yX0_isAhead, Cond.instanceMethod yX0_isAhead, Cond.selects RX0 yX0_isAhead yX0_isAhead, Cond.code yX0_isAhead cX0_isAhead 8 (some .boolean), Cond.methodLink RX0 99 yX0_guestsOn, Cond.instanceMethod yX0_guestsOn, Cond.selects RX0 yX0_guestsOn yX0_guestsOn]
def wsX0_read_r3 : List Cond := [Cond.code yX0_guestsOn cX0_guestsOn 4 (some .int), Cond.methodLink RX0 108 yX0_comesOn, Cond.instanceMethod yX0_comesOn, Cond.selects RX0 yX0_comesOn yX0_comesOn, Cond.code yX0_comesOn cX0_comesOn 3 (some .boolean), Cond.methodLink RX0 103 yJ6_bitCount_0f7a4, Cond.static yJ6_bitCount_0f7a4, Cond.initialized RJ6, Cond.code yJ6_bitCount_0f7a4 cJ6_bitCount_0f7a4 1 (some .int), Cond.constant RJ6 265 (1431655765), Cond.constant RJ6 266 (858993459), Cond.constant RJ6 267 (252645135)]
def wsX0_read : List Cond := .code yX0_read cX0_read 5 none :: ((wsX0_read_r1 ++ (wsX0_read_r2 ++ wsX0_read_r3)) ++ wsX20 ++ wsX10 ++ wsX00)
def wsX0_dislikedOn : List Cond := .code yX0_dislikedOn cX0_dislikedOn 4 (some .int) :: ([.fieldLink RX0 27 "FridgeGossip$View" "dislikes" "[I", .methodLink RX0 108 yX0_comesOn, .instanceMethod yX0_comesOn, .selects RX0 yX0_comesOn yX0_comesOn, .initialized RX0, .code yX0_comesOn cX0_comesOn 3 (some .boolean), .fieldLink RX0 21 "FridgeGossip$View" "firstDay" "[I", .fieldLink RX0 24 "FridgeGossip$View" "lastDay" "[I"] ++ wsX00)
def wsX0_wrongClaimers : List Cond := .code yX0_wrongClaimers cX0_wrongClaimers 3 (some .int) :: ([.fieldLink RX0 9 "FridgeGossip$View" "place" "[I", .fieldLink RX0 15 "FridgeGossip$View" "claimers" "[I"] ++ wsX00)
def wsX0_isFree : List Cond := .code yX0_isFree cX0_isFree 2 (some .boolean) :: ([.fieldLink RX0 9 "FridgeGossip$View" "place" "[I", .fieldLink RX0 18 "FridgeGossip$View" "kept" "[I"] ++ wsX00)
def wsX0_thingsSomewhere : List Cond := .code yX0_thingsSomewhere cX0_thingsSomewhere 4 (some .int) :: ([.fieldLink RX0 9 "FridgeGossip$View" "place" "[I"] ++ wsX00)
def wsX0_thingsFree : List Cond := .code yX0_thingsFree cX0_thingsFree 4 (some .int) :: ([.methodLink RX0 112 yX0_isFree, .instanceMethod yX0_isFree, .selects RX0 yX0_isFree yX0_isFree, .initialized RX0, .code yX0_isFree cX0_isFree 2 (some .boolean), .fieldLink RX0 9 "FridgeGossip$View" "place" "[I", .fieldLink RX0 18 "FridgeGossip$View" "kept" "[I"] ++ wsX00)
def wsX0_thingsKept : List Cond := .code yX0_thingsKept cX0_thingsKept 5 (some .int) :: ([.fieldLink RX0 18 "FridgeGossip$View" "kept" "[I"] ++ wsX00)
def wsX1_init : List Cond := .code yX1_init cX1_init 6 none :: ([.methodLink RX1 1 objectInit, .instanceMethod objectInit, .code objectInit ⟨#[0xb1]⟩ 1 none, .fieldLink RX1 7 "FridgeGossip$Word" "firstDay" "I", .fieldLink RX1 13 "FridgeGossip$Word" "lastDay" "I", .fieldLink RX1 16 "FridgeGossip$Word" "dislikes" "I", .fieldLink RX1 19 "FridgeGossip$Word" "next" "LFridgeGossip$Word;", .fieldLink RX1 23 "FridgeGossip$Word" "kind" "I", .fieldLink RX1 26 "FridgeGossip$Word" "stamp" "I", .fieldLink RX1 29 "FridgeGossip$Word" "writer" "I", .fieldLink RX1 32 "FridgeGossip$Word" "subject" "I", .fieldLink RX1 35 "FridgeGossip$Word" "cake" "I", .fieldLink RX1 38 "FridgeGossip$Word" "knownTo" "I"] ++ wsX10)
def wsX1_isLaterThan : List Cond := .code yX1_isLaterThan cX1_isLaterThan 2 (some .boolean) :: ([.fieldLink RX1 26 "FridgeGossip$Word" "stamp" "I", .fieldLink RX1 29 "FridgeGossip$Word" "writer" "I"] ++ wsX10)
def wsX2_init : List Cond := .code yX2_init cX2_init 1 none :: ([.methodLink RX2 1 objectInit, .instanceMethod objectInit, .code objectInit ⟨#[0xb1]⟩ 1 none, .fieldLink RX2 7 "FridgeGossip$WordChain" "earliest" "LFridgeGossip$Word;", .fieldLink RX2 13 "FridgeGossip$WordChain" "size" "I"] ++ wsX20)
def wsX2_insert : List Cond := .code yX2_insert cX2_insert 4 none :: ([.fieldLink RX2 7 "FridgeGossip$WordChain" "earliest" "LFridgeGossip$Word;", .fieldLink RX2 23 "FridgeGossip$Word" "next" "LFridgeGossip$Word;", .fieldLink RX2 13 "FridgeGossip$WordChain" "size" "I", .methodLink RX2 17 yX1_isLaterThan, .instanceMethod yX1_isLaterThan, .selects RX1 yX1_isLaterThan yX1_isLaterThan, .initialized RX1, .code yX1_isLaterThan cX1_isLaterThan 2 (some .boolean), .fieldLink RX1 26 "FridgeGossip$Word" "stamp" "I", .fieldLink RX1 29 "FridgeGossip$Word" "writer" "I"] ++ wsX20 ++ wsX10)
def wsX2_sizeKnownTo : List Cond := .code yX2_sizeKnownTo cX2_sizeKnownTo 4 (some .int) :: ([.fieldLink RX2 7 "FridgeGossip$WordChain" "earliest" "LFridgeGossip$Word;", .fieldLink RX2 26 "FridgeGossip$Word" "knownTo" "I", .fieldLink RX2 23 "FridgeGossip$Word" "next" "LFridgeGossip$Word;"] ++ wsX20 ++ wsX10)
def wsX2_shareAmong : List Cond := .code yX2_shareAmong cX2_shareAmong 5 (some .int) :: ([.fieldLink RX2 7 "FridgeGossip$WordChain" "earliest" "LFridgeGossip$Word;", .fieldLink RX2 26 "FridgeGossip$Word" "knownTo" "I", .fieldLink RX2 23 "FridgeGossip$Word" "next" "LFridgeGossip$Word;"] ++ wsX20 ++ wsX10)
def wsX3_init_r1 : List Cond := [Cond.methodLink RX3 3 objectInit, Cond.instanceMethod objectInit, Cond.code objectInit ⟨#[0xb1]⟩ 1 none, Cond.classLink RX3 9 RX2, Cond.instantiable RX2 2, Cond.initialized RX2, Cond.fieldLink RX3 12 "FridgeGossip" "chain" "LFridgeGossip$WordChain;", Cond.classLink RX3 16 RX0, Cond.instantiable RX0 10, Cond.initialized RX0, Cond.fieldLink RX3 19 "FridgeGossip" "view" "LFridgeGossip$View;", Cond.arrayClass .int, Cond.fieldLink RX3 23 "FridgeGossip" "clocks" "[I", Cond.classLink RX3 27 "[[I", Cond.fieldLink RX3 29 "FridgeGossip" "needs" "[[I", Cond.fieldLink RX3 32 "FridgeGossip" "recipeOf" "[I", Cond.fieldLink RX3 35 "FridgeGossip" "dayOf" "[I", Cond.fieldLink RX3 38 "FridgeGossip" "cakeCount" "I", Cond.instanceMethod yX2_init, Cond.code yX2_init cX2_init 1 none, Cond.methodLink RX2 1 objectInit, Cond.fieldLink RX2 7 "FridgeGossip$WordChain" "earliest" "LFridgeGossip$Word;", Cond.fieldLink RX2 13 "FridgeGossip$WordChain" "size" "I", Cond.instanceMethod yX0_init]
def wsX3_init_r2 : List Cond := [Cond.code yX0_init cX0_init 1 none, Cond.methodLink RX0 3 objectInit, Cond.fieldLink RX0 9 "FridgeGossip$View" "place" "[I", Cond.fieldLink RX0 15 "FridgeGossip$View" "claimers" "[I", Cond.fieldLink RX0 18 "FridgeGossip$View" "kept" "[I", Cond.fieldLink RX0 21 "FridgeGossip$View" "firstDay" "[I", Cond.fieldLink RX0 24 "FridgeGossip$View" "lastDay" "[I", Cond.fieldLink RX0 27 "FridgeGossip$View" "dislikes" "[I", Cond.fieldLink RX0 30 "FridgeGossip$View" "state" "[I", Cond.fieldLink RX0 33 "FridgeGossip$View" "planRank" "[I", Cond.fieldLink RX0 36 "FridgeGossip$View" "planCount" "I", Cond.fieldLink RX0 40 "FridgeGossip$View" "spoiltCakes" "I"]
def wsX3_init : List Cond := .code yX3_init cX3_init 1 none :: ((wsX3_init_r1 ++ wsX3_init_r2) ++ wsX20 ++ wsX30 ++ wsX00)
def wsX3_checkNumber : List Cond := .code yX3_checkNumber cX3_checkNumber 2 none :: ([.classLink RX3 154 "java/lang/IndexOutOfBoundsException", .initialized "java/lang/IndexOutOfBoundsException"] ++ (vx_atS RX3 158 "java/lang/IndexOutOfBoundsException" ["java/lang/RuntimeException", "java/lang/Exception"]).filter goodWord)
def wsX3_lookAs_r1 : List Cond := [Cond.fieldLink RX3 19 "FridgeGossip" "view" "LFridgeGossip$View;", Cond.fieldLink RX3 12 "FridgeGossip" "chain" "LFridgeGossip$WordChain;", Cond.fieldLink RX3 35 "FridgeGossip" "dayOf" "[I", Cond.methodLink RX3 165 yX0_read, Cond.instanceMethod yX0_read, Cond.selects RX0 yX0_read yX0_read, Cond.initialized RX0, Cond.code yX0_read cX0_read 5 none, Cond.fieldLink RX0 46 "FridgeGossip$WordChain" "earliest" "LFridgeGossip$Word;", Cond.fieldLink RX0 52 "FridgeGossip$Word" "knownTo" "I", Cond.fieldLink RX0 61 "FridgeGossip$Word" "next" "LFridgeGossip$Word;", Cond.fieldLink RX0 64 "FridgeGossip$Word" "kind" "I", Cond.fieldLink RX0 67 "FridgeGossip$Word" "subject" "I", Cond.fieldLink RX0 70 "FridgeGossip$Word" "cake" "I", Cond.methodLink RX0 43 yX0_forget, Cond.instanceMethod yX0_forget, Cond.selects RX0 yX0_forget yX0_forget, Cond.code yX0_forget cX0_forget 1 none, Cond.fieldLink RX0 9 "FridgeGossip$View" "place" "[I", Cond.fieldLink RX0 15 "FridgeGossip$View" "claimers" "[I", Cond.fieldLink RX0 18 "FridgeGossip$View" "kept" "[I", Cond.fieldLink RX0 21 "FridgeGossip$View" "firstDay" "[I", Cond.fieldLink RX0 24 "FridgeGossip$View" "lastDay" "[I", Cond.fieldLink RX0 27 "FridgeGossip$View" "dislikes" "[I"]
def wsX3_lookAs_r2 : List Cond := [Cond.fieldLink RX0 30 "FridgeGossip$View" "state" "[I", Cond.fieldLink RX0 33 "FridgeGossip$View" "planRank" "[I", Cond.fieldLink RX0 36 "FridgeGossip$View" "planCount" "I", Cond.fieldLink RX0 40 "FridgeGossip$View" "spoiltCakes" "I", Cond.methodLink RX0 77 yJ7_fill_53178, Cond.static yJ7_fill_53178, Cond.initialized RJ7, Cond.code yJ7_fill_53178 cJ7_fill_53178 4 none, Cond.methodLink RX0 57 yX0_hear, Cond.instanceMethod yX0_hear, Cond.selects RX0 yX0_hear yX0_hear, Cond.code yX0_hear cX0_hear 2 none, Cond.fieldLink RX0 83 "FridgeGossip$Word" "writer" "I", Cond.fieldLink RX0 89 "FridgeGossip$Word" "firstDay" "I", Cond.fieldLink RX0 91 "FridgeGossip$Word" "lastDay" "I", Cond.fieldLink RX0 93 "FridgeGossip$Word" "dislikes" "I", Cond.methodLink RX0 86 yX0_hearTake, Cond.instanceMethod yX0_hearTake, Cond.selects RX0 yX0_hearTake yX0_hearTake, Cond.code yX0_hearTake cX0_hearTake 2 none, Cond.methodLink RX0 73 yX0_hearKeep, Cond.instanceMethod yX0_hearKeep, Cond.selects RX0 yX0_hearKeep yX0_hearKeep, Cond.code yX0_hearKeep cX0_hearKeep 4 none]
def wsX3_lookAs_r3 : List Cond := [Cond.methodLink RX0 95 yX0_isAhead, Cond.instanceMethod yX0_isAhead, Cond.selects RX0 yX0_isAhead yX0_isAhead, Cond.code yX0_isAhead cX0_isAhead 8 (some .boolean), Cond.methodLink RX0 99 yX0_guestsOn, Cond.instanceMethod yX0_guestsOn, Cond.selects RX0 yX0_guestsOn yX0_guestsOn, Cond.code yX0_guestsOn cX0_guestsOn 4 (some .int), Cond.methodLink RX0 108 yX0_comesOn, Cond.instanceMethod yX0_comesOn, Cond.selects RX0 yX0_comesOn yX0_comesOn, Cond.code yX0_comesOn cX0_comesOn 3 (some .boolean), Cond.methodLink RX0 103 yJ6_bitCount_0f7a4, Cond.static yJ6_bitCount_0f7a4, Cond.initialized RJ6, Cond.code yJ6_bitCount_0f7a4 cJ6_bitCount_0f7a4 1 (some .int), Cond.constant RJ6 265 (1431655765), Cond.constant RJ6 266 (858993459), Cond.constant RJ6 267 (252645135)]
def wsX3_lookAs : List Cond := .code yX3_lookAs cX3_lookAs 2 none :: ((wsX3_lookAs_r1 ++ (wsX3_lookAs_r2 ++ wsX3_lookAs_r3)) ++ wsX30 ++ wsX20 ++ wsX10 ++ wsX00)
def wsX3_checkRoomFor : List Cond := .code yX3_checkRoomFor cX3_checkRoomFor 2 none :: ([.classLink RX3 53 "java/lang/IllegalStateException", .initialized "java/lang/IllegalStateException", .fieldLink RX3 12 "FridgeGossip" "chain" "LFridgeGossip$WordChain;", .fieldLink RX3 98 "FridgeGossip$WordChain" "size" "I"] ++ wsX30 ++ wsX20 ++ (vx_atS RX3 57 "java/lang/IllegalStateException" ["java/lang/RuntimeException", "java/lang/Exception"]).filter goodWord)
def wsX3_write_r1 : List Cond := [Cond.fieldLink RX3 23 "FridgeGossip" "clocks" "[I", Cond.classLink RX3 63 RX1, Cond.instantiable RX1 10, Cond.initialized RX1, Cond.fieldLink RX3 12 "FridgeGossip" "chain" "LFridgeGossip$WordChain;", Cond.methodLink RX3 169 yX1_init, Cond.instanceMethod yX1_init, Cond.code yX1_init cX1_init 6 none, Cond.methodLink RX1 1 objectInit, Cond.instanceMethod objectInit, Cond.code objectInit ⟨#[0xb1]⟩ 1 none, Cond.fieldLink RX1 7 "FridgeGossip$Word" "firstDay" "I", Cond.fieldLink RX1 13 "FridgeGossip$Word" "lastDay" "I", Cond.fieldLink RX1 16 "FridgeGossip$Word" "dislikes" "I", Cond.fieldLink RX1 19 "FridgeGossip$Word" "next" "LFridgeGossip$Word;", Cond.fieldLink RX1 23 "FridgeGossip$Word" "kind" "I", Cond.fieldLink RX1 26 "FridgeGossip$Word" "stamp" "I", Cond.fieldLink RX1 29 "FridgeGossip$Word" "writer" "I", Cond.fieldLink RX1 32 "FridgeGossip$Word" "subject" "I", Cond.fieldLink RX1 35 "FridgeGossip$Word" "cake" "I", Cond.fieldLink RX1 38 "FridgeGossip$Word" "knownTo" "I", Cond.methodLink RX3 172 yX2_insert, Cond.instanceMethod yX2_insert, Cond.selects RX2 yX2_insert yX2_insert]
def wsX3_write_r2 : List Cond := [Cond.initialized RX2, Cond.code yX2_insert cX2_insert 4 none, Cond.fieldLink RX2 7 "FridgeGossip$WordChain" "earliest" "LFridgeGossip$Word;", Cond.fieldLink RX2 23 "FridgeGossip$Word" "next" "LFridgeGossip$Word;", Cond.fieldLink RX2 13 "FridgeGossip$WordChain" "size" "I", Cond.methodLink RX2 17 yX1_isLaterThan, Cond.instanceMethod yX1_isLaterThan, Cond.selects RX1 yX1_isLaterThan yX1_isLaterThan, Cond.code yX1_isLaterThan cX1_isLaterThan 2 (some .boolean)]
def wsX3_write : List Cond := .code yX3_write cX3_write 6 (some (.object "FridgeGossip$Word")) :: ((wsX3_write_r1 ++ wsX3_write_r2) ++ wsX30 ++ wsX10 ++ wsX20)
def wsX3_put_r1 : List Cond := [Cond.classLink RX3 53 "java/lang/IllegalStateException", Cond.initialized "java/lang/IllegalStateException", Cond.fieldLink RX3 19 "FridgeGossip" "view" "LFridgeGossip$View;", Cond.fieldLink RX3 50 "FridgeGossip$View" "place" "[I", Cond.fieldLink RX3 69 "FridgeGossip$Word" "stamp" "I", Cond.methodLink RX3 42 yX3_checkNumber, Cond.static yX3_checkNumber, Cond.initialized RX3, Cond.code yX3_checkNumber cX3_checkNumber 2 none, Cond.classLink RX3 154 "java/lang/IndexOutOfBoundsException", Cond.initialized "java/lang/IndexOutOfBoundsException", Cond.methodLink RX3 46 yX3_lookAs, Cond.instanceMethod yX3_lookAs, Cond.selects RX3 yX3_lookAs yX3_lookAs, Cond.code yX3_lookAs cX3_lookAs 2 none, Cond.fieldLink RX3 12 "FridgeGossip" "chain" "LFridgeGossip$WordChain;", Cond.fieldLink RX3 35 "FridgeGossip" "dayOf" "[I", Cond.methodLink RX3 165 yX0_read, Cond.instanceMethod yX0_read, Cond.selects RX0 yX0_read yX0_read, Cond.initialized RX0, Cond.code yX0_read cX0_read 5 none, Cond.fieldLink RX0 46 "FridgeGossip$WordChain" "earliest" "LFridgeGossip$Word;", Cond.fieldLink RX0 52 "FridgeGossip$Word" "knownTo" "I"]
def wsX3_put_r2 : List Cond := [Cond.fieldLink RX0 61 "FridgeGossip$Word" "next" "LFridgeGossip$Word;", Cond.fieldLink RX0 64 "FridgeGossip$Word" "kind" "I", Cond.fieldLink RX0 67 "FridgeGossip$Word" "subject" "I", Cond.fieldLink RX0 70 "FridgeGossip$Word" "cake" "I", Cond.methodLink RX0 43 yX0_forget, Cond.instanceMethod yX0_forget, Cond.selects RX0 yX0_forget yX0_forget, Cond.code yX0_forget cX0_forget 1 none, Cond.fieldLink RX0 9 "FridgeGossip$View" "place" "[I", Cond.fieldLink RX0 15 "FridgeGossip$View" "claimers" "[I", Cond.fieldLink RX0 18 "FridgeGossip$View" "kept" "[I", Cond.fieldLink RX0 21 "FridgeGossip$View" "firstDay" "[I", Cond.fieldLink RX0 24 "FridgeGossip$View" "lastDay" "[I", Cond.fieldLink RX0 27 "FridgeGossip$View" "dislikes" "[I", Cond.fieldLink RX0 30 "FridgeGossip$View" "state" "[I", Cond.fieldLink RX0 33 "FridgeGossip$View" "planRank" "[I", Cond.fieldLink RX0 36 "FridgeGossip$View" "planCount" "I", Cond.fieldLink RX0 40 "FridgeGossip$View" "spoiltCakes" "I", Cond.methodLink RX0 77 yJ7_fill_53178, Cond.static yJ7_fill_53178, Cond.initialized RJ7, Cond.code yJ7_fill_53178 cJ7_fill_53178 4 none, Cond.methodLink RX0 57 yX0_hear, Cond.instanceMethod yX0_hear]
def wsX3_put_r3 : List Cond := [Cond.selects RX0 yX0_hear yX0_hear, Cond.code yX0_hear cX0_hear 2 none, Cond.fieldLink RX0 83 "FridgeGossip$Word" "writer" "I", Cond.fieldLink RX0 89 "FridgeGossip$Word" "firstDay" "I", Cond.fieldLink RX0 91 "FridgeGossip$Word" "lastDay" "I", Cond.fieldLink RX0 93 "FridgeGossip$Word" "dislikes" "I", Cond.methodLink RX0 86 yX0_hearTake, Cond.instanceMethod yX0_hearTake, Cond.selects RX0 yX0_hearTake yX0_hearTake, Cond.code yX0_hearTake cX0_hearTake 2 none, Cond.methodLink RX0 73 yX0_hearKeep, Cond.instanceMethod yX0_hearKeep, Cond.selects RX0 yX0_hearKeep yX0_hearKeep, Cond.code yX0_hearKeep cX0_hearKeep 4 none, Cond.methodLink RX0 95 yX0_isAhead, Cond.instanceMethod yX0_isAhead, Cond.selects RX0 yX0_isAhead yX0_isAhead, Cond.code yX0_isAhead cX0_isAhead 8 (some .boolean), Cond.methodLink RX0 99 yX0_guestsOn, Cond.instanceMethod yX0_guestsOn, Cond.selects RX0 yX0_guestsOn yX0_guestsOn, Cond.code yX0_guestsOn cX0_guestsOn 4 (some .int), Cond.methodLink RX0 108 yX0_comesOn, Cond.instanceMethod yX0_comesOn]
def wsX3_put_r4 : List Cond := [Cond.selects RX0 yX0_comesOn yX0_comesOn, Cond.code yX0_comesOn cX0_comesOn 3 (some .boolean), Cond.methodLink RX0 103 yJ6_bitCount_0f7a4, Cond.static yJ6_bitCount_0f7a4, Cond.initialized RJ6, Cond.code yJ6_bitCount_0f7a4 cJ6_bitCount_0f7a4 1 (some .int), Cond.constant RJ6 265 (1431655765), Cond.constant RJ6 266 (858993459), Cond.constant RJ6 267 (252645135), Cond.methodLink RX3 60 yX3_checkRoomFor, Cond.instanceMethod yX3_checkRoomFor, Cond.selects RX3 yX3_checkRoomFor yX3_checkRoomFor, Cond.code yX3_checkRoomFor cX3_checkRoomFor 2 none, Cond.fieldLink RX3 98 "FridgeGossip$WordChain" "size" "I", Cond.methodLink RX3 65 yX3_write, Cond.instanceMethod yX3_write, Cond.selects RX3 yX3_write yX3_write, Cond.code yX3_write cX3_write 6 (some (.object "FridgeGossip$Word")), Cond.fieldLink RX3 23 "FridgeGossip" "clocks" "[I", Cond.classLink RX3 63 RX1, Cond.instantiable RX1 10, Cond.initialized RX1, Cond.methodLink RX3 169 yX1_init, Cond.instanceMethod yX1_init]
def wsX3_put_r5 : List Cond := [Cond.code yX1_init cX1_init 6 none, Cond.methodLink RX1 1 objectInit, Cond.instanceMethod objectInit, Cond.code objectInit ⟨#[0xb1]⟩ 1 none, Cond.fieldLink RX1 7 "FridgeGossip$Word" "firstDay" "I", Cond.fieldLink RX1 13 "FridgeGossip$Word" "lastDay" "I", Cond.fieldLink RX1 16 "FridgeGossip$Word" "dislikes" "I", Cond.fieldLink RX1 19 "FridgeGossip$Word" "next" "LFridgeGossip$Word;", Cond.fieldLink RX1 23 "FridgeGossip$Word" "kind" "I", Cond.fieldLink RX1 26 "FridgeGossip$Word" "stamp" "I", Cond.fieldLink RX1 29 "FridgeGossip$Word" "writer" "I", Cond.fieldLink RX1 32 "FridgeGossip$Word" "subject" "I", Cond.fieldLink RX1 35 "FridgeGossip$Word" "cake" "I", Cond.fieldLink RX1 38 "FridgeGossip$Word" "knownTo" "I", Cond.methodLink RX3 172 yX2_insert, Cond.instanceMethod yX2_insert, Cond.selects RX2 yX2_insert yX2_insert, Cond.initialized RX2, Cond.code yX2_insert cX2_insert 4 none, Cond.fieldLink RX2 7 "FridgeGossip$WordChain" "earliest" "LFridgeGossip$Word;", Cond.fieldLink RX2 23 "FridgeGossip$Word" "next" "LFridgeGossip$Word;", Cond.fieldLink RX2 13 "FridgeGossip$WordChain" "size" "I", Cond.methodLink RX2 17 yX1_isLaterThan, Cond.instanceMethod yX1_isLaterThan]
def wsX3_put_r6 : List Cond := [Cond.selects RX1 yX1_isLaterThan yX1_isLaterThan, Cond.code yX1_isLaterThan cX1_isLaterThan 2 (some .boolean)]
def wsX3_put : List Cond := .code yX3_put cX3_put 3 (some .int) :: ((wsX3_put_r1 ++ (wsX3_put_r2 ++ (wsX3_put_r3 ++ (wsX3_put_r4 ++ (wsX3_put_r5 ++ wsX3_put_r6))))) ++ wsX30 ++ wsX00 ++ wsX10 ++ wsX20 ++ (vx_atS RX3 57 "java/lang/IllegalStateException" ["java/lang/RuntimeException", "java/lang/Exception"]).filter goodWord ++ (vx_atS RX3 158 "java/lang/IndexOutOfBoundsException" ["java/lang/RuntimeException", "java/lang/Exception"]).filter goodWord)
def wsX3_take_r1 : List Cond := [Cond.classLink RX3 53 "java/lang/IllegalStateException", Cond.initialized "java/lang/IllegalStateException", Cond.fieldLink RX3 19 "FridgeGossip" "view" "LFridgeGossip$View;", Cond.fieldLink RX3 50 "FridgeGossip$View" "place" "[I", Cond.methodLink RX3 42 yX3_checkNumber, Cond.static yX3_checkNumber, Cond.initialized RX3, Cond.code yX3_checkNumber cX3_checkNumber 2 none, Cond.classLink RX3 154 "java/lang/IndexOutOfBoundsException", Cond.initialized "java/lang/IndexOutOfBoundsException", Cond.methodLink RX3 46 yX3_lookAs, Cond.instanceMethod yX3_lookAs, Cond.selects RX3 yX3_lookAs yX3_lookAs, Cond.code yX3_lookAs cX3_lookAs 2 none, Cond.fieldLink RX3 12 "FridgeGossip" "chain" "LFridgeGossip$WordChain;", Cond.fieldLink RX3 35 "FridgeGossip" "dayOf" "[I", Cond.methodLink RX3 165 yX0_read, Cond.instanceMethod yX0_read, Cond.selects RX0 yX0_read yX0_read, Cond.initialized RX0, Cond.code yX0_read cX0_read 5 none, Cond.fieldLink RX0 46 "FridgeGossip$WordChain" "earliest" "LFridgeGossip$Word;", Cond.fieldLink RX0 52 "FridgeGossip$Word" "knownTo" "I", Cond.fieldLink RX0 61 "FridgeGossip$Word" "next" "LFridgeGossip$Word;"]
def wsX3_take_r2 : List Cond := [Cond.fieldLink RX0 64 "FridgeGossip$Word" "kind" "I", Cond.fieldLink RX0 67 "FridgeGossip$Word" "subject" "I", Cond.fieldLink RX0 70 "FridgeGossip$Word" "cake" "I", Cond.methodLink RX0 43 yX0_forget, Cond.instanceMethod yX0_forget, Cond.selects RX0 yX0_forget yX0_forget, Cond.code yX0_forget cX0_forget 1 none, Cond.fieldLink RX0 9 "FridgeGossip$View" "place" "[I", Cond.fieldLink RX0 15 "FridgeGossip$View" "claimers" "[I", Cond.fieldLink RX0 18 "FridgeGossip$View" "kept" "[I", Cond.fieldLink RX0 21 "FridgeGossip$View" "firstDay" "[I", Cond.fieldLink RX0 24 "FridgeGossip$View" "lastDay" "[I", Cond.fieldLink RX0 27 "FridgeGossip$View" "dislikes" "[I", Cond.fieldLink RX0 30 "FridgeGossip$View" "state" "[I", Cond.fieldLink RX0 33 "FridgeGossip$View" "planRank" "[I", Cond.fieldLink RX0 36 "FridgeGossip$View" "planCount" "I", Cond.fieldLink RX0 40 "FridgeGossip$View" "spoiltCakes" "I", Cond.methodLink RX0 77 yJ7_fill_53178, Cond.static yJ7_fill_53178, Cond.initialized RJ7, Cond.code yJ7_fill_53178 cJ7_fill_53178 4 none, Cond.methodLink RX0 57 yX0_hear, Cond.instanceMethod yX0_hear, Cond.selects RX0 yX0_hear yX0_hear]
def wsX3_take_r3 : List Cond := [Cond.code yX0_hear cX0_hear 2 none, Cond.fieldLink RX0 83 "FridgeGossip$Word" "writer" "I", Cond.fieldLink RX0 89 "FridgeGossip$Word" "firstDay" "I", Cond.fieldLink RX0 91 "FridgeGossip$Word" "lastDay" "I", Cond.fieldLink RX0 93 "FridgeGossip$Word" "dislikes" "I", Cond.methodLink RX0 86 yX0_hearTake, Cond.instanceMethod yX0_hearTake, Cond.selects RX0 yX0_hearTake yX0_hearTake, Cond.code yX0_hearTake cX0_hearTake 2 none, Cond.methodLink RX0 73 yX0_hearKeep, Cond.instanceMethod yX0_hearKeep, Cond.selects RX0 yX0_hearKeep yX0_hearKeep, Cond.code yX0_hearKeep cX0_hearKeep 4 none, Cond.methodLink RX0 95 yX0_isAhead, Cond.instanceMethod yX0_isAhead, Cond.selects RX0 yX0_isAhead yX0_isAhead, Cond.code yX0_isAhead cX0_isAhead 8 (some .boolean), Cond.methodLink RX0 99 yX0_guestsOn, Cond.instanceMethod yX0_guestsOn, Cond.selects RX0 yX0_guestsOn yX0_guestsOn, Cond.code yX0_guestsOn cX0_guestsOn 4 (some .int), Cond.methodLink RX0 108 yX0_comesOn, Cond.instanceMethod yX0_comesOn, Cond.selects RX0 yX0_comesOn yX0_comesOn]
def wsX3_take_r4 : List Cond := [Cond.code yX0_comesOn cX0_comesOn 3 (some .boolean), Cond.methodLink RX0 103 yJ6_bitCount_0f7a4, Cond.static yJ6_bitCount_0f7a4, Cond.initialized RJ6, Cond.code yJ6_bitCount_0f7a4 cJ6_bitCount_0f7a4 1 (some .int), Cond.constant RJ6 265 (1431655765), Cond.constant RJ6 266 (858993459), Cond.constant RJ6 267 (252645135), Cond.methodLink RX3 60 yX3_checkRoomFor, Cond.instanceMethod yX3_checkRoomFor, Cond.selects RX3 yX3_checkRoomFor yX3_checkRoomFor, Cond.code yX3_checkRoomFor cX3_checkRoomFor 2 none, Cond.fieldLink RX3 98 "FridgeGossip$WordChain" "size" "I", Cond.methodLink RX3 65 yX3_write, Cond.instanceMethod yX3_write, Cond.selects RX3 yX3_write yX3_write, Cond.code yX3_write cX3_write 6 (some (.object "FridgeGossip$Word")), Cond.fieldLink RX3 23 "FridgeGossip" "clocks" "[I", Cond.classLink RX3 63 RX1, Cond.instantiable RX1 10, Cond.initialized RX1, Cond.methodLink RX3 169 yX1_init, Cond.instanceMethod yX1_init, Cond.code yX1_init cX1_init 6 none]
def wsX3_take_r5 : List Cond := [Cond.methodLink RX1 1 objectInit, Cond.instanceMethod objectInit, Cond.code objectInit ⟨#[0xb1]⟩ 1 none, Cond.fieldLink RX1 7 "FridgeGossip$Word" "firstDay" "I", Cond.fieldLink RX1 13 "FridgeGossip$Word" "lastDay" "I", Cond.fieldLink RX1 16 "FridgeGossip$Word" "dislikes" "I", Cond.fieldLink RX1 19 "FridgeGossip$Word" "next" "LFridgeGossip$Word;", Cond.fieldLink RX1 23 "FridgeGossip$Word" "kind" "I", Cond.fieldLink RX1 26 "FridgeGossip$Word" "stamp" "I", Cond.fieldLink RX1 29 "FridgeGossip$Word" "writer" "I", Cond.fieldLink RX1 32 "FridgeGossip$Word" "subject" "I", Cond.fieldLink RX1 35 "FridgeGossip$Word" "cake" "I", Cond.fieldLink RX1 38 "FridgeGossip$Word" "knownTo" "I", Cond.methodLink RX3 172 yX2_insert, Cond.instanceMethod yX2_insert, Cond.selects RX2 yX2_insert yX2_insert, Cond.initialized RX2, Cond.code yX2_insert cX2_insert 4 none, Cond.fieldLink RX2 7 "FridgeGossip$WordChain" "earliest" "LFridgeGossip$Word;", Cond.fieldLink RX2 23 "FridgeGossip$Word" "next" "LFridgeGossip$Word;", Cond.fieldLink RX2 13 "FridgeGossip$WordChain" "size" "I", Cond.methodLink RX2 17 yX1_isLaterThan, Cond.instanceMethod yX1_isLaterThan, Cond.selects RX1 yX1_isLaterThan yX1_isLaterThan]
def wsX3_take_r6 : List Cond := [Cond.code yX1_isLaterThan cX1_isLaterThan 2 (some .boolean)]
def wsX3_take : List Cond := .code yX3_take cX3_take 4 (some .int) :: ((wsX3_take_r1 ++ (wsX3_take_r2 ++ (wsX3_take_r3 ++ (wsX3_take_r4 ++ (wsX3_take_r5 ++ wsX3_take_r6))))) ++ wsX30 ++ wsX00 ++ wsX20 ++ wsX10 ++ (vx_atS RX3 57 "java/lang/IllegalStateException" ["java/lang/RuntimeException", "java/lang/Exception"]).filter goodWord ++ (vx_atS RX3 158 "java/lang/IndexOutOfBoundsException" ["java/lang/RuntimeException", "java/lang/Exception"]).filter goodWord)
def wsX3_where_r1 : List Cond := [Cond.fieldLink RX3 19 "FridgeGossip" "view" "LFridgeGossip$View;", Cond.fieldLink RX3 50 "FridgeGossip$View" "place" "[I", Cond.methodLink RX3 42 yX3_checkNumber, Cond.static yX3_checkNumber, Cond.initialized RX3, Cond.code yX3_checkNumber cX3_checkNumber 2 none, Cond.classLink RX3 154 "java/lang/IndexOutOfBoundsException", Cond.initialized "java/lang/IndexOutOfBoundsException", Cond.methodLink RX3 46 yX3_lookAs, Cond.instanceMethod yX3_lookAs, Cond.selects RX3 yX3_lookAs yX3_lookAs, Cond.code yX3_lookAs cX3_lookAs 2 none, Cond.fieldLink RX3 12 "FridgeGossip" "chain" "LFridgeGossip$WordChain;", Cond.fieldLink RX3 35 "FridgeGossip" "dayOf" "[I", Cond.methodLink RX3 165 yX0_read, Cond.instanceMethod yX0_read, Cond.selects RX0 yX0_read yX0_read, Cond.initialized RX0, Cond.code yX0_read cX0_read 5 none, Cond.fieldLink RX0 46 "FridgeGossip$WordChain" "earliest" "LFridgeGossip$Word;", Cond.fieldLink RX0 52 "FridgeGossip$Word" "knownTo" "I", Cond.fieldLink RX0 61 "FridgeGossip$Word" "next" "LFridgeGossip$Word;", Cond.fieldLink RX0 64 "FridgeGossip$Word" "kind" "I", Cond.fieldLink RX0 67 "FridgeGossip$Word" "subject" "I"]
def wsX3_where_r2 : List Cond := [Cond.fieldLink RX0 70 "FridgeGossip$Word" "cake" "I", Cond.methodLink RX0 43 yX0_forget, Cond.instanceMethod yX0_forget, Cond.selects RX0 yX0_forget yX0_forget, Cond.code yX0_forget cX0_forget 1 none, Cond.fieldLink RX0 9 "FridgeGossip$View" "place" "[I", Cond.fieldLink RX0 15 "FridgeGossip$View" "claimers" "[I", Cond.fieldLink RX0 18 "FridgeGossip$View" "kept" "[I", Cond.fieldLink RX0 21 "FridgeGossip$View" "firstDay" "[I", Cond.fieldLink RX0 24 "FridgeGossip$View" "lastDay" "[I", Cond.fieldLink RX0 27 "FridgeGossip$View" "dislikes" "[I", Cond.fieldLink RX0 30 "FridgeGossip$View" "state" "[I", Cond.fieldLink RX0 33 "FridgeGossip$View" "planRank" "[I", Cond.fieldLink RX0 36 "FridgeGossip$View" "planCount" "I", Cond.fieldLink RX0 40 "FridgeGossip$View" "spoiltCakes" "I", Cond.methodLink RX0 77 yJ7_fill_53178, Cond.static yJ7_fill_53178, Cond.initialized RJ7, Cond.code yJ7_fill_53178 cJ7_fill_53178 4 none, Cond.methodLink RX0 57 yX0_hear, Cond.instanceMethod yX0_hear, Cond.selects RX0 yX0_hear yX0_hear, Cond.code yX0_hear cX0_hear 2 none, Cond.fieldLink RX0 83 "FridgeGossip$Word" "writer" "I"]
def wsX3_where_r3 : List Cond := [Cond.fieldLink RX0 89 "FridgeGossip$Word" "firstDay" "I", Cond.fieldLink RX0 91 "FridgeGossip$Word" "lastDay" "I", Cond.fieldLink RX0 93 "FridgeGossip$Word" "dislikes" "I", Cond.methodLink RX0 86 yX0_hearTake, Cond.instanceMethod yX0_hearTake, Cond.selects RX0 yX0_hearTake yX0_hearTake, Cond.code yX0_hearTake cX0_hearTake 2 none, Cond.methodLink RX0 73 yX0_hearKeep, Cond.instanceMethod yX0_hearKeep, Cond.selects RX0 yX0_hearKeep yX0_hearKeep, Cond.code yX0_hearKeep cX0_hearKeep 4 none, Cond.methodLink RX0 95 yX0_isAhead, Cond.instanceMethod yX0_isAhead, Cond.selects RX0 yX0_isAhead yX0_isAhead, Cond.code yX0_isAhead cX0_isAhead 8 (some .boolean), Cond.methodLink RX0 99 yX0_guestsOn, Cond.instanceMethod yX0_guestsOn, Cond.selects RX0 yX0_guestsOn yX0_guestsOn, Cond.code yX0_guestsOn cX0_guestsOn 4 (some .int), Cond.methodLink RX0 108 yX0_comesOn, Cond.instanceMethod yX0_comesOn, Cond.selects RX0 yX0_comesOn yX0_comesOn, Cond.code yX0_comesOn cX0_comesOn 3 (some .boolean), Cond.methodLink RX0 103 yJ6_bitCount_0f7a4]
def wsX3_where_r4 : List Cond := [Cond.static yJ6_bitCount_0f7a4, Cond.initialized RJ6, Cond.code yJ6_bitCount_0f7a4 cJ6_bitCount_0f7a4 1 (some .int), Cond.constant RJ6 265 (1431655765), Cond.constant RJ6 266 (858993459), Cond.constant RJ6 267 (252645135)]
def wsX3_where : List Cond := .code yX3_where cX3_where 3 (some .int) :: ((wsX3_where_r1 ++ (wsX3_where_r2 ++ (wsX3_where_r3 ++ wsX3_where_r4))) ++ wsX30 ++ wsX00 ++ wsX20 ++ wsX10 ++ (vx_atS RX3 158 "java/lang/IndexOutOfBoundsException" ["java/lang/RuntimeException", "java/lang/Exception"]).filter goodWord)
def wsX3_lookByAll_r1 : List Cond := [Cond.fieldLink RX3 19 "FridgeGossip" "view" "LFridgeGossip$View;", Cond.fieldLink RX3 12 "FridgeGossip" "chain" "LFridgeGossip$WordChain;", Cond.fieldLink RX3 35 "FridgeGossip" "dayOf" "[I", Cond.methodLink RX3 165 yX0_read, Cond.instanceMethod yX0_read, Cond.selects RX0 yX0_read yX0_read, Cond.initialized RX0, Cond.code yX0_read cX0_read 5 none, Cond.fieldLink RX0 46 "FridgeGossip$WordChain" "earliest" "LFridgeGossip$Word;", Cond.fieldLink RX0 52 "FridgeGossip$Word" "knownTo" "I", Cond.fieldLink RX0 61 "FridgeGossip$Word" "next" "LFridgeGossip$Word;", Cond.fieldLink RX0 64 "FridgeGossip$Word" "kind" "I", Cond.fieldLink RX0 67 "FridgeGossip$Word" "subject" "I", Cond.fieldLink RX0 70 "FridgeGossip$Word" "cake" "I", Cond.methodLink RX0 43 yX0_forget, Cond.instanceMethod yX0_forget, Cond.selects RX0 yX0_forget yX0_forget, Cond.code yX0_forget cX0_forget 1 none, Cond.fieldLink RX0 9 "FridgeGossip$View" "place" "[I", Cond.fieldLink RX0 15 "FridgeGossip$View" "claimers" "[I", Cond.fieldLink RX0 18 "FridgeGossip$View" "kept" "[I", Cond.fieldLink RX0 21 "FridgeGossip$View" "firstDay" "[I", Cond.fieldLink RX0 24 "FridgeGossip$View" "lastDay" "[I", Cond.fieldLink RX0 27 "FridgeGossip$View" "dislikes" "[I"]
def wsX3_lookByAll_r2 : List Cond := [Cond.fieldLink RX0 30 "FridgeGossip$View" "state" "[I", Cond.fieldLink RX0 33 "FridgeGossip$View" "planRank" "[I", Cond.fieldLink RX0 36 "FridgeGossip$View" "planCount" "I", Cond.fieldLink RX0 40 "FridgeGossip$View" "spoiltCakes" "I", Cond.methodLink RX0 77 yJ7_fill_53178, Cond.static yJ7_fill_53178, Cond.initialized RJ7, Cond.code yJ7_fill_53178 cJ7_fill_53178 4 none, Cond.methodLink RX0 57 yX0_hear, Cond.instanceMethod yX0_hear, Cond.selects RX0 yX0_hear yX0_hear, Cond.code yX0_hear cX0_hear 2 none, Cond.fieldLink RX0 83 "FridgeGossip$Word" "writer" "I", Cond.fieldLink RX0 89 "FridgeGossip$Word" "firstDay" "I", Cond.fieldLink RX0 91 "FridgeGossip$Word" "lastDay" "I", Cond.fieldLink RX0 93 "FridgeGossip$Word" "dislikes" "I", Cond.methodLink RX0 86 yX0_hearTake, Cond.instanceMethod yX0_hearTake, Cond.selects RX0 yX0_hearTake yX0_hearTake, Cond.code yX0_hearTake cX0_hearTake 2 none, Cond.methodLink RX0 73 yX0_hearKeep, Cond.instanceMethod yX0_hearKeep, Cond.selects RX0 yX0_hearKeep yX0_hearKeep, Cond.code yX0_hearKeep cX0_hearKeep 4 none]
def wsX3_lookByAll_r3 : List Cond := [Cond.methodLink RX0 95 yX0_isAhead, Cond.instanceMethod yX0_isAhead, Cond.selects RX0 yX0_isAhead yX0_isAhead, Cond.code yX0_isAhead cX0_isAhead 8 (some .boolean), Cond.methodLink RX0 99 yX0_guestsOn, Cond.instanceMethod yX0_guestsOn, Cond.selects RX0 yX0_guestsOn yX0_guestsOn, Cond.code yX0_guestsOn cX0_guestsOn 4 (some .int), Cond.methodLink RX0 108 yX0_comesOn, Cond.instanceMethod yX0_comesOn, Cond.selects RX0 yX0_comesOn yX0_comesOn, Cond.code yX0_comesOn cX0_comesOn 3 (some .boolean), Cond.methodLink RX0 103 yJ6_bitCount_0f7a4, Cond.static yJ6_bitCount_0f7a4, Cond.initialized RJ6, Cond.code yJ6_bitCount_0f7a4 cJ6_bitCount_0f7a4 1 (some .int), Cond.constant RJ6 265 (1431655765), Cond.constant RJ6 266 (858993459), Cond.constant RJ6 267 (252645135)]
def wsX3_lookByAll : List Cond := .code yX3_lookByAll cX3_lookByAll 1 none :: ((wsX3_lookByAll_r1 ++ (wsX3_lookByAll_r2 ++ wsX3_lookByAll_r3)) ++ wsX30 ++ wsX20 ++ wsX10 ++ wsX00)
def wsX3_whereByAll_r1 : List Cond := [Cond.fieldLink RX3 19 "FridgeGossip" "view" "LFridgeGossip$View;", Cond.fieldLink RX3 50 "FridgeGossip$View" "place" "[I", Cond.methodLink RX3 42 yX3_checkNumber, Cond.static yX3_checkNumber, Cond.initialized RX3, Cond.code yX3_checkNumber cX3_checkNumber 2 none, Cond.classLink RX3 154 "java/lang/IndexOutOfBoundsException", Cond.initialized "java/lang/IndexOutOfBoundsException", Cond.methodLink RX3 74 yX3_lookByAll, Cond.instanceMethod yX3_lookByAll, Cond.selects RX3 yX3_lookByAll yX3_lookByAll, Cond.code yX3_lookByAll cX3_lookByAll 1 none, Cond.fieldLink RX3 12 "FridgeGossip" "chain" "LFridgeGossip$WordChain;", Cond.fieldLink RX3 35 "FridgeGossip" "dayOf" "[I", Cond.methodLink RX3 165 yX0_read, Cond.instanceMethod yX0_read, Cond.selects RX0 yX0_read yX0_read, Cond.initialized RX0, Cond.code yX0_read cX0_read 5 none, Cond.fieldLink RX0 46 "FridgeGossip$WordChain" "earliest" "LFridgeGossip$Word;", Cond.fieldLink RX0 52 "FridgeGossip$Word" "knownTo" "I", Cond.fieldLink RX0 61 "FridgeGossip$Word" "next" "LFridgeGossip$Word;", Cond.fieldLink RX0 64 "FridgeGossip$Word" "kind" "I", Cond.fieldLink RX0 67 "FridgeGossip$Word" "subject" "I"]
def wsX3_whereByAll_r2 : List Cond := [Cond.fieldLink RX0 70 "FridgeGossip$Word" "cake" "I", Cond.methodLink RX0 43 yX0_forget, Cond.instanceMethod yX0_forget, Cond.selects RX0 yX0_forget yX0_forget, Cond.code yX0_forget cX0_forget 1 none, Cond.fieldLink RX0 9 "FridgeGossip$View" "place" "[I", Cond.fieldLink RX0 15 "FridgeGossip$View" "claimers" "[I", Cond.fieldLink RX0 18 "FridgeGossip$View" "kept" "[I", Cond.fieldLink RX0 21 "FridgeGossip$View" "firstDay" "[I", Cond.fieldLink RX0 24 "FridgeGossip$View" "lastDay" "[I", Cond.fieldLink RX0 27 "FridgeGossip$View" "dislikes" "[I", Cond.fieldLink RX0 30 "FridgeGossip$View" "state" "[I", Cond.fieldLink RX0 33 "FridgeGossip$View" "planRank" "[I", Cond.fieldLink RX0 36 "FridgeGossip$View" "planCount" "I", Cond.fieldLink RX0 40 "FridgeGossip$View" "spoiltCakes" "I", Cond.methodLink RX0 77 yJ7_fill_53178, Cond.static yJ7_fill_53178, Cond.initialized RJ7, Cond.code yJ7_fill_53178 cJ7_fill_53178 4 none, Cond.methodLink RX0 57 yX0_hear, Cond.instanceMethod yX0_hear, Cond.selects RX0 yX0_hear yX0_hear, Cond.code yX0_hear cX0_hear 2 none, Cond.fieldLink RX0 83 "FridgeGossip$Word" "writer" "I"]
def wsX3_whereByAll_r3 : List Cond := [Cond.fieldLink RX0 89 "FridgeGossip$Word" "firstDay" "I", Cond.fieldLink RX0 91 "FridgeGossip$Word" "lastDay" "I", Cond.fieldLink RX0 93 "FridgeGossip$Word" "dislikes" "I", Cond.methodLink RX0 86 yX0_hearTake, Cond.instanceMethod yX0_hearTake, Cond.selects RX0 yX0_hearTake yX0_hearTake, Cond.code yX0_hearTake cX0_hearTake 2 none, Cond.methodLink RX0 73 yX0_hearKeep, Cond.instanceMethod yX0_hearKeep, Cond.selects RX0 yX0_hearKeep yX0_hearKeep, Cond.code yX0_hearKeep cX0_hearKeep 4 none, Cond.methodLink RX0 95 yX0_isAhead, Cond.instanceMethod yX0_isAhead, Cond.selects RX0 yX0_isAhead yX0_isAhead, Cond.code yX0_isAhead cX0_isAhead 8 (some .boolean), Cond.methodLink RX0 99 yX0_guestsOn, Cond.instanceMethod yX0_guestsOn, Cond.selects RX0 yX0_guestsOn yX0_guestsOn, Cond.code yX0_guestsOn cX0_guestsOn 4 (some .int), Cond.methodLink RX0 108 yX0_comesOn, Cond.instanceMethod yX0_comesOn, Cond.selects RX0 yX0_comesOn yX0_comesOn, Cond.code yX0_comesOn cX0_comesOn 3 (some .boolean), Cond.methodLink RX0 103 yJ6_bitCount_0f7a4]
def wsX3_whereByAll_r4 : List Cond := [Cond.static yJ6_bitCount_0f7a4, Cond.initialized RJ6, Cond.code yJ6_bitCount_0f7a4 cJ6_bitCount_0f7a4 1 (some .int), Cond.constant RJ6 265 (1431655765), Cond.constant RJ6 266 (858993459), Cond.constant RJ6 267 (252645135)]
def wsX3_whereByAll : List Cond := .code yX3_whereByAll cX3_whereByAll 2 (some .int) :: ((wsX3_whereByAll_r1 ++ (wsX3_whereByAll_r2 ++ (wsX3_whereByAll_r3 ++ wsX3_whereByAll_r4))) ++ wsX30 ++ wsX00 ++ wsX20 ++ wsX10 ++ (vx_atS RX3 158 "java/lang/IndexOutOfBoundsException" ["java/lang/RuntimeException", "java/lang/Exception"]).filter goodWord)
def wsX3_count_r1 : List Cond := [Cond.fieldLink RX3 19 "FridgeGossip" "view" "LFridgeGossip$View;", Cond.methodLink RX3 42 yX3_checkNumber, Cond.static yX3_checkNumber, Cond.initialized RX3, Cond.code yX3_checkNumber cX3_checkNumber 2 none, Cond.classLink RX3 154 "java/lang/IndexOutOfBoundsException", Cond.initialized "java/lang/IndexOutOfBoundsException", Cond.methodLink RX3 46 yX3_lookAs, Cond.instanceMethod yX3_lookAs, Cond.selects RX3 yX3_lookAs yX3_lookAs, Cond.code yX3_lookAs cX3_lookAs 2 none, Cond.fieldLink RX3 12 "FridgeGossip" "chain" "LFridgeGossip$WordChain;", Cond.fieldLink RX3 35 "FridgeGossip" "dayOf" "[I", Cond.methodLink RX3 165 yX0_read, Cond.instanceMethod yX0_read, Cond.selects RX0 yX0_read yX0_read, Cond.initialized RX0, Cond.code yX0_read cX0_read 5 none, Cond.fieldLink RX0 46 "FridgeGossip$WordChain" "earliest" "LFridgeGossip$Word;", Cond.fieldLink RX0 52 "FridgeGossip$Word" "knownTo" "I", Cond.fieldLink RX0 61 "FridgeGossip$Word" "next" "LFridgeGossip$Word;", Cond.fieldLink RX0 64 "FridgeGossip$Word" "kind" "I", Cond.fieldLink RX0 67 "FridgeGossip$Word" "subject" "I", Cond.fieldLink RX0 70 "FridgeGossip$Word" "cake" "I"]
def wsX3_count_r2 : List Cond := [Cond.methodLink RX0 43 yX0_forget, Cond.instanceMethod yX0_forget, Cond.selects RX0 yX0_forget yX0_forget, Cond.code yX0_forget cX0_forget 1 none, Cond.fieldLink RX0 9 "FridgeGossip$View" "place" "[I", Cond.fieldLink RX0 15 "FridgeGossip$View" "claimers" "[I", Cond.fieldLink RX0 18 "FridgeGossip$View" "kept" "[I", Cond.fieldLink RX0 21 "FridgeGossip$View" "firstDay" "[I", Cond.fieldLink RX0 24 "FridgeGossip$View" "lastDay" "[I", Cond.fieldLink RX0 27 "FridgeGossip$View" "dislikes" "[I", Cond.fieldLink RX0 30 "FridgeGossip$View" "state" "[I", Cond.fieldLink RX0 33 "FridgeGossip$View" "planRank" "[I", Cond.fieldLink RX0 36 "FridgeGossip$View" "planCount" "I", Cond.fieldLink RX0 40 "FridgeGossip$View" "spoiltCakes" "I", Cond.methodLink RX0 77 yJ7_fill_53178, Cond.static yJ7_fill_53178, Cond.initialized RJ7, Cond.code yJ7_fill_53178 cJ7_fill_53178 4 none, Cond.methodLink RX0 57 yX0_hear, Cond.instanceMethod yX0_hear, Cond.selects RX0 yX0_hear yX0_hear, Cond.code yX0_hear cX0_hear 2 none, Cond.fieldLink RX0 83 "FridgeGossip$Word" "writer" "I", Cond.fieldLink RX0 89 "FridgeGossip$Word" "firstDay" "I"]
def wsX3_count_r3 : List Cond := [Cond.fieldLink RX0 91 "FridgeGossip$Word" "lastDay" "I", Cond.fieldLink RX0 93 "FridgeGossip$Word" "dislikes" "I", Cond.methodLink RX0 86 yX0_hearTake, Cond.instanceMethod yX0_hearTake, Cond.selects RX0 yX0_hearTake yX0_hearTake, Cond.code yX0_hearTake cX0_hearTake 2 none, Cond.methodLink RX0 73 yX0_hearKeep, Cond.instanceMethod yX0_hearKeep, Cond.selects RX0 yX0_hearKeep yX0_hearKeep, Cond.code yX0_hearKeep cX0_hearKeep 4 none, Cond.methodLink RX0 95 yX0_isAhead, Cond.instanceMethod yX0_isAhead, Cond.selects RX0 yX0_isAhead yX0_isAhead, Cond.code yX0_isAhead cX0_isAhead 8 (some .boolean), Cond.methodLink RX0 99 yX0_guestsOn, Cond.instanceMethod yX0_guestsOn, Cond.selects RX0 yX0_guestsOn yX0_guestsOn, Cond.code yX0_guestsOn cX0_guestsOn 4 (some .int), Cond.methodLink RX0 108 yX0_comesOn, Cond.instanceMethod yX0_comesOn, Cond.selects RX0 yX0_comesOn yX0_comesOn, Cond.code yX0_comesOn cX0_comesOn 3 (some .boolean), Cond.methodLink RX0 103 yJ6_bitCount_0f7a4, Cond.static yJ6_bitCount_0f7a4]
def wsX3_count_r4 : List Cond := [Cond.initialized RJ6, Cond.code yJ6_bitCount_0f7a4 cJ6_bitCount_0f7a4 1 (some .int), Cond.constant RJ6 265 (1431655765), Cond.constant RJ6 266 (858993459), Cond.constant RJ6 267 (252645135), Cond.methodLink RX3 77 yX0_thingsSomewhere, Cond.instanceMethod yX0_thingsSomewhere, Cond.selects RX0 yX0_thingsSomewhere yX0_thingsSomewhere, Cond.code yX0_thingsSomewhere cX0_thingsSomewhere 4 (some .int)]
def wsX3_count : List Cond := .code yX3_count cX3_count 3 (some .int) :: ((wsX3_count_r1 ++ (wsX3_count_r2 ++ (wsX3_count_r3 ++ wsX3_count_r4))) ++ wsX30 ++ wsX20 ++ wsX10 ++ wsX00 ++ (vx_atS RX3 158 "java/lang/IndexOutOfBoundsException" ["java/lang/RuntimeException", "java/lang/Exception"]).filter goodWord)
def wsX3_countByAll_r1 : List Cond := [Cond.fieldLink RX3 19 "FridgeGossip" "view" "LFridgeGossip$View;", Cond.methodLink RX3 42 yX3_checkNumber, Cond.static yX3_checkNumber, Cond.initialized RX3, Cond.code yX3_checkNumber cX3_checkNumber 2 none, Cond.classLink RX3 154 "java/lang/IndexOutOfBoundsException", Cond.initialized "java/lang/IndexOutOfBoundsException", Cond.methodLink RX3 74 yX3_lookByAll, Cond.instanceMethod yX3_lookByAll, Cond.selects RX3 yX3_lookByAll yX3_lookByAll, Cond.code yX3_lookByAll cX3_lookByAll 1 none, Cond.fieldLink RX3 12 "FridgeGossip" "chain" "LFridgeGossip$WordChain;", Cond.fieldLink RX3 35 "FridgeGossip" "dayOf" "[I", Cond.methodLink RX3 165 yX0_read, Cond.instanceMethod yX0_read, Cond.selects RX0 yX0_read yX0_read, Cond.initialized RX0, Cond.code yX0_read cX0_read 5 none, Cond.fieldLink RX0 46 "FridgeGossip$WordChain" "earliest" "LFridgeGossip$Word;", Cond.fieldLink RX0 52 "FridgeGossip$Word" "knownTo" "I", Cond.fieldLink RX0 61 "FridgeGossip$Word" "next" "LFridgeGossip$Word;", Cond.fieldLink RX0 64 "FridgeGossip$Word" "kind" "I", Cond.fieldLink RX0 67 "FridgeGossip$Word" "subject" "I", Cond.fieldLink RX0 70 "FridgeGossip$Word" "cake" "I"]
def wsX3_countByAll_r2 : List Cond := [Cond.methodLink RX0 43 yX0_forget, Cond.instanceMethod yX0_forget, Cond.selects RX0 yX0_forget yX0_forget, Cond.code yX0_forget cX0_forget 1 none, Cond.fieldLink RX0 9 "FridgeGossip$View" "place" "[I", Cond.fieldLink RX0 15 "FridgeGossip$View" "claimers" "[I", Cond.fieldLink RX0 18 "FridgeGossip$View" "kept" "[I", Cond.fieldLink RX0 21 "FridgeGossip$View" "firstDay" "[I", Cond.fieldLink RX0 24 "FridgeGossip$View" "lastDay" "[I", Cond.fieldLink RX0 27 "FridgeGossip$View" "dislikes" "[I", Cond.fieldLink RX0 30 "FridgeGossip$View" "state" "[I", Cond.fieldLink RX0 33 "FridgeGossip$View" "planRank" "[I", Cond.fieldLink RX0 36 "FridgeGossip$View" "planCount" "I", Cond.fieldLink RX0 40 "FridgeGossip$View" "spoiltCakes" "I", Cond.methodLink RX0 77 yJ7_fill_53178, Cond.static yJ7_fill_53178, Cond.initialized RJ7, Cond.code yJ7_fill_53178 cJ7_fill_53178 4 none, Cond.methodLink RX0 57 yX0_hear, Cond.instanceMethod yX0_hear, Cond.selects RX0 yX0_hear yX0_hear, Cond.code yX0_hear cX0_hear 2 none, Cond.fieldLink RX0 83 "FridgeGossip$Word" "writer" "I", Cond.fieldLink RX0 89 "FridgeGossip$Word" "firstDay" "I"]
def wsX3_countByAll_r3 : List Cond := [Cond.fieldLink RX0 91 "FridgeGossip$Word" "lastDay" "I", Cond.fieldLink RX0 93 "FridgeGossip$Word" "dislikes" "I", Cond.methodLink RX0 86 yX0_hearTake, Cond.instanceMethod yX0_hearTake, Cond.selects RX0 yX0_hearTake yX0_hearTake, Cond.code yX0_hearTake cX0_hearTake 2 none, Cond.methodLink RX0 73 yX0_hearKeep, Cond.instanceMethod yX0_hearKeep, Cond.selects RX0 yX0_hearKeep yX0_hearKeep, Cond.code yX0_hearKeep cX0_hearKeep 4 none, Cond.methodLink RX0 95 yX0_isAhead, Cond.instanceMethod yX0_isAhead, Cond.selects RX0 yX0_isAhead yX0_isAhead, Cond.code yX0_isAhead cX0_isAhead 8 (some .boolean), Cond.methodLink RX0 99 yX0_guestsOn, Cond.instanceMethod yX0_guestsOn, Cond.selects RX0 yX0_guestsOn yX0_guestsOn, Cond.code yX0_guestsOn cX0_guestsOn 4 (some .int), Cond.methodLink RX0 108 yX0_comesOn, Cond.instanceMethod yX0_comesOn, Cond.selects RX0 yX0_comesOn yX0_comesOn, Cond.code yX0_comesOn cX0_comesOn 3 (some .boolean), Cond.methodLink RX0 103 yJ6_bitCount_0f7a4, Cond.static yJ6_bitCount_0f7a4]
def wsX3_countByAll_r4 : List Cond := [Cond.initialized RJ6, Cond.code yJ6_bitCount_0f7a4 cJ6_bitCount_0f7a4 1 (some .int), Cond.constant RJ6 265 (1431655765), Cond.constant RJ6 266 (858993459), Cond.constant RJ6 267 (252645135), Cond.methodLink RX3 77 yX0_thingsSomewhere, Cond.instanceMethod yX0_thingsSomewhere, Cond.selects RX0 yX0_thingsSomewhere yX0_thingsSomewhere, Cond.code yX0_thingsSomewhere cX0_thingsSomewhere 4 (some .int)]
def wsX3_countByAll : List Cond := .code yX3_countByAll cX3_countByAll 2 (some .int) :: ((wsX3_countByAll_r1 ++ (wsX3_countByAll_r2 ++ (wsX3_countByAll_r3 ++ wsX3_countByAll_r4))) ++ wsX30 ++ wsX20 ++ wsX10 ++ wsX00 ++ (vx_atS RX3 158 "java/lang/IndexOutOfBoundsException" ["java/lang/RuntimeException", "java/lang/Exception"]).filter goodWord)
def wsX3_claims_r1 : List Cond := [Cond.fieldLink RX3 19 "FridgeGossip" "view" "LFridgeGossip$View;", Cond.methodLink RX3 42 yX3_checkNumber, Cond.static yX3_checkNumber, Cond.initialized RX3, Cond.code yX3_checkNumber cX3_checkNumber 2 none, Cond.classLink RX3 154 "java/lang/IndexOutOfBoundsException", Cond.initialized "java/lang/IndexOutOfBoundsException", Cond.methodLink RX3 46 yX3_lookAs, Cond.instanceMethod yX3_lookAs, Cond.selects RX3 yX3_lookAs yX3_lookAs, Cond.code yX3_lookAs cX3_lookAs 2 none, Cond.fieldLink RX3 12 "FridgeGossip" "chain" "LFridgeGossip$WordChain;", Cond.fieldLink RX3 35 "FridgeGossip" "dayOf" "[I", Cond.methodLink RX3 165 yX0_read, Cond.instanceMethod yX0_read, Cond.selects RX0 yX0_read yX0_read, Cond.initialized RX0, Cond.code yX0_read cX0_read 5 none, Cond.fieldLink RX0 46 "FridgeGossip$WordChain" "earliest" "LFridgeGossip$Word;", Cond.fieldLink RX0 52 "FridgeGossip$Word" "knownTo" "I", Cond.fieldLink RX0 61 "FridgeGossip$Word" "next" "LFridgeGossip$Word;", Cond.fieldLink RX0 64 "FridgeGossip$Word" "kind" "I", Cond.fieldLink RX0 67 "FridgeGossip$Word" "subject" "I", Cond.fieldLink RX0 70 "FridgeGossip$Word" "cake" "I"]
def wsX3_claims_r2 : List Cond := [Cond.methodLink RX0 43 yX0_forget, Cond.instanceMethod yX0_forget, Cond.selects RX0 yX0_forget yX0_forget, Cond.code yX0_forget cX0_forget 1 none, Cond.fieldLink RX0 9 "FridgeGossip$View" "place" "[I", Cond.fieldLink RX0 15 "FridgeGossip$View" "claimers" "[I", Cond.fieldLink RX0 18 "FridgeGossip$View" "kept" "[I", Cond.fieldLink RX0 21 "FridgeGossip$View" "firstDay" "[I", Cond.fieldLink RX0 24 "FridgeGossip$View" "lastDay" "[I", Cond.fieldLink RX0 27 "FridgeGossip$View" "dislikes" "[I", Cond.fieldLink RX0 30 "FridgeGossip$View" "state" "[I", Cond.fieldLink RX0 33 "FridgeGossip$View" "planRank" "[I", Cond.fieldLink RX0 36 "FridgeGossip$View" "planCount" "I", Cond.fieldLink RX0 40 "FridgeGossip$View" "spoiltCakes" "I", Cond.methodLink RX0 77 yJ7_fill_53178, Cond.static yJ7_fill_53178, Cond.initialized RJ7, Cond.code yJ7_fill_53178 cJ7_fill_53178 4 none, Cond.methodLink RX0 57 yX0_hear, Cond.instanceMethod yX0_hear, Cond.selects RX0 yX0_hear yX0_hear, Cond.code yX0_hear cX0_hear 2 none, Cond.fieldLink RX0 83 "FridgeGossip$Word" "writer" "I", Cond.fieldLink RX0 89 "FridgeGossip$Word" "firstDay" "I"]
def wsX3_claims_r3 : List Cond := [Cond.fieldLink RX0 91 "FridgeGossip$Word" "lastDay" "I", Cond.fieldLink RX0 93 "FridgeGossip$Word" "dislikes" "I", Cond.methodLink RX0 86 yX0_hearTake, Cond.instanceMethod yX0_hearTake, Cond.selects RX0 yX0_hearTake yX0_hearTake, Cond.code yX0_hearTake cX0_hearTake 2 none, Cond.methodLink RX0 73 yX0_hearKeep, Cond.instanceMethod yX0_hearKeep, Cond.selects RX0 yX0_hearKeep yX0_hearKeep, Cond.code yX0_hearKeep cX0_hearKeep 4 none, Cond.methodLink RX0 95 yX0_isAhead, Cond.instanceMethod yX0_isAhead, Cond.selects RX0 yX0_isAhead yX0_isAhead, Cond.code yX0_isAhead cX0_isAhead 8 (some .boolean), Cond.methodLink RX0 99 yX0_guestsOn, Cond.instanceMethod yX0_guestsOn, Cond.selects RX0 yX0_guestsOn yX0_guestsOn, Cond.code yX0_guestsOn cX0_guestsOn 4 (some .int), Cond.methodLink RX0 108 yX0_comesOn, Cond.instanceMethod yX0_comesOn, Cond.selects RX0 yX0_comesOn yX0_comesOn, Cond.code yX0_comesOn cX0_comesOn 3 (some .boolean), Cond.methodLink RX0 103 yJ6_bitCount_0f7a4, Cond.static yJ6_bitCount_0f7a4]
def wsX3_claims_r4 : List Cond := [Cond.initialized RJ6, Cond.code yJ6_bitCount_0f7a4 cJ6_bitCount_0f7a4 1 (some .int), Cond.constant RJ6 265 (1431655765), Cond.constant RJ6 266 (858993459), Cond.constant RJ6 267 (252645135), Cond.methodLink RX3 81 yX0_wrongClaimers, Cond.instanceMethod yX0_wrongClaimers, Cond.selects RX0 yX0_wrongClaimers yX0_wrongClaimers, Cond.code yX0_wrongClaimers cX0_wrongClaimers 3 (some .int)]
def wsX3_claims : List Cond := .code yX3_claims cX3_claims 3 (some .int) :: ((wsX3_claims_r1 ++ (wsX3_claims_r2 ++ (wsX3_claims_r3 ++ wsX3_claims_r4))) ++ wsX30 ++ wsX20 ++ wsX10 ++ wsX00 ++ (vx_atS RX3 158 "java/lang/IndexOutOfBoundsException" ["java/lang/RuntimeException", "java/lang/Exception"]).filter goodWord)
def wsX3_meet : List Cond := .code yX3_meet cX3_meet 4 (some .int) :: ([.classLink RX3 84 "java/lang/IllegalArgumentException", .initialized "java/lang/IllegalArgumentException", .fieldLink RX3 23 "FridgeGossip" "clocks" "[I", .methodLink RX3 89 Lib.Math.max.name, .static Lib.Math.max.name, .initialized "java/lang/Math", .code Lib.Math.max.name Lib.Math.max.code 2 (some .int), .fieldLink RX3 12 "FridgeGossip" "chain" "LFridgeGossip$WordChain;", .methodLink RX3 42 yX3_checkNumber, .static yX3_checkNumber, .initialized RX3, .code yX3_checkNumber cX3_checkNumber 2 none, .classLink RX3 154 "java/lang/IndexOutOfBoundsException", .initialized "java/lang/IndexOutOfBoundsException", .methodLink RX3 95 yX2_shareAmong, .instanceMethod yX2_shareAmong, .selects RX2 yX2_shareAmong yX2_shareAmong, .initialized RX2, .code yX2_shareAmong cX2_shareAmong 5 (some .int), .fieldLink RX2 7 "FridgeGossip$WordChain" "earliest" "LFridgeGossip$Word;", .fieldLink RX2 26 "FridgeGossip$Word" "knownTo" "I", .fieldLink RX2 23 "FridgeGossip$Word" "next" "LFridgeGossip$Word;"] ++ wsX30 ++ wsX20 ++ wsX10 ++ (vx_atS RX3 88 "java/lang/IllegalArgumentException" ["java/lang/RuntimeException", "java/lang/Exception"]).filter goodWord ++ (vx_atS RX3 158 "java/lang/IndexOutOfBoundsException" ["java/lang/RuntimeException", "java/lang/Exception"]).filter goodWord)
def wsX3_words : List Cond := .code yX3_words cX3_words 1 (some .int) :: ([.fieldLink RX3 12 "FridgeGossip" "chain" "LFridgeGossip$WordChain;", .fieldLink RX3 98 "FridgeGossip$WordChain" "size" "I"] ++ wsX30 ++ wsX20)
def wsX3_known : List Cond := .code yX3_known cX3_known 2 (some .int) :: ([.fieldLink RX3 12 "FridgeGossip" "chain" "LFridgeGossip$WordChain;", .methodLink RX3 42 yX3_checkNumber, .static yX3_checkNumber, .initialized RX3, .code yX3_checkNumber cX3_checkNumber 2 none, .classLink RX3 154 "java/lang/IndexOutOfBoundsException", .initialized "java/lang/IndexOutOfBoundsException", .methodLink RX3 101 yX2_sizeKnownTo, .instanceMethod yX2_sizeKnownTo, .selects RX2 yX2_sizeKnownTo yX2_sizeKnownTo, .initialized RX2, .code yX2_sizeKnownTo cX2_sizeKnownTo 4 (some .int), .fieldLink RX2 7 "FridgeGossip$WordChain" "earliest" "LFridgeGossip$Word;", .fieldLink RX2 26 "FridgeGossip$Word" "knownTo" "I", .fieldLink RX2 23 "FridgeGossip$Word" "next" "LFridgeGossip$Word;"] ++ wsX30 ++ wsX20 ++ wsX10 ++ (vx_atS RX3 158 "java/lang/IndexOutOfBoundsException" ["java/lang/RuntimeException", "java/lang/Exception"]).filter goodWord)
def wsX3_clock : List Cond := .code yX3_clock cX3_clock 2 (some .int) :: ([.fieldLink RX3 23 "FridgeGossip" "clocks" "[I", .methodLink RX3 42 yX3_checkNumber, .static yX3_checkNumber, .initialized RX3, .code yX3_checkNumber cX3_checkNumber 2 none, .classLink RX3 154 "java/lang/IndexOutOfBoundsException", .initialized "java/lang/IndexOutOfBoundsException"] ++ wsX30 ++ (vx_atS RX3 158 "java/lang/IndexOutOfBoundsException" ["java/lang/RuntimeException", "java/lang/Exception"]).filter goodWord)
def wsX3_checkRange : List Cond := .code yX3_checkRange cX3_checkRange 3 none :: ([.classLink RX3 84 "java/lang/IllegalArgumentException", .initialized "java/lang/IllegalArgumentException"] ++ (vx_atS RX3 88 "java/lang/IllegalArgumentException" ["java/lang/RuntimeException", "java/lang/Exception"]).filter goodWord)
def wsX3_guest_r1 : List Cond := [Cond.fieldLink RX3 108 "FridgeGossip$Word" "firstDay" "I", Cond.fieldLink RX3 111 "FridgeGossip$Word" "lastDay" "I", Cond.fieldLink RX3 114 "FridgeGossip$Word" "dislikes" "I", Cond.fieldLink RX3 69 "FridgeGossip$Word" "stamp" "I", Cond.methodLink RX3 42 yX3_checkNumber, Cond.static yX3_checkNumber, Cond.initialized RX3, Cond.code yX3_checkNumber cX3_checkNumber 2 none, Cond.classLink RX3 154 "java/lang/IndexOutOfBoundsException", Cond.initialized "java/lang/IndexOutOfBoundsException", Cond.methodLink RX3 104 yX3_checkRange, Cond.static yX3_checkRange, Cond.code yX3_checkRange cX3_checkRange 3 none, Cond.classLink RX3 84 "java/lang/IllegalArgumentException", Cond.initialized "java/lang/IllegalArgumentException", Cond.methodLink RX3 60 yX3_checkRoomFor, Cond.instanceMethod yX3_checkRoomFor, Cond.selects RX3 yX3_checkRoomFor yX3_checkRoomFor, Cond.code yX3_checkRoomFor cX3_checkRoomFor 2 none, Cond.classLink RX3 53 "java/lang/IllegalStateException", Cond.initialized "java/lang/IllegalStateException", Cond.fieldLink RX3 12 "FridgeGossip" "chain" "LFridgeGossip$WordChain;", Cond.fieldLink RX3 98 "FridgeGossip$WordChain" "size" "I", Cond.methodLink RX3 65 yX3_write]
def wsX3_guest_r2 : List Cond := [Cond.instanceMethod yX3_write, Cond.selects RX3 yX3_write yX3_write, Cond.code yX3_write cX3_write 6 (some (.object "FridgeGossip$Word")), Cond.fieldLink RX3 23 "FridgeGossip" "clocks" "[I", Cond.classLink RX3 63 RX1, Cond.instantiable RX1 10, Cond.initialized RX1, Cond.methodLink RX3 169 yX1_init, Cond.instanceMethod yX1_init, Cond.code yX1_init cX1_init 6 none, Cond.methodLink RX1 1 objectInit, Cond.instanceMethod objectInit, Cond.code objectInit ⟨#[0xb1]⟩ 1 none, Cond.fieldLink RX1 7 "FridgeGossip$Word" "firstDay" "I", Cond.fieldLink RX1 13 "FridgeGossip$Word" "lastDay" "I", Cond.fieldLink RX1 16 "FridgeGossip$Word" "dislikes" "I", Cond.fieldLink RX1 19 "FridgeGossip$Word" "next" "LFridgeGossip$Word;", Cond.fieldLink RX1 23 "FridgeGossip$Word" "kind" "I", Cond.fieldLink RX1 26 "FridgeGossip$Word" "stamp" "I", Cond.fieldLink RX1 29 "FridgeGossip$Word" "writer" "I", Cond.fieldLink RX1 32 "FridgeGossip$Word" "subject" "I", Cond.fieldLink RX1 35 "FridgeGossip$Word" "cake" "I", Cond.fieldLink RX1 38 "FridgeGossip$Word" "knownTo" "I", Cond.methodLink RX3 172 yX2_insert]
def wsX3_guest_r3 : List Cond := [Cond.instanceMethod yX2_insert, Cond.selects RX2 yX2_insert yX2_insert, Cond.initialized RX2, Cond.code yX2_insert cX2_insert 4 none, Cond.fieldLink RX2 7 "FridgeGossip$WordChain" "earliest" "LFridgeGossip$Word;", Cond.fieldLink RX2 23 "FridgeGossip$Word" "next" "LFridgeGossip$Word;", Cond.fieldLink RX2 13 "FridgeGossip$WordChain" "size" "I", Cond.methodLink RX2 17 yX1_isLaterThan, Cond.instanceMethod yX1_isLaterThan, Cond.selects RX1 yX1_isLaterThan yX1_isLaterThan, Cond.code yX1_isLaterThan cX1_isLaterThan 2 (some .boolean)]
def wsX3_guest : List Cond := .code yX3_guest cX3_guest 7 (some .int) :: ((wsX3_guest_r1 ++ (wsX3_guest_r2 ++ wsX3_guest_r3)) ++ wsX10 ++ wsX30 ++ wsX20 ++ (vx_atS RX3 158 "java/lang/IndexOutOfBoundsException" ["java/lang/RuntimeException", "java/lang/Exception"]).filter goodWord ++ (vx_atS RX3 88 "java/lang/IllegalArgumentException" ["java/lang/RuntimeException", "java/lang/Exception"]).filter goodWord ++ (vx_atS RX3 57 "java/lang/IllegalStateException" ["java/lang/RuntimeException", "java/lang/Exception"]).filter goodWord)
def wsX3_guests_r1 : List Cond := [Cond.fieldLink RX3 19 "FridgeGossip" "view" "LFridgeGossip$View;", Cond.methodLink RX3 42 yX3_checkNumber, Cond.static yX3_checkNumber, Cond.initialized RX3, Cond.code yX3_checkNumber cX3_checkNumber 2 none, Cond.classLink RX3 154 "java/lang/IndexOutOfBoundsException", Cond.initialized "java/lang/IndexOutOfBoundsException", Cond.methodLink RX3 104 yX3_checkRange, Cond.static yX3_checkRange, Cond.code yX3_checkRange cX3_checkRange 3 none, Cond.classLink RX3 84 "java/lang/IllegalArgumentException", Cond.initialized "java/lang/IllegalArgumentException", Cond.methodLink RX3 46 yX3_lookAs, Cond.instanceMethod yX3_lookAs, Cond.selects RX3 yX3_lookAs yX3_lookAs, Cond.code yX3_lookAs cX3_lookAs 2 none, Cond.fieldLink RX3 12 "FridgeGossip" "chain" "LFridgeGossip$WordChain;", Cond.fieldLink RX3 35 "FridgeGossip" "dayOf" "[I", Cond.methodLink RX3 165 yX0_read, Cond.instanceMethod yX0_read, Cond.selects RX0 yX0_read yX0_read, Cond.initialized RX0, Cond.code yX0_read cX0_read 5 none, Cond.fieldLink RX0 46 "FridgeGossip$WordChain" "earliest" "LFridgeGossip$Word;"]
def wsX3_guests_r2 : List Cond := [Cond.fieldLink RX0 52 "FridgeGossip$Word" "knownTo" "I", Cond.fieldLink RX0 61 "FridgeGossip$Word" "next" "LFridgeGossip$Word;", Cond.fieldLink RX0 64 "FridgeGossip$Word" "kind" "I", Cond.fieldLink RX0 67 "FridgeGossip$Word" "subject" "I", Cond.fieldLink RX0 70 "FridgeGossip$Word" "cake" "I", Cond.methodLink RX0 43 yX0_forget, Cond.instanceMethod yX0_forget, Cond.selects RX0 yX0_forget yX0_forget, Cond.code yX0_forget cX0_forget 1 none, Cond.fieldLink RX0 9 "FridgeGossip$View" "place" "[I", Cond.fieldLink RX0 15 "FridgeGossip$View" "claimers" "[I", Cond.fieldLink RX0 18 "FridgeGossip$View" "kept" "[I", Cond.fieldLink RX0 21 "FridgeGossip$View" "firstDay" "[I", Cond.fieldLink RX0 24 "FridgeGossip$View" "lastDay" "[I", Cond.fieldLink RX0 27 "FridgeGossip$View" "dislikes" "[I", Cond.fieldLink RX0 30 "FridgeGossip$View" "state" "[I", Cond.fieldLink RX0 33 "FridgeGossip$View" "planRank" "[I", Cond.fieldLink RX0 36 "FridgeGossip$View" "planCount" "I", Cond.fieldLink RX0 40 "FridgeGossip$View" "spoiltCakes" "I", Cond.methodLink RX0 77 yJ7_fill_53178, Cond.static yJ7_fill_53178, Cond.initialized RJ7, Cond.code yJ7_fill_53178 cJ7_fill_53178 4 none, Cond.methodLink RX0 57 yX0_hear]
def wsX3_guests_r3 : List Cond := [Cond.instanceMethod yX0_hear, Cond.selects RX0 yX0_hear yX0_hear, Cond.code yX0_hear cX0_hear 2 none, Cond.fieldLink RX0 83 "FridgeGossip$Word" "writer" "I", Cond.fieldLink RX0 89 "FridgeGossip$Word" "firstDay" "I", Cond.fieldLink RX0 91 "FridgeGossip$Word" "lastDay" "I", Cond.fieldLink RX0 93 "FridgeGossip$Word" "dislikes" "I", Cond.methodLink RX0 86 yX0_hearTake, Cond.instanceMethod yX0_hearTake, Cond.selects RX0 yX0_hearTake yX0_hearTake, Cond.code yX0_hearTake cX0_hearTake 2 none, Cond.methodLink RX0 73 yX0_hearKeep, Cond.instanceMethod yX0_hearKeep, Cond.selects RX0 yX0_hearKeep yX0_hearKeep, Cond.code yX0_hearKeep cX0_hearKeep 4 none, Cond.methodLink RX0 95 yX0_isAhead, Cond.instanceMethod yX0_isAhead, Cond.selects RX0 yX0_isAhead yX0_isAhead, Cond.code yX0_isAhead cX0_isAhead 8 (some .boolean), Cond.methodLink RX0 99 yX0_guestsOn, Cond.instanceMethod yX0_guestsOn, Cond.selects RX0 yX0_guestsOn yX0_guestsOn, Cond.code yX0_guestsOn cX0_guestsOn 4 (some .int), Cond.methodLink RX0 108 yX0_comesOn]
def wsX3_guests_r4 : List Cond := [Cond.instanceMethod yX0_comesOn, Cond.selects RX0 yX0_comesOn yX0_comesOn, Cond.code yX0_comesOn cX0_comesOn 3 (some .boolean), Cond.methodLink RX0 103 yJ6_bitCount_0f7a4, Cond.static yJ6_bitCount_0f7a4, Cond.initialized RJ6, Cond.code yJ6_bitCount_0f7a4 cJ6_bitCount_0f7a4 1 (some .int), Cond.constant RJ6 265 (1431655765), Cond.constant RJ6 266 (858993459), Cond.constant RJ6 267 (252645135), Cond.methodLink RX3 117 yX0_guestsOn]
def wsX3_guests : List Cond := .code yX3_guests cX3_guests 3 (some .int) :: ((wsX3_guests_r1 ++ (wsX3_guests_r2 ++ (wsX3_guests_r3 ++ wsX3_guests_r4))) ++ wsX30 ++ wsX20 ++ wsX10 ++ wsX00 ++ (vx_atS RX3 158 "java/lang/IndexOutOfBoundsException" ["java/lang/RuntimeException", "java/lang/Exception"]).filter goodWord ++ (vx_atS RX3 88 "java/lang/IllegalArgumentException" ["java/lang/RuntimeException", "java/lang/Exception"]).filter goodWord)
def wsX3_setNeed : List Cond := .code yX3_setNeed cX3_setNeed 5 (some .int) :: ([.fieldLink RX3 29 "FridgeGossip" "needs" "[[I", .methodLink RX3 42 yX3_checkNumber, .static yX3_checkNumber, .initialized RX3, .code yX3_checkNumber cX3_checkNumber 2 none, .classLink RX3 154 "java/lang/IndexOutOfBoundsException", .initialized "java/lang/IndexOutOfBoundsException", .methodLink RX3 104 yX3_checkRange, .static yX3_checkRange, .code yX3_checkRange cX3_checkRange 3 none, .classLink RX3 84 "java/lang/IllegalArgumentException", .initialized "java/lang/IllegalArgumentException"] ++ wsX30 ++ (vx_atS RX3 158 "java/lang/IndexOutOfBoundsException" ["java/lang/RuntimeException", "java/lang/Exception"]).filter goodWord ++ (vx_atS RX3 88 "java/lang/IllegalArgumentException" ["java/lang/RuntimeException", "java/lang/Exception"]).filter goodWord)
def wsX3_isDisliked : List Cond := .code yX3_isDisliked cX3_isDisliked 5 (some .boolean) :: ([.fieldLink RX3 19 "FridgeGossip" "view" "LFridgeGossip$View;", .fieldLink RX3 29 "FridgeGossip" "needs" "[[I", .methodLink RX3 176 yX0_dislikedOn, .instanceMethod yX0_dislikedOn, .selects RX0 yX0_dislikedOn yX0_dislikedOn, .initialized RX0, .code yX0_dislikedOn cX0_dislikedOn 4 (some .int), .fieldLink RX0 27 "FridgeGossip$View" "dislikes" "[I", .methodLink RX0 108 yX0_comesOn, .instanceMethod yX0_comesOn, .selects RX0 yX0_comesOn yX0_comesOn, .code yX0_comesOn cX0_comesOn 3 (some .boolean), .fieldLink RX0 21 "FridgeGossip$View" "firstDay" "[I", .fieldLink RX0 24 "FridgeGossip$View" "lastDay" "[I"] ++ wsX30 ++ wsX00)
def wsX3_plan_r1 : List Cond := [Cond.classLink RX3 53 "java/lang/IllegalStateException", Cond.initialized "java/lang/IllegalStateException", Cond.fieldLink RX3 38 "FridgeGossip" "cakeCount" "I", Cond.fieldLink RX3 32 "FridgeGossip" "recipeOf" "[I", Cond.fieldLink RX3 35 "FridgeGossip" "dayOf" "[I", Cond.methodLink RX3 42 yX3_checkNumber, Cond.static yX3_checkNumber, Cond.initialized RX3, Cond.code yX3_checkNumber cX3_checkNumber 2 none, Cond.classLink RX3 154 "java/lang/IndexOutOfBoundsException", Cond.initialized "java/lang/IndexOutOfBoundsException", Cond.methodLink RX3 104 yX3_checkRange, Cond.static yX3_checkRange, Cond.code yX3_checkRange cX3_checkRange 3 none, Cond.classLink RX3 84 "java/lang/IllegalArgumentException", Cond.initialized "java/lang/IllegalArgumentException", Cond.methodLink RX3 46 yX3_lookAs, Cond.instanceMethod yX3_lookAs, Cond.selects RX3 yX3_lookAs yX3_lookAs, Cond.code yX3_lookAs cX3_lookAs 2 none, Cond.fieldLink RX3 19 "FridgeGossip" "view" "LFridgeGossip$View;", Cond.fieldLink RX3 12 "FridgeGossip" "chain" "LFridgeGossip$WordChain;", Cond.methodLink RX3 165 yX0_read, Cond.instanceMethod yX0_read]
def wsX3_plan_r2 : List Cond := [Cond.selects RX0 yX0_read yX0_read, Cond.initialized RX0, Cond.code yX0_read cX0_read 5 none, Cond.fieldLink RX0 46 "FridgeGossip$WordChain" "earliest" "LFridgeGossip$Word;", Cond.fieldLink RX0 52 "FridgeGossip$Word" "knownTo" "I", Cond.fieldLink RX0 61 "FridgeGossip$Word" "next" "LFridgeGossip$Word;", Cond.fieldLink RX0 64 "FridgeGossip$Word" "kind" "I", Cond.fieldLink RX0 67 "FridgeGossip$Word" "subject" "I", Cond.fieldLink RX0 70 "FridgeGossip$Word" "cake" "I", Cond.methodLink RX0 43 yX0_forget, Cond.instanceMethod yX0_forget, Cond.selects RX0 yX0_forget yX0_forget, Cond.code yX0_forget cX0_forget 1 none, Cond.fieldLink RX0 9 "FridgeGossip$View" "place" "[I", Cond.fieldLink RX0 15 "FridgeGossip$View" "claimers" "[I", Cond.fieldLink RX0 18 "FridgeGossip$View" "kept" "[I", Cond.fieldLink RX0 21 "FridgeGossip$View" "firstDay" "[I", Cond.fieldLink RX0 24 "FridgeGossip$View" "lastDay" "[I", Cond.fieldLink RX0 27 "FridgeGossip$View" "dislikes" "[I", Cond.fieldLink RX0 30 "FridgeGossip$View" "state" "[I", Cond.fieldLink RX0 33 "FridgeGossip$View" "planRank" "[I", Cond.fieldLink RX0 36 "FridgeGossip$View" "planCount" "I", Cond.fieldLink RX0 40 "FridgeGossip$View" "spoiltCakes" "I", Cond.methodLink RX0 77 yJ7_fill_53178]
def wsX3_plan_r3 : List Cond := [Cond.static yJ7_fill_53178, Cond.initialized RJ7, Cond.code yJ7_fill_53178 cJ7_fill_53178 4 none, Cond.methodLink RX0 57 yX0_hear, Cond.instanceMethod yX0_hear, Cond.selects RX0 yX0_hear yX0_hear, Cond.code yX0_hear cX0_hear 2 none, Cond.fieldLink RX0 83 "FridgeGossip$Word" "writer" "I", Cond.fieldLink RX0 89 "FridgeGossip$Word" "firstDay" "I", Cond.fieldLink RX0 91 "FridgeGossip$Word" "lastDay" "I", Cond.fieldLink RX0 93 "FridgeGossip$Word" "dislikes" "I", Cond.methodLink RX0 86 yX0_hearTake, Cond.instanceMethod yX0_hearTake, Cond.selects RX0 yX0_hearTake yX0_hearTake, Cond.code yX0_hearTake cX0_hearTake 2 none, Cond.methodLink RX0 73 yX0_hearKeep, Cond.instanceMethod yX0_hearKeep, Cond.selects RX0 yX0_hearKeep yX0_hearKeep, Cond.code yX0_hearKeep cX0_hearKeep 4 none, Cond.methodLink RX0 95 yX0_isAhead, Cond.instanceMethod yX0_isAhead, Cond.selects RX0 yX0_isAhead yX0_isAhead, Cond.code yX0_isAhead cX0_isAhead 8 (some .boolean), Cond.methodLink RX0 99 yX0_guestsOn]
def wsX3_plan_r4 : List Cond := [Cond.instanceMethod yX0_guestsOn, Cond.selects RX0 yX0_guestsOn yX0_guestsOn, Cond.code yX0_guestsOn cX0_guestsOn 4 (some .int), Cond.methodLink RX0 108 yX0_comesOn, Cond.instanceMethod yX0_comesOn, Cond.selects RX0 yX0_comesOn yX0_comesOn, Cond.code yX0_comesOn cX0_comesOn 3 (some .boolean), Cond.methodLink RX0 103 yJ6_bitCount_0f7a4, Cond.static yJ6_bitCount_0f7a4, Cond.initialized RJ6, Cond.code yJ6_bitCount_0f7a4 cJ6_bitCount_0f7a4 1 (some .int), Cond.constant RJ6 265 (1431655765), Cond.constant RJ6 266 (858993459), Cond.constant RJ6 267 (252645135), Cond.methodLink RX3 120 yX3_isDisliked, Cond.instanceMethod yX3_isDisliked, Cond.selects RX3 yX3_isDisliked yX3_isDisliked, Cond.code yX3_isDisliked cX3_isDisliked 5 (some .boolean), Cond.fieldLink RX3 29 "FridgeGossip" "needs" "[[I", Cond.methodLink RX3 176 yX0_dislikedOn, Cond.instanceMethod yX0_dislikedOn, Cond.selects RX0 yX0_dislikedOn yX0_dislikedOn, Cond.code yX0_dislikedOn cX0_dislikedOn 4 (some .int), Cond.methodLink RX3 60 yX3_checkRoomFor]
def wsX3_plan_r5 : List Cond := [Cond.instanceMethod yX3_checkRoomFor, Cond.selects RX3 yX3_checkRoomFor yX3_checkRoomFor, Cond.code yX3_checkRoomFor cX3_checkRoomFor 2 none, Cond.fieldLink RX3 98 "FridgeGossip$WordChain" "size" "I", Cond.methodLink RX3 65 yX3_write, Cond.instanceMethod yX3_write, Cond.selects RX3 yX3_write yX3_write, Cond.code yX3_write cX3_write 6 (some (.object "FridgeGossip$Word")), Cond.fieldLink RX3 23 "FridgeGossip" "clocks" "[I", Cond.classLink RX3 63 RX1, Cond.instantiable RX1 10, Cond.initialized RX1, Cond.methodLink RX3 169 yX1_init, Cond.instanceMethod yX1_init, Cond.code yX1_init cX1_init 6 none, Cond.methodLink RX1 1 objectInit, Cond.instanceMethod objectInit, Cond.code objectInit ⟨#[0xb1]⟩ 1 none, Cond.fieldLink RX1 7 "FridgeGossip$Word" "firstDay" "I", Cond.fieldLink RX1 13 "FridgeGossip$Word" "lastDay" "I", Cond.fieldLink RX1 16 "FridgeGossip$Word" "dislikes" "I", Cond.fieldLink RX1 19 "FridgeGossip$Word" "next" "LFridgeGossip$Word;", Cond.fieldLink RX1 23 "FridgeGossip$Word" "kind" "I", Cond.fieldLink RX1 26 "FridgeGossip$Word" "stamp" "I"]
def wsX3_plan_r6 : List Cond := [Cond.fieldLink RX1 29 "FridgeGossip$Word" "writer" "I", Cond.fieldLink RX1 32 "FridgeGossip$Word" "subject" "I", Cond.fieldLink RX1 35 "FridgeGossip$Word" "cake" "I", Cond.fieldLink RX1 38 "FridgeGossip$Word" "knownTo" "I", Cond.methodLink RX3 172 yX2_insert, Cond.instanceMethod yX2_insert, Cond.selects RX2 yX2_insert yX2_insert, Cond.initialized RX2, Cond.code yX2_insert cX2_insert 4 none, Cond.fieldLink RX2 7 "FridgeGossip$WordChain" "earliest" "LFridgeGossip$Word;", Cond.fieldLink RX2 23 "FridgeGossip$Word" "next" "LFridgeGossip$Word;", Cond.fieldLink RX2 13 "FridgeGossip$WordChain" "size" "I", Cond.methodLink RX2 17 yX1_isLaterThan, Cond.instanceMethod yX1_isLaterThan, Cond.selects RX1 yX1_isLaterThan yX1_isLaterThan, Cond.code yX1_isLaterThan cX1_isLaterThan 2 (some .boolean)]
def wsX3_plan : List Cond := .code yX3_plan cX3_plan 5 (some .int) :: ((wsX3_plan_r1 ++ (wsX3_plan_r2 ++ (wsX3_plan_r3 ++ (wsX3_plan_r4 ++ (wsX3_plan_r5 ++ wsX3_plan_r6))))) ++ wsX30 ++ wsX20 ++ wsX10 ++ wsX00 ++ (vx_atS RX3 57 "java/lang/IllegalStateException" ["java/lang/RuntimeException", "java/lang/Exception"]).filter goodWord ++ (vx_atS RX3 158 "java/lang/IndexOutOfBoundsException" ["java/lang/RuntimeException", "java/lang/Exception"]).filter goodWord ++ (vx_atS RX3 88 "java/lang/IllegalArgumentException" ["java/lang/RuntimeException", "java/lang/Exception"]).filter goodWord)
def wsX3_checkOpen : List Cond := .code yX3_checkOpen cX3_checkOpen 2 none :: ([.classLink RX3 53 "java/lang/IllegalStateException", .initialized "java/lang/IllegalStateException", .fieldLink RX3 19 "FridgeGossip" "view" "LFridgeGossip$View;", .fieldLink RX3 148 "FridgeGossip$View" "state" "[I"] ++ wsX30 ++ wsX00 ++ (vx_atS RX3 57 "java/lang/IllegalStateException" ["java/lang/RuntimeException", "java/lang/Exception"]).filter goodWord)
def wsX3_lacking : List Cond := .code yX3_lacking cX3_lacking 3 (some .int) :: ([.fieldLink RX3 29 "FridgeGossip" "needs" "[[I", .fieldLink RX3 32 "FridgeGossip" "recipeOf" "[I", .fieldLink RX3 19 "FridgeGossip" "view" "LFridgeGossip$View;", .methodLink RX3 89 Lib.Math.max.name, .static Lib.Math.max.name, .initialized "java/lang/Math", .code Lib.Math.max.name Lib.Math.max.code 2 (some .int), .methodLink RX3 179 yX0_thingsKept, .instanceMethod yX0_thingsKept, .selects RX0 yX0_thingsKept yX0_thingsKept, .initialized RX0, .code yX0_thingsKept cX0_thingsKept 5 (some .int), .fieldLink RX0 18 "FridgeGossip$View" "kept" "[I"] ++ wsX30 ++ wsX00)
def wsX3_keepable_r1 : List Cond := [Cond.fieldLink RX3 19 "FridgeGossip" "view" "LFridgeGossip$View;", Cond.methodLink RX3 185 Lib.Math.min.name, Cond.static Lib.Math.min.name, Cond.initialized "java/lang/Math", Cond.code Lib.Math.min.name Lib.Math.min.code 2 (some .int), Cond.methodLink RX3 140 yX3_lacking, Cond.instanceMethod yX3_lacking, Cond.selects RX3 yX3_lacking yX3_lacking, Cond.initialized RX3, Cond.code yX3_lacking cX3_lacking 3 (some .int), Cond.fieldLink RX3 29 "FridgeGossip" "needs" "[[I", Cond.fieldLink RX3 32 "FridgeGossip" "recipeOf" "[I", Cond.methodLink RX3 89 Lib.Math.max.name, Cond.static Lib.Math.max.name, Cond.code Lib.Math.max.name Lib.Math.max.code 2 (some .int), Cond.methodLink RX3 179 yX0_thingsKept, Cond.instanceMethod yX0_thingsKept, Cond.selects RX0 yX0_thingsKept yX0_thingsKept, Cond.initialized RX0, Cond.code yX0_thingsKept cX0_thingsKept 5 (some .int), Cond.fieldLink RX0 18 "FridgeGossip$View" "kept" "[I", Cond.methodLink RX3 182 yX0_thingsFree, Cond.instanceMethod yX0_thingsFree, Cond.selects RX0 yX0_thingsFree yX0_thingsFree]
def wsX3_keepable_r2 : List Cond := [Cond.code yX0_thingsFree cX0_thingsFree 4 (some .int), Cond.methodLink RX0 112 yX0_isFree, Cond.instanceMethod yX0_isFree, Cond.selects RX0 yX0_isFree yX0_isFree, Cond.code yX0_isFree cX0_isFree 2 (some .boolean), Cond.fieldLink RX0 9 "FridgeGossip$View" "place" "[I"]
def wsX3_keepable : List Cond := .code yX3_keepable cX3_keepable 3 (some .int) :: ((wsX3_keepable_r1 ++ wsX3_keepable_r2) ++ wsX30 ++ wsX00)
def wsX3_writeKeeps_r1 : List Cond := [Cond.fieldLink RX3 19 "FridgeGossip" "view" "LFridgeGossip$View;", Cond.methodLink RX3 131 yX3_keepable, Cond.instanceMethod yX3_keepable, Cond.selects RX3 yX3_keepable yX3_keepable, Cond.initialized RX3, Cond.code yX3_keepable cX3_keepable 3 (some .int), Cond.methodLink RX3 185 Lib.Math.min.name, Cond.static Lib.Math.min.name, Cond.initialized "java/lang/Math", Cond.code Lib.Math.min.name Lib.Math.min.code 2 (some .int), Cond.methodLink RX3 140 yX3_lacking, Cond.instanceMethod yX3_lacking, Cond.selects RX3 yX3_lacking yX3_lacking, Cond.code yX3_lacking cX3_lacking 3 (some .int), Cond.fieldLink RX3 29 "FridgeGossip" "needs" "[[I", Cond.fieldLink RX3 32 "FridgeGossip" "recipeOf" "[I", Cond.methodLink RX3 89 Lib.Math.max.name, Cond.static Lib.Math.max.name, Cond.code Lib.Math.max.name Lib.Math.max.code 2 (some .int), Cond.methodLink RX3 179 yX0_thingsKept, Cond.instanceMethod yX0_thingsKept, Cond.selects RX0 yX0_thingsKept yX0_thingsKept, Cond.initialized RX0, Cond.code yX0_thingsKept cX0_thingsKept 5 (some .int)]
def wsX3_writeKeeps_r2 : List Cond := [Cond.fieldLink RX0 18 "FridgeGossip$View" "kept" "[I", Cond.methodLink RX3 182 yX0_thingsFree, Cond.instanceMethod yX0_thingsFree, Cond.selects RX0 yX0_thingsFree yX0_thingsFree, Cond.code yX0_thingsFree cX0_thingsFree 4 (some .int), Cond.methodLink RX0 112 yX0_isFree, Cond.instanceMethod yX0_isFree, Cond.selects RX0 yX0_isFree yX0_isFree, Cond.code yX0_isFree cX0_isFree 2 (some .boolean), Cond.fieldLink RX0 9 "FridgeGossip$View" "place" "[I", Cond.methodLink RX3 188 yX0_isFree, Cond.methodLink RX3 65 yX3_write, Cond.instanceMethod yX3_write, Cond.selects RX3 yX3_write yX3_write, Cond.code yX3_write cX3_write 6 (some (.object "FridgeGossip$Word")), Cond.fieldLink RX3 23 "FridgeGossip" "clocks" "[I", Cond.classLink RX3 63 RX1, Cond.instantiable RX1 10, Cond.initialized RX1, Cond.fieldLink RX3 12 "FridgeGossip" "chain" "LFridgeGossip$WordChain;", Cond.methodLink RX3 169 yX1_init, Cond.instanceMethod yX1_init, Cond.code yX1_init cX1_init 6 none, Cond.methodLink RX1 1 objectInit]
def wsX3_writeKeeps_r3 : List Cond := [Cond.instanceMethod objectInit, Cond.code objectInit ⟨#[0xb1]⟩ 1 none, Cond.fieldLink RX1 7 "FridgeGossip$Word" "firstDay" "I", Cond.fieldLink RX1 13 "FridgeGossip$Word" "lastDay" "I", Cond.fieldLink RX1 16 "FridgeGossip$Word" "dislikes" "I", Cond.fieldLink RX1 19 "FridgeGossip$Word" "next" "LFridgeGossip$Word;", Cond.fieldLink RX1 23 "FridgeGossip$Word" "kind" "I", Cond.fieldLink RX1 26 "FridgeGossip$Word" "stamp" "I", Cond.fieldLink RX1 29 "FridgeGossip$Word" "writer" "I", Cond.fieldLink RX1 32 "FridgeGossip$Word" "subject" "I", Cond.fieldLink RX1 35 "FridgeGossip$Word" "cake" "I", Cond.fieldLink RX1 38 "FridgeGossip$Word" "knownTo" "I", Cond.methodLink RX3 172 yX2_insert, Cond.instanceMethod yX2_insert, Cond.selects RX2 yX2_insert yX2_insert, Cond.initialized RX2, Cond.code yX2_insert cX2_insert 4 none, Cond.fieldLink RX2 7 "FridgeGossip$WordChain" "earliest" "LFridgeGossip$Word;", Cond.fieldLink RX2 23 "FridgeGossip$Word" "next" "LFridgeGossip$Word;", Cond.fieldLink RX2 13 "FridgeGossip$WordChain" "size" "I", Cond.methodLink RX2 17 yX1_isLaterThan, Cond.instanceMethod yX1_isLaterThan, Cond.selects RX1 yX1_isLaterThan yX1_isLaterThan, Cond.code yX1_isLaterThan cX1_isLaterThan 2 (some .boolean)]
def wsX3_writeKeeps : List Cond := .code yX3_writeKeeps cX3_writeKeeps 6 none :: ((wsX3_writeKeeps_r1 ++ (wsX3_writeKeeps_r2 ++ wsX3_writeKeeps_r3)) ++ wsX30 ++ wsX00 ++ wsX10 ++ wsX20)
def wsX3_keep_r1 : List Cond := [Cond.fieldLink RX3 38 "FridgeGossip" "cakeCount" "I", Cond.methodLink RX3 42 yX3_checkNumber, Cond.static yX3_checkNumber, Cond.initialized RX3, Cond.code yX3_checkNumber cX3_checkNumber 2 none, Cond.classLink RX3 154 "java/lang/IndexOutOfBoundsException", Cond.initialized "java/lang/IndexOutOfBoundsException", Cond.methodLink RX3 46 yX3_lookAs, Cond.instanceMethod yX3_lookAs, Cond.selects RX3 yX3_lookAs yX3_lookAs, Cond.code yX3_lookAs cX3_lookAs 2 none, Cond.fieldLink RX3 19 "FridgeGossip" "view" "LFridgeGossip$View;", Cond.fieldLink RX3 12 "FridgeGossip" "chain" "LFridgeGossip$WordChain;", Cond.fieldLink RX3 35 "FridgeGossip" "dayOf" "[I", Cond.methodLink RX3 165 yX0_read, Cond.instanceMethod yX0_read, Cond.selects RX0 yX0_read yX0_read, Cond.initialized RX0, Cond.code yX0_read cX0_read 5 none, Cond.fieldLink RX0 46 "FridgeGossip$WordChain" "earliest" "LFridgeGossip$Word;", Cond.fieldLink RX0 52 "FridgeGossip$Word" "knownTo" "I", Cond.fieldLink RX0 61 "FridgeGossip$Word" "next" "LFridgeGossip$Word;", Cond.fieldLink RX0 64 "FridgeGossip$Word" "kind" "I", Cond.fieldLink RX0 67 "FridgeGossip$Word" "subject" "I"]
def wsX3_keep_r2 : List Cond := [Cond.fieldLink RX0 70 "FridgeGossip$Word" "cake" "I", Cond.methodLink RX0 43 yX0_forget, Cond.instanceMethod yX0_forget, Cond.selects RX0 yX0_forget yX0_forget, Cond.code yX0_forget cX0_forget 1 none, Cond.fieldLink RX0 9 "FridgeGossip$View" "place" "[I", Cond.fieldLink RX0 15 "FridgeGossip$View" "claimers" "[I", Cond.fieldLink RX0 18 "FridgeGossip$View" "kept" "[I", Cond.fieldLink RX0 21 "FridgeGossip$View" "firstDay" "[I", Cond.fieldLink RX0 24 "FridgeGossip$View" "lastDay" "[I", Cond.fieldLink RX0 27 "FridgeGossip$View" "dislikes" "[I", Cond.fieldLink RX0 30 "FridgeGossip$View" "state" "[I", Cond.fieldLink RX0 33 "FridgeGossip$View" "planRank" "[I", Cond.fieldLink RX0 36 "FridgeGossip$View" "planCount" "I", Cond.fieldLink RX0 40 "FridgeGossip$View" "spoiltCakes" "I", Cond.methodLink RX0 77 yJ7_fill_53178, Cond.static yJ7_fill_53178, Cond.initialized RJ7, Cond.code yJ7_fill_53178 cJ7_fill_53178 4 none, Cond.methodLink RX0 57 yX0_hear, Cond.instanceMethod yX0_hear, Cond.selects RX0 yX0_hear yX0_hear, Cond.code yX0_hear cX0_hear 2 none, Cond.fieldLink RX0 83 "FridgeGossip$Word" "writer" "I"]
def wsX3_keep_r3 : List Cond := [Cond.fieldLink RX0 89 "FridgeGossip$Word" "firstDay" "I", Cond.fieldLink RX0 91 "FridgeGossip$Word" "lastDay" "I", Cond.fieldLink RX0 93 "FridgeGossip$Word" "dislikes" "I", Cond.methodLink RX0 86 yX0_hearTake, Cond.instanceMethod yX0_hearTake, Cond.selects RX0 yX0_hearTake yX0_hearTake, Cond.code yX0_hearTake cX0_hearTake 2 none, Cond.methodLink RX0 73 yX0_hearKeep, Cond.instanceMethod yX0_hearKeep, Cond.selects RX0 yX0_hearKeep yX0_hearKeep, Cond.code yX0_hearKeep cX0_hearKeep 4 none, Cond.methodLink RX0 95 yX0_isAhead, Cond.instanceMethod yX0_isAhead, Cond.selects RX0 yX0_isAhead yX0_isAhead, Cond.code yX0_isAhead cX0_isAhead 8 (some .boolean), Cond.methodLink RX0 99 yX0_guestsOn, Cond.instanceMethod yX0_guestsOn, Cond.selects RX0 yX0_guestsOn yX0_guestsOn, Cond.code yX0_guestsOn cX0_guestsOn 4 (some .int), Cond.methodLink RX0 108 yX0_comesOn, Cond.instanceMethod yX0_comesOn, Cond.selects RX0 yX0_comesOn yX0_comesOn, Cond.code yX0_comesOn cX0_comesOn 3 (some .boolean), Cond.methodLink RX0 103 yJ6_bitCount_0f7a4]
def wsX3_keep_r4 : List Cond := [Cond.static yJ6_bitCount_0f7a4, Cond.initialized RJ6, Cond.code yJ6_bitCount_0f7a4 cJ6_bitCount_0f7a4 1 (some .int), Cond.constant RJ6 265 (1431655765), Cond.constant RJ6 266 (858993459), Cond.constant RJ6 267 (252645135), Cond.methodLink RX3 128 yX3_checkOpen, Cond.instanceMethod yX3_checkOpen, Cond.selects RX3 yX3_checkOpen yX3_checkOpen, Cond.code yX3_checkOpen cX3_checkOpen 2 none, Cond.classLink RX3 53 "java/lang/IllegalStateException", Cond.initialized "java/lang/IllegalStateException", Cond.fieldLink RX3 148 "FridgeGossip$View" "state" "[I", Cond.methodLink RX3 131 yX3_keepable, Cond.instanceMethod yX3_keepable, Cond.selects RX3 yX3_keepable yX3_keepable, Cond.code yX3_keepable cX3_keepable 3 (some .int), Cond.methodLink RX3 185 Lib.Math.min.name, Cond.static Lib.Math.min.name, Cond.initialized "java/lang/Math", Cond.code Lib.Math.min.name Lib.Math.min.code 2 (some .int), Cond.methodLink RX3 140 yX3_lacking, Cond.instanceMethod yX3_lacking, Cond.selects RX3 yX3_lacking yX3_lacking]
def wsX3_keep_r5 : List Cond := [Cond.code yX3_lacking cX3_lacking 3 (some .int), Cond.fieldLink RX3 29 "FridgeGossip" "needs" "[[I", Cond.fieldLink RX3 32 "FridgeGossip" "recipeOf" "[I", Cond.methodLink RX3 89 Lib.Math.max.name, Cond.static Lib.Math.max.name, Cond.code Lib.Math.max.name Lib.Math.max.code 2 (some .int), Cond.methodLink RX3 179 yX0_thingsKept, Cond.instanceMethod yX0_thingsKept, Cond.selects RX0 yX0_thingsKept yX0_thingsKept, Cond.code yX0_thingsKept cX0_thingsKept 5 (some .int), Cond.methodLink RX3 182 yX0_thingsFree, Cond.instanceMethod yX0_thingsFree, Cond.selects RX0 yX0_thingsFree yX0_thingsFree, Cond.code yX0_thingsFree cX0_thingsFree 4 (some .int), Cond.methodLink RX0 112 yX0_isFree, Cond.instanceMethod yX0_isFree, Cond.selects RX0 yX0_isFree yX0_isFree, Cond.code yX0_isFree cX0_isFree 2 (some .boolean), Cond.methodLink RX3 60 yX3_checkRoomFor, Cond.instanceMethod yX3_checkRoomFor, Cond.selects RX3 yX3_checkRoomFor yX3_checkRoomFor, Cond.code yX3_checkRoomFor cX3_checkRoomFor 2 none, Cond.fieldLink RX3 98 "FridgeGossip$WordChain" "size" "I", Cond.methodLink RX3 134 yX3_writeKeeps]
def wsX3_keep_r6 : List Cond := [Cond.instanceMethod yX3_writeKeeps, Cond.selects RX3 yX3_writeKeeps yX3_writeKeeps, Cond.code yX3_writeKeeps cX3_writeKeeps 6 none, Cond.methodLink RX3 188 yX0_isFree, Cond.methodLink RX3 65 yX3_write, Cond.instanceMethod yX3_write, Cond.selects RX3 yX3_write yX3_write, Cond.code yX3_write cX3_write 6 (some (.object "FridgeGossip$Word")), Cond.fieldLink RX3 23 "FridgeGossip" "clocks" "[I", Cond.classLink RX3 63 RX1, Cond.instantiable RX1 10, Cond.initialized RX1, Cond.methodLink RX3 169 yX1_init, Cond.instanceMethod yX1_init, Cond.code yX1_init cX1_init 6 none, Cond.methodLink RX1 1 objectInit, Cond.instanceMethod objectInit, Cond.code objectInit ⟨#[0xb1]⟩ 1 none, Cond.fieldLink RX1 7 "FridgeGossip$Word" "firstDay" "I", Cond.fieldLink RX1 13 "FridgeGossip$Word" "lastDay" "I", Cond.fieldLink RX1 16 "FridgeGossip$Word" "dislikes" "I", Cond.fieldLink RX1 19 "FridgeGossip$Word" "next" "LFridgeGossip$Word;", Cond.fieldLink RX1 23 "FridgeGossip$Word" "kind" "I", Cond.fieldLink RX1 26 "FridgeGossip$Word" "stamp" "I"]
def wsX3_keep_r7 : List Cond := [Cond.fieldLink RX1 29 "FridgeGossip$Word" "writer" "I", Cond.fieldLink RX1 32 "FridgeGossip$Word" "subject" "I", Cond.fieldLink RX1 35 "FridgeGossip$Word" "cake" "I", Cond.fieldLink RX1 38 "FridgeGossip$Word" "knownTo" "I", Cond.methodLink RX3 172 yX2_insert, Cond.instanceMethod yX2_insert, Cond.selects RX2 yX2_insert yX2_insert, Cond.initialized RX2, Cond.code yX2_insert cX2_insert 4 none, Cond.fieldLink RX2 7 "FridgeGossip$WordChain" "earliest" "LFridgeGossip$Word;", Cond.fieldLink RX2 23 "FridgeGossip$Word" "next" "LFridgeGossip$Word;", Cond.fieldLink RX2 13 "FridgeGossip$WordChain" "size" "I", Cond.methodLink RX2 17 yX1_isLaterThan, Cond.instanceMethod yX1_isLaterThan, Cond.selects RX1 yX1_isLaterThan yX1_isLaterThan, Cond.code yX1_isLaterThan cX1_isLaterThan 2 (some .boolean)]
def wsX3_keep : List Cond := .code yX3_keep cX3_keep 5 (some .int) :: ((wsX3_keep_r1 ++ (wsX3_keep_r2 ++ (wsX3_keep_r3 ++ (wsX3_keep_r4 ++ (wsX3_keep_r5 ++ (wsX3_keep_r6 ++ wsX3_keep_r7)))))) ++ wsX30 ++ wsX20 ++ wsX10 ++ wsX00 ++ (vx_atS RX3 158 "java/lang/IndexOutOfBoundsException" ["java/lang/RuntimeException", "java/lang/Exception"]).filter goodWord ++ (vx_atS RX3 57 "java/lang/IllegalStateException" ["java/lang/RuntimeException", "java/lang/Exception"]).filter goodWord)
def wsX3_keptInAll : List Cond := .code yX3_keptInAll cX3_keptInAll 4 (some .int) :: ([.fieldLink RX3 19 "FridgeGossip" "view" "LFridgeGossip$View;", .methodLink RX3 179 yX0_thingsKept, .instanceMethod yX0_thingsKept, .selects RX0 yX0_thingsKept yX0_thingsKept, .initialized RX0, .code yX0_thingsKept cX0_thingsKept 5 (some .int), .fieldLink RX0 18 "FridgeGossip$View" "kept" "[I"] ++ wsX30 ++ wsX00)
def wsX3_drop_r1 : List Cond := [Cond.fieldLink RX3 38 "FridgeGossip" "cakeCount" "I", Cond.methodLink RX3 42 yX3_checkNumber, Cond.static yX3_checkNumber, Cond.initialized RX3, Cond.code yX3_checkNumber cX3_checkNumber 2 none, Cond.classLink RX3 154 "java/lang/IndexOutOfBoundsException", Cond.initialized "java/lang/IndexOutOfBoundsException", Cond.methodLink RX3 46 yX3_lookAs, Cond.instanceMethod yX3_lookAs, Cond.selects RX3 yX3_lookAs yX3_lookAs, Cond.code yX3_lookAs cX3_lookAs 2 none, Cond.fieldLink RX3 19 "FridgeGossip" "view" "LFridgeGossip$View;", Cond.fieldLink RX3 12 "FridgeGossip" "chain" "LFridgeGossip$WordChain;", Cond.fieldLink RX3 35 "FridgeGossip" "dayOf" "[I", Cond.methodLink RX3 165 yX0_read, Cond.instanceMethod yX0_read, Cond.selects RX0 yX0_read yX0_read, Cond.initialized RX0, Cond.code yX0_read cX0_read 5 none, Cond.fieldLink RX0 46 "FridgeGossip$WordChain" "earliest" "LFridgeGossip$Word;", Cond.fieldLink RX0 52 "FridgeGossip$Word" "knownTo" "I", Cond.fieldLink RX0 61 "FridgeGossip$Word" "next" "LFridgeGossip$Word;", Cond.fieldLink RX0 64 "FridgeGossip$Word" "kind" "I", Cond.fieldLink RX0 67 "FridgeGossip$Word" "subject" "I"]
def wsX3_drop_r2 : List Cond := [Cond.fieldLink RX0 70 "FridgeGossip$Word" "cake" "I", Cond.methodLink RX0 43 yX0_forget, Cond.instanceMethod yX0_forget, Cond.selects RX0 yX0_forget yX0_forget, Cond.code yX0_forget cX0_forget 1 none, Cond.fieldLink RX0 9 "FridgeGossip$View" "place" "[I", Cond.fieldLink RX0 15 "FridgeGossip$View" "claimers" "[I", Cond.fieldLink RX0 18 "FridgeGossip$View" "kept" "[I", Cond.fieldLink RX0 21 "FridgeGossip$View" "firstDay" "[I", Cond.fieldLink RX0 24 "FridgeGossip$View" "lastDay" "[I", Cond.fieldLink RX0 27 "FridgeGossip$View" "dislikes" "[I", Cond.fieldLink RX0 30 "FridgeGossip$View" "state" "[I", Cond.fieldLink RX0 33 "FridgeGossip$View" "planRank" "[I", Cond.fieldLink RX0 36 "FridgeGossip$View" "planCount" "I", Cond.fieldLink RX0 40 "FridgeGossip$View" "spoiltCakes" "I", Cond.methodLink RX0 77 yJ7_fill_53178, Cond.static yJ7_fill_53178, Cond.initialized RJ7, Cond.code yJ7_fill_53178 cJ7_fill_53178 4 none, Cond.methodLink RX0 57 yX0_hear, Cond.instanceMethod yX0_hear, Cond.selects RX0 yX0_hear yX0_hear, Cond.code yX0_hear cX0_hear 2 none, Cond.fieldLink RX0 83 "FridgeGossip$Word" "writer" "I"]
def wsX3_drop_r3 : List Cond := [Cond.fieldLink RX0 89 "FridgeGossip$Word" "firstDay" "I", Cond.fieldLink RX0 91 "FridgeGossip$Word" "lastDay" "I", Cond.fieldLink RX0 93 "FridgeGossip$Word" "dislikes" "I", Cond.methodLink RX0 86 yX0_hearTake, Cond.instanceMethod yX0_hearTake, Cond.selects RX0 yX0_hearTake yX0_hearTake, Cond.code yX0_hearTake cX0_hearTake 2 none, Cond.methodLink RX0 73 yX0_hearKeep, Cond.instanceMethod yX0_hearKeep, Cond.selects RX0 yX0_hearKeep yX0_hearKeep, Cond.code yX0_hearKeep cX0_hearKeep 4 none, Cond.methodLink RX0 95 yX0_isAhead, Cond.instanceMethod yX0_isAhead, Cond.selects RX0 yX0_isAhead yX0_isAhead, Cond.code yX0_isAhead cX0_isAhead 8 (some .boolean), Cond.methodLink RX0 99 yX0_guestsOn, Cond.instanceMethod yX0_guestsOn, Cond.selects RX0 yX0_guestsOn yX0_guestsOn, Cond.code yX0_guestsOn cX0_guestsOn 4 (some .int), Cond.methodLink RX0 108 yX0_comesOn, Cond.instanceMethod yX0_comesOn, Cond.selects RX0 yX0_comesOn yX0_comesOn, Cond.code yX0_comesOn cX0_comesOn 3 (some .boolean), Cond.methodLink RX0 103 yJ6_bitCount_0f7a4]
def wsX3_drop_r4 : List Cond := [Cond.static yJ6_bitCount_0f7a4, Cond.initialized RJ6, Cond.code yJ6_bitCount_0f7a4 cJ6_bitCount_0f7a4 1 (some .int), Cond.constant RJ6 265 (1431655765), Cond.constant RJ6 266 (858993459), Cond.constant RJ6 267 (252645135), Cond.methodLink RX3 128 yX3_checkOpen, Cond.instanceMethod yX3_checkOpen, Cond.selects RX3 yX3_checkOpen yX3_checkOpen, Cond.code yX3_checkOpen cX3_checkOpen 2 none, Cond.classLink RX3 53 "java/lang/IllegalStateException", Cond.initialized "java/lang/IllegalStateException", Cond.fieldLink RX3 148 "FridgeGossip$View" "state" "[I", Cond.methodLink RX3 60 yX3_checkRoomFor, Cond.instanceMethod yX3_checkRoomFor, Cond.selects RX3 yX3_checkRoomFor yX3_checkRoomFor, Cond.code yX3_checkRoomFor cX3_checkRoomFor 2 none, Cond.fieldLink RX3 98 "FridgeGossip$WordChain" "size" "I", Cond.methodLink RX3 65 yX3_write, Cond.instanceMethod yX3_write, Cond.selects RX3 yX3_write yX3_write, Cond.code yX3_write cX3_write 6 (some (.object "FridgeGossip$Word")), Cond.fieldLink RX3 23 "FridgeGossip" "clocks" "[I", Cond.classLink RX3 63 RX1]
def wsX3_drop_r5 : List Cond := [Cond.instantiable RX1 10, Cond.initialized RX1, Cond.methodLink RX3 169 yX1_init, Cond.instanceMethod yX1_init, Cond.code yX1_init cX1_init 6 none, Cond.methodLink RX1 1 objectInit, Cond.instanceMethod objectInit, Cond.code objectInit ⟨#[0xb1]⟩ 1 none, Cond.fieldLink RX1 7 "FridgeGossip$Word" "firstDay" "I", Cond.fieldLink RX1 13 "FridgeGossip$Word" "lastDay" "I", Cond.fieldLink RX1 16 "FridgeGossip$Word" "dislikes" "I", Cond.fieldLink RX1 19 "FridgeGossip$Word" "next" "LFridgeGossip$Word;", Cond.fieldLink RX1 23 "FridgeGossip$Word" "kind" "I", Cond.fieldLink RX1 26 "FridgeGossip$Word" "stamp" "I", Cond.fieldLink RX1 29 "FridgeGossip$Word" "writer" "I", Cond.fieldLink RX1 32 "FridgeGossip$Word" "subject" "I", Cond.fieldLink RX1 35 "FridgeGossip$Word" "cake" "I", Cond.fieldLink RX1 38 "FridgeGossip$Word" "knownTo" "I", Cond.methodLink RX3 172 yX2_insert, Cond.instanceMethod yX2_insert, Cond.selects RX2 yX2_insert yX2_insert, Cond.initialized RX2, Cond.code yX2_insert cX2_insert 4 none, Cond.fieldLink RX2 7 "FridgeGossip$WordChain" "earliest" "LFridgeGossip$Word;"]
def wsX3_drop_r6 : List Cond := [Cond.fieldLink RX2 23 "FridgeGossip$Word" "next" "LFridgeGossip$Word;", Cond.fieldLink RX2 13 "FridgeGossip$WordChain" "size" "I", Cond.methodLink RX2 17 yX1_isLaterThan, Cond.instanceMethod yX1_isLaterThan, Cond.selects RX1 yX1_isLaterThan yX1_isLaterThan, Cond.code yX1_isLaterThan cX1_isLaterThan 2 (some .boolean), Cond.methodLink RX3 137 yX3_keptInAll, Cond.instanceMethod yX3_keptInAll, Cond.selects RX3 yX3_keptInAll yX3_keptInAll, Cond.code yX3_keptInAll cX3_keptInAll 4 (some .int), Cond.methodLink RX3 179 yX0_thingsKept, Cond.instanceMethod yX0_thingsKept, Cond.selects RX0 yX0_thingsKept yX0_thingsKept, Cond.code yX0_thingsKept cX0_thingsKept 5 (some .int)]
def wsX3_drop : List Cond := .code yX3_drop cX3_drop 3 (some .int) :: ((wsX3_drop_r1 ++ (wsX3_drop_r2 ++ (wsX3_drop_r3 ++ (wsX3_drop_r4 ++ (wsX3_drop_r5 ++ wsX3_drop_r6))))) ++ wsX30 ++ wsX20 ++ wsX10 ++ wsX00 ++ (vx_atS RX3 158 "java/lang/IndexOutOfBoundsException" ["java/lang/RuntimeException", "java/lang/Exception"]).filter goodWord ++ (vx_atS RX3 57 "java/lang/IllegalStateException" ["java/lang/RuntimeException", "java/lang/Exception"]).filter goodWord)
def wsX3_bake_r1 : List Cond := [Cond.classLink RX3 53 "java/lang/IllegalStateException", Cond.initialized "java/lang/IllegalStateException", Cond.fieldLink RX3 38 "FridgeGossip" "cakeCount" "I", Cond.fieldLink RX3 19 "FridgeGossip" "view" "LFridgeGossip$View;", Cond.fieldLink RX3 145 "FridgeGossip$View" "kept" "[I", Cond.methodLink RX3 42 yX3_checkNumber, Cond.static yX3_checkNumber, Cond.initialized RX3, Cond.code yX3_checkNumber cX3_checkNumber 2 none, Cond.classLink RX3 154 "java/lang/IndexOutOfBoundsException", Cond.initialized "java/lang/IndexOutOfBoundsException", Cond.methodLink RX3 46 yX3_lookAs, Cond.instanceMethod yX3_lookAs, Cond.selects RX3 yX3_lookAs yX3_lookAs, Cond.code yX3_lookAs cX3_lookAs 2 none, Cond.fieldLink RX3 12 "FridgeGossip" "chain" "LFridgeGossip$WordChain;", Cond.fieldLink RX3 35 "FridgeGossip" "dayOf" "[I", Cond.methodLink RX3 165 yX0_read, Cond.instanceMethod yX0_read, Cond.selects RX0 yX0_read yX0_read, Cond.initialized RX0, Cond.code yX0_read cX0_read 5 none, Cond.fieldLink RX0 46 "FridgeGossip$WordChain" "earliest" "LFridgeGossip$Word;", Cond.fieldLink RX0 52 "FridgeGossip$Word" "knownTo" "I"]
def wsX3_bake_r2 : List Cond := [Cond.fieldLink RX0 61 "FridgeGossip$Word" "next" "LFridgeGossip$Word;", Cond.fieldLink RX0 64 "FridgeGossip$Word" "kind" "I", Cond.fieldLink RX0 67 "FridgeGossip$Word" "subject" "I", Cond.fieldLink RX0 70 "FridgeGossip$Word" "cake" "I", Cond.methodLink RX0 43 yX0_forget, Cond.instanceMethod yX0_forget, Cond.selects RX0 yX0_forget yX0_forget, Cond.code yX0_forget cX0_forget 1 none, Cond.fieldLink RX0 9 "FridgeGossip$View" "place" "[I", Cond.fieldLink RX0 15 "FridgeGossip$View" "claimers" "[I", Cond.fieldLink RX0 18 "FridgeGossip$View" "kept" "[I", Cond.fieldLink RX0 21 "FridgeGossip$View" "firstDay" "[I", Cond.fieldLink RX0 24 "FridgeGossip$View" "lastDay" "[I", Cond.fieldLink RX0 27 "FridgeGossip$View" "dislikes" "[I", Cond.fieldLink RX0 30 "FridgeGossip$View" "state" "[I", Cond.fieldLink RX0 33 "FridgeGossip$View" "planRank" "[I", Cond.fieldLink RX0 36 "FridgeGossip$View" "planCount" "I", Cond.fieldLink RX0 40 "FridgeGossip$View" "spoiltCakes" "I", Cond.methodLink RX0 77 yJ7_fill_53178, Cond.static yJ7_fill_53178, Cond.initialized RJ7, Cond.code yJ7_fill_53178 cJ7_fill_53178 4 none, Cond.methodLink RX0 57 yX0_hear, Cond.instanceMethod yX0_hear]
def wsX3_bake_r3 : List Cond := [Cond.selects RX0 yX0_hear yX0_hear, Cond.code yX0_hear cX0_hear 2 none, Cond.fieldLink RX0 83 "FridgeGossip$Word" "writer" "I", Cond.fieldLink RX0 89 "FridgeGossip$Word" "firstDay" "I", Cond.fieldLink RX0 91 "FridgeGossip$Word" "lastDay" "I", Cond.fieldLink RX0 93 "FridgeGossip$Word" "dislikes" "I", Cond.methodLink RX0 86 yX0_hearTake, Cond.instanceMethod yX0_hearTake, Cond.selects RX0 yX0_hearTake yX0_hearTake, Cond.code yX0_hearTake cX0_hearTake 2 none, Cond.methodLink RX0 73 yX0_hearKeep, Cond.instanceMethod yX0_hearKeep, Cond.selects RX0 yX0_hearKeep yX0_hearKeep, Cond.code yX0_hearKeep cX0_hearKeep 4 none, Cond.methodLink RX0 95 yX0_isAhead, Cond.instanceMethod yX0_isAhead, Cond.selects RX0 yX0_isAhead yX0_isAhead, Cond.code yX0_isAhead cX0_isAhead 8 (some .boolean), Cond.methodLink RX0 99 yX0_guestsOn, Cond.instanceMethod yX0_guestsOn, Cond.selects RX0 yX0_guestsOn yX0_guestsOn, Cond.code yX0_guestsOn cX0_guestsOn 4 (some .int), Cond.methodLink RX0 108 yX0_comesOn, Cond.instanceMethod yX0_comesOn]
def wsX3_bake_r4 : List Cond := [Cond.selects RX0 yX0_comesOn yX0_comesOn, Cond.code yX0_comesOn cX0_comesOn 3 (some .boolean), Cond.methodLink RX0 103 yJ6_bitCount_0f7a4, Cond.static yJ6_bitCount_0f7a4, Cond.initialized RJ6, Cond.code yJ6_bitCount_0f7a4 cJ6_bitCount_0f7a4 1 (some .int), Cond.constant RJ6 265 (1431655765), Cond.constant RJ6 266 (858993459), Cond.constant RJ6 267 (252645135), Cond.methodLink RX3 128 yX3_checkOpen, Cond.instanceMethod yX3_checkOpen, Cond.selects RX3 yX3_checkOpen yX3_checkOpen, Cond.code yX3_checkOpen cX3_checkOpen 2 none, Cond.fieldLink RX3 148 "FridgeGossip$View" "state" "[I", Cond.methodLink RX3 140 yX3_lacking, Cond.instanceMethod yX3_lacking, Cond.selects RX3 yX3_lacking yX3_lacking, Cond.code yX3_lacking cX3_lacking 3 (some .int), Cond.fieldLink RX3 29 "FridgeGossip" "needs" "[[I", Cond.fieldLink RX3 32 "FridgeGossip" "recipeOf" "[I", Cond.methodLink RX3 89 Lib.Math.max.name, Cond.static Lib.Math.max.name, Cond.initialized "java/lang/Math", Cond.code Lib.Math.max.name Lib.Math.max.code 2 (some .int)]
def wsX3_bake_r5 : List Cond := [Cond.methodLink RX3 179 yX0_thingsKept, Cond.instanceMethod yX0_thingsKept, Cond.selects RX0 yX0_thingsKept yX0_thingsKept, Cond.code yX0_thingsKept cX0_thingsKept 5 (some .int), Cond.methodLink RX3 137 yX3_keptInAll, Cond.instanceMethod yX3_keptInAll, Cond.selects RX3 yX3_keptInAll yX3_keptInAll, Cond.code yX3_keptInAll cX3_keptInAll 4 (some .int), Cond.methodLink RX3 60 yX3_checkRoomFor, Cond.instanceMethod yX3_checkRoomFor, Cond.selects RX3 yX3_checkRoomFor yX3_checkRoomFor, Cond.code yX3_checkRoomFor cX3_checkRoomFor 2 none, Cond.fieldLink RX3 98 "FridgeGossip$WordChain" "size" "I", Cond.methodLink RX3 65 yX3_write, Cond.instanceMethod yX3_write, Cond.selects RX3 yX3_write yX3_write, Cond.code yX3_write cX3_write 6 (some (.object "FridgeGossip$Word")), Cond.fieldLink RX3 23 "FridgeGossip" "clocks" "[I", Cond.classLink RX3 63 RX1, Cond.instantiable RX1 10, Cond.initialized RX1, Cond.methodLink RX3 169 yX1_init, Cond.instanceMethod yX1_init, Cond.code yX1_init cX1_init 6 none]
def wsX3_bake_r6 : List Cond := [Cond.methodLink RX1 1 objectInit, Cond.instanceMethod objectInit, Cond.code objectInit ⟨#[0xb1]⟩ 1 none, Cond.fieldLink RX1 7 "FridgeGossip$Word" "firstDay" "I", Cond.fieldLink RX1 13 "FridgeGossip$Word" "lastDay" "I", Cond.fieldLink RX1 16 "FridgeGossip$Word" "dislikes" "I", Cond.fieldLink RX1 19 "FridgeGossip$Word" "next" "LFridgeGossip$Word;", Cond.fieldLink RX1 23 "FridgeGossip$Word" "kind" "I", Cond.fieldLink RX1 26 "FridgeGossip$Word" "stamp" "I", Cond.fieldLink RX1 29 "FridgeGossip$Word" "writer" "I", Cond.fieldLink RX1 32 "FridgeGossip$Word" "subject" "I", Cond.fieldLink RX1 35 "FridgeGossip$Word" "cake" "I", Cond.fieldLink RX1 38 "FridgeGossip$Word" "knownTo" "I", Cond.methodLink RX3 172 yX2_insert, Cond.instanceMethod yX2_insert, Cond.selects RX2 yX2_insert yX2_insert, Cond.initialized RX2, Cond.code yX2_insert cX2_insert 4 none, Cond.fieldLink RX2 7 "FridgeGossip$WordChain" "earliest" "LFridgeGossip$Word;", Cond.fieldLink RX2 23 "FridgeGossip$Word" "next" "LFridgeGossip$Word;", Cond.fieldLink RX2 13 "FridgeGossip$WordChain" "size" "I", Cond.methodLink RX2 17 yX1_isLaterThan, Cond.instanceMethod yX1_isLaterThan, Cond.selects RX1 yX1_isLaterThan yX1_isLaterThan]
def wsX3_bake_r7 : List Cond := [Cond.code yX1_isLaterThan cX1_isLaterThan 2 (some .boolean)]
def wsX3_bake : List Cond := .code yX3_bake cX3_bake 5 (some .int) :: ((wsX3_bake_r1 ++ (wsX3_bake_r2 ++ (wsX3_bake_r3 ++ (wsX3_bake_r4 ++ (wsX3_bake_r5 ++ (wsX3_bake_r6 ++ wsX3_bake_r7)))))) ++ wsX30 ++ wsX00 ++ wsX20 ++ wsX10 ++ (vx_atS RX3 57 "java/lang/IllegalStateException" ["java/lang/RuntimeException", "java/lang/Exception"]).filter goodWord ++ (vx_atS RX3 158 "java/lang/IndexOutOfBoundsException" ["java/lang/RuntimeException", "java/lang/Exception"]).filter goodWord)
def wsX3_cakes : List Cond := .code yX3_cakes cX3_cakes 1 (some .int) :: ([.fieldLink RX3 38 "FridgeGossip" "cakeCount" "I"] ++ wsX30)
def wsX3_cake_r1 : List Cond := [Cond.fieldLink RX3 38 "FridgeGossip" "cakeCount" "I", Cond.fieldLink RX3 19 "FridgeGossip" "view" "LFridgeGossip$View;", Cond.fieldLink RX3 148 "FridgeGossip$View" "state" "[I", Cond.methodLink RX3 42 yX3_checkNumber, Cond.static yX3_checkNumber, Cond.initialized RX3, Cond.code yX3_checkNumber cX3_checkNumber 2 none, Cond.classLink RX3 154 "java/lang/IndexOutOfBoundsException", Cond.initialized "java/lang/IndexOutOfBoundsException", Cond.methodLink RX3 46 yX3_lookAs, Cond.instanceMethod yX3_lookAs, Cond.selects RX3 yX3_lookAs yX3_lookAs, Cond.code yX3_lookAs cX3_lookAs 2 none, Cond.fieldLink RX3 12 "FridgeGossip" "chain" "LFridgeGossip$WordChain;", Cond.fieldLink RX3 35 "FridgeGossip" "dayOf" "[I", Cond.methodLink RX3 165 yX0_read, Cond.instanceMethod yX0_read, Cond.selects RX0 yX0_read yX0_read, Cond.initialized RX0, Cond.code yX0_read cX0_read 5 none, Cond.fieldLink RX0 46 "FridgeGossip$WordChain" "earliest" "LFridgeGossip$Word;", Cond.fieldLink RX0 52 "FridgeGossip$Word" "knownTo" "I", Cond.fieldLink RX0 61 "FridgeGossip$Word" "next" "LFridgeGossip$Word;", Cond.fieldLink RX0 64 "FridgeGossip$Word" "kind" "I"]
def wsX3_cake_r2 : List Cond := [Cond.fieldLink RX0 67 "FridgeGossip$Word" "subject" "I", Cond.fieldLink RX0 70 "FridgeGossip$Word" "cake" "I", Cond.methodLink RX0 43 yX0_forget, Cond.instanceMethod yX0_forget, Cond.selects RX0 yX0_forget yX0_forget, Cond.code yX0_forget cX0_forget 1 none, Cond.fieldLink RX0 9 "FridgeGossip$View" "place" "[I", Cond.fieldLink RX0 15 "FridgeGossip$View" "claimers" "[I", Cond.fieldLink RX0 18 "FridgeGossip$View" "kept" "[I", Cond.fieldLink RX0 21 "FridgeGossip$View" "firstDay" "[I", Cond.fieldLink RX0 24 "FridgeGossip$View" "lastDay" "[I", Cond.fieldLink RX0 27 "FridgeGossip$View" "dislikes" "[I", Cond.fieldLink RX0 30 "FridgeGossip$View" "state" "[I", Cond.fieldLink RX0 33 "FridgeGossip$View" "planRank" "[I", Cond.fieldLink RX0 36 "FridgeGossip$View" "planCount" "I", Cond.fieldLink RX0 40 "FridgeGossip$View" "spoiltCakes" "I", Cond.methodLink RX0 77 yJ7_fill_53178, Cond.static yJ7_fill_53178, Cond.initialized RJ7, Cond.code yJ7_fill_53178 cJ7_fill_53178 4 none, Cond.methodLink RX0 57 yX0_hear, Cond.instanceMethod yX0_hear, Cond.selects RX0 yX0_hear yX0_hear, Cond.code yX0_hear cX0_hear 2 none]
def wsX3_cake_r3 : List Cond := [Cond.fieldLink RX0 83 "FridgeGossip$Word" "writer" "I", Cond.fieldLink RX0 89 "FridgeGossip$Word" "firstDay" "I", Cond.fieldLink RX0 91 "FridgeGossip$Word" "lastDay" "I", Cond.fieldLink RX0 93 "FridgeGossip$Word" "dislikes" "I", Cond.methodLink RX0 86 yX0_hearTake, Cond.instanceMethod yX0_hearTake, Cond.selects RX0 yX0_hearTake yX0_hearTake, Cond.code yX0_hearTake cX0_hearTake 2 none, Cond.methodLink RX0 73 yX0_hearKeep, Cond.instanceMethod yX0_hearKeep, Cond.selects RX0 yX0_hearKeep yX0_hearKeep, Cond.code yX0_hearKeep cX0_hearKeep 4 none, Cond.methodLink RX0 95 yX0_isAhead, Cond.instanceMethod yX0_isAhead, Cond.selects RX0 yX0_isAhead yX0_isAhead, Cond.code yX0_isAhead cX0_isAhead 8 (some .boolean), Cond.methodLink RX0 99 yX0_guestsOn, Cond.instanceMethod yX0_guestsOn, Cond.selects RX0 yX0_guestsOn yX0_guestsOn, Cond.code yX0_guestsOn cX0_guestsOn 4 (some .int), Cond.methodLink RX0 108 yX0_comesOn, Cond.instanceMethod yX0_comesOn, Cond.selects RX0 yX0_comesOn yX0_comesOn, Cond.code yX0_comesOn cX0_comesOn 3 (some .boolean)]
def wsX3_cake_r4 : List Cond := [Cond.methodLink RX0 103 yJ6_bitCount_0f7a4, Cond.static yJ6_bitCount_0f7a4, Cond.initialized RJ6, Cond.code yJ6_bitCount_0f7a4 cJ6_bitCount_0f7a4 1 (some .int), Cond.constant RJ6 265 (1431655765), Cond.constant RJ6 266 (858993459), Cond.constant RJ6 267 (252645135)]
def wsX3_cake : List Cond := .code yX3_cake cX3_cake 3 (some .int) :: ((wsX3_cake_r1 ++ (wsX3_cake_r2 ++ (wsX3_cake_r3 ++ wsX3_cake_r4))) ++ wsX30 ++ wsX00 ++ wsX20 ++ wsX10 ++ (vx_atS RX3 158 "java/lang/IndexOutOfBoundsException" ["java/lang/RuntimeException", "java/lang/Exception"]).filter goodWord)
def wsX3_keptFor_r1 : List Cond := [Cond.fieldLink RX3 19 "FridgeGossip" "view" "LFridgeGossip$View;", Cond.fieldLink RX3 145 "FridgeGossip$View" "kept" "[I", Cond.methodLink RX3 42 yX3_checkNumber, Cond.static yX3_checkNumber, Cond.initialized RX3, Cond.code yX3_checkNumber cX3_checkNumber 2 none, Cond.classLink RX3 154 "java/lang/IndexOutOfBoundsException", Cond.initialized "java/lang/IndexOutOfBoundsException", Cond.methodLink RX3 46 yX3_lookAs, Cond.instanceMethod yX3_lookAs, Cond.selects RX3 yX3_lookAs yX3_lookAs, Cond.code yX3_lookAs cX3_lookAs 2 none, Cond.fieldLink RX3 12 "FridgeGossip" "chain" "LFridgeGossip$WordChain;", Cond.fieldLink RX3 35 "FridgeGossip" "dayOf" "[I", Cond.methodLink RX3 165 yX0_read, Cond.instanceMethod yX0_read, Cond.selects RX0 yX0_read yX0_read, Cond.initialized RX0, Cond.code yX0_read cX0_read 5 none, Cond.fieldLink RX0 46 "FridgeGossip$WordChain" "earliest" "LFridgeGossip$Word;", Cond.fieldLink RX0 52 "FridgeGossip$Word" "knownTo" "I", Cond.fieldLink RX0 61 "FridgeGossip$Word" "next" "LFridgeGossip$Word;", Cond.fieldLink RX0 64 "FridgeGossip$Word" "kind" "I", Cond.fieldLink RX0 67 "FridgeGossip$Word" "subject" "I"]
def wsX3_keptFor_r2 : List Cond := [Cond.fieldLink RX0 70 "FridgeGossip$Word" "cake" "I", Cond.methodLink RX0 43 yX0_forget, Cond.instanceMethod yX0_forget, Cond.selects RX0 yX0_forget yX0_forget, Cond.code yX0_forget cX0_forget 1 none, Cond.fieldLink RX0 9 "FridgeGossip$View" "place" "[I", Cond.fieldLink RX0 15 "FridgeGossip$View" "claimers" "[I", Cond.fieldLink RX0 18 "FridgeGossip$View" "kept" "[I", Cond.fieldLink RX0 21 "FridgeGossip$View" "firstDay" "[I", Cond.fieldLink RX0 24 "FridgeGossip$View" "lastDay" "[I", Cond.fieldLink RX0 27 "FridgeGossip$View" "dislikes" "[I", Cond.fieldLink RX0 30 "FridgeGossip$View" "state" "[I", Cond.fieldLink RX0 33 "FridgeGossip$View" "planRank" "[I", Cond.fieldLink RX0 36 "FridgeGossip$View" "planCount" "I", Cond.fieldLink RX0 40 "FridgeGossip$View" "spoiltCakes" "I", Cond.methodLink RX0 77 yJ7_fill_53178, Cond.static yJ7_fill_53178, Cond.initialized RJ7, Cond.code yJ7_fill_53178 cJ7_fill_53178 4 none, Cond.methodLink RX0 57 yX0_hear, Cond.instanceMethod yX0_hear, Cond.selects RX0 yX0_hear yX0_hear, Cond.code yX0_hear cX0_hear 2 none, Cond.fieldLink RX0 83 "FridgeGossip$Word" "writer" "I"]
def wsX3_keptFor_r3 : List Cond := [Cond.fieldLink RX0 89 "FridgeGossip$Word" "firstDay" "I", Cond.fieldLink RX0 91 "FridgeGossip$Word" "lastDay" "I", Cond.fieldLink RX0 93 "FridgeGossip$Word" "dislikes" "I", Cond.methodLink RX0 86 yX0_hearTake, Cond.instanceMethod yX0_hearTake, Cond.selects RX0 yX0_hearTake yX0_hearTake, Cond.code yX0_hearTake cX0_hearTake 2 none, Cond.methodLink RX0 73 yX0_hearKeep, Cond.instanceMethod yX0_hearKeep, Cond.selects RX0 yX0_hearKeep yX0_hearKeep, Cond.code yX0_hearKeep cX0_hearKeep 4 none, Cond.methodLink RX0 95 yX0_isAhead, Cond.instanceMethod yX0_isAhead, Cond.selects RX0 yX0_isAhead yX0_isAhead, Cond.code yX0_isAhead cX0_isAhead 8 (some .boolean), Cond.methodLink RX0 99 yX0_guestsOn, Cond.instanceMethod yX0_guestsOn, Cond.selects RX0 yX0_guestsOn yX0_guestsOn, Cond.code yX0_guestsOn cX0_guestsOn 4 (some .int), Cond.methodLink RX0 108 yX0_comesOn, Cond.instanceMethod yX0_comesOn, Cond.selects RX0 yX0_comesOn yX0_comesOn, Cond.code yX0_comesOn cX0_comesOn 3 (some .boolean), Cond.methodLink RX0 103 yJ6_bitCount_0f7a4]
def wsX3_keptFor_r4 : List Cond := [Cond.static yJ6_bitCount_0f7a4, Cond.initialized RJ6, Cond.code yJ6_bitCount_0f7a4 cJ6_bitCount_0f7a4 1 (some .int), Cond.constant RJ6 265 (1431655765), Cond.constant RJ6 266 (858993459), Cond.constant RJ6 267 (252645135)]
def wsX3_keptFor : List Cond := .code yX3_keptFor cX3_keptFor 3 (some .int) :: ((wsX3_keptFor_r1 ++ (wsX3_keptFor_r2 ++ (wsX3_keptFor_r3 ++ wsX3_keptFor_r4))) ++ wsX30 ++ wsX00 ++ wsX20 ++ wsX10 ++ (vx_atS RX3 158 "java/lang/IndexOutOfBoundsException" ["java/lang/RuntimeException", "java/lang/Exception"]).filter goodWord)
def wsX3_keptByAll_r1 : List Cond := [Cond.fieldLink RX3 19 "FridgeGossip" "view" "LFridgeGossip$View;", Cond.fieldLink RX3 145 "FridgeGossip$View" "kept" "[I", Cond.methodLink RX3 42 yX3_checkNumber, Cond.static yX3_checkNumber, Cond.initialized RX3, Cond.code yX3_checkNumber cX3_checkNumber 2 none, Cond.classLink RX3 154 "java/lang/IndexOutOfBoundsException", Cond.initialized "java/lang/IndexOutOfBoundsException", Cond.methodLink RX3 74 yX3_lookByAll, Cond.instanceMethod yX3_lookByAll, Cond.selects RX3 yX3_lookByAll yX3_lookByAll, Cond.code yX3_lookByAll cX3_lookByAll 1 none, Cond.fieldLink RX3 12 "FridgeGossip" "chain" "LFridgeGossip$WordChain;", Cond.fieldLink RX3 35 "FridgeGossip" "dayOf" "[I", Cond.methodLink RX3 165 yX0_read, Cond.instanceMethod yX0_read, Cond.selects RX0 yX0_read yX0_read, Cond.initialized RX0, Cond.code yX0_read cX0_read 5 none, Cond.fieldLink RX0 46 "FridgeGossip$WordChain" "earliest" "LFridgeGossip$Word;", Cond.fieldLink RX0 52 "FridgeGossip$Word" "knownTo" "I", Cond.fieldLink RX0 61 "FridgeGossip$Word" "next" "LFridgeGossip$Word;", Cond.fieldLink RX0 64 "FridgeGossip$Word" "kind" "I", Cond.fieldLink RX0 67 "FridgeGossip$Word" "subject" "I"]
def wsX3_keptByAll_r2 : List Cond := [Cond.fieldLink RX0 70 "FridgeGossip$Word" "cake" "I", Cond.methodLink RX0 43 yX0_forget, Cond.instanceMethod yX0_forget, Cond.selects RX0 yX0_forget yX0_forget, Cond.code yX0_forget cX0_forget 1 none, Cond.fieldLink RX0 9 "FridgeGossip$View" "place" "[I", Cond.fieldLink RX0 15 "FridgeGossip$View" "claimers" "[I", Cond.fieldLink RX0 18 "FridgeGossip$View" "kept" "[I", Cond.fieldLink RX0 21 "FridgeGossip$View" "firstDay" "[I", Cond.fieldLink RX0 24 "FridgeGossip$View" "lastDay" "[I", Cond.fieldLink RX0 27 "FridgeGossip$View" "dislikes" "[I", Cond.fieldLink RX0 30 "FridgeGossip$View" "state" "[I", Cond.fieldLink RX0 33 "FridgeGossip$View" "planRank" "[I", Cond.fieldLink RX0 36 "FridgeGossip$View" "planCount" "I", Cond.fieldLink RX0 40 "FridgeGossip$View" "spoiltCakes" "I", Cond.methodLink RX0 77 yJ7_fill_53178, Cond.static yJ7_fill_53178, Cond.initialized RJ7, Cond.code yJ7_fill_53178 cJ7_fill_53178 4 none, Cond.methodLink RX0 57 yX0_hear, Cond.instanceMethod yX0_hear, Cond.selects RX0 yX0_hear yX0_hear, Cond.code yX0_hear cX0_hear 2 none, Cond.fieldLink RX0 83 "FridgeGossip$Word" "writer" "I"]
def wsX3_keptByAll_r3 : List Cond := [Cond.fieldLink RX0 89 "FridgeGossip$Word" "firstDay" "I", Cond.fieldLink RX0 91 "FridgeGossip$Word" "lastDay" "I", Cond.fieldLink RX0 93 "FridgeGossip$Word" "dislikes" "I", Cond.methodLink RX0 86 yX0_hearTake, Cond.instanceMethod yX0_hearTake, Cond.selects RX0 yX0_hearTake yX0_hearTake, Cond.code yX0_hearTake cX0_hearTake 2 none, Cond.methodLink RX0 73 yX0_hearKeep, Cond.instanceMethod yX0_hearKeep, Cond.selects RX0 yX0_hearKeep yX0_hearKeep, Cond.code yX0_hearKeep cX0_hearKeep 4 none, Cond.methodLink RX0 95 yX0_isAhead, Cond.instanceMethod yX0_isAhead, Cond.selects RX0 yX0_isAhead yX0_isAhead, Cond.code yX0_isAhead cX0_isAhead 8 (some .boolean), Cond.methodLink RX0 99 yX0_guestsOn, Cond.instanceMethod yX0_guestsOn, Cond.selects RX0 yX0_guestsOn yX0_guestsOn, Cond.code yX0_guestsOn cX0_guestsOn 4 (some .int), Cond.methodLink RX0 108 yX0_comesOn, Cond.instanceMethod yX0_comesOn, Cond.selects RX0 yX0_comesOn yX0_comesOn, Cond.code yX0_comesOn cX0_comesOn 3 (some .boolean), Cond.methodLink RX0 103 yJ6_bitCount_0f7a4]
def wsX3_keptByAll_r4 : List Cond := [Cond.static yJ6_bitCount_0f7a4, Cond.initialized RJ6, Cond.code yJ6_bitCount_0f7a4 cJ6_bitCount_0f7a4 1 (some .int), Cond.constant RJ6 265 (1431655765), Cond.constant RJ6 266 (858993459), Cond.constant RJ6 267 (252645135)]
def wsX3_keptByAll : List Cond := .code yX3_keptByAll cX3_keptByAll 2 (some .int) :: ((wsX3_keptByAll_r1 ++ (wsX3_keptByAll_r2 ++ (wsX3_keptByAll_r3 ++ wsX3_keptByAll_r4))) ++ wsX30 ++ wsX00 ++ wsX20 ++ wsX10 ++ (vx_atS RX3 158 "java/lang/IndexOutOfBoundsException" ["java/lang/RuntimeException", "java/lang/Exception"]).filter goodWord)
def wsX3_lacks_r1 : List Cond := [Cond.fieldLink RX3 38 "FridgeGossip" "cakeCount" "I", Cond.fieldLink RX3 19 "FridgeGossip" "view" "LFridgeGossip$View;", Cond.fieldLink RX3 148 "FridgeGossip$View" "state" "[I", Cond.methodLink RX3 42 yX3_checkNumber, Cond.static yX3_checkNumber, Cond.initialized RX3, Cond.code yX3_checkNumber cX3_checkNumber 2 none, Cond.classLink RX3 154 "java/lang/IndexOutOfBoundsException", Cond.initialized "java/lang/IndexOutOfBoundsException", Cond.methodLink RX3 46 yX3_lookAs, Cond.instanceMethod yX3_lookAs, Cond.selects RX3 yX3_lookAs yX3_lookAs, Cond.code yX3_lookAs cX3_lookAs 2 none, Cond.fieldLink RX3 12 "FridgeGossip" "chain" "LFridgeGossip$WordChain;", Cond.fieldLink RX3 35 "FridgeGossip" "dayOf" "[I", Cond.methodLink RX3 165 yX0_read, Cond.instanceMethod yX0_read, Cond.selects RX0 yX0_read yX0_read, Cond.initialized RX0, Cond.code yX0_read cX0_read 5 none, Cond.fieldLink RX0 46 "FridgeGossip$WordChain" "earliest" "LFridgeGossip$Word;", Cond.fieldLink RX0 52 "FridgeGossip$Word" "knownTo" "I", Cond.fieldLink RX0 61 "FridgeGossip$Word" "next" "LFridgeGossip$Word;", Cond.fieldLink RX0 64 "FridgeGossip$Word" "kind" "I"]
def wsX3_lacks_r2 : List Cond := [Cond.fieldLink RX0 67 "FridgeGossip$Word" "subject" "I", Cond.fieldLink RX0 70 "FridgeGossip$Word" "cake" "I", Cond.methodLink RX0 43 yX0_forget, Cond.instanceMethod yX0_forget, Cond.selects RX0 yX0_forget yX0_forget, Cond.code yX0_forget cX0_forget 1 none, Cond.fieldLink RX0 9 "FridgeGossip$View" "place" "[I", Cond.fieldLink RX0 15 "FridgeGossip$View" "claimers" "[I", Cond.fieldLink RX0 18 "FridgeGossip$View" "kept" "[I", Cond.fieldLink RX0 21 "FridgeGossip$View" "firstDay" "[I", Cond.fieldLink RX0 24 "FridgeGossip$View" "lastDay" "[I", Cond.fieldLink RX0 27 "FridgeGossip$View" "dislikes" "[I", Cond.fieldLink RX0 30 "FridgeGossip$View" "state" "[I", Cond.fieldLink RX0 33 "FridgeGossip$View" "planRank" "[I", Cond.fieldLink RX0 36 "FridgeGossip$View" "planCount" "I", Cond.fieldLink RX0 40 "FridgeGossip$View" "spoiltCakes" "I", Cond.methodLink RX0 77 yJ7_fill_53178, Cond.static yJ7_fill_53178, Cond.initialized RJ7, Cond.code yJ7_fill_53178 cJ7_fill_53178 4 none, Cond.methodLink RX0 57 yX0_hear, Cond.instanceMethod yX0_hear, Cond.selects RX0 yX0_hear yX0_hear, Cond.code yX0_hear cX0_hear 2 none]
def wsX3_lacks_r3 : List Cond := [Cond.fieldLink RX0 83 "FridgeGossip$Word" "writer" "I", Cond.fieldLink RX0 89 "FridgeGossip$Word" "firstDay" "I", Cond.fieldLink RX0 91 "FridgeGossip$Word" "lastDay" "I", Cond.fieldLink RX0 93 "FridgeGossip$Word" "dislikes" "I", Cond.methodLink RX0 86 yX0_hearTake, Cond.instanceMethod yX0_hearTake, Cond.selects RX0 yX0_hearTake yX0_hearTake, Cond.code yX0_hearTake cX0_hearTake 2 none, Cond.methodLink RX0 73 yX0_hearKeep, Cond.instanceMethod yX0_hearKeep, Cond.selects RX0 yX0_hearKeep yX0_hearKeep, Cond.code yX0_hearKeep cX0_hearKeep 4 none, Cond.methodLink RX0 95 yX0_isAhead, Cond.instanceMethod yX0_isAhead, Cond.selects RX0 yX0_isAhead yX0_isAhead, Cond.code yX0_isAhead cX0_isAhead 8 (some .boolean), Cond.methodLink RX0 99 yX0_guestsOn, Cond.instanceMethod yX0_guestsOn, Cond.selects RX0 yX0_guestsOn yX0_guestsOn, Cond.code yX0_guestsOn cX0_guestsOn 4 (some .int), Cond.methodLink RX0 108 yX0_comesOn, Cond.instanceMethod yX0_comesOn, Cond.selects RX0 yX0_comesOn yX0_comesOn, Cond.code yX0_comesOn cX0_comesOn 3 (some .boolean)]
def wsX3_lacks_r4 : List Cond := [Cond.methodLink RX0 103 yJ6_bitCount_0f7a4, Cond.static yJ6_bitCount_0f7a4, Cond.initialized RJ6, Cond.code yJ6_bitCount_0f7a4 cJ6_bitCount_0f7a4 1 (some .int), Cond.constant RJ6 265 (1431655765), Cond.constant RJ6 266 (858993459), Cond.constant RJ6 267 (252645135), Cond.methodLink RX3 140 yX3_lacking, Cond.instanceMethod yX3_lacking, Cond.selects RX3 yX3_lacking yX3_lacking, Cond.code yX3_lacking cX3_lacking 3 (some .int), Cond.fieldLink RX3 29 "FridgeGossip" "needs" "[[I", Cond.fieldLink RX3 32 "FridgeGossip" "recipeOf" "[I", Cond.methodLink RX3 89 Lib.Math.max.name, Cond.static Lib.Math.max.name, Cond.initialized "java/lang/Math", Cond.code Lib.Math.max.name Lib.Math.max.code 2 (some .int), Cond.methodLink RX3 179 yX0_thingsKept, Cond.instanceMethod yX0_thingsKept, Cond.selects RX0 yX0_thingsKept yX0_thingsKept, Cond.code yX0_thingsKept cX0_thingsKept 5 (some .int)]
def wsX3_lacks : List Cond := .code yX3_lacks cX3_lacks 4 (some .int) :: ((wsX3_lacks_r1 ++ (wsX3_lacks_r2 ++ (wsX3_lacks_r3 ++ wsX3_lacks_r4))) ++ wsX30 ++ wsX00 ++ wsX20 ++ wsX10 ++ (vx_atS RX3 158 "java/lang/IndexOutOfBoundsException" ["java/lang/RuntimeException", "java/lang/Exception"]).filter goodWord)
def wsX3_isUnfit_r1 : List Cond := [Cond.fieldLink RX3 38 "FridgeGossip" "cakeCount" "I", Cond.fieldLink RX3 19 "FridgeGossip" "view" "LFridgeGossip$View;", Cond.fieldLink RX3 148 "FridgeGossip$View" "state" "[I", Cond.fieldLink RX3 32 "FridgeGossip" "recipeOf" "[I", Cond.fieldLink RX3 35 "FridgeGossip" "dayOf" "[I", Cond.methodLink RX3 42 yX3_checkNumber, Cond.static yX3_checkNumber, Cond.initialized RX3, Cond.code yX3_checkNumber cX3_checkNumber 2 none, Cond.classLink RX3 154 "java/lang/IndexOutOfBoundsException", Cond.initialized "java/lang/IndexOutOfBoundsException", Cond.methodLink RX3 46 yX3_lookAs, Cond.instanceMethod yX3_lookAs, Cond.selects RX3 yX3_lookAs yX3_lookAs, Cond.code yX3_lookAs cX3_lookAs 2 none, Cond.fieldLink RX3 12 "FridgeGossip" "chain" "LFridgeGossip$WordChain;", Cond.methodLink RX3 165 yX0_read, Cond.instanceMethod yX0_read, Cond.selects RX0 yX0_read yX0_read, Cond.initialized RX0, Cond.code yX0_read cX0_read 5 none, Cond.fieldLink RX0 46 "FridgeGossip$WordChain" "earliest" "LFridgeGossip$Word;", Cond.fieldLink RX0 52 "FridgeGossip$Word" "knownTo" "I", Cond.fieldLink RX0 61 "FridgeGossip$Word" "next" "LFridgeGossip$Word;"]
def wsX3_isUnfit_r2 : List Cond := [Cond.fieldLink RX0 64 "FridgeGossip$Word" "kind" "I", Cond.fieldLink RX0 67 "FridgeGossip$Word" "subject" "I", Cond.fieldLink RX0 70 "FridgeGossip$Word" "cake" "I", Cond.methodLink RX0 43 yX0_forget, Cond.instanceMethod yX0_forget, Cond.selects RX0 yX0_forget yX0_forget, Cond.code yX0_forget cX0_forget 1 none, Cond.fieldLink RX0 9 "FridgeGossip$View" "place" "[I", Cond.fieldLink RX0 15 "FridgeGossip$View" "claimers" "[I", Cond.fieldLink RX0 18 "FridgeGossip$View" "kept" "[I", Cond.fieldLink RX0 21 "FridgeGossip$View" "firstDay" "[I", Cond.fieldLink RX0 24 "FridgeGossip$View" "lastDay" "[I", Cond.fieldLink RX0 27 "FridgeGossip$View" "dislikes" "[I", Cond.fieldLink RX0 30 "FridgeGossip$View" "state" "[I", Cond.fieldLink RX0 33 "FridgeGossip$View" "planRank" "[I", Cond.fieldLink RX0 36 "FridgeGossip$View" "planCount" "I", Cond.fieldLink RX0 40 "FridgeGossip$View" "spoiltCakes" "I", Cond.methodLink RX0 77 yJ7_fill_53178, Cond.static yJ7_fill_53178, Cond.initialized RJ7, Cond.code yJ7_fill_53178 cJ7_fill_53178 4 none, Cond.methodLink RX0 57 yX0_hear, Cond.instanceMethod yX0_hear, Cond.selects RX0 yX0_hear yX0_hear]
def wsX3_isUnfit_r3 : List Cond := [Cond.code yX0_hear cX0_hear 2 none, Cond.fieldLink RX0 83 "FridgeGossip$Word" "writer" "I", Cond.fieldLink RX0 89 "FridgeGossip$Word" "firstDay" "I", Cond.fieldLink RX0 91 "FridgeGossip$Word" "lastDay" "I", Cond.fieldLink RX0 93 "FridgeGossip$Word" "dislikes" "I", Cond.methodLink RX0 86 yX0_hearTake, Cond.instanceMethod yX0_hearTake, Cond.selects RX0 yX0_hearTake yX0_hearTake, Cond.code yX0_hearTake cX0_hearTake 2 none, Cond.methodLink RX0 73 yX0_hearKeep, Cond.instanceMethod yX0_hearKeep, Cond.selects RX0 yX0_hearKeep yX0_hearKeep, Cond.code yX0_hearKeep cX0_hearKeep 4 none, Cond.methodLink RX0 95 yX0_isAhead, Cond.instanceMethod yX0_isAhead, Cond.selects RX0 yX0_isAhead yX0_isAhead, Cond.code yX0_isAhead cX0_isAhead 8 (some .boolean), Cond.methodLink RX0 99 yX0_guestsOn, Cond.instanceMethod yX0_guestsOn, Cond.selects RX0 yX0_guestsOn yX0_guestsOn, Cond.code yX0_guestsOn cX0_guestsOn 4 (some .int), Cond.methodLink RX0 108 yX0_comesOn, Cond.instanceMethod yX0_comesOn, Cond.selects RX0 yX0_comesOn yX0_comesOn]
def wsX3_isUnfit_r4 : List Cond := [Cond.code yX0_comesOn cX0_comesOn 3 (some .boolean), Cond.methodLink RX0 103 yJ6_bitCount_0f7a4, Cond.static yJ6_bitCount_0f7a4, Cond.initialized RJ6, Cond.code yJ6_bitCount_0f7a4 cJ6_bitCount_0f7a4 1 (some .int), Cond.constant RJ6 265 (1431655765), Cond.constant RJ6 266 (858993459), Cond.constant RJ6 267 (252645135), Cond.methodLink RX3 120 yX3_isDisliked, Cond.instanceMethod yX3_isDisliked, Cond.selects RX3 yX3_isDisliked yX3_isDisliked, Cond.code yX3_isDisliked cX3_isDisliked 5 (some .boolean), Cond.fieldLink RX3 29 "FridgeGossip" "needs" "[[I", Cond.methodLink RX3 176 yX0_dislikedOn, Cond.instanceMethod yX0_dislikedOn, Cond.selects RX0 yX0_dislikedOn yX0_dislikedOn, Cond.code yX0_dislikedOn cX0_dislikedOn 4 (some .int)]
def wsX3_isUnfit : List Cond := .code yX3_isUnfit cX3_isUnfit 3 (some .boolean) :: ((wsX3_isUnfit_r1 ++ (wsX3_isUnfit_r2 ++ (wsX3_isUnfit_r3 ++ wsX3_isUnfit_r4))) ++ wsX30 ++ wsX00 ++ wsX20 ++ wsX10 ++ (vx_atS RX3 158 "java/lang/IndexOutOfBoundsException" ["java/lang/RuntimeException", "java/lang/Exception"]).filter goodWord)
def wsX3_isSpoilt_r1 : List Cond := [Cond.fieldLink RX3 38 "FridgeGossip" "cakeCount" "I", Cond.fieldLink RX3 19 "FridgeGossip" "view" "LFridgeGossip$View;", Cond.fieldLink RX3 148 "FridgeGossip$View" "state" "[I", Cond.fieldLink RX3 151 "FridgeGossip$View" "spoiltCakes" "I", Cond.methodLink RX3 42 yX3_checkNumber, Cond.static yX3_checkNumber, Cond.initialized RX3, Cond.code yX3_checkNumber cX3_checkNumber 2 none, Cond.classLink RX3 154 "java/lang/IndexOutOfBoundsException", Cond.initialized "java/lang/IndexOutOfBoundsException", Cond.methodLink RX3 46 yX3_lookAs, Cond.instanceMethod yX3_lookAs, Cond.selects RX3 yX3_lookAs yX3_lookAs, Cond.code yX3_lookAs cX3_lookAs 2 none, Cond.fieldLink RX3 12 "FridgeGossip" "chain" "LFridgeGossip$WordChain;", Cond.fieldLink RX3 35 "FridgeGossip" "dayOf" "[I", Cond.methodLink RX3 165 yX0_read, Cond.instanceMethod yX0_read, Cond.selects RX0 yX0_read yX0_read, Cond.initialized RX0, Cond.code yX0_read cX0_read 5 none, Cond.fieldLink RX0 46 "FridgeGossip$WordChain" "earliest" "LFridgeGossip$Word;", Cond.fieldLink RX0 52 "FridgeGossip$Word" "knownTo" "I", Cond.fieldLink RX0 61 "FridgeGossip$Word" "next" "LFridgeGossip$Word;"]
def wsX3_isSpoilt_r2 : List Cond := [Cond.fieldLink RX0 64 "FridgeGossip$Word" "kind" "I", Cond.fieldLink RX0 67 "FridgeGossip$Word" "subject" "I", Cond.fieldLink RX0 70 "FridgeGossip$Word" "cake" "I", Cond.methodLink RX0 43 yX0_forget, Cond.instanceMethod yX0_forget, Cond.selects RX0 yX0_forget yX0_forget, Cond.code yX0_forget cX0_forget 1 none, Cond.fieldLink RX0 9 "FridgeGossip$View" "place" "[I", Cond.fieldLink RX0 15 "FridgeGossip$View" "claimers" "[I", Cond.fieldLink RX0 18 "FridgeGossip$View" "kept" "[I", Cond.fieldLink RX0 21 "FridgeGossip$View" "firstDay" "[I", Cond.fieldLink RX0 24 "FridgeGossip$View" "lastDay" "[I", Cond.fieldLink RX0 27 "FridgeGossip$View" "dislikes" "[I", Cond.fieldLink RX0 30 "FridgeGossip$View" "state" "[I", Cond.fieldLink RX0 33 "FridgeGossip$View" "planRank" "[I", Cond.fieldLink RX0 36 "FridgeGossip$View" "planCount" "I", Cond.fieldLink RX0 40 "FridgeGossip$View" "spoiltCakes" "I", Cond.methodLink RX0 77 yJ7_fill_53178, Cond.static yJ7_fill_53178, Cond.initialized RJ7, Cond.code yJ7_fill_53178 cJ7_fill_53178 4 none, Cond.methodLink RX0 57 yX0_hear, Cond.instanceMethod yX0_hear, Cond.selects RX0 yX0_hear yX0_hear]
def wsX3_isSpoilt_r3 : List Cond := [Cond.code yX0_hear cX0_hear 2 none, Cond.fieldLink RX0 83 "FridgeGossip$Word" "writer" "I", Cond.fieldLink RX0 89 "FridgeGossip$Word" "firstDay" "I", Cond.fieldLink RX0 91 "FridgeGossip$Word" "lastDay" "I", Cond.fieldLink RX0 93 "FridgeGossip$Word" "dislikes" "I", Cond.methodLink RX0 86 yX0_hearTake, Cond.instanceMethod yX0_hearTake, Cond.selects RX0 yX0_hearTake yX0_hearTake, Cond.code yX0_hearTake cX0_hearTake 2 none, Cond.methodLink RX0 73 yX0_hearKeep, Cond.instanceMethod yX0_hearKeep, Cond.selects RX0 yX0_hearKeep yX0_hearKeep, Cond.code yX0_hearKeep cX0_hearKeep 4 none, Cond.methodLink RX0 95 yX0_isAhead, Cond.instanceMethod yX0_isAhead, Cond.selects RX0 yX0_isAhead yX0_isAhead, Cond.code yX0_isAhead cX0_isAhead 8 (some .boolean), Cond.methodLink RX0 99 yX0_guestsOn, Cond.instanceMethod yX0_guestsOn, Cond.selects RX0 yX0_guestsOn yX0_guestsOn, Cond.code yX0_guestsOn cX0_guestsOn 4 (some .int), Cond.methodLink RX0 108 yX0_comesOn, Cond.instanceMethod yX0_comesOn, Cond.selects RX0 yX0_comesOn yX0_comesOn]
def wsX3_isSpoilt_r4 : List Cond := [Cond.code yX0_comesOn cX0_comesOn 3 (some .boolean), Cond.methodLink RX0 103 yJ6_bitCount_0f7a4, Cond.static yJ6_bitCount_0f7a4, Cond.initialized RJ6, Cond.code yJ6_bitCount_0f7a4 cJ6_bitCount_0f7a4 1 (some .int), Cond.constant RJ6 265 (1431655765), Cond.constant RJ6 266 (858993459), Cond.constant RJ6 267 (252645135)]
def wsX3_isSpoilt : List Cond := .code yX3_isSpoilt cX3_isSpoilt 3 (some .boolean) :: ((wsX3_isSpoilt_r1 ++ (wsX3_isSpoilt_r2 ++ (wsX3_isSpoilt_r3 ++ wsX3_isSpoilt_r4))) ++ wsX30 ++ wsX00 ++ wsX20 ++ wsX10 ++ (vx_atS RX3 158 "java/lang/IndexOutOfBoundsException" ["java/lang/RuntimeException", "java/lang/Exception"]).filter goodWord)
def wsX3_missing_r1 : List Cond := [Cond.fieldLink RX3 38 "FridgeGossip" "cakeCount" "I", Cond.fieldLink RX3 19 "FridgeGossip" "view" "LFridgeGossip$View;", Cond.fieldLink RX3 148 "FridgeGossip$View" "state" "[I", Cond.fieldLink RX3 29 "FridgeGossip" "needs" "[[I", Cond.fieldLink RX3 32 "FridgeGossip" "recipeOf" "[I", Cond.methodLink RX3 89 Lib.Math.max.name, Cond.static Lib.Math.max.name, Cond.initialized "java/lang/Math", Cond.code Lib.Math.max.name Lib.Math.max.code 2 (some .int), Cond.methodLink RX3 42 yX3_checkNumber, Cond.static yX3_checkNumber, Cond.initialized RX3, Cond.code yX3_checkNumber cX3_checkNumber 2 none, Cond.classLink RX3 154 "java/lang/IndexOutOfBoundsException", Cond.initialized "java/lang/IndexOutOfBoundsException", Cond.methodLink RX3 46 yX3_lookAs, Cond.instanceMethod yX3_lookAs, Cond.selects RX3 yX3_lookAs yX3_lookAs, Cond.code yX3_lookAs cX3_lookAs 2 none, Cond.fieldLink RX3 12 "FridgeGossip" "chain" "LFridgeGossip$WordChain;", Cond.fieldLink RX3 35 "FridgeGossip" "dayOf" "[I", Cond.methodLink RX3 165 yX0_read, Cond.instanceMethod yX0_read, Cond.selects RX0 yX0_read yX0_read]
def wsX3_missing_r2 : List Cond := [Cond.initialized RX0, Cond.code yX0_read cX0_read 5 none, Cond.fieldLink RX0 46 "FridgeGossip$WordChain" "earliest" "LFridgeGossip$Word;", Cond.fieldLink RX0 52 "FridgeGossip$Word" "knownTo" "I", Cond.fieldLink RX0 61 "FridgeGossip$Word" "next" "LFridgeGossip$Word;", Cond.fieldLink RX0 64 "FridgeGossip$Word" "kind" "I", Cond.fieldLink RX0 67 "FridgeGossip$Word" "subject" "I", Cond.fieldLink RX0 70 "FridgeGossip$Word" "cake" "I", Cond.methodLink RX0 43 yX0_forget, Cond.instanceMethod yX0_forget, Cond.selects RX0 yX0_forget yX0_forget, Cond.code yX0_forget cX0_forget 1 none, Cond.fieldLink RX0 9 "FridgeGossip$View" "place" "[I", Cond.fieldLink RX0 15 "FridgeGossip$View" "claimers" "[I", Cond.fieldLink RX0 18 "FridgeGossip$View" "kept" "[I", Cond.fieldLink RX0 21 "FridgeGossip$View" "firstDay" "[I", Cond.fieldLink RX0 24 "FridgeGossip$View" "lastDay" "[I", Cond.fieldLink RX0 27 "FridgeGossip$View" "dislikes" "[I", Cond.fieldLink RX0 30 "FridgeGossip$View" "state" "[I", Cond.fieldLink RX0 33 "FridgeGossip$View" "planRank" "[I", Cond.fieldLink RX0 36 "FridgeGossip$View" "planCount" "I", Cond.fieldLink RX0 40 "FridgeGossip$View" "spoiltCakes" "I", Cond.methodLink RX0 77 yJ7_fill_53178, Cond.static yJ7_fill_53178]
def wsX3_missing_r3 : List Cond := [Cond.initialized RJ7, Cond.code yJ7_fill_53178 cJ7_fill_53178 4 none, Cond.methodLink RX0 57 yX0_hear, Cond.instanceMethod yX0_hear, Cond.selects RX0 yX0_hear yX0_hear, Cond.code yX0_hear cX0_hear 2 none, Cond.fieldLink RX0 83 "FridgeGossip$Word" "writer" "I", Cond.fieldLink RX0 89 "FridgeGossip$Word" "firstDay" "I", Cond.fieldLink RX0 91 "FridgeGossip$Word" "lastDay" "I", Cond.fieldLink RX0 93 "FridgeGossip$Word" "dislikes" "I", Cond.methodLink RX0 86 yX0_hearTake, Cond.instanceMethod yX0_hearTake, Cond.selects RX0 yX0_hearTake yX0_hearTake, Cond.code yX0_hearTake cX0_hearTake 2 none, Cond.methodLink RX0 73 yX0_hearKeep, Cond.instanceMethod yX0_hearKeep, Cond.selects RX0 yX0_hearKeep yX0_hearKeep, Cond.code yX0_hearKeep cX0_hearKeep 4 none, Cond.methodLink RX0 95 yX0_isAhead, Cond.instanceMethod yX0_isAhead, Cond.selects RX0 yX0_isAhead yX0_isAhead, Cond.code yX0_isAhead cX0_isAhead 8 (some .boolean), Cond.methodLink RX0 99 yX0_guestsOn, Cond.instanceMethod yX0_guestsOn]
def wsX3_missing_r4 : List Cond := [Cond.selects RX0 yX0_guestsOn yX0_guestsOn, Cond.code yX0_guestsOn cX0_guestsOn 4 (some .int), Cond.methodLink RX0 108 yX0_comesOn, Cond.instanceMethod yX0_comesOn, Cond.selects RX0 yX0_comesOn yX0_comesOn, Cond.code yX0_comesOn cX0_comesOn 3 (some .boolean), Cond.methodLink RX0 103 yJ6_bitCount_0f7a4, Cond.static yJ6_bitCount_0f7a4, Cond.initialized RJ6, Cond.code yJ6_bitCount_0f7a4 cJ6_bitCount_0f7a4 1 (some .int), Cond.constant RJ6 265 (1431655765), Cond.constant RJ6 266 (858993459), Cond.constant RJ6 267 (252645135), Cond.methodLink RX3 77 yX0_thingsSomewhere, Cond.instanceMethod yX0_thingsSomewhere, Cond.selects RX0 yX0_thingsSomewhere yX0_thingsSomewhere, Cond.code yX0_thingsSomewhere cX0_thingsSomewhere 4 (some .int)]
def wsX3_missing : List Cond := .code yX3_missing cX3_missing 5 (some .int) :: ((wsX3_missing_r1 ++ (wsX3_missing_r2 ++ (wsX3_missing_r3 ++ wsX3_missing_r4))) ++ wsX30 ++ wsX00 ++ wsX20 ++ wsX10 ++ (vx_atS RX3 158 "java/lang/IndexOutOfBoundsException" ["java/lang/RuntimeException", "java/lang/Exception"]).filter goodWord)
def wsX4_init : List Cond := .code yX4_init cX4_init 1 none :: ([.methodLink RX4 1 objectInit, .instanceMethod objectInit, .code objectInit ⟨#[0xb1]⟩ 1 none, .arrayClass .int, .fieldLink RX4 7 "FridgeGossipModel" "kinds" "[I", .fieldLink RX4 13 "FridgeGossipModel" "authors" "[I", .fieldLink RX4 16 "FridgeGossipModel" "stamps" "[I", .fieldLink RX4 19 "FridgeGossipModel" "subjects" "[I", .fieldLink RX4 22 "FridgeGossipModel" "cakesOf" "[I", .fieldLink RX4 25 "FridgeGossipModel" "firsts" "[I", .fieldLink RX4 28 "FridgeGossipModel" "lasts" "[I", .fieldLink RX4 31 "FridgeGossipModel" "dislikes" "[I", .arrayClass .boolean, .fieldLink RX4 34 "FridgeGossipModel" "isKnown" "[Z", .fieldLink RX4 38 "FridgeGossipModel" "clocks" "[I", .fieldLink RX4 41 "FridgeGossipModel" "needs" "[I", .fieldLink RX4 44 "FridgeGossipModel" "recipes" "[I", .fieldLink RX4 47 "FridgeGossipModel" "days" "[I", .fieldLink RX4 50 "FridgeGossipModel" "planWords" "[I", .fieldLink RX4 53 "FridgeGossipModel" "list" "[I", .fieldLink RX4 56 "FridgeGossipModel" "wordMany" "I"] ++ wsX40)
def wsX4_thrown : List Cond := .code yX4_thrown cX4_thrown 1 (some .int) :: ([.fieldLink RX4 60 "FridgeGossipModel" "thrown" "I"] ++ wsX40)
def wsX4_in : List Cond := .code yX4_in cX4_in 3 (some .boolean) :: ([])
def wsX4_isFridge : List Cond := .code yX4_isFridge cX4_isFridge 1 (some .boolean) :: ([.methodLink RX4 63 yX4_in, .static yX4_in, .initialized RX4, .code yX4_in cX4_in 3 (some .boolean)])
def wsX4_isThing : List Cond := .code yX4_isThing cX4_isThing 1 (some .boolean) :: ([.methodLink RX4 63 yX4_in, .static yX4_in, .initialized RX4, .code yX4_in cX4_in 3 (some .boolean)])
def wsX4_isFood : List Cond := .code yX4_isFood cX4_isFood 1 (some .boolean) :: ([.methodLink RX4 63 yX4_in, .static yX4_in, .initialized RX4, .code yX4_in cX4_in 3 (some .boolean)])
def wsX4_isCake : List Cond := .code yX4_isCake cX4_isCake 2 (some .boolean) :: ([.fieldLink RX4 67 "FridgeGossipModel" "cakeMany" "I", .methodLink RX4 63 yX4_in, .static yX4_in, .initialized RX4, .code yX4_in cX4_in 3 (some .boolean)] ++ wsX40)
def wsX4_knows : List Cond := .code yX4_knows cX4_knows 3 (some .boolean) :: ([.fieldLink RX4 34 "FridgeGossipModel" "isKnown" "[Z"] ++ wsX40)
def wsX4_isLater : List Cond := .code yX4_isLater cX4_isLater 3 (some .boolean) :: ([.fieldLink RX4 16 "FridgeGossipModel" "stamps" "[I", .fieldLink RX4 13 "FridgeGossipModel" "authors" "[I"] ++ wsX40)
def wsX4_write : List Cond := .code yX4_write cX4_write 5 (some .int) :: ([.fieldLink RX4 38 "FridgeGossipModel" "clocks" "[I", .fieldLink RX4 7 "FridgeGossipModel" "kinds" "[I", .fieldLink RX4 56 "FridgeGossipModel" "wordMany" "I", .fieldLink RX4 13 "FridgeGossipModel" "authors" "[I", .fieldLink RX4 16 "FridgeGossipModel" "stamps" "[I", .fieldLink RX4 19 "FridgeGossipModel" "subjects" "[I", .fieldLink RX4 22 "FridgeGossipModel" "cakesOf" "[I", .fieldLink RX4 34 "FridgeGossipModel" "isKnown" "[Z"] ++ wsX40)
def wsX4_isMove : List Cond := .code yX4_isMove cX4_isMove 3 (some .boolean) :: ([.fieldLink RX4 7 "FridgeGossipModel" "kinds" "[I", .fieldLink RX4 19 "FridgeGossipModel" "subjects" "[I"] ++ wsX40)
def wsX4_latestMove : List Cond := .code yX4_latestMove cX4_latestMove 7 (some .int) :: ([.fieldLink RX4 56 "FridgeGossipModel" "wordMany" "I", .fieldLink RX4 13 "FridgeGossipModel" "authors" "[I", .methodLink RX4 70 yX4_knows, .instanceMethod yX4_knows, .selects RX4 yX4_knows yX4_knows, .initialized RX4, .code yX4_knows cX4_knows 3 (some .boolean), .fieldLink RX4 34 "FridgeGossipModel" "isKnown" "[Z", .methodLink RX4 74 yX4_isMove, .instanceMethod yX4_isMove, .selects RX4 yX4_isMove yX4_isMove, .code yX4_isMove cX4_isMove 3 (some .boolean), .fieldLink RX4 7 "FridgeGossipModel" "kinds" "[I", .fieldLink RX4 19 "FridgeGossipModel" "subjects" "[I", .methodLink RX4 77 yX4_isLater, .instanceMethod yX4_isLater, .selects RX4 yX4_isLater yX4_isLater, .code yX4_isLater cX4_isLater 3 (some .boolean), .fieldLink RX4 16 "FridgeGossipModel" "stamps" "[I"] ++ wsX40)
def wsX4_placeOf : List Cond := .code yX4_placeOf cX4_placeOf 4 (some .int) :: ([.fieldLink RX4 7 "FridgeGossipModel" "kinds" "[I", .fieldLink RX4 13 "FridgeGossipModel" "authors" "[I", .methodLink RX4 80 yX4_latestMove, .instanceMethod yX4_latestMove, .selects RX4 yX4_latestMove yX4_latestMove, .initialized RX4, .code yX4_latestMove cX4_latestMove 7 (some .int), .fieldLink RX4 56 "FridgeGossipModel" "wordMany" "I", .methodLink RX4 70 yX4_knows, .instanceMethod yX4_knows, .selects RX4 yX4_knows yX4_knows, .code yX4_knows cX4_knows 3 (some .boolean), .fieldLink RX4 34 "FridgeGossipModel" "isKnown" "[Z", .methodLink RX4 74 yX4_isMove, .instanceMethod yX4_isMove, .selects RX4 yX4_isMove yX4_isMove, .code yX4_isMove cX4_isMove 3 (some .boolean), .fieldLink RX4 19 "FridgeGossipModel" "subjects" "[I", .methodLink RX4 77 yX4_isLater, .instanceMethod yX4_isLater, .selects RX4 yX4_isLater yX4_isLater, .code yX4_isLater cX4_isLater 3 (some .boolean), .fieldLink RX4 16 "FridgeGossipModel" "stamps" "[I"] ++ wsX40)
def wsX4_isFull : List Cond := .code yX4_isFull cX4_isFull 2 (some .boolean) :: ([.fieldLink RX4 56 "FridgeGossipModel" "wordMany" "I"] ++ wsX40)
def wsX4_areOne : List Cond := .code yX4_areOne cX4_areOne 3 (some .boolean) :: ([.fieldLink RX4 60 "FridgeGossipModel" "thrown" "I", .methodLink RX4 84 yX4_isFridge, .static yX4_isFridge, .initialized RX4, .code yX4_isFridge cX4_isFridge 1 (some .boolean), .methodLink RX4 63 yX4_in, .static yX4_in, .code yX4_in cX4_in 3 (some .boolean), .methodLink RX4 88 yX4_isThing, .static yX4_isThing, .code yX4_isThing cX4_isThing 1 (some .boolean)] ++ wsX40)
def wsX4_put_r1 : List Cond := [Cond.fieldLink RX4 60 "FridgeGossipModel" "thrown" "I", Cond.methodLink RX4 91 yX4_areOne, Cond.instanceMethod yX4_areOne, Cond.selects RX4 yX4_areOne yX4_areOne, Cond.initialized RX4, Cond.code yX4_areOne cX4_areOne 3 (some .boolean), Cond.methodLink RX4 84 yX4_isFridge, Cond.static yX4_isFridge, Cond.code yX4_isFridge cX4_isFridge 1 (some .boolean), Cond.methodLink RX4 63 yX4_in, Cond.static yX4_in, Cond.code yX4_in cX4_in 3 (some .boolean), Cond.methodLink RX4 88 yX4_isThing, Cond.static yX4_isThing, Cond.code yX4_isThing cX4_isThing 1 (some .boolean), Cond.methodLink RX4 94 yX4_placeOf, Cond.instanceMethod yX4_placeOf, Cond.selects RX4 yX4_placeOf yX4_placeOf, Cond.code yX4_placeOf cX4_placeOf 4 (some .int), Cond.fieldLink RX4 7 "FridgeGossipModel" "kinds" "[I", Cond.fieldLink RX4 13 "FridgeGossipModel" "authors" "[I", Cond.methodLink RX4 80 yX4_latestMove, Cond.instanceMethod yX4_latestMove, Cond.selects RX4 yX4_latestMove yX4_latestMove]
def wsX4_put_r2 : List Cond := [Cond.code yX4_latestMove cX4_latestMove 7 (some .int), Cond.fieldLink RX4 56 "FridgeGossipModel" "wordMany" "I", Cond.methodLink RX4 70 yX4_knows, Cond.instanceMethod yX4_knows, Cond.selects RX4 yX4_knows yX4_knows, Cond.code yX4_knows cX4_knows 3 (some .boolean), Cond.fieldLink RX4 34 "FridgeGossipModel" "isKnown" "[Z", Cond.methodLink RX4 74 yX4_isMove, Cond.instanceMethod yX4_isMove, Cond.selects RX4 yX4_isMove yX4_isMove, Cond.code yX4_isMove cX4_isMove 3 (some .boolean), Cond.fieldLink RX4 19 "FridgeGossipModel" "subjects" "[I", Cond.methodLink RX4 77 yX4_isLater, Cond.instanceMethod yX4_isLater, Cond.selects RX4 yX4_isLater yX4_isLater, Cond.code yX4_isLater cX4_isLater 3 (some .boolean), Cond.fieldLink RX4 16 "FridgeGossipModel" "stamps" "[I", Cond.methodLink RX4 98 yX4_isFull, Cond.instanceMethod yX4_isFull, Cond.selects RX4 yX4_isFull yX4_isFull, Cond.code yX4_isFull cX4_isFull 2 (some .boolean), Cond.methodLink RX4 101 yX4_write, Cond.instanceMethod yX4_write, Cond.selects RX4 yX4_write yX4_write]
def wsX4_put_r3 : List Cond := [Cond.code yX4_write cX4_write 5 (some .int), Cond.fieldLink RX4 38 "FridgeGossipModel" "clocks" "[I", Cond.fieldLink RX4 22 "FridgeGossipModel" "cakesOf" "[I"]
def wsX4_put : List Cond := .code yX4_put cX4_put 3 (some .int) :: ((wsX4_put_r1 ++ (wsX4_put_r2 ++ wsX4_put_r3)) ++ wsX40)
def wsX4_take_r1 : List Cond := [Cond.fieldLink RX4 60 "FridgeGossipModel" "thrown" "I", Cond.methodLink RX4 91 yX4_areOne, Cond.instanceMethod yX4_areOne, Cond.selects RX4 yX4_areOne yX4_areOne, Cond.initialized RX4, Cond.code yX4_areOne cX4_areOne 3 (some .boolean), Cond.methodLink RX4 84 yX4_isFridge, Cond.static yX4_isFridge, Cond.code yX4_isFridge cX4_isFridge 1 (some .boolean), Cond.methodLink RX4 63 yX4_in, Cond.static yX4_in, Cond.code yX4_in cX4_in 3 (some .boolean), Cond.methodLink RX4 88 yX4_isThing, Cond.static yX4_isThing, Cond.code yX4_isThing cX4_isThing 1 (some .boolean), Cond.methodLink RX4 94 yX4_placeOf, Cond.instanceMethod yX4_placeOf, Cond.selects RX4 yX4_placeOf yX4_placeOf, Cond.code yX4_placeOf cX4_placeOf 4 (some .int), Cond.fieldLink RX4 7 "FridgeGossipModel" "kinds" "[I", Cond.fieldLink RX4 13 "FridgeGossipModel" "authors" "[I", Cond.methodLink RX4 80 yX4_latestMove, Cond.instanceMethod yX4_latestMove, Cond.selects RX4 yX4_latestMove yX4_latestMove]
def wsX4_take_r2 : List Cond := [Cond.code yX4_latestMove cX4_latestMove 7 (some .int), Cond.fieldLink RX4 56 "FridgeGossipModel" "wordMany" "I", Cond.methodLink RX4 70 yX4_knows, Cond.instanceMethod yX4_knows, Cond.selects RX4 yX4_knows yX4_knows, Cond.code yX4_knows cX4_knows 3 (some .boolean), Cond.fieldLink RX4 34 "FridgeGossipModel" "isKnown" "[Z", Cond.methodLink RX4 74 yX4_isMove, Cond.instanceMethod yX4_isMove, Cond.selects RX4 yX4_isMove yX4_isMove, Cond.code yX4_isMove cX4_isMove 3 (some .boolean), Cond.fieldLink RX4 19 "FridgeGossipModel" "subjects" "[I", Cond.methodLink RX4 77 yX4_isLater, Cond.instanceMethod yX4_isLater, Cond.selects RX4 yX4_isLater yX4_isLater, Cond.code yX4_isLater cX4_isLater 3 (some .boolean), Cond.fieldLink RX4 16 "FridgeGossipModel" "stamps" "[I", Cond.methodLink RX4 98 yX4_isFull, Cond.instanceMethod yX4_isFull, Cond.selects RX4 yX4_isFull yX4_isFull, Cond.code yX4_isFull cX4_isFull 2 (some .boolean), Cond.methodLink RX4 101 yX4_write, Cond.instanceMethod yX4_write, Cond.selects RX4 yX4_write yX4_write]
def wsX4_take_r3 : List Cond := [Cond.code yX4_write cX4_write 5 (some .int), Cond.fieldLink RX4 38 "FridgeGossipModel" "clocks" "[I", Cond.fieldLink RX4 22 "FridgeGossipModel" "cakesOf" "[I"]
def wsX4_take : List Cond := .code yX4_take cX4_take 5 (some .int) :: ((wsX4_take_r1 ++ (wsX4_take_r2 ++ wsX4_take_r3)) ++ wsX40)
def wsX4_where_r1 : List Cond := [Cond.methodLink RX4 91 yX4_areOne, Cond.instanceMethod yX4_areOne, Cond.selects RX4 yX4_areOne yX4_areOne, Cond.initialized RX4, Cond.code yX4_areOne cX4_areOne 3 (some .boolean), Cond.fieldLink RX4 60 "FridgeGossipModel" "thrown" "I", Cond.methodLink RX4 84 yX4_isFridge, Cond.static yX4_isFridge, Cond.code yX4_isFridge cX4_isFridge 1 (some .boolean), Cond.methodLink RX4 63 yX4_in, Cond.static yX4_in, Cond.code yX4_in cX4_in 3 (some .boolean), Cond.methodLink RX4 88 yX4_isThing, Cond.static yX4_isThing, Cond.code yX4_isThing cX4_isThing 1 (some .boolean), Cond.methodLink RX4 94 yX4_placeOf, Cond.instanceMethod yX4_placeOf, Cond.selects RX4 yX4_placeOf yX4_placeOf, Cond.code yX4_placeOf cX4_placeOf 4 (some .int), Cond.fieldLink RX4 7 "FridgeGossipModel" "kinds" "[I", Cond.fieldLink RX4 13 "FridgeGossipModel" "authors" "[I", Cond.methodLink RX4 80 yX4_latestMove, Cond.instanceMethod yX4_latestMove, Cond.selects RX4 yX4_latestMove yX4_latestMove]
def wsX4_where_r2 : List Cond := [Cond.code yX4_latestMove cX4_latestMove 7 (some .int), Cond.fieldLink RX4 56 "FridgeGossipModel" "wordMany" "I", Cond.methodLink RX4 70 yX4_knows, Cond.instanceMethod yX4_knows, Cond.selects RX4 yX4_knows yX4_knows, Cond.code yX4_knows cX4_knows 3 (some .boolean), Cond.fieldLink RX4 34 "FridgeGossipModel" "isKnown" "[Z", Cond.methodLink RX4 74 yX4_isMove, Cond.instanceMethod yX4_isMove, Cond.selects RX4 yX4_isMove yX4_isMove, Cond.code yX4_isMove cX4_isMove 3 (some .boolean), Cond.fieldLink RX4 19 "FridgeGossipModel" "subjects" "[I", Cond.methodLink RX4 77 yX4_isLater, Cond.instanceMethod yX4_isLater, Cond.selects RX4 yX4_isLater yX4_isLater, Cond.code yX4_isLater cX4_isLater 3 (some .boolean), Cond.fieldLink RX4 16 "FridgeGossipModel" "stamps" "[I"]
def wsX4_where : List Cond := .code yX4_where cX4_where 3 (some .int) :: ((wsX4_where_r1 ++ wsX4_where_r2) ++ wsX40)
def wsX4_whereByAll_r1 : List Cond := [Cond.fieldLink RX4 60 "FridgeGossipModel" "thrown" "I", Cond.methodLink RX4 88 yX4_isThing, Cond.static yX4_isThing, Cond.initialized RX4, Cond.code yX4_isThing cX4_isThing 1 (some .boolean), Cond.methodLink RX4 63 yX4_in, Cond.static yX4_in, Cond.code yX4_in cX4_in 3 (some .boolean), Cond.methodLink RX4 94 yX4_placeOf, Cond.instanceMethod yX4_placeOf, Cond.selects RX4 yX4_placeOf yX4_placeOf, Cond.code yX4_placeOf cX4_placeOf 4 (some .int), Cond.fieldLink RX4 7 "FridgeGossipModel" "kinds" "[I", Cond.fieldLink RX4 13 "FridgeGossipModel" "authors" "[I", Cond.methodLink RX4 80 yX4_latestMove, Cond.instanceMethod yX4_latestMove, Cond.selects RX4 yX4_latestMove yX4_latestMove, Cond.code yX4_latestMove cX4_latestMove 7 (some .int), Cond.fieldLink RX4 56 "FridgeGossipModel" "wordMany" "I", Cond.methodLink RX4 70 yX4_knows, Cond.instanceMethod yX4_knows, Cond.selects RX4 yX4_knows yX4_knows, Cond.code yX4_knows cX4_knows 3 (some .boolean), Cond.fieldLink RX4 34 "FridgeGossipModel" "isKnown" "[Z"]
def wsX4_whereByAll_r2 : List Cond := [Cond.methodLink RX4 74 yX4_isMove, Cond.instanceMethod yX4_isMove, Cond.selects RX4 yX4_isMove yX4_isMove, Cond.code yX4_isMove cX4_isMove 3 (some .boolean), Cond.fieldLink RX4 19 "FridgeGossipModel" "subjects" "[I", Cond.methodLink RX4 77 yX4_isLater, Cond.instanceMethod yX4_isLater, Cond.selects RX4 yX4_isLater yX4_isLater, Cond.code yX4_isLater cX4_isLater 3 (some .boolean), Cond.fieldLink RX4 16 "FridgeGossipModel" "stamps" "[I"]
def wsX4_whereByAll : List Cond := .code yX4_whereByAll cX4_whereByAll 2 (some .int) :: ((wsX4_whereByAll_r1 ++ wsX4_whereByAll_r2) ++ wsX40)
def wsX4_countOf_r1 : List Cond := [Cond.methodLink RX4 94 yX4_placeOf, Cond.instanceMethod yX4_placeOf, Cond.selects RX4 yX4_placeOf yX4_placeOf, Cond.initialized RX4, Cond.code yX4_placeOf cX4_placeOf 4 (some .int), Cond.fieldLink RX4 7 "FridgeGossipModel" "kinds" "[I", Cond.fieldLink RX4 13 "FridgeGossipModel" "authors" "[I", Cond.methodLink RX4 80 yX4_latestMove, Cond.instanceMethod yX4_latestMove, Cond.selects RX4 yX4_latestMove yX4_latestMove, Cond.code yX4_latestMove cX4_latestMove 7 (some .int), Cond.fieldLink RX4 56 "FridgeGossipModel" "wordMany" "I", Cond.methodLink RX4 70 yX4_knows, Cond.instanceMethod yX4_knows, Cond.selects RX4 yX4_knows yX4_knows, Cond.code yX4_knows cX4_knows 3 (some .boolean), Cond.fieldLink RX4 34 "FridgeGossipModel" "isKnown" "[Z", Cond.methodLink RX4 74 yX4_isMove, Cond.instanceMethod yX4_isMove, Cond.selects RX4 yX4_isMove yX4_isMove, Cond.code yX4_isMove cX4_isMove 3 (some .boolean), Cond.fieldLink RX4 19 "FridgeGossipModel" "subjects" "[I", Cond.methodLink RX4 77 yX4_isLater, Cond.instanceMethod yX4_isLater]
def wsX4_countOf_r2 : List Cond := [Cond.selects RX4 yX4_isLater yX4_isLater, Cond.code yX4_isLater cX4_isLater 3 (some .boolean), Cond.fieldLink RX4 16 "FridgeGossipModel" "stamps" "[I"]
def wsX4_countOf : List Cond := .code yX4_countOf cX4_countOf 5 (some .int) :: ((wsX4_countOf_r1 ++ wsX4_countOf_r2) ++ wsX40)
def wsX4_count_r1 : List Cond := [Cond.fieldLink RX4 60 "FridgeGossipModel" "thrown" "I", Cond.methodLink RX4 84 yX4_isFridge, Cond.static yX4_isFridge, Cond.initialized RX4, Cond.code yX4_isFridge cX4_isFridge 1 (some .boolean), Cond.methodLink RX4 63 yX4_in, Cond.static yX4_in, Cond.code yX4_in cX4_in 3 (some .boolean), Cond.methodLink RX4 105 yX4_isFood, Cond.static yX4_isFood, Cond.code yX4_isFood cX4_isFood 1 (some .boolean), Cond.methodLink RX4 108 yX4_countOf, Cond.instanceMethod yX4_countOf, Cond.selects RX4 yX4_countOf yX4_countOf, Cond.code yX4_countOf cX4_countOf 5 (some .int), Cond.methodLink RX4 94 yX4_placeOf, Cond.instanceMethod yX4_placeOf, Cond.selects RX4 yX4_placeOf yX4_placeOf, Cond.code yX4_placeOf cX4_placeOf 4 (some .int), Cond.fieldLink RX4 7 "FridgeGossipModel" "kinds" "[I", Cond.fieldLink RX4 13 "FridgeGossipModel" "authors" "[I", Cond.methodLink RX4 80 yX4_latestMove, Cond.instanceMethod yX4_latestMove, Cond.selects RX4 yX4_latestMove yX4_latestMove]
def wsX4_count_r2 : List Cond := [Cond.code yX4_latestMove cX4_latestMove 7 (some .int), Cond.fieldLink RX4 56 "FridgeGossipModel" "wordMany" "I", Cond.methodLink RX4 70 yX4_knows, Cond.instanceMethod yX4_knows, Cond.selects RX4 yX4_knows yX4_knows, Cond.code yX4_knows cX4_knows 3 (some .boolean), Cond.fieldLink RX4 34 "FridgeGossipModel" "isKnown" "[Z", Cond.methodLink RX4 74 yX4_isMove, Cond.instanceMethod yX4_isMove, Cond.selects RX4 yX4_isMove yX4_isMove, Cond.code yX4_isMove cX4_isMove 3 (some .boolean), Cond.fieldLink RX4 19 "FridgeGossipModel" "subjects" "[I", Cond.methodLink RX4 77 yX4_isLater, Cond.instanceMethod yX4_isLater, Cond.selects RX4 yX4_isLater yX4_isLater, Cond.code yX4_isLater cX4_isLater 3 (some .boolean), Cond.fieldLink RX4 16 "FridgeGossipModel" "stamps" "[I"]
def wsX4_count : List Cond := .code yX4_count cX4_count 3 (some .int) :: ((wsX4_count_r1 ++ wsX4_count_r2) ++ wsX40)
def wsX4_countByAll_r1 : List Cond := [Cond.fieldLink RX4 60 "FridgeGossipModel" "thrown" "I", Cond.methodLink RX4 105 yX4_isFood, Cond.static yX4_isFood, Cond.initialized RX4, Cond.code yX4_isFood cX4_isFood 1 (some .boolean), Cond.methodLink RX4 63 yX4_in, Cond.static yX4_in, Cond.code yX4_in cX4_in 3 (some .boolean), Cond.methodLink RX4 108 yX4_countOf, Cond.instanceMethod yX4_countOf, Cond.selects RX4 yX4_countOf yX4_countOf, Cond.code yX4_countOf cX4_countOf 5 (some .int), Cond.methodLink RX4 94 yX4_placeOf, Cond.instanceMethod yX4_placeOf, Cond.selects RX4 yX4_placeOf yX4_placeOf, Cond.code yX4_placeOf cX4_placeOf 4 (some .int), Cond.fieldLink RX4 7 "FridgeGossipModel" "kinds" "[I", Cond.fieldLink RX4 13 "FridgeGossipModel" "authors" "[I", Cond.methodLink RX4 80 yX4_latestMove, Cond.instanceMethod yX4_latestMove, Cond.selects RX4 yX4_latestMove yX4_latestMove, Cond.code yX4_latestMove cX4_latestMove 7 (some .int), Cond.fieldLink RX4 56 "FridgeGossipModel" "wordMany" "I", Cond.methodLink RX4 70 yX4_knows]
def wsX4_countByAll_r2 : List Cond := [Cond.instanceMethod yX4_knows, Cond.selects RX4 yX4_knows yX4_knows, Cond.code yX4_knows cX4_knows 3 (some .boolean), Cond.fieldLink RX4 34 "FridgeGossipModel" "isKnown" "[Z", Cond.methodLink RX4 74 yX4_isMove, Cond.instanceMethod yX4_isMove, Cond.selects RX4 yX4_isMove yX4_isMove, Cond.code yX4_isMove cX4_isMove 3 (some .boolean), Cond.fieldLink RX4 19 "FridgeGossipModel" "subjects" "[I", Cond.methodLink RX4 77 yX4_isLater, Cond.instanceMethod yX4_isLater, Cond.selects RX4 yX4_isLater yX4_isLater, Cond.code yX4_isLater cX4_isLater 3 (some .boolean), Cond.fieldLink RX4 16 "FridgeGossipModel" "stamps" "[I"]
def wsX4_countByAll : List Cond := .code yX4_countByAll cX4_countByAll 2 (some .int) :: ((wsX4_countByAll_r1 ++ wsX4_countByAll_r2) ++ wsX40)
def wsX4_claims_r1 : List Cond := [Cond.fieldLink RX4 7 "FridgeGossipModel" "kinds" "[I", Cond.methodLink RX4 91 yX4_areOne, Cond.instanceMethod yX4_areOne, Cond.selects RX4 yX4_areOne yX4_areOne, Cond.initialized RX4, Cond.code yX4_areOne cX4_areOne 3 (some .boolean), Cond.fieldLink RX4 60 "FridgeGossipModel" "thrown" "I", Cond.methodLink RX4 84 yX4_isFridge, Cond.static yX4_isFridge, Cond.code yX4_isFridge cX4_isFridge 1 (some .boolean), Cond.methodLink RX4 63 yX4_in, Cond.static yX4_in, Cond.code yX4_in cX4_in 3 (some .boolean), Cond.methodLink RX4 88 yX4_isThing, Cond.static yX4_isThing, Cond.code yX4_isThing cX4_isThing 1 (some .boolean), Cond.methodLink RX4 94 yX4_placeOf, Cond.instanceMethod yX4_placeOf, Cond.selects RX4 yX4_placeOf yX4_placeOf, Cond.code yX4_placeOf cX4_placeOf 4 (some .int), Cond.fieldLink RX4 13 "FridgeGossipModel" "authors" "[I", Cond.methodLink RX4 80 yX4_latestMove, Cond.instanceMethod yX4_latestMove, Cond.selects RX4 yX4_latestMove yX4_latestMove]
def wsX4_claims_r2 : List Cond := [Cond.code yX4_latestMove cX4_latestMove 7 (some .int), Cond.fieldLink RX4 56 "FridgeGossipModel" "wordMany" "I", Cond.methodLink RX4 70 yX4_knows, Cond.instanceMethod yX4_knows, Cond.selects RX4 yX4_knows yX4_knows, Cond.code yX4_knows cX4_knows 3 (some .boolean), Cond.fieldLink RX4 34 "FridgeGossipModel" "isKnown" "[Z", Cond.methodLink RX4 74 yX4_isMove, Cond.instanceMethod yX4_isMove, Cond.selects RX4 yX4_isMove yX4_isMove, Cond.code yX4_isMove cX4_isMove 3 (some .boolean), Cond.fieldLink RX4 19 "FridgeGossipModel" "subjects" "[I", Cond.methodLink RX4 77 yX4_isLater, Cond.instanceMethod yX4_isLater, Cond.selects RX4 yX4_isLater yX4_isLater, Cond.code yX4_isLater cX4_isLater 3 (some .boolean), Cond.fieldLink RX4 16 "FridgeGossipModel" "stamps" "[I"]
def wsX4_claims : List Cond := .code yX4_claims cX4_claims 7 (some .int) :: ((wsX4_claims_r1 ++ wsX4_claims_r2) ++ wsX40)
def wsX4_meet : List Cond := .code yX4_meet cX4_meet 7 (some .int) :: ([.fieldLink RX4 60 "FridgeGossipModel" "thrown" "I", .fieldLink RX4 56 "FridgeGossipModel" "wordMany" "I", .fieldLink RX4 34 "FridgeGossipModel" "isKnown" "[Z", .fieldLink RX4 38 "FridgeGossipModel" "clocks" "[I", .methodLink RX4 84 yX4_isFridge, .static yX4_isFridge, .initialized RX4, .code yX4_isFridge cX4_isFridge 1 (some .boolean), .methodLink RX4 63 yX4_in, .static yX4_in, .code yX4_in cX4_in 3 (some .boolean), .methodLink RX4 70 yX4_knows, .instanceMethod yX4_knows, .selects RX4 yX4_knows yX4_knows, .code yX4_knows cX4_knows 3 (some .boolean)] ++ wsX40)
def wsX4_words : List Cond := .code yX4_words cX4_words 1 (some .int) :: ([.fieldLink RX4 60 "FridgeGossipModel" "thrown" "I", .fieldLink RX4 56 "FridgeGossipModel" "wordMany" "I"] ++ wsX40)
def wsX4_known : List Cond := .code yX4_known cX4_known 4 (some .int) :: ([.fieldLink RX4 60 "FridgeGossipModel" "thrown" "I", .fieldLink RX4 56 "FridgeGossipModel" "wordMany" "I", .methodLink RX4 84 yX4_isFridge, .static yX4_isFridge, .initialized RX4, .code yX4_isFridge cX4_isFridge 1 (some .boolean), .methodLink RX4 63 yX4_in, .static yX4_in, .code yX4_in cX4_in 3 (some .boolean), .methodLink RX4 70 yX4_knows, .instanceMethod yX4_knows, .selects RX4 yX4_knows yX4_knows, .code yX4_knows cX4_knows 3 (some .boolean), .fieldLink RX4 34 "FridgeGossipModel" "isKnown" "[Z"] ++ wsX40)
def wsX4_clock : List Cond := .code yX4_clock cX4_clock 2 (some .int) :: ([.fieldLink RX4 60 "FridgeGossipModel" "thrown" "I", .fieldLink RX4 38 "FridgeGossipModel" "clocks" "[I", .methodLink RX4 84 yX4_isFridge, .static yX4_isFridge, .initialized RX4, .code yX4_isFridge cX4_isFridge 1 (some .boolean), .methodLink RX4 63 yX4_in, .static yX4_in, .code yX4_in cX4_in 3 (some .boolean)] ++ wsX40)
def wsX4_guest_r1 : List Cond := [Cond.fieldLink RX4 60 "FridgeGossipModel" "thrown" "I", Cond.fieldLink RX4 25 "FridgeGossipModel" "firsts" "[I", Cond.fieldLink RX4 56 "FridgeGossipModel" "wordMany" "I", Cond.fieldLink RX4 28 "FridgeGossipModel" "lasts" "[I", Cond.fieldLink RX4 31 "FridgeGossipModel" "dislikes" "[I", Cond.methodLink RX4 84 yX4_isFridge, Cond.static yX4_isFridge, Cond.initialized RX4, Cond.code yX4_isFridge cX4_isFridge 1 (some .boolean), Cond.methodLink RX4 63 yX4_in, Cond.static yX4_in, Cond.code yX4_in cX4_in 3 (some .boolean), Cond.methodLink RX4 98 yX4_isFull, Cond.instanceMethod yX4_isFull, Cond.selects RX4 yX4_isFull yX4_isFull, Cond.code yX4_isFull cX4_isFull 2 (some .boolean), Cond.methodLink RX4 101 yX4_write, Cond.instanceMethod yX4_write, Cond.selects RX4 yX4_write yX4_write, Cond.code yX4_write cX4_write 5 (some .int), Cond.fieldLink RX4 38 "FridgeGossipModel" "clocks" "[I", Cond.fieldLink RX4 7 "FridgeGossipModel" "kinds" "[I", Cond.fieldLink RX4 13 "FridgeGossipModel" "authors" "[I", Cond.fieldLink RX4 16 "FridgeGossipModel" "stamps" "[I"]
def wsX4_guest_r2 : List Cond := [Cond.fieldLink RX4 19 "FridgeGossipModel" "subjects" "[I", Cond.fieldLink RX4 22 "FridgeGossipModel" "cakesOf" "[I", Cond.fieldLink RX4 34 "FridgeGossipModel" "isKnown" "[Z"]
def wsX4_guest : List Cond := .code yX4_guest cX4_guest 6 (some .int) :: ((wsX4_guest_r1 ++ wsX4_guest_r2) ++ wsX40)
def wsX4_coming : List Cond := .code yX4_coming cX4_coming 7 (some .int) :: ([.fieldLink RX4 56 "FridgeGossipModel" "wordMany" "I", .fieldLink RX4 7 "FridgeGossipModel" "kinds" "[I", .fieldLink RX4 19 "FridgeGossipModel" "subjects" "[I", .fieldLink RX4 25 "FridgeGossipModel" "firsts" "[I", .fieldLink RX4 28 "FridgeGossipModel" "lasts" "[I", .methodLink RX4 70 yX4_knows, .instanceMethod yX4_knows, .selects RX4 yX4_knows yX4_knows, .initialized RX4, .code yX4_knows cX4_knows 3 (some .boolean), .fieldLink RX4 34 "FridgeGossipModel" "isKnown" "[Z", .methodLink RX4 77 yX4_isLater, .instanceMethod yX4_isLater, .selects RX4 yX4_isLater yX4_isLater, .code yX4_isLater cX4_isLater 3 (some .boolean), .fieldLink RX4 16 "FridgeGossipModel" "stamps" "[I", .fieldLink RX4 13 "FridgeGossipModel" "authors" "[I", .methodLink RX4 63 yX4_in, .static yX4_in, .code yX4_in cX4_in 3 (some .boolean)] ++ wsX40)
def wsX4_guests_r1 : List Cond := [Cond.fieldLink RX4 60 "FridgeGossipModel" "thrown" "I", Cond.methodLink RX4 84 yX4_isFridge, Cond.static yX4_isFridge, Cond.initialized RX4, Cond.code yX4_isFridge cX4_isFridge 1 (some .boolean), Cond.methodLink RX4 63 yX4_in, Cond.static yX4_in, Cond.code yX4_in cX4_in 3 (some .boolean), Cond.methodLink RX4 111 yX4_coming, Cond.instanceMethod yX4_coming, Cond.selects RX4 yX4_coming yX4_coming, Cond.code yX4_coming cX4_coming 7 (some .int), Cond.fieldLink RX4 56 "FridgeGossipModel" "wordMany" "I", Cond.fieldLink RX4 7 "FridgeGossipModel" "kinds" "[I", Cond.fieldLink RX4 19 "FridgeGossipModel" "subjects" "[I", Cond.fieldLink RX4 25 "FridgeGossipModel" "firsts" "[I", Cond.fieldLink RX4 28 "FridgeGossipModel" "lasts" "[I", Cond.methodLink RX4 70 yX4_knows, Cond.instanceMethod yX4_knows, Cond.selects RX4 yX4_knows yX4_knows, Cond.code yX4_knows cX4_knows 3 (some .boolean), Cond.fieldLink RX4 34 "FridgeGossipModel" "isKnown" "[Z", Cond.methodLink RX4 77 yX4_isLater, Cond.instanceMethod yX4_isLater]
def wsX4_guests_r2 : List Cond := [Cond.selects RX4 yX4_isLater yX4_isLater, Cond.code yX4_isLater cX4_isLater 3 (some .boolean), Cond.fieldLink RX4 16 "FridgeGossipModel" "stamps" "[I", Cond.fieldLink RX4 13 "FridgeGossipModel" "authors" "[I"]
def wsX4_guests : List Cond := .code yX4_guests cX4_guests 5 (some .int) :: ((wsX4_guests_r1 ++ wsX4_guests_r2) ++ wsX40)
def wsX4_guestMany : List Cond := .code yX4_guestMany cX4_guestMany 5 (some .int) :: ([.methodLink RX4 111 yX4_coming, .instanceMethod yX4_coming, .selects RX4 yX4_coming yX4_coming, .initialized RX4, .code yX4_coming cX4_coming 7 (some .int), .fieldLink RX4 56 "FridgeGossipModel" "wordMany" "I", .fieldLink RX4 7 "FridgeGossipModel" "kinds" "[I", .fieldLink RX4 19 "FridgeGossipModel" "subjects" "[I", .fieldLink RX4 25 "FridgeGossipModel" "firsts" "[I", .fieldLink RX4 28 "FridgeGossipModel" "lasts" "[I", .methodLink RX4 70 yX4_knows, .instanceMethod yX4_knows, .selects RX4 yX4_knows yX4_knows, .code yX4_knows cX4_knows 3 (some .boolean), .fieldLink RX4 34 "FridgeGossipModel" "isKnown" "[Z", .methodLink RX4 77 yX4_isLater, .instanceMethod yX4_isLater, .selects RX4 yX4_isLater yX4_isLater, .code yX4_isLater cX4_isLater 3 (some .boolean), .fieldLink RX4 16 "FridgeGossipModel" "stamps" "[I", .fieldLink RX4 13 "FridgeGossipModel" "authors" "[I", .methodLink RX4 63 yX4_in, .static yX4_in, .code yX4_in cX4_in 3 (some .boolean)] ++ wsX40)
def wsX4_setNeed : List Cond := .code yX4_setNeed cX4_setNeed 5 (some .int) :: ([.fieldLink RX4 60 "FridgeGossipModel" "thrown" "I", .fieldLink RX4 41 "FridgeGossipModel" "needs" "[I", .methodLink RX4 63 yX4_in, .static yX4_in, .initialized RX4, .code yX4_in cX4_in 3 (some .boolean), .methodLink RX4 105 yX4_isFood, .static yX4_isFood, .code yX4_isFood cX4_isFood 1 (some .boolean)] ++ wsX40)
def wsX4_isDisliked_r1 : List Cond := [Cond.fieldLink RX4 41 "FridgeGossipModel" "needs" "[I", Cond.fieldLink RX4 31 "FridgeGossipModel" "dislikes" "[I", Cond.methodLink RX4 111 yX4_coming, Cond.instanceMethod yX4_coming, Cond.selects RX4 yX4_coming yX4_coming, Cond.initialized RX4, Cond.code yX4_coming cX4_coming 7 (some .int), Cond.fieldLink RX4 56 "FridgeGossipModel" "wordMany" "I", Cond.fieldLink RX4 7 "FridgeGossipModel" "kinds" "[I", Cond.fieldLink RX4 19 "FridgeGossipModel" "subjects" "[I", Cond.fieldLink RX4 25 "FridgeGossipModel" "firsts" "[I", Cond.fieldLink RX4 28 "FridgeGossipModel" "lasts" "[I", Cond.methodLink RX4 70 yX4_knows, Cond.instanceMethod yX4_knows, Cond.selects RX4 yX4_knows yX4_knows, Cond.code yX4_knows cX4_knows 3 (some .boolean), Cond.fieldLink RX4 34 "FridgeGossipModel" "isKnown" "[Z", Cond.methodLink RX4 77 yX4_isLater, Cond.instanceMethod yX4_isLater, Cond.selects RX4 yX4_isLater yX4_isLater, Cond.code yX4_isLater cX4_isLater 3 (some .boolean), Cond.fieldLink RX4 16 "FridgeGossipModel" "stamps" "[I", Cond.fieldLink RX4 13 "FridgeGossipModel" "authors" "[I", Cond.methodLink RX4 63 yX4_in]
def wsX4_isDisliked_r2 : List Cond := [Cond.static yX4_in, Cond.code yX4_in cX4_in 3 (some .boolean)]
def wsX4_isDisliked : List Cond := .code yX4_isDisliked cX4_isDisliked 8 (some .boolean) :: ((wsX4_isDisliked_r1 ++ wsX4_isDisliked_r2) ++ wsX40)
def wsX4_plan_r1 : List Cond := [Cond.fieldLink RX4 60 "FridgeGossipModel" "thrown" "I", Cond.fieldLink RX4 67 "FridgeGossipModel" "cakeMany" "I", Cond.fieldLink RX4 44 "FridgeGossipModel" "recipes" "[I", Cond.fieldLink RX4 47 "FridgeGossipModel" "days" "[I", Cond.fieldLink RX4 50 "FridgeGossipModel" "planWords" "[I", Cond.fieldLink RX4 56 "FridgeGossipModel" "wordMany" "I", Cond.methodLink RX4 84 yX4_isFridge, Cond.static yX4_isFridge, Cond.initialized RX4, Cond.code yX4_isFridge cX4_isFridge 1 (some .boolean), Cond.methodLink RX4 63 yX4_in, Cond.static yX4_in, Cond.code yX4_in cX4_in 3 (some .boolean), Cond.methodLink RX4 114 yX4_isDisliked, Cond.instanceMethod yX4_isDisliked, Cond.selects RX4 yX4_isDisliked yX4_isDisliked, Cond.code yX4_isDisliked cX4_isDisliked 8 (some .boolean), Cond.fieldLink RX4 41 "FridgeGossipModel" "needs" "[I", Cond.fieldLink RX4 31 "FridgeGossipModel" "dislikes" "[I", Cond.methodLink RX4 111 yX4_coming, Cond.instanceMethod yX4_coming, Cond.selects RX4 yX4_coming yX4_coming, Cond.code yX4_coming cX4_coming 7 (some .int), Cond.fieldLink RX4 7 "FridgeGossipModel" "kinds" "[I"]
def wsX4_plan_r2 : List Cond := [Cond.fieldLink RX4 19 "FridgeGossipModel" "subjects" "[I", Cond.fieldLink RX4 25 "FridgeGossipModel" "firsts" "[I", Cond.fieldLink RX4 28 "FridgeGossipModel" "lasts" "[I", Cond.methodLink RX4 70 yX4_knows, Cond.instanceMethod yX4_knows, Cond.selects RX4 yX4_knows yX4_knows, Cond.code yX4_knows cX4_knows 3 (some .boolean), Cond.fieldLink RX4 34 "FridgeGossipModel" "isKnown" "[Z", Cond.methodLink RX4 77 yX4_isLater, Cond.instanceMethod yX4_isLater, Cond.selects RX4 yX4_isLater yX4_isLater, Cond.code yX4_isLater cX4_isLater 3 (some .boolean), Cond.fieldLink RX4 16 "FridgeGossipModel" "stamps" "[I", Cond.fieldLink RX4 13 "FridgeGossipModel" "authors" "[I", Cond.methodLink RX4 98 yX4_isFull, Cond.instanceMethod yX4_isFull, Cond.selects RX4 yX4_isFull yX4_isFull, Cond.code yX4_isFull cX4_isFull 2 (some .boolean), Cond.methodLink RX4 101 yX4_write, Cond.instanceMethod yX4_write, Cond.selects RX4 yX4_write yX4_write, Cond.code yX4_write cX4_write 5 (some .int), Cond.fieldLink RX4 38 "FridgeGossipModel" "clocks" "[I", Cond.fieldLink RX4 22 "FridgeGossipModel" "cakesOf" "[I"]
def wsX4_plan : List Cond := .code yX4_plan cX4_plan 5 (some .int) :: ((wsX4_plan_r1 ++ wsX4_plan_r2) ++ wsX40)
def wsX4_stateOf : List Cond := .code yX4_stateOf cX4_stateOf 6 (some .int) :: ([.fieldLink RX4 50 "FridgeGossipModel" "planWords" "[I", .fieldLink RX4 56 "FridgeGossipModel" "wordMany" "I", .fieldLink RX4 19 "FridgeGossipModel" "subjects" "[I", .fieldLink RX4 7 "FridgeGossipModel" "kinds" "[I", .methodLink RX4 70 yX4_knows, .instanceMethod yX4_knows, .selects RX4 yX4_knows yX4_knows, .initialized RX4, .code yX4_knows cX4_knows 3 (some .boolean), .fieldLink RX4 34 "FridgeGossipModel" "isKnown" "[Z"] ++ wsX40)
def wsX4_isAhead_r1 : List Cond := [Cond.fieldLink RX4 47 "FridgeGossipModel" "days" "[I", Cond.fieldLink RX4 50 "FridgeGossipModel" "planWords" "[I", Cond.methodLink RX4 117 yX4_guestMany, Cond.instanceMethod yX4_guestMany, Cond.selects RX4 yX4_guestMany yX4_guestMany, Cond.initialized RX4, Cond.code yX4_guestMany cX4_guestMany 5 (some .int), Cond.methodLink RX4 111 yX4_coming, Cond.instanceMethod yX4_coming, Cond.selects RX4 yX4_coming yX4_coming, Cond.code yX4_coming cX4_coming 7 (some .int), Cond.fieldLink RX4 56 "FridgeGossipModel" "wordMany" "I", Cond.fieldLink RX4 7 "FridgeGossipModel" "kinds" "[I", Cond.fieldLink RX4 19 "FridgeGossipModel" "subjects" "[I", Cond.fieldLink RX4 25 "FridgeGossipModel" "firsts" "[I", Cond.fieldLink RX4 28 "FridgeGossipModel" "lasts" "[I", Cond.methodLink RX4 70 yX4_knows, Cond.instanceMethod yX4_knows, Cond.selects RX4 yX4_knows yX4_knows, Cond.code yX4_knows cX4_knows 3 (some .boolean), Cond.fieldLink RX4 34 "FridgeGossipModel" "isKnown" "[Z", Cond.methodLink RX4 77 yX4_isLater, Cond.instanceMethod yX4_isLater, Cond.selects RX4 yX4_isLater yX4_isLater]
def wsX4_isAhead_r2 : List Cond := [Cond.code yX4_isLater cX4_isLater 3 (some .boolean), Cond.fieldLink RX4 16 "FridgeGossipModel" "stamps" "[I", Cond.fieldLink RX4 13 "FridgeGossipModel" "authors" "[I", Cond.methodLink RX4 63 yX4_in, Cond.static yX4_in, Cond.code yX4_in cX4_in 3 (some .boolean)]
def wsX4_isAhead : List Cond := .code yX4_isAhead cX4_isAhead 5 (some .boolean) :: ((wsX4_isAhead_r1 ++ wsX4_isAhead_r2) ++ wsX40)
def wsX4_keeper_r1 : List Cond := [Cond.fieldLink RX4 56 "FridgeGossipModel" "wordMany" "I", Cond.fieldLink RX4 7 "FridgeGossipModel" "kinds" "[I", Cond.fieldLink RX4 19 "FridgeGossipModel" "subjects" "[I", Cond.fieldLink RX4 22 "FridgeGossipModel" "cakesOf" "[I", Cond.methodLink RX4 94 yX4_placeOf, Cond.instanceMethod yX4_placeOf, Cond.selects RX4 yX4_placeOf yX4_placeOf, Cond.initialized RX4, Cond.code yX4_placeOf cX4_placeOf 4 (some .int), Cond.fieldLink RX4 13 "FridgeGossipModel" "authors" "[I", Cond.methodLink RX4 80 yX4_latestMove, Cond.instanceMethod yX4_latestMove, Cond.selects RX4 yX4_latestMove yX4_latestMove, Cond.code yX4_latestMove cX4_latestMove 7 (some .int), Cond.methodLink RX4 70 yX4_knows, Cond.instanceMethod yX4_knows, Cond.selects RX4 yX4_knows yX4_knows, Cond.code yX4_knows cX4_knows 3 (some .boolean), Cond.fieldLink RX4 34 "FridgeGossipModel" "isKnown" "[Z", Cond.methodLink RX4 74 yX4_isMove, Cond.instanceMethod yX4_isMove, Cond.selects RX4 yX4_isMove yX4_isMove, Cond.code yX4_isMove cX4_isMove 3 (some .boolean), Cond.methodLink RX4 77 yX4_isLater]
def wsX4_keeper_r2 : List Cond := [Cond.instanceMethod yX4_isLater, Cond.selects RX4 yX4_isLater yX4_isLater, Cond.code yX4_isLater cX4_isLater 3 (some .boolean), Cond.fieldLink RX4 16 "FridgeGossipModel" "stamps" "[I", Cond.methodLink RX4 120 yX4_stateOf, Cond.instanceMethod yX4_stateOf, Cond.selects RX4 yX4_stateOf yX4_stateOf, Cond.code yX4_stateOf cX4_stateOf 6 (some .int), Cond.fieldLink RX4 50 "FridgeGossipModel" "planWords" "[I", Cond.methodLink RX4 123 yX4_isAhead, Cond.instanceMethod yX4_isAhead, Cond.selects RX4 yX4_isAhead yX4_isAhead, Cond.code yX4_isAhead cX4_isAhead 5 (some .boolean), Cond.fieldLink RX4 47 "FridgeGossipModel" "days" "[I", Cond.methodLink RX4 117 yX4_guestMany, Cond.instanceMethod yX4_guestMany, Cond.selects RX4 yX4_guestMany yX4_guestMany, Cond.code yX4_guestMany cX4_guestMany 5 (some .int), Cond.methodLink RX4 111 yX4_coming, Cond.instanceMethod yX4_coming, Cond.selects RX4 yX4_coming yX4_coming, Cond.code yX4_coming cX4_coming 7 (some .int), Cond.fieldLink RX4 25 "FridgeGossipModel" "firsts" "[I", Cond.fieldLink RX4 28 "FridgeGossipModel" "lasts" "[I"]
def wsX4_keeper_r3 : List Cond := [Cond.methodLink RX4 63 yX4_in, Cond.static yX4_in, Cond.code yX4_in cX4_in 3 (some .boolean)]
def wsX4_keeper : List Cond := .code yX4_keeper cX4_keeper 5 (some .int) :: ((wsX4_keeper_r1 ++ (wsX4_keeper_r2 ++ wsX4_keeper_r3)) ++ wsX40)
def wsX4_keptOf_r1 : List Cond := [Cond.methodLink RX4 126 yX4_keeper, Cond.instanceMethod yX4_keeper, Cond.selects RX4 yX4_keeper yX4_keeper, Cond.initialized RX4, Cond.code yX4_keeper cX4_keeper 5 (some .int), Cond.fieldLink RX4 56 "FridgeGossipModel" "wordMany" "I", Cond.fieldLink RX4 7 "FridgeGossipModel" "kinds" "[I", Cond.fieldLink RX4 19 "FridgeGossipModel" "subjects" "[I", Cond.fieldLink RX4 22 "FridgeGossipModel" "cakesOf" "[I", Cond.methodLink RX4 94 yX4_placeOf, Cond.instanceMethod yX4_placeOf, Cond.selects RX4 yX4_placeOf yX4_placeOf, Cond.code yX4_placeOf cX4_placeOf 4 (some .int), Cond.fieldLink RX4 13 "FridgeGossipModel" "authors" "[I", Cond.methodLink RX4 80 yX4_latestMove, Cond.instanceMethod yX4_latestMove, Cond.selects RX4 yX4_latestMove yX4_latestMove, Cond.code yX4_latestMove cX4_latestMove 7 (some .int), Cond.methodLink RX4 70 yX4_knows, Cond.instanceMethod yX4_knows, Cond.selects RX4 yX4_knows yX4_knows, Cond.code yX4_knows cX4_knows 3 (some .boolean), Cond.fieldLink RX4 34 "FridgeGossipModel" "isKnown" "[Z", Cond.methodLink RX4 74 yX4_isMove]
def wsX4_keptOf_r2 : List Cond := [Cond.instanceMethod yX4_isMove, Cond.selects RX4 yX4_isMove yX4_isMove, Cond.code yX4_isMove cX4_isMove 3 (some .boolean), Cond.methodLink RX4 77 yX4_isLater, Cond.instanceMethod yX4_isLater, Cond.selects RX4 yX4_isLater yX4_isLater, Cond.code yX4_isLater cX4_isLater 3 (some .boolean), Cond.fieldLink RX4 16 "FridgeGossipModel" "stamps" "[I", Cond.methodLink RX4 120 yX4_stateOf, Cond.instanceMethod yX4_stateOf, Cond.selects RX4 yX4_stateOf yX4_stateOf, Cond.code yX4_stateOf cX4_stateOf 6 (some .int), Cond.fieldLink RX4 50 "FridgeGossipModel" "planWords" "[I", Cond.methodLink RX4 123 yX4_isAhead, Cond.instanceMethod yX4_isAhead, Cond.selects RX4 yX4_isAhead yX4_isAhead, Cond.code yX4_isAhead cX4_isAhead 5 (some .boolean), Cond.fieldLink RX4 47 "FridgeGossipModel" "days" "[I", Cond.methodLink RX4 117 yX4_guestMany, Cond.instanceMethod yX4_guestMany, Cond.selects RX4 yX4_guestMany yX4_guestMany, Cond.code yX4_guestMany cX4_guestMany 5 (some .int), Cond.methodLink RX4 111 yX4_coming, Cond.instanceMethod yX4_coming]
def wsX4_keptOf_r3 : List Cond := [Cond.selects RX4 yX4_coming yX4_coming, Cond.code yX4_coming cX4_coming 7 (some .int), Cond.fieldLink RX4 25 "FridgeGossipModel" "firsts" "[I", Cond.fieldLink RX4 28 "FridgeGossipModel" "lasts" "[I", Cond.methodLink RX4 63 yX4_in, Cond.static yX4_in, Cond.code yX4_in cX4_in 3 (some .boolean)]
def wsX4_keptOf : List Cond := .code yX4_keptOf cX4_keptOf 6 (some .int) :: ((wsX4_keptOf_r1 ++ (wsX4_keptOf_r2 ++ wsX4_keptOf_r3)) ++ wsX40)
def wsX4_lackOf_r1 : List Cond := [Cond.fieldLink RX4 41 "FridgeGossipModel" "needs" "[I", Cond.fieldLink RX4 44 "FridgeGossipModel" "recipes" "[I", Cond.methodLink RX4 129 yX4_keptOf, Cond.instanceMethod yX4_keptOf, Cond.selects RX4 yX4_keptOf yX4_keptOf, Cond.initialized RX4, Cond.code yX4_keptOf cX4_keptOf 6 (some .int), Cond.methodLink RX4 126 yX4_keeper, Cond.instanceMethod yX4_keeper, Cond.selects RX4 yX4_keeper yX4_keeper, Cond.code yX4_keeper cX4_keeper 5 (some .int), Cond.fieldLink RX4 56 "FridgeGossipModel" "wordMany" "I", Cond.fieldLink RX4 7 "FridgeGossipModel" "kinds" "[I", Cond.fieldLink RX4 19 "FridgeGossipModel" "subjects" "[I", Cond.fieldLink RX4 22 "FridgeGossipModel" "cakesOf" "[I", Cond.methodLink RX4 94 yX4_placeOf, Cond.instanceMethod yX4_placeOf, Cond.selects RX4 yX4_placeOf yX4_placeOf, Cond.code yX4_placeOf cX4_placeOf 4 (some .int), Cond.fieldLink RX4 13 "FridgeGossipModel" "authors" "[I", Cond.methodLink RX4 80 yX4_latestMove, Cond.instanceMethod yX4_latestMove, Cond.selects RX4 yX4_latestMove yX4_latestMove, Cond.code yX4_latestMove cX4_latestMove 7 (some .int)]
def wsX4_lackOf_r2 : List Cond := [Cond.methodLink RX4 70 yX4_knows, Cond.instanceMethod yX4_knows, Cond.selects RX4 yX4_knows yX4_knows, Cond.code yX4_knows cX4_knows 3 (some .boolean), Cond.fieldLink RX4 34 "FridgeGossipModel" "isKnown" "[Z", Cond.methodLink RX4 74 yX4_isMove, Cond.instanceMethod yX4_isMove, Cond.selects RX4 yX4_isMove yX4_isMove, Cond.code yX4_isMove cX4_isMove 3 (some .boolean), Cond.methodLink RX4 77 yX4_isLater, Cond.instanceMethod yX4_isLater, Cond.selects RX4 yX4_isLater yX4_isLater, Cond.code yX4_isLater cX4_isLater 3 (some .boolean), Cond.fieldLink RX4 16 "FridgeGossipModel" "stamps" "[I", Cond.methodLink RX4 120 yX4_stateOf, Cond.instanceMethod yX4_stateOf, Cond.selects RX4 yX4_stateOf yX4_stateOf, Cond.code yX4_stateOf cX4_stateOf 6 (some .int), Cond.fieldLink RX4 50 "FridgeGossipModel" "planWords" "[I", Cond.methodLink RX4 123 yX4_isAhead, Cond.instanceMethod yX4_isAhead, Cond.selects RX4 yX4_isAhead yX4_isAhead, Cond.code yX4_isAhead cX4_isAhead 5 (some .boolean), Cond.fieldLink RX4 47 "FridgeGossipModel" "days" "[I"]
def wsX4_lackOf_r3 : List Cond := [Cond.methodLink RX4 117 yX4_guestMany, Cond.instanceMethod yX4_guestMany, Cond.selects RX4 yX4_guestMany yX4_guestMany, Cond.code yX4_guestMany cX4_guestMany 5 (some .int), Cond.methodLink RX4 111 yX4_coming, Cond.instanceMethod yX4_coming, Cond.selects RX4 yX4_coming yX4_coming, Cond.code yX4_coming cX4_coming 7 (some .int), Cond.fieldLink RX4 25 "FridgeGossipModel" "firsts" "[I", Cond.fieldLink RX4 28 "FridgeGossipModel" "lasts" "[I", Cond.methodLink RX4 63 yX4_in, Cond.static yX4_in, Cond.code yX4_in cX4_in 3 (some .boolean)]
def wsX4_lackOf : List Cond := .code yX4_lackOf cX4_lackOf 5 (some .int) :: ((wsX4_lackOf_r1 ++ (wsX4_lackOf_r2 ++ wsX4_lackOf_r3)) ++ wsX40)
def wsX4_layKeeps_r1 : List Cond := [Cond.fieldLink RX4 132 "FridgeGossipModel" "listMany" "I", Cond.fieldLink RX4 53 "FridgeGossipModel" "list" "[I", Cond.methodLink RX4 135 yX4_lackOf, Cond.instanceMethod yX4_lackOf, Cond.selects RX4 yX4_lackOf yX4_lackOf, Cond.initialized RX4, Cond.code yX4_lackOf cX4_lackOf 5 (some .int), Cond.fieldLink RX4 41 "FridgeGossipModel" "needs" "[I", Cond.fieldLink RX4 44 "FridgeGossipModel" "recipes" "[I", Cond.methodLink RX4 129 yX4_keptOf, Cond.instanceMethod yX4_keptOf, Cond.selects RX4 yX4_keptOf yX4_keptOf, Cond.code yX4_keptOf cX4_keptOf 6 (some .int), Cond.methodLink RX4 126 yX4_keeper, Cond.instanceMethod yX4_keeper, Cond.selects RX4 yX4_keeper yX4_keeper, Cond.code yX4_keeper cX4_keeper 5 (some .int), Cond.fieldLink RX4 56 "FridgeGossipModel" "wordMany" "I", Cond.fieldLink RX4 7 "FridgeGossipModel" "kinds" "[I", Cond.fieldLink RX4 19 "FridgeGossipModel" "subjects" "[I", Cond.fieldLink RX4 22 "FridgeGossipModel" "cakesOf" "[I", Cond.methodLink RX4 94 yX4_placeOf, Cond.instanceMethod yX4_placeOf, Cond.selects RX4 yX4_placeOf yX4_placeOf]
def wsX4_layKeeps_r2 : List Cond := [Cond.code yX4_placeOf cX4_placeOf 4 (some .int), Cond.fieldLink RX4 13 "FridgeGossipModel" "authors" "[I", Cond.methodLink RX4 80 yX4_latestMove, Cond.instanceMethod yX4_latestMove, Cond.selects RX4 yX4_latestMove yX4_latestMove, Cond.code yX4_latestMove cX4_latestMove 7 (some .int), Cond.methodLink RX4 70 yX4_knows, Cond.instanceMethod yX4_knows, Cond.selects RX4 yX4_knows yX4_knows, Cond.code yX4_knows cX4_knows 3 (some .boolean), Cond.fieldLink RX4 34 "FridgeGossipModel" "isKnown" "[Z", Cond.methodLink RX4 74 yX4_isMove, Cond.instanceMethod yX4_isMove, Cond.selects RX4 yX4_isMove yX4_isMove, Cond.code yX4_isMove cX4_isMove 3 (some .boolean), Cond.methodLink RX4 77 yX4_isLater, Cond.instanceMethod yX4_isLater, Cond.selects RX4 yX4_isLater yX4_isLater, Cond.code yX4_isLater cX4_isLater 3 (some .boolean), Cond.fieldLink RX4 16 "FridgeGossipModel" "stamps" "[I", Cond.methodLink RX4 120 yX4_stateOf, Cond.instanceMethod yX4_stateOf, Cond.selects RX4 yX4_stateOf yX4_stateOf, Cond.code yX4_stateOf cX4_stateOf 6 (some .int)]
def wsX4_layKeeps_r3 : List Cond := [Cond.fieldLink RX4 50 "FridgeGossipModel" "planWords" "[I", Cond.methodLink RX4 123 yX4_isAhead, Cond.instanceMethod yX4_isAhead, Cond.selects RX4 yX4_isAhead yX4_isAhead, Cond.code yX4_isAhead cX4_isAhead 5 (some .boolean), Cond.fieldLink RX4 47 "FridgeGossipModel" "days" "[I", Cond.methodLink RX4 117 yX4_guestMany, Cond.instanceMethod yX4_guestMany, Cond.selects RX4 yX4_guestMany yX4_guestMany, Cond.code yX4_guestMany cX4_guestMany 5 (some .int), Cond.methodLink RX4 111 yX4_coming, Cond.instanceMethod yX4_coming, Cond.selects RX4 yX4_coming yX4_coming, Cond.code yX4_coming cX4_coming 7 (some .int), Cond.fieldLink RX4 25 "FridgeGossipModel" "firsts" "[I", Cond.fieldLink RX4 28 "FridgeGossipModel" "lasts" "[I", Cond.methodLink RX4 63 yX4_in, Cond.static yX4_in, Cond.code yX4_in cX4_in 3 (some .boolean)]
def wsX4_layKeeps : List Cond := .code yX4_layKeeps cX4_layKeeps 6 none :: ((wsX4_layKeeps_r1 ++ (wsX4_layKeeps_r2 ++ wsX4_layKeeps_r3)) ++ wsX40)
def wsX4_layKept_r1 : List Cond := [Cond.fieldLink RX4 132 "FridgeGossipModel" "listMany" "I", Cond.fieldLink RX4 53 "FridgeGossipModel" "list" "[I", Cond.methodLink RX4 126 yX4_keeper, Cond.instanceMethod yX4_keeper, Cond.selects RX4 yX4_keeper yX4_keeper, Cond.initialized RX4, Cond.code yX4_keeper cX4_keeper 5 (some .int), Cond.fieldLink RX4 56 "FridgeGossipModel" "wordMany" "I", Cond.fieldLink RX4 7 "FridgeGossipModel" "kinds" "[I", Cond.fieldLink RX4 19 "FridgeGossipModel" "subjects" "[I", Cond.fieldLink RX4 22 "FridgeGossipModel" "cakesOf" "[I", Cond.methodLink RX4 94 yX4_placeOf, Cond.instanceMethod yX4_placeOf, Cond.selects RX4 yX4_placeOf yX4_placeOf, Cond.code yX4_placeOf cX4_placeOf 4 (some .int), Cond.fieldLink RX4 13 "FridgeGossipModel" "authors" "[I", Cond.methodLink RX4 80 yX4_latestMove, Cond.instanceMethod yX4_latestMove, Cond.selects RX4 yX4_latestMove yX4_latestMove, Cond.code yX4_latestMove cX4_latestMove 7 (some .int), Cond.methodLink RX4 70 yX4_knows, Cond.instanceMethod yX4_knows, Cond.selects RX4 yX4_knows yX4_knows, Cond.code yX4_knows cX4_knows 3 (some .boolean)]
def wsX4_layKept_r2 : List Cond := [Cond.fieldLink RX4 34 "FridgeGossipModel" "isKnown" "[Z", Cond.methodLink RX4 74 yX4_isMove, Cond.instanceMethod yX4_isMove, Cond.selects RX4 yX4_isMove yX4_isMove, Cond.code yX4_isMove cX4_isMove 3 (some .boolean), Cond.methodLink RX4 77 yX4_isLater, Cond.instanceMethod yX4_isLater, Cond.selects RX4 yX4_isLater yX4_isLater, Cond.code yX4_isLater cX4_isLater 3 (some .boolean), Cond.fieldLink RX4 16 "FridgeGossipModel" "stamps" "[I", Cond.methodLink RX4 120 yX4_stateOf, Cond.instanceMethod yX4_stateOf, Cond.selects RX4 yX4_stateOf yX4_stateOf, Cond.code yX4_stateOf cX4_stateOf 6 (some .int), Cond.fieldLink RX4 50 "FridgeGossipModel" "planWords" "[I", Cond.methodLink RX4 123 yX4_isAhead, Cond.instanceMethod yX4_isAhead, Cond.selects RX4 yX4_isAhead yX4_isAhead, Cond.code yX4_isAhead cX4_isAhead 5 (some .boolean), Cond.fieldLink RX4 47 "FridgeGossipModel" "days" "[I", Cond.methodLink RX4 117 yX4_guestMany, Cond.instanceMethod yX4_guestMany, Cond.selects RX4 yX4_guestMany yX4_guestMany, Cond.code yX4_guestMany cX4_guestMany 5 (some .int)]
def wsX4_layKept_r3 : List Cond := [Cond.methodLink RX4 111 yX4_coming, Cond.instanceMethod yX4_coming, Cond.selects RX4 yX4_coming yX4_coming, Cond.code yX4_coming cX4_coming 7 (some .int), Cond.fieldLink RX4 25 "FridgeGossipModel" "firsts" "[I", Cond.fieldLink RX4 28 "FridgeGossipModel" "lasts" "[I", Cond.methodLink RX4 63 yX4_in, Cond.static yX4_in, Cond.code yX4_in cX4_in 3 (some .boolean)]
def wsX4_layKept : List Cond := .code yX4_layKept cX4_layKept 4 none :: ((wsX4_layKept_r1 ++ (wsX4_layKept_r2 ++ wsX4_layKept_r3)) ++ wsX40)
def wsX4_areCake : List Cond := .code yX4_areCake cX4_areCake 3 (some .boolean) :: ([.fieldLink RX4 60 "FridgeGossipModel" "thrown" "I", .methodLink RX4 84 yX4_isFridge, .static yX4_isFridge, .initialized RX4, .code yX4_isFridge cX4_isFridge 1 (some .boolean), .methodLink RX4 63 yX4_in, .static yX4_in, .code yX4_in cX4_in 3 (some .boolean), .methodLink RX4 138 yX4_isCake, .instanceMethod yX4_isCake, .selects RX4 yX4_isCake yX4_isCake, .code yX4_isCake cX4_isCake 2 (some .boolean), .fieldLink RX4 67 "FridgeGossipModel" "cakeMany" "I"] ++ wsX40)
def wsX4_isOpen_r1 : List Cond := [Cond.fieldLink RX4 60 "FridgeGossipModel" "thrown" "I", Cond.methodLink RX4 141 yX4_areCake, Cond.instanceMethod yX4_areCake, Cond.selects RX4 yX4_areCake yX4_areCake, Cond.initialized RX4, Cond.code yX4_areCake cX4_areCake 3 (some .boolean), Cond.methodLink RX4 84 yX4_isFridge, Cond.static yX4_isFridge, Cond.code yX4_isFridge cX4_isFridge 1 (some .boolean), Cond.methodLink RX4 63 yX4_in, Cond.static yX4_in, Cond.code yX4_in cX4_in 3 (some .boolean), Cond.methodLink RX4 138 yX4_isCake, Cond.instanceMethod yX4_isCake, Cond.selects RX4 yX4_isCake yX4_isCake, Cond.code yX4_isCake cX4_isCake 2 (some .boolean), Cond.fieldLink RX4 67 "FridgeGossipModel" "cakeMany" "I", Cond.methodLink RX4 120 yX4_stateOf, Cond.instanceMethod yX4_stateOf, Cond.selects RX4 yX4_stateOf yX4_stateOf, Cond.code yX4_stateOf cX4_stateOf 6 (some .int), Cond.fieldLink RX4 50 "FridgeGossipModel" "planWords" "[I", Cond.fieldLink RX4 56 "FridgeGossipModel" "wordMany" "I", Cond.fieldLink RX4 19 "FridgeGossipModel" "subjects" "[I"]
def wsX4_isOpen_r2 : List Cond := [Cond.fieldLink RX4 7 "FridgeGossipModel" "kinds" "[I", Cond.methodLink RX4 70 yX4_knows, Cond.instanceMethod yX4_knows, Cond.selects RX4 yX4_knows yX4_knows, Cond.code yX4_knows cX4_knows 3 (some .boolean), Cond.fieldLink RX4 34 "FridgeGossipModel" "isKnown" "[Z"]
def wsX4_isOpen : List Cond := .code yX4_isOpen cX4_isOpen 3 (some .boolean) :: ((wsX4_isOpen_r1 ++ wsX4_isOpen_r2) ++ wsX40)
def wsX4_keep_r1 : List Cond := [Cond.fieldLink RX4 132 "FridgeGossipModel" "listMany" "I", Cond.fieldLink RX4 60 "FridgeGossipModel" "thrown" "I", Cond.fieldLink RX4 53 "FridgeGossipModel" "list" "[I", Cond.methodLink RX4 144 yX4_isOpen, Cond.instanceMethod yX4_isOpen, Cond.selects RX4 yX4_isOpen yX4_isOpen, Cond.initialized RX4, Cond.code yX4_isOpen cX4_isOpen 3 (some .boolean), Cond.methodLink RX4 141 yX4_areCake, Cond.instanceMethod yX4_areCake, Cond.selects RX4 yX4_areCake yX4_areCake, Cond.code yX4_areCake cX4_areCake 3 (some .boolean), Cond.methodLink RX4 84 yX4_isFridge, Cond.static yX4_isFridge, Cond.code yX4_isFridge cX4_isFridge 1 (some .boolean), Cond.methodLink RX4 63 yX4_in, Cond.static yX4_in, Cond.code yX4_in cX4_in 3 (some .boolean), Cond.methodLink RX4 138 yX4_isCake, Cond.instanceMethod yX4_isCake, Cond.selects RX4 yX4_isCake yX4_isCake, Cond.code yX4_isCake cX4_isCake 2 (some .boolean), Cond.fieldLink RX4 67 "FridgeGossipModel" "cakeMany" "I", Cond.methodLink RX4 120 yX4_stateOf]
def wsX4_keep_r2 : List Cond := [Cond.instanceMethod yX4_stateOf, Cond.selects RX4 yX4_stateOf yX4_stateOf, Cond.code yX4_stateOf cX4_stateOf 6 (some .int), Cond.fieldLink RX4 50 "FridgeGossipModel" "planWords" "[I", Cond.fieldLink RX4 56 "FridgeGossipModel" "wordMany" "I", Cond.fieldLink RX4 19 "FridgeGossipModel" "subjects" "[I", Cond.fieldLink RX4 7 "FridgeGossipModel" "kinds" "[I", Cond.methodLink RX4 70 yX4_knows, Cond.instanceMethod yX4_knows, Cond.selects RX4 yX4_knows yX4_knows, Cond.code yX4_knows cX4_knows 3 (some .boolean), Cond.fieldLink RX4 34 "FridgeGossipModel" "isKnown" "[Z", Cond.methodLink RX4 147 yX4_layKeeps, Cond.instanceMethod yX4_layKeeps, Cond.selects RX4 yX4_layKeeps yX4_layKeeps, Cond.code yX4_layKeeps cX4_layKeeps 6 none, Cond.methodLink RX4 135 yX4_lackOf, Cond.instanceMethod yX4_lackOf, Cond.selects RX4 yX4_lackOf yX4_lackOf, Cond.code yX4_lackOf cX4_lackOf 5 (some .int), Cond.fieldLink RX4 41 "FridgeGossipModel" "needs" "[I", Cond.fieldLink RX4 44 "FridgeGossipModel" "recipes" "[I", Cond.methodLink RX4 129 yX4_keptOf, Cond.instanceMethod yX4_keptOf]
def wsX4_keep_r3 : List Cond := [Cond.selects RX4 yX4_keptOf yX4_keptOf, Cond.code yX4_keptOf cX4_keptOf 6 (some .int), Cond.methodLink RX4 126 yX4_keeper, Cond.instanceMethod yX4_keeper, Cond.selects RX4 yX4_keeper yX4_keeper, Cond.code yX4_keeper cX4_keeper 5 (some .int), Cond.fieldLink RX4 22 "FridgeGossipModel" "cakesOf" "[I", Cond.methodLink RX4 94 yX4_placeOf, Cond.instanceMethod yX4_placeOf, Cond.selects RX4 yX4_placeOf yX4_placeOf, Cond.code yX4_placeOf cX4_placeOf 4 (some .int), Cond.fieldLink RX4 13 "FridgeGossipModel" "authors" "[I", Cond.methodLink RX4 80 yX4_latestMove, Cond.instanceMethod yX4_latestMove, Cond.selects RX4 yX4_latestMove yX4_latestMove, Cond.code yX4_latestMove cX4_latestMove 7 (some .int), Cond.methodLink RX4 74 yX4_isMove, Cond.instanceMethod yX4_isMove, Cond.selects RX4 yX4_isMove yX4_isMove, Cond.code yX4_isMove cX4_isMove 3 (some .boolean), Cond.methodLink RX4 77 yX4_isLater, Cond.instanceMethod yX4_isLater, Cond.selects RX4 yX4_isLater yX4_isLater, Cond.code yX4_isLater cX4_isLater 3 (some .boolean)]
def wsX4_keep_r4 : List Cond := [Cond.fieldLink RX4 16 "FridgeGossipModel" "stamps" "[I", Cond.methodLink RX4 123 yX4_isAhead, Cond.instanceMethod yX4_isAhead, Cond.selects RX4 yX4_isAhead yX4_isAhead, Cond.code yX4_isAhead cX4_isAhead 5 (some .boolean), Cond.fieldLink RX4 47 "FridgeGossipModel" "days" "[I", Cond.methodLink RX4 117 yX4_guestMany, Cond.instanceMethod yX4_guestMany, Cond.selects RX4 yX4_guestMany yX4_guestMany, Cond.code yX4_guestMany cX4_guestMany 5 (some .int), Cond.methodLink RX4 111 yX4_coming, Cond.instanceMethod yX4_coming, Cond.selects RX4 yX4_coming yX4_coming, Cond.code yX4_coming cX4_coming 7 (some .int), Cond.fieldLink RX4 25 "FridgeGossipModel" "firsts" "[I", Cond.fieldLink RX4 28 "FridgeGossipModel" "lasts" "[I", Cond.methodLink RX4 98 yX4_isFull, Cond.instanceMethod yX4_isFull, Cond.selects RX4 yX4_isFull yX4_isFull, Cond.code yX4_isFull cX4_isFull 2 (some .boolean), Cond.methodLink RX4 101 yX4_write, Cond.instanceMethod yX4_write, Cond.selects RX4 yX4_write yX4_write, Cond.code yX4_write cX4_write 5 (some .int)]
def wsX4_keep_r5 : List Cond := [Cond.fieldLink RX4 38 "FridgeGossipModel" "clocks" "[I"]
def wsX4_keep : List Cond := .code yX4_keep cX4_keep 5 (some .int) :: ((wsX4_keep_r1 ++ (wsX4_keep_r2 ++ (wsX4_keep_r3 ++ (wsX4_keep_r4 ++ wsX4_keep_r5)))) ++ wsX40)
def wsX4_drop_r1 : List Cond := [Cond.fieldLink RX4 60 "FridgeGossipModel" "thrown" "I", Cond.fieldLink RX4 132 "FridgeGossipModel" "listMany" "I", Cond.methodLink RX4 144 yX4_isOpen, Cond.instanceMethod yX4_isOpen, Cond.selects RX4 yX4_isOpen yX4_isOpen, Cond.initialized RX4, Cond.code yX4_isOpen cX4_isOpen 3 (some .boolean), Cond.methodLink RX4 141 yX4_areCake, Cond.instanceMethod yX4_areCake, Cond.selects RX4 yX4_areCake yX4_areCake, Cond.code yX4_areCake cX4_areCake 3 (some .boolean), Cond.methodLink RX4 84 yX4_isFridge, Cond.static yX4_isFridge, Cond.code yX4_isFridge cX4_isFridge 1 (some .boolean), Cond.methodLink RX4 63 yX4_in, Cond.static yX4_in, Cond.code yX4_in cX4_in 3 (some .boolean), Cond.methodLink RX4 138 yX4_isCake, Cond.instanceMethod yX4_isCake, Cond.selects RX4 yX4_isCake yX4_isCake, Cond.code yX4_isCake cX4_isCake 2 (some .boolean), Cond.fieldLink RX4 67 "FridgeGossipModel" "cakeMany" "I", Cond.methodLink RX4 120 yX4_stateOf, Cond.instanceMethod yX4_stateOf]
def wsX4_drop_r2 : List Cond := [Cond.selects RX4 yX4_stateOf yX4_stateOf, Cond.code yX4_stateOf cX4_stateOf 6 (some .int), Cond.fieldLink RX4 50 "FridgeGossipModel" "planWords" "[I", Cond.fieldLink RX4 56 "FridgeGossipModel" "wordMany" "I", Cond.fieldLink RX4 19 "FridgeGossipModel" "subjects" "[I", Cond.fieldLink RX4 7 "FridgeGossipModel" "kinds" "[I", Cond.methodLink RX4 70 yX4_knows, Cond.instanceMethod yX4_knows, Cond.selects RX4 yX4_knows yX4_knows, Cond.code yX4_knows cX4_knows 3 (some .boolean), Cond.fieldLink RX4 34 "FridgeGossipModel" "isKnown" "[Z", Cond.methodLink RX4 151 yX4_layKept, Cond.instanceMethod yX4_layKept, Cond.selects RX4 yX4_layKept yX4_layKept, Cond.code yX4_layKept cX4_layKept 4 none, Cond.fieldLink RX4 53 "FridgeGossipModel" "list" "[I", Cond.methodLink RX4 126 yX4_keeper, Cond.instanceMethod yX4_keeper, Cond.selects RX4 yX4_keeper yX4_keeper, Cond.code yX4_keeper cX4_keeper 5 (some .int), Cond.fieldLink RX4 22 "FridgeGossipModel" "cakesOf" "[I", Cond.methodLink RX4 94 yX4_placeOf, Cond.instanceMethod yX4_placeOf, Cond.selects RX4 yX4_placeOf yX4_placeOf]
def wsX4_drop_r3 : List Cond := [Cond.code yX4_placeOf cX4_placeOf 4 (some .int), Cond.fieldLink RX4 13 "FridgeGossipModel" "authors" "[I", Cond.methodLink RX4 80 yX4_latestMove, Cond.instanceMethod yX4_latestMove, Cond.selects RX4 yX4_latestMove yX4_latestMove, Cond.code yX4_latestMove cX4_latestMove 7 (some .int), Cond.methodLink RX4 74 yX4_isMove, Cond.instanceMethod yX4_isMove, Cond.selects RX4 yX4_isMove yX4_isMove, Cond.code yX4_isMove cX4_isMove 3 (some .boolean), Cond.methodLink RX4 77 yX4_isLater, Cond.instanceMethod yX4_isLater, Cond.selects RX4 yX4_isLater yX4_isLater, Cond.code yX4_isLater cX4_isLater 3 (some .boolean), Cond.fieldLink RX4 16 "FridgeGossipModel" "stamps" "[I", Cond.methodLink RX4 123 yX4_isAhead, Cond.instanceMethod yX4_isAhead, Cond.selects RX4 yX4_isAhead yX4_isAhead, Cond.code yX4_isAhead cX4_isAhead 5 (some .boolean), Cond.fieldLink RX4 47 "FridgeGossipModel" "days" "[I", Cond.methodLink RX4 117 yX4_guestMany, Cond.instanceMethod yX4_guestMany, Cond.selects RX4 yX4_guestMany yX4_guestMany, Cond.code yX4_guestMany cX4_guestMany 5 (some .int)]
def wsX4_drop_r4 : List Cond := [Cond.methodLink RX4 111 yX4_coming, Cond.instanceMethod yX4_coming, Cond.selects RX4 yX4_coming yX4_coming, Cond.code yX4_coming cX4_coming 7 (some .int), Cond.fieldLink RX4 25 "FridgeGossipModel" "firsts" "[I", Cond.fieldLink RX4 28 "FridgeGossipModel" "lasts" "[I", Cond.methodLink RX4 98 yX4_isFull, Cond.instanceMethod yX4_isFull, Cond.selects RX4 yX4_isFull yX4_isFull, Cond.code yX4_isFull cX4_isFull 2 (some .boolean), Cond.methodLink RX4 101 yX4_write, Cond.instanceMethod yX4_write, Cond.selects RX4 yX4_write yX4_write, Cond.code yX4_write cX4_write 5 (some .int), Cond.fieldLink RX4 38 "FridgeGossipModel" "clocks" "[I"]
def wsX4_drop : List Cond := .code yX4_drop cX4_drop 4 (some .int) :: ((wsX4_drop_r1 ++ (wsX4_drop_r2 ++ (wsX4_drop_r3 ++ wsX4_drop_r4))) ++ wsX40)
def wsX4_bake_r1 : List Cond := [Cond.fieldLink RX4 132 "FridgeGossipModel" "listMany" "I", Cond.fieldLink RX4 60 "FridgeGossipModel" "thrown" "I", Cond.fieldLink RX4 53 "FridgeGossipModel" "list" "[I", Cond.methodLink RX4 144 yX4_isOpen, Cond.instanceMethod yX4_isOpen, Cond.selects RX4 yX4_isOpen yX4_isOpen, Cond.initialized RX4, Cond.code yX4_isOpen cX4_isOpen 3 (some .boolean), Cond.methodLink RX4 141 yX4_areCake, Cond.instanceMethod yX4_areCake, Cond.selects RX4 yX4_areCake yX4_areCake, Cond.code yX4_areCake cX4_areCake 3 (some .boolean), Cond.methodLink RX4 84 yX4_isFridge, Cond.static yX4_isFridge, Cond.code yX4_isFridge cX4_isFridge 1 (some .boolean), Cond.methodLink RX4 63 yX4_in, Cond.static yX4_in, Cond.code yX4_in cX4_in 3 (some .boolean), Cond.methodLink RX4 138 yX4_isCake, Cond.instanceMethod yX4_isCake, Cond.selects RX4 yX4_isCake yX4_isCake, Cond.code yX4_isCake cX4_isCake 2 (some .boolean), Cond.fieldLink RX4 67 "FridgeGossipModel" "cakeMany" "I", Cond.methodLink RX4 120 yX4_stateOf]
def wsX4_bake_r2 : List Cond := [Cond.instanceMethod yX4_stateOf, Cond.selects RX4 yX4_stateOf yX4_stateOf, Cond.code yX4_stateOf cX4_stateOf 6 (some .int), Cond.fieldLink RX4 50 "FridgeGossipModel" "planWords" "[I", Cond.fieldLink RX4 56 "FridgeGossipModel" "wordMany" "I", Cond.fieldLink RX4 19 "FridgeGossipModel" "subjects" "[I", Cond.fieldLink RX4 7 "FridgeGossipModel" "kinds" "[I", Cond.methodLink RX4 70 yX4_knows, Cond.instanceMethod yX4_knows, Cond.selects RX4 yX4_knows yX4_knows, Cond.code yX4_knows cX4_knows 3 (some .boolean), Cond.fieldLink RX4 34 "FridgeGossipModel" "isKnown" "[Z", Cond.methodLink RX4 135 yX4_lackOf, Cond.instanceMethod yX4_lackOf, Cond.selects RX4 yX4_lackOf yX4_lackOf, Cond.code yX4_lackOf cX4_lackOf 5 (some .int), Cond.fieldLink RX4 41 "FridgeGossipModel" "needs" "[I", Cond.fieldLink RX4 44 "FridgeGossipModel" "recipes" "[I", Cond.methodLink RX4 129 yX4_keptOf, Cond.instanceMethod yX4_keptOf, Cond.selects RX4 yX4_keptOf yX4_keptOf, Cond.code yX4_keptOf cX4_keptOf 6 (some .int), Cond.methodLink RX4 126 yX4_keeper, Cond.instanceMethod yX4_keeper]
def wsX4_bake_r3 : List Cond := [Cond.selects RX4 yX4_keeper yX4_keeper, Cond.code yX4_keeper cX4_keeper 5 (some .int), Cond.fieldLink RX4 22 "FridgeGossipModel" "cakesOf" "[I", Cond.methodLink RX4 94 yX4_placeOf, Cond.instanceMethod yX4_placeOf, Cond.selects RX4 yX4_placeOf yX4_placeOf, Cond.code yX4_placeOf cX4_placeOf 4 (some .int), Cond.fieldLink RX4 13 "FridgeGossipModel" "authors" "[I", Cond.methodLink RX4 80 yX4_latestMove, Cond.instanceMethod yX4_latestMove, Cond.selects RX4 yX4_latestMove yX4_latestMove, Cond.code yX4_latestMove cX4_latestMove 7 (some .int), Cond.methodLink RX4 74 yX4_isMove, Cond.instanceMethod yX4_isMove, Cond.selects RX4 yX4_isMove yX4_isMove, Cond.code yX4_isMove cX4_isMove 3 (some .boolean), Cond.methodLink RX4 77 yX4_isLater, Cond.instanceMethod yX4_isLater, Cond.selects RX4 yX4_isLater yX4_isLater, Cond.code yX4_isLater cX4_isLater 3 (some .boolean), Cond.fieldLink RX4 16 "FridgeGossipModel" "stamps" "[I", Cond.methodLink RX4 123 yX4_isAhead, Cond.instanceMethod yX4_isAhead, Cond.selects RX4 yX4_isAhead yX4_isAhead]
def wsX4_bake_r4 : List Cond := [Cond.code yX4_isAhead cX4_isAhead 5 (some .boolean), Cond.fieldLink RX4 47 "FridgeGossipModel" "days" "[I", Cond.methodLink RX4 117 yX4_guestMany, Cond.instanceMethod yX4_guestMany, Cond.selects RX4 yX4_guestMany yX4_guestMany, Cond.code yX4_guestMany cX4_guestMany 5 (some .int), Cond.methodLink RX4 111 yX4_coming, Cond.instanceMethod yX4_coming, Cond.selects RX4 yX4_coming yX4_coming, Cond.code yX4_coming cX4_coming 7 (some .int), Cond.fieldLink RX4 25 "FridgeGossipModel" "firsts" "[I", Cond.fieldLink RX4 28 "FridgeGossipModel" "lasts" "[I", Cond.methodLink RX4 151 yX4_layKept, Cond.instanceMethod yX4_layKept, Cond.selects RX4 yX4_layKept yX4_layKept, Cond.code yX4_layKept cX4_layKept 4 none, Cond.methodLink RX4 98 yX4_isFull, Cond.instanceMethod yX4_isFull, Cond.selects RX4 yX4_isFull yX4_isFull, Cond.code yX4_isFull cX4_isFull 2 (some .boolean), Cond.methodLink RX4 101 yX4_write, Cond.instanceMethod yX4_write, Cond.selects RX4 yX4_write yX4_write, Cond.code yX4_write cX4_write 5 (some .int)]
def wsX4_bake_r5 : List Cond := [Cond.fieldLink RX4 38 "FridgeGossipModel" "clocks" "[I"]
def wsX4_bake : List Cond := .code yX4_bake cX4_bake 6 (some .int) :: ((wsX4_bake_r1 ++ (wsX4_bake_r2 ++ (wsX4_bake_r3 ++ (wsX4_bake_r4 ++ wsX4_bake_r5)))) ++ wsX40)
def wsX4_cakes : List Cond := .code yX4_cakes cX4_cakes 1 (some .int) :: ([.fieldLink RX4 60 "FridgeGossipModel" "thrown" "I", .fieldLink RX4 67 "FridgeGossipModel" "cakeMany" "I"] ++ wsX40)
def wsX4_cake_r1 : List Cond := [Cond.methodLink RX4 141 yX4_areCake, Cond.instanceMethod yX4_areCake, Cond.selects RX4 yX4_areCake yX4_areCake, Cond.initialized RX4, Cond.code yX4_areCake cX4_areCake 3 (some .boolean), Cond.fieldLink RX4 60 "FridgeGossipModel" "thrown" "I", Cond.methodLink RX4 84 yX4_isFridge, Cond.static yX4_isFridge, Cond.code yX4_isFridge cX4_isFridge 1 (some .boolean), Cond.methodLink RX4 63 yX4_in, Cond.static yX4_in, Cond.code yX4_in cX4_in 3 (some .boolean), Cond.methodLink RX4 138 yX4_isCake, Cond.instanceMethod yX4_isCake, Cond.selects RX4 yX4_isCake yX4_isCake, Cond.code yX4_isCake cX4_isCake 2 (some .boolean), Cond.fieldLink RX4 67 "FridgeGossipModel" "cakeMany" "I", Cond.methodLink RX4 120 yX4_stateOf, Cond.instanceMethod yX4_stateOf, Cond.selects RX4 yX4_stateOf yX4_stateOf, Cond.code yX4_stateOf cX4_stateOf 6 (some .int), Cond.fieldLink RX4 50 "FridgeGossipModel" "planWords" "[I", Cond.fieldLink RX4 56 "FridgeGossipModel" "wordMany" "I", Cond.fieldLink RX4 19 "FridgeGossipModel" "subjects" "[I"]
def wsX4_cake_r2 : List Cond := [Cond.fieldLink RX4 7 "FridgeGossipModel" "kinds" "[I", Cond.methodLink RX4 70 yX4_knows, Cond.instanceMethod yX4_knows, Cond.selects RX4 yX4_knows yX4_knows, Cond.code yX4_knows cX4_knows 3 (some .boolean), Cond.fieldLink RX4 34 "FridgeGossipModel" "isKnown" "[Z"]
def wsX4_cake : List Cond := .code yX4_cake cX4_cake 3 (some .int) :: ((wsX4_cake_r1 ++ wsX4_cake_r2) ++ wsX40)
def wsX4_keptFor_r1 : List Cond := [Cond.methodLink RX4 91 yX4_areOne, Cond.instanceMethod yX4_areOne, Cond.selects RX4 yX4_areOne yX4_areOne, Cond.initialized RX4, Cond.code yX4_areOne cX4_areOne 3 (some .boolean), Cond.fieldLink RX4 60 "FridgeGossipModel" "thrown" "I", Cond.methodLink RX4 84 yX4_isFridge, Cond.static yX4_isFridge, Cond.code yX4_isFridge cX4_isFridge 1 (some .boolean), Cond.methodLink RX4 63 yX4_in, Cond.static yX4_in, Cond.code yX4_in cX4_in 3 (some .boolean), Cond.methodLink RX4 88 yX4_isThing, Cond.static yX4_isThing, Cond.code yX4_isThing cX4_isThing 1 (some .boolean), Cond.methodLink RX4 126 yX4_keeper, Cond.instanceMethod yX4_keeper, Cond.selects RX4 yX4_keeper yX4_keeper, Cond.code yX4_keeper cX4_keeper 5 (some .int), Cond.fieldLink RX4 56 "FridgeGossipModel" "wordMany" "I", Cond.fieldLink RX4 7 "FridgeGossipModel" "kinds" "[I", Cond.fieldLink RX4 19 "FridgeGossipModel" "subjects" "[I", Cond.fieldLink RX4 22 "FridgeGossipModel" "cakesOf" "[I", Cond.methodLink RX4 94 yX4_placeOf]
def wsX4_keptFor_r2 : List Cond := [Cond.instanceMethod yX4_placeOf, Cond.selects RX4 yX4_placeOf yX4_placeOf, Cond.code yX4_placeOf cX4_placeOf 4 (some .int), Cond.fieldLink RX4 13 "FridgeGossipModel" "authors" "[I", Cond.methodLink RX4 80 yX4_latestMove, Cond.instanceMethod yX4_latestMove, Cond.selects RX4 yX4_latestMove yX4_latestMove, Cond.code yX4_latestMove cX4_latestMove 7 (some .int), Cond.methodLink RX4 70 yX4_knows, Cond.instanceMethod yX4_knows, Cond.selects RX4 yX4_knows yX4_knows, Cond.code yX4_knows cX4_knows 3 (some .boolean), Cond.fieldLink RX4 34 "FridgeGossipModel" "isKnown" "[Z", Cond.methodLink RX4 74 yX4_isMove, Cond.instanceMethod yX4_isMove, Cond.selects RX4 yX4_isMove yX4_isMove, Cond.code yX4_isMove cX4_isMove 3 (some .boolean), Cond.methodLink RX4 77 yX4_isLater, Cond.instanceMethod yX4_isLater, Cond.selects RX4 yX4_isLater yX4_isLater, Cond.code yX4_isLater cX4_isLater 3 (some .boolean), Cond.fieldLink RX4 16 "FridgeGossipModel" "stamps" "[I", Cond.methodLink RX4 120 yX4_stateOf, Cond.instanceMethod yX4_stateOf]
def wsX4_keptFor_r3 : List Cond := [Cond.selects RX4 yX4_stateOf yX4_stateOf, Cond.code yX4_stateOf cX4_stateOf 6 (some .int), Cond.fieldLink RX4 50 "FridgeGossipModel" "planWords" "[I", Cond.methodLink RX4 123 yX4_isAhead, Cond.instanceMethod yX4_isAhead, Cond.selects RX4 yX4_isAhead yX4_isAhead, Cond.code yX4_isAhead cX4_isAhead 5 (some .boolean), Cond.fieldLink RX4 47 "FridgeGossipModel" "days" "[I", Cond.methodLink RX4 117 yX4_guestMany, Cond.instanceMethod yX4_guestMany, Cond.selects RX4 yX4_guestMany yX4_guestMany, Cond.code yX4_guestMany cX4_guestMany 5 (some .int), Cond.methodLink RX4 111 yX4_coming, Cond.instanceMethod yX4_coming, Cond.selects RX4 yX4_coming yX4_coming, Cond.code yX4_coming cX4_coming 7 (some .int), Cond.fieldLink RX4 25 "FridgeGossipModel" "firsts" "[I", Cond.fieldLink RX4 28 "FridgeGossipModel" "lasts" "[I"]
def wsX4_keptFor : List Cond := .code yX4_keptFor cX4_keptFor 3 (some .int) :: ((wsX4_keptFor_r1 ++ (wsX4_keptFor_r2 ++ wsX4_keptFor_r3)) ++ wsX40)
def wsX4_keptByAll_r1 : List Cond := [Cond.fieldLink RX4 60 "FridgeGossipModel" "thrown" "I", Cond.methodLink RX4 88 yX4_isThing, Cond.static yX4_isThing, Cond.initialized RX4, Cond.code yX4_isThing cX4_isThing 1 (some .boolean), Cond.methodLink RX4 63 yX4_in, Cond.static yX4_in, Cond.code yX4_in cX4_in 3 (some .boolean), Cond.methodLink RX4 126 yX4_keeper, Cond.instanceMethod yX4_keeper, Cond.selects RX4 yX4_keeper yX4_keeper, Cond.code yX4_keeper cX4_keeper 5 (some .int), Cond.fieldLink RX4 56 "FridgeGossipModel" "wordMany" "I", Cond.fieldLink RX4 7 "FridgeGossipModel" "kinds" "[I", Cond.fieldLink RX4 19 "FridgeGossipModel" "subjects" "[I", Cond.fieldLink RX4 22 "FridgeGossipModel" "cakesOf" "[I", Cond.methodLink RX4 94 yX4_placeOf, Cond.instanceMethod yX4_placeOf, Cond.selects RX4 yX4_placeOf yX4_placeOf, Cond.code yX4_placeOf cX4_placeOf 4 (some .int), Cond.fieldLink RX4 13 "FridgeGossipModel" "authors" "[I", Cond.methodLink RX4 80 yX4_latestMove, Cond.instanceMethod yX4_latestMove, Cond.selects RX4 yX4_latestMove yX4_latestMove]
def wsX4_keptByAll_r2 : List Cond := [Cond.code yX4_latestMove cX4_latestMove 7 (some .int), Cond.methodLink RX4 70 yX4_knows, Cond.instanceMethod yX4_knows, Cond.selects RX4 yX4_knows yX4_knows, Cond.code yX4_knows cX4_knows 3 (some .boolean), Cond.fieldLink RX4 34 "FridgeGossipModel" "isKnown" "[Z", Cond.methodLink RX4 74 yX4_isMove, Cond.instanceMethod yX4_isMove, Cond.selects RX4 yX4_isMove yX4_isMove, Cond.code yX4_isMove cX4_isMove 3 (some .boolean), Cond.methodLink RX4 77 yX4_isLater, Cond.instanceMethod yX4_isLater, Cond.selects RX4 yX4_isLater yX4_isLater, Cond.code yX4_isLater cX4_isLater 3 (some .boolean), Cond.fieldLink RX4 16 "FridgeGossipModel" "stamps" "[I", Cond.methodLink RX4 120 yX4_stateOf, Cond.instanceMethod yX4_stateOf, Cond.selects RX4 yX4_stateOf yX4_stateOf, Cond.code yX4_stateOf cX4_stateOf 6 (some .int), Cond.fieldLink RX4 50 "FridgeGossipModel" "planWords" "[I", Cond.methodLink RX4 123 yX4_isAhead, Cond.instanceMethod yX4_isAhead, Cond.selects RX4 yX4_isAhead yX4_isAhead, Cond.code yX4_isAhead cX4_isAhead 5 (some .boolean)]
def wsX4_keptByAll_r3 : List Cond := [Cond.fieldLink RX4 47 "FridgeGossipModel" "days" "[I", Cond.methodLink RX4 117 yX4_guestMany, Cond.instanceMethod yX4_guestMany, Cond.selects RX4 yX4_guestMany yX4_guestMany, Cond.code yX4_guestMany cX4_guestMany 5 (some .int), Cond.methodLink RX4 111 yX4_coming, Cond.instanceMethod yX4_coming, Cond.selects RX4 yX4_coming yX4_coming, Cond.code yX4_coming cX4_coming 7 (some .int), Cond.fieldLink RX4 25 "FridgeGossipModel" "firsts" "[I", Cond.fieldLink RX4 28 "FridgeGossipModel" "lasts" "[I"]
def wsX4_keptByAll : List Cond := .code yX4_keptByAll cX4_keptByAll 2 (some .int) :: ((wsX4_keptByAll_r1 ++ (wsX4_keptByAll_r2 ++ wsX4_keptByAll_r3)) ++ wsX40)
def wsX4_lacks_r1 : List Cond := [Cond.fieldLink RX4 60 "FridgeGossipModel" "thrown" "I", Cond.methodLink RX4 84 yX4_isFridge, Cond.static yX4_isFridge, Cond.initialized RX4, Cond.code yX4_isFridge cX4_isFridge 1 (some .boolean), Cond.methodLink RX4 63 yX4_in, Cond.static yX4_in, Cond.code yX4_in cX4_in 3 (some .boolean), Cond.methodLink RX4 138 yX4_isCake, Cond.instanceMethod yX4_isCake, Cond.selects RX4 yX4_isCake yX4_isCake, Cond.code yX4_isCake cX4_isCake 2 (some .boolean), Cond.fieldLink RX4 67 "FridgeGossipModel" "cakeMany" "I", Cond.methodLink RX4 105 yX4_isFood, Cond.static yX4_isFood, Cond.code yX4_isFood cX4_isFood 1 (some .boolean), Cond.methodLink RX4 120 yX4_stateOf, Cond.instanceMethod yX4_stateOf, Cond.selects RX4 yX4_stateOf yX4_stateOf, Cond.code yX4_stateOf cX4_stateOf 6 (some .int), Cond.fieldLink RX4 50 "FridgeGossipModel" "planWords" "[I", Cond.fieldLink RX4 56 "FridgeGossipModel" "wordMany" "I", Cond.fieldLink RX4 19 "FridgeGossipModel" "subjects" "[I", Cond.fieldLink RX4 7 "FridgeGossipModel" "kinds" "[I"]
def wsX4_lacks_r2 : List Cond := [Cond.methodLink RX4 70 yX4_knows, Cond.instanceMethod yX4_knows, Cond.selects RX4 yX4_knows yX4_knows, Cond.code yX4_knows cX4_knows 3 (some .boolean), Cond.fieldLink RX4 34 "FridgeGossipModel" "isKnown" "[Z", Cond.methodLink RX4 135 yX4_lackOf, Cond.instanceMethod yX4_lackOf, Cond.selects RX4 yX4_lackOf yX4_lackOf, Cond.code yX4_lackOf cX4_lackOf 5 (some .int), Cond.fieldLink RX4 41 "FridgeGossipModel" "needs" "[I", Cond.fieldLink RX4 44 "FridgeGossipModel" "recipes" "[I", Cond.methodLink RX4 129 yX4_keptOf, Cond.instanceMethod yX4_keptOf, Cond.selects RX4 yX4_keptOf yX4_keptOf, Cond.code yX4_keptOf cX4_keptOf 6 (some .int), Cond.methodLink RX4 126 yX4_keeper, Cond.instanceMethod yX4_keeper, Cond.selects RX4 yX4_keeper yX4_keeper, Cond.code yX4_keeper cX4_keeper 5 (some .int), Cond.fieldLink RX4 22 "FridgeGossipModel" "cakesOf" "[I", Cond.methodLink RX4 94 yX4_placeOf, Cond.instanceMethod yX4_placeOf, Cond.selects RX4 yX4_placeOf yX4_placeOf, Cond.code yX4_placeOf cX4_placeOf 4 (some .int)]
def wsX4_lacks_r3 : List Cond := [Cond.fieldLink RX4 13 "FridgeGossipModel" "authors" "[I", Cond.methodLink RX4 80 yX4_latestMove, Cond.instanceMethod yX4_latestMove, Cond.selects RX4 yX4_latestMove yX4_latestMove, Cond.code yX4_latestMove cX4_latestMove 7 (some .int), Cond.methodLink RX4 74 yX4_isMove, Cond.instanceMethod yX4_isMove, Cond.selects RX4 yX4_isMove yX4_isMove, Cond.code yX4_isMove cX4_isMove 3 (some .boolean), Cond.methodLink RX4 77 yX4_isLater, Cond.instanceMethod yX4_isLater, Cond.selects RX4 yX4_isLater yX4_isLater, Cond.code yX4_isLater cX4_isLater 3 (some .boolean), Cond.fieldLink RX4 16 "FridgeGossipModel" "stamps" "[I", Cond.methodLink RX4 123 yX4_isAhead, Cond.instanceMethod yX4_isAhead, Cond.selects RX4 yX4_isAhead yX4_isAhead, Cond.code yX4_isAhead cX4_isAhead 5 (some .boolean), Cond.fieldLink RX4 47 "FridgeGossipModel" "days" "[I", Cond.methodLink RX4 117 yX4_guestMany, Cond.instanceMethod yX4_guestMany, Cond.selects RX4 yX4_guestMany yX4_guestMany, Cond.code yX4_guestMany cX4_guestMany 5 (some .int), Cond.methodLink RX4 111 yX4_coming]
def wsX4_lacks_r4 : List Cond := [Cond.instanceMethod yX4_coming, Cond.selects RX4 yX4_coming yX4_coming, Cond.code yX4_coming cX4_coming 7 (some .int), Cond.fieldLink RX4 25 "FridgeGossipModel" "firsts" "[I", Cond.fieldLink RX4 28 "FridgeGossipModel" "lasts" "[I"]
def wsX4_lacks : List Cond := .code yX4_lacks cX4_lacks 4 (some .int) :: ((wsX4_lacks_r1 ++ (wsX4_lacks_r2 ++ (wsX4_lacks_r3 ++ wsX4_lacks_r4))) ++ wsX40)
def wsX4_isUnfit_r1 : List Cond := [Cond.fieldLink RX4 44 "FridgeGossipModel" "recipes" "[I", Cond.fieldLink RX4 47 "FridgeGossipModel" "days" "[I", Cond.methodLink RX4 141 yX4_areCake, Cond.instanceMethod yX4_areCake, Cond.selects RX4 yX4_areCake yX4_areCake, Cond.initialized RX4, Cond.code yX4_areCake cX4_areCake 3 (some .boolean), Cond.fieldLink RX4 60 "FridgeGossipModel" "thrown" "I", Cond.methodLink RX4 84 yX4_isFridge, Cond.static yX4_isFridge, Cond.code yX4_isFridge cX4_isFridge 1 (some .boolean), Cond.methodLink RX4 63 yX4_in, Cond.static yX4_in, Cond.code yX4_in cX4_in 3 (some .boolean), Cond.methodLink RX4 138 yX4_isCake, Cond.instanceMethod yX4_isCake, Cond.selects RX4 yX4_isCake yX4_isCake, Cond.code yX4_isCake cX4_isCake 2 (some .boolean), Cond.fieldLink RX4 67 "FridgeGossipModel" "cakeMany" "I", Cond.methodLink RX4 120 yX4_stateOf, Cond.instanceMethod yX4_stateOf, Cond.selects RX4 yX4_stateOf yX4_stateOf, Cond.code yX4_stateOf cX4_stateOf 6 (some .int), Cond.fieldLink RX4 50 "FridgeGossipModel" "planWords" "[I"]
def wsX4_isUnfit_r2 : List Cond := [Cond.fieldLink RX4 56 "FridgeGossipModel" "wordMany" "I", Cond.fieldLink RX4 19 "FridgeGossipModel" "subjects" "[I", Cond.fieldLink RX4 7 "FridgeGossipModel" "kinds" "[I", Cond.methodLink RX4 70 yX4_knows, Cond.instanceMethod yX4_knows, Cond.selects RX4 yX4_knows yX4_knows, Cond.code yX4_knows cX4_knows 3 (some .boolean), Cond.fieldLink RX4 34 "FridgeGossipModel" "isKnown" "[Z", Cond.methodLink RX4 114 yX4_isDisliked, Cond.instanceMethod yX4_isDisliked, Cond.selects RX4 yX4_isDisliked yX4_isDisliked, Cond.code yX4_isDisliked cX4_isDisliked 8 (some .boolean), Cond.fieldLink RX4 41 "FridgeGossipModel" "needs" "[I", Cond.fieldLink RX4 31 "FridgeGossipModel" "dislikes" "[I", Cond.methodLink RX4 111 yX4_coming, Cond.instanceMethod yX4_coming, Cond.selects RX4 yX4_coming yX4_coming, Cond.code yX4_coming cX4_coming 7 (some .int), Cond.fieldLink RX4 25 "FridgeGossipModel" "firsts" "[I", Cond.fieldLink RX4 28 "FridgeGossipModel" "lasts" "[I", Cond.methodLink RX4 77 yX4_isLater, Cond.instanceMethod yX4_isLater, Cond.selects RX4 yX4_isLater yX4_isLater, Cond.code yX4_isLater cX4_isLater 3 (some .boolean)]
def wsX4_isUnfit_r3 : List Cond := [Cond.fieldLink RX4 16 "FridgeGossipModel" "stamps" "[I", Cond.fieldLink RX4 13 "FridgeGossipModel" "authors" "[I"]
def wsX4_isUnfit : List Cond := .code yX4_isUnfit cX4_isUnfit 3 (some .boolean) :: ((wsX4_isUnfit_r1 ++ (wsX4_isUnfit_r2 ++ wsX4_isUnfit_r3)) ++ wsX40)
def wsX4_isVain : List Cond := .code yX4_isVain cX4_isVain 6 (some .boolean) :: ([.fieldLink RX4 56 "FridgeGossipModel" "wordMany" "I", .fieldLink RX4 19 "FridgeGossipModel" "subjects" "[I", .fieldLink RX4 7 "FridgeGossipModel" "kinds" "[I", .methodLink RX4 70 yX4_knows, .instanceMethod yX4_knows, .selects RX4 yX4_knows yX4_knows, .initialized RX4, .code yX4_knows cX4_knows 3 (some .boolean), .fieldLink RX4 34 "FridgeGossipModel" "isKnown" "[Z", .methodLink RX4 74 yX4_isMove, .instanceMethod yX4_isMove, .selects RX4 yX4_isMove yX4_isMove, .code yX4_isMove cX4_isMove 3 (some .boolean), .methodLink RX4 77 yX4_isLater, .instanceMethod yX4_isLater, .selects RX4 yX4_isLater yX4_isLater, .code yX4_isLater cX4_isLater 3 (some .boolean), .fieldLink RX4 16 "FridgeGossipModel" "stamps" "[I", .fieldLink RX4 13 "FridgeGossipModel" "authors" "[I"] ++ wsX40)
def wsX4_isSpoilt_r1 : List Cond := [Cond.fieldLink RX4 56 "FridgeGossipModel" "wordMany" "I", Cond.fieldLink RX4 7 "FridgeGossipModel" "kinds" "[I", Cond.fieldLink RX4 22 "FridgeGossipModel" "cakesOf" "[I", Cond.methodLink RX4 141 yX4_areCake, Cond.instanceMethod yX4_areCake, Cond.selects RX4 yX4_areCake yX4_areCake, Cond.initialized RX4, Cond.code yX4_areCake cX4_areCake 3 (some .boolean), Cond.fieldLink RX4 60 "FridgeGossipModel" "thrown" "I", Cond.methodLink RX4 84 yX4_isFridge, Cond.static yX4_isFridge, Cond.code yX4_isFridge cX4_isFridge 1 (some .boolean), Cond.methodLink RX4 63 yX4_in, Cond.static yX4_in, Cond.code yX4_in cX4_in 3 (some .boolean), Cond.methodLink RX4 138 yX4_isCake, Cond.instanceMethod yX4_isCake, Cond.selects RX4 yX4_isCake yX4_isCake, Cond.code yX4_isCake cX4_isCake 2 (some .boolean), Cond.fieldLink RX4 67 "FridgeGossipModel" "cakeMany" "I", Cond.methodLink RX4 120 yX4_stateOf, Cond.instanceMethod yX4_stateOf, Cond.selects RX4 yX4_stateOf yX4_stateOf, Cond.code yX4_stateOf cX4_stateOf 6 (some .int)]
def wsX4_isSpoilt_r2 : List Cond := [Cond.fieldLink RX4 50 "FridgeGossipModel" "planWords" "[I", Cond.fieldLink RX4 19 "FridgeGossipModel" "subjects" "[I", Cond.methodLink RX4 70 yX4_knows, Cond.instanceMethod yX4_knows, Cond.selects RX4 yX4_knows yX4_knows, Cond.code yX4_knows cX4_knows 3 (some .boolean), Cond.fieldLink RX4 34 "FridgeGossipModel" "isKnown" "[Z", Cond.methodLink RX4 154 yX4_isVain, Cond.instanceMethod yX4_isVain, Cond.selects RX4 yX4_isVain yX4_isVain, Cond.code yX4_isVain cX4_isVain 6 (some .boolean), Cond.methodLink RX4 74 yX4_isMove, Cond.instanceMethod yX4_isMove, Cond.selects RX4 yX4_isMove yX4_isMove, Cond.code yX4_isMove cX4_isMove 3 (some .boolean), Cond.methodLink RX4 77 yX4_isLater, Cond.instanceMethod yX4_isLater, Cond.selects RX4 yX4_isLater yX4_isLater, Cond.code yX4_isLater cX4_isLater 3 (some .boolean), Cond.fieldLink RX4 16 "FridgeGossipModel" "stamps" "[I", Cond.fieldLink RX4 13 "FridgeGossipModel" "authors" "[I"]
def wsX4_isSpoilt : List Cond := .code yX4_isSpoilt cX4_isSpoilt 5 (some .boolean) :: ((wsX4_isSpoilt_r1 ++ wsX4_isSpoilt_r2) ++ wsX40)
def wsX4_missing_r1 : List Cond := [Cond.fieldLink RX4 60 "FridgeGossipModel" "thrown" "I", Cond.fieldLink RX4 67 "FridgeGossipModel" "cakeMany" "I", Cond.fieldLink RX4 41 "FridgeGossipModel" "needs" "[I", Cond.fieldLink RX4 44 "FridgeGossipModel" "recipes" "[I", Cond.methodLink RX4 84 yX4_isFridge, Cond.static yX4_isFridge, Cond.initialized RX4, Cond.code yX4_isFridge cX4_isFridge 1 (some .boolean), Cond.methodLink RX4 63 yX4_in, Cond.static yX4_in, Cond.code yX4_in cX4_in 3 (some .boolean), Cond.methodLink RX4 105 yX4_isFood, Cond.static yX4_isFood, Cond.code yX4_isFood cX4_isFood 1 (some .boolean), Cond.methodLink RX4 120 yX4_stateOf, Cond.instanceMethod yX4_stateOf, Cond.selects RX4 yX4_stateOf yX4_stateOf, Cond.code yX4_stateOf cX4_stateOf 6 (some .int), Cond.fieldLink RX4 50 "FridgeGossipModel" "planWords" "[I", Cond.fieldLink RX4 56 "FridgeGossipModel" "wordMany" "I", Cond.fieldLink RX4 19 "FridgeGossipModel" "subjects" "[I", Cond.fieldLink RX4 7 "FridgeGossipModel" "kinds" "[I", Cond.methodLink RX4 70 yX4_knows, Cond.instanceMethod yX4_knows]
def wsX4_missing_r2 : List Cond := [Cond.selects RX4 yX4_knows yX4_knows, Cond.code yX4_knows cX4_knows 3 (some .boolean), Cond.fieldLink RX4 34 "FridgeGossipModel" "isKnown" "[Z", Cond.methodLink RX4 108 yX4_countOf, Cond.instanceMethod yX4_countOf, Cond.selects RX4 yX4_countOf yX4_countOf, Cond.code yX4_countOf cX4_countOf 5 (some .int), Cond.methodLink RX4 94 yX4_placeOf, Cond.instanceMethod yX4_placeOf, Cond.selects RX4 yX4_placeOf yX4_placeOf, Cond.code yX4_placeOf cX4_placeOf 4 (some .int), Cond.fieldLink RX4 13 "FridgeGossipModel" "authors" "[I", Cond.methodLink RX4 80 yX4_latestMove, Cond.instanceMethod yX4_latestMove, Cond.selects RX4 yX4_latestMove yX4_latestMove, Cond.code yX4_latestMove cX4_latestMove 7 (some .int), Cond.methodLink RX4 74 yX4_isMove, Cond.instanceMethod yX4_isMove, Cond.selects RX4 yX4_isMove yX4_isMove, Cond.code yX4_isMove cX4_isMove 3 (some .boolean), Cond.methodLink RX4 77 yX4_isLater, Cond.instanceMethod yX4_isLater, Cond.selects RX4 yX4_isLater yX4_isLater, Cond.code yX4_isLater cX4_isLater 3 (some .boolean)]
def wsX4_missing_r3 : List Cond := [Cond.fieldLink RX4 16 "FridgeGossipModel" "stamps" "[I"]
def wsX4_missing : List Cond := .code yX4_missing cX4_missing 5 (some .int) :: ((wsX4_missing_r1 ++ (wsX4_missing_r2 ++ wsX4_missing_r3)) ++ wsX40)
def wsJ9_max_7cf53 : List Cond := .code yJ9_max_7cf53 cJ9_max_7cf53 2 (some .int) :: ([])
def wsJ9_min_7cf53 : List Cond := .code yJ9_min_7cf53 cJ9_min_7cf53 2 (some .int) :: ([])
def wsL_put_r1 : List Cond := [Cond.classLink RL 13 "java/lang/IndexOutOfBoundsException", Cond.classLink RL 15 "java/lang/IllegalStateException", Cond.methodLink RL 7 yX3_put, Cond.instanceMethod yX3_put, Cond.selects RX3 yX3_put yX3_put, Cond.initialized RX3, Cond.code yX3_put cX3_put 3 (some .int), Cond.classLink RX3 53 "java/lang/IllegalStateException", Cond.initialized "java/lang/IllegalStateException", Cond.fieldLink RX3 19 "FridgeGossip" "view" "LFridgeGossip$View;", Cond.fieldLink RX3 50 "FridgeGossip$View" "place" "[I", Cond.fieldLink RX3 69 "FridgeGossip$Word" "stamp" "I", Cond.methodLink RX3 42 yX3_checkNumber, Cond.static yX3_checkNumber, Cond.code yX3_checkNumber cX3_checkNumber 2 none, Cond.classLink RX3 154 "java/lang/IndexOutOfBoundsException", Cond.initialized "java/lang/IndexOutOfBoundsException", Cond.methodLink RX3 46 yX3_lookAs, Cond.instanceMethod yX3_lookAs, Cond.selects RX3 yX3_lookAs yX3_lookAs, Cond.code yX3_lookAs cX3_lookAs 2 none, Cond.fieldLink RX3 12 "FridgeGossip" "chain" "LFridgeGossip$WordChain;", Cond.fieldLink RX3 35 "FridgeGossip" "dayOf" "[I", Cond.methodLink RX3 165 yX0_read]
def wsL_put_r2 : List Cond := [Cond.instanceMethod yX0_read, Cond.selects RX0 yX0_read yX0_read, Cond.initialized RX0, Cond.code yX0_read cX0_read 5 none, Cond.fieldLink RX0 46 "FridgeGossip$WordChain" "earliest" "LFridgeGossip$Word;", Cond.fieldLink RX0 52 "FridgeGossip$Word" "knownTo" "I", Cond.fieldLink RX0 61 "FridgeGossip$Word" "next" "LFridgeGossip$Word;", Cond.fieldLink RX0 64 "FridgeGossip$Word" "kind" "I", Cond.fieldLink RX0 67 "FridgeGossip$Word" "subject" "I", Cond.fieldLink RX0 70 "FridgeGossip$Word" "cake" "I", Cond.methodLink RX0 43 yX0_forget, Cond.instanceMethod yX0_forget, Cond.selects RX0 yX0_forget yX0_forget, Cond.code yX0_forget cX0_forget 1 none, Cond.fieldLink RX0 9 "FridgeGossip$View" "place" "[I", Cond.fieldLink RX0 15 "FridgeGossip$View" "claimers" "[I", Cond.fieldLink RX0 18 "FridgeGossip$View" "kept" "[I", Cond.fieldLink RX0 21 "FridgeGossip$View" "firstDay" "[I", Cond.fieldLink RX0 24 "FridgeGossip$View" "lastDay" "[I", Cond.fieldLink RX0 27 "FridgeGossip$View" "dislikes" "[I", Cond.fieldLink RX0 30 "FridgeGossip$View" "state" "[I", Cond.fieldLink RX0 33 "FridgeGossip$View" "planRank" "[I", Cond.fieldLink RX0 36 "FridgeGossip$View" "planCount" "I", Cond.fieldLink RX0 40 "FridgeGossip$View" "spoiltCakes" "I"]
def wsL_put_r3 : List Cond := [Cond.methodLink RX0 77 yJ7_fill_53178, Cond.static yJ7_fill_53178, Cond.initialized RJ7, Cond.code yJ7_fill_53178 cJ7_fill_53178 4 none, Cond.methodLink RX0 57 yX0_hear, Cond.instanceMethod yX0_hear, Cond.selects RX0 yX0_hear yX0_hear, Cond.code yX0_hear cX0_hear 2 none, Cond.fieldLink RX0 83 "FridgeGossip$Word" "writer" "I", Cond.fieldLink RX0 89 "FridgeGossip$Word" "firstDay" "I", Cond.fieldLink RX0 91 "FridgeGossip$Word" "lastDay" "I", Cond.fieldLink RX0 93 "FridgeGossip$Word" "dislikes" "I", Cond.methodLink RX0 86 yX0_hearTake, Cond.instanceMethod yX0_hearTake, Cond.selects RX0 yX0_hearTake yX0_hearTake, Cond.code yX0_hearTake cX0_hearTake 2 none, Cond.methodLink RX0 73 yX0_hearKeep, Cond.instanceMethod yX0_hearKeep, Cond.selects RX0 yX0_hearKeep yX0_hearKeep, Cond.code yX0_hearKeep cX0_hearKeep 4 none, Cond.methodLink RX0 95 yX0_isAhead, Cond.instanceMethod yX0_isAhead, Cond.selects RX0 yX0_isAhead yX0_isAhead, Cond.code yX0_isAhead cX0_isAhead 8 (some .boolean)]
def wsL_put_r4 : List Cond := [Cond.methodLink RX0 99 yX0_guestsOn, Cond.instanceMethod yX0_guestsOn, Cond.selects RX0 yX0_guestsOn yX0_guestsOn, Cond.code yX0_guestsOn cX0_guestsOn 4 (some .int), Cond.methodLink RX0 108 yX0_comesOn, Cond.instanceMethod yX0_comesOn, Cond.selects RX0 yX0_comesOn yX0_comesOn, Cond.code yX0_comesOn cX0_comesOn 3 (some .boolean), Cond.methodLink RX0 103 yJ6_bitCount_0f7a4, Cond.static yJ6_bitCount_0f7a4, Cond.initialized RJ6, Cond.code yJ6_bitCount_0f7a4 cJ6_bitCount_0f7a4 1 (some .int), Cond.constant RJ6 265 (1431655765), Cond.constant RJ6 266 (858993459), Cond.constant RJ6 267 (252645135), Cond.methodLink RX3 60 yX3_checkRoomFor, Cond.instanceMethod yX3_checkRoomFor, Cond.selects RX3 yX3_checkRoomFor yX3_checkRoomFor, Cond.code yX3_checkRoomFor cX3_checkRoomFor 2 none, Cond.fieldLink RX3 98 "FridgeGossip$WordChain" "size" "I", Cond.methodLink RX3 65 yX3_write, Cond.instanceMethod yX3_write, Cond.selects RX3 yX3_write yX3_write, Cond.code yX3_write cX3_write 6 (some (.object "FridgeGossip$Word"))]
def wsL_put_r5 : List Cond := [Cond.fieldLink RX3 23 "FridgeGossip" "clocks" "[I", Cond.classLink RX3 63 RX1, Cond.instantiable RX1 10, Cond.initialized RX1, Cond.methodLink RX3 169 yX1_init, Cond.instanceMethod yX1_init, Cond.code yX1_init cX1_init 6 none, Cond.methodLink RX1 1 objectInit, Cond.instanceMethod objectInit, Cond.code objectInit ⟨#[0xb1]⟩ 1 none, Cond.fieldLink RX1 7 "FridgeGossip$Word" "firstDay" "I", Cond.fieldLink RX1 13 "FridgeGossip$Word" "lastDay" "I", Cond.fieldLink RX1 16 "FridgeGossip$Word" "dislikes" "I", Cond.fieldLink RX1 19 "FridgeGossip$Word" "next" "LFridgeGossip$Word;", Cond.fieldLink RX1 23 "FridgeGossip$Word" "kind" "I", Cond.fieldLink RX1 26 "FridgeGossip$Word" "stamp" "I", Cond.fieldLink RX1 29 "FridgeGossip$Word" "writer" "I", Cond.fieldLink RX1 32 "FridgeGossip$Word" "subject" "I", Cond.fieldLink RX1 35 "FridgeGossip$Word" "cake" "I", Cond.fieldLink RX1 38 "FridgeGossip$Word" "knownTo" "I", Cond.methodLink RX3 172 yX2_insert, Cond.instanceMethod yX2_insert, Cond.selects RX2 yX2_insert yX2_insert, Cond.initialized RX2]
def wsL_put_r6 : List Cond := [Cond.code yX2_insert cX2_insert 4 none, Cond.fieldLink RX2 7 "FridgeGossip$WordChain" "earliest" "LFridgeGossip$Word;", Cond.fieldLink RX2 23 "FridgeGossip$Word" "next" "LFridgeGossip$Word;", Cond.fieldLink RX2 13 "FridgeGossip$WordChain" "size" "I", Cond.methodLink RX2 17 yX1_isLaterThan, Cond.instanceMethod yX1_isLaterThan, Cond.selects RX1 yX1_isLaterThan yX1_isLaterThan, Cond.code yX1_isLaterThan cX1_isLaterThan 2 (some .boolean)]
def wsL_put : List Cond := .codeWith yL_put cL_put 5 (some .int) [(0, 10, 13, 13), (0, 10, 17, 15)] :: ((wsL_put_r1 ++ (wsL_put_r2 ++ (wsL_put_r3 ++ (wsL_put_r4 ++ (wsL_put_r5 ++ wsL_put_r6))))) ++ wsX30 ++ wsX00 ++ wsX10 ++ wsX20 ++ (vx_atS RX3 57 "java/lang/IllegalStateException" ["java/lang/RuntimeException", "java/lang/Exception"]).filter goodWord ++ (vx_atS RX3 158 "java/lang/IndexOutOfBoundsException" ["java/lang/RuntimeException", "java/lang/Exception"]).filter goodWord)
def wsL_take_r1 : List Cond := [Cond.classLink RL 13 "java/lang/IndexOutOfBoundsException", Cond.classLink RL 15 "java/lang/IllegalStateException", Cond.methodLink RL 17 yX3_take, Cond.instanceMethod yX3_take, Cond.selects RX3 yX3_take yX3_take, Cond.initialized RX3, Cond.code yX3_take cX3_take 4 (some .int), Cond.classLink RX3 53 "java/lang/IllegalStateException", Cond.initialized "java/lang/IllegalStateException", Cond.fieldLink RX3 19 "FridgeGossip" "view" "LFridgeGossip$View;", Cond.fieldLink RX3 50 "FridgeGossip$View" "place" "[I", Cond.methodLink RX3 42 yX3_checkNumber, Cond.static yX3_checkNumber, Cond.code yX3_checkNumber cX3_checkNumber 2 none, Cond.classLink RX3 154 "java/lang/IndexOutOfBoundsException", Cond.initialized "java/lang/IndexOutOfBoundsException", Cond.methodLink RX3 46 yX3_lookAs, Cond.instanceMethod yX3_lookAs, Cond.selects RX3 yX3_lookAs yX3_lookAs, Cond.code yX3_lookAs cX3_lookAs 2 none, Cond.fieldLink RX3 12 "FridgeGossip" "chain" "LFridgeGossip$WordChain;", Cond.fieldLink RX3 35 "FridgeGossip" "dayOf" "[I", Cond.methodLink RX3 165 yX0_read, Cond.instanceMethod yX0_read]
def wsL_take_r2 : List Cond := [Cond.selects RX0 yX0_read yX0_read, Cond.initialized RX0, Cond.code yX0_read cX0_read 5 none, Cond.fieldLink RX0 46 "FridgeGossip$WordChain" "earliest" "LFridgeGossip$Word;", Cond.fieldLink RX0 52 "FridgeGossip$Word" "knownTo" "I", Cond.fieldLink RX0 61 "FridgeGossip$Word" "next" "LFridgeGossip$Word;", Cond.fieldLink RX0 64 "FridgeGossip$Word" "kind" "I", Cond.fieldLink RX0 67 "FridgeGossip$Word" "subject" "I", Cond.fieldLink RX0 70 "FridgeGossip$Word" "cake" "I", Cond.methodLink RX0 43 yX0_forget, Cond.instanceMethod yX0_forget, Cond.selects RX0 yX0_forget yX0_forget, Cond.code yX0_forget cX0_forget 1 none, Cond.fieldLink RX0 9 "FridgeGossip$View" "place" "[I", Cond.fieldLink RX0 15 "FridgeGossip$View" "claimers" "[I", Cond.fieldLink RX0 18 "FridgeGossip$View" "kept" "[I", Cond.fieldLink RX0 21 "FridgeGossip$View" "firstDay" "[I", Cond.fieldLink RX0 24 "FridgeGossip$View" "lastDay" "[I", Cond.fieldLink RX0 27 "FridgeGossip$View" "dislikes" "[I", Cond.fieldLink RX0 30 "FridgeGossip$View" "state" "[I", Cond.fieldLink RX0 33 "FridgeGossip$View" "planRank" "[I", Cond.fieldLink RX0 36 "FridgeGossip$View" "planCount" "I", Cond.fieldLink RX0 40 "FridgeGossip$View" "spoiltCakes" "I", Cond.methodLink RX0 77 yJ7_fill_53178]
def wsL_take_r3 : List Cond := [Cond.static yJ7_fill_53178, Cond.initialized RJ7, Cond.code yJ7_fill_53178 cJ7_fill_53178 4 none, Cond.methodLink RX0 57 yX0_hear, Cond.instanceMethod yX0_hear, Cond.selects RX0 yX0_hear yX0_hear, Cond.code yX0_hear cX0_hear 2 none, Cond.fieldLink RX0 83 "FridgeGossip$Word" "writer" "I", Cond.fieldLink RX0 89 "FridgeGossip$Word" "firstDay" "I", Cond.fieldLink RX0 91 "FridgeGossip$Word" "lastDay" "I", Cond.fieldLink RX0 93 "FridgeGossip$Word" "dislikes" "I", Cond.methodLink RX0 86 yX0_hearTake, Cond.instanceMethod yX0_hearTake, Cond.selects RX0 yX0_hearTake yX0_hearTake, Cond.code yX0_hearTake cX0_hearTake 2 none, Cond.methodLink RX0 73 yX0_hearKeep, Cond.instanceMethod yX0_hearKeep, Cond.selects RX0 yX0_hearKeep yX0_hearKeep, Cond.code yX0_hearKeep cX0_hearKeep 4 none, Cond.methodLink RX0 95 yX0_isAhead, Cond.instanceMethod yX0_isAhead, Cond.selects RX0 yX0_isAhead yX0_isAhead, Cond.code yX0_isAhead cX0_isAhead 8 (some .boolean), Cond.methodLink RX0 99 yX0_guestsOn]
def wsL_take_r4 : List Cond := [Cond.instanceMethod yX0_guestsOn, Cond.selects RX0 yX0_guestsOn yX0_guestsOn, Cond.code yX0_guestsOn cX0_guestsOn 4 (some .int), Cond.methodLink RX0 108 yX0_comesOn, Cond.instanceMethod yX0_comesOn, Cond.selects RX0 yX0_comesOn yX0_comesOn, Cond.code yX0_comesOn cX0_comesOn 3 (some .boolean), Cond.methodLink RX0 103 yJ6_bitCount_0f7a4, Cond.static yJ6_bitCount_0f7a4, Cond.initialized RJ6, Cond.code yJ6_bitCount_0f7a4 cJ6_bitCount_0f7a4 1 (some .int), Cond.constant RJ6 265 (1431655765), Cond.constant RJ6 266 (858993459), Cond.constant RJ6 267 (252645135), Cond.methodLink RX3 60 yX3_checkRoomFor, Cond.instanceMethod yX3_checkRoomFor, Cond.selects RX3 yX3_checkRoomFor yX3_checkRoomFor, Cond.code yX3_checkRoomFor cX3_checkRoomFor 2 none, Cond.fieldLink RX3 98 "FridgeGossip$WordChain" "size" "I", Cond.methodLink RX3 65 yX3_write, Cond.instanceMethod yX3_write, Cond.selects RX3 yX3_write yX3_write, Cond.code yX3_write cX3_write 6 (some (.object "FridgeGossip$Word")), Cond.fieldLink RX3 23 "FridgeGossip" "clocks" "[I"]
def wsL_take_r5 : List Cond := [Cond.classLink RX3 63 RX1, Cond.instantiable RX1 10, Cond.initialized RX1, Cond.methodLink RX3 169 yX1_init, Cond.instanceMethod yX1_init, Cond.code yX1_init cX1_init 6 none, Cond.methodLink RX1 1 objectInit, Cond.instanceMethod objectInit, Cond.code objectInit ⟨#[0xb1]⟩ 1 none, Cond.fieldLink RX1 7 "FridgeGossip$Word" "firstDay" "I", Cond.fieldLink RX1 13 "FridgeGossip$Word" "lastDay" "I", Cond.fieldLink RX1 16 "FridgeGossip$Word" "dislikes" "I", Cond.fieldLink RX1 19 "FridgeGossip$Word" "next" "LFridgeGossip$Word;", Cond.fieldLink RX1 23 "FridgeGossip$Word" "kind" "I", Cond.fieldLink RX1 26 "FridgeGossip$Word" "stamp" "I", Cond.fieldLink RX1 29 "FridgeGossip$Word" "writer" "I", Cond.fieldLink RX1 32 "FridgeGossip$Word" "subject" "I", Cond.fieldLink RX1 35 "FridgeGossip$Word" "cake" "I", Cond.fieldLink RX1 38 "FridgeGossip$Word" "knownTo" "I", Cond.methodLink RX3 172 yX2_insert, Cond.instanceMethod yX2_insert, Cond.selects RX2 yX2_insert yX2_insert, Cond.initialized RX2, Cond.code yX2_insert cX2_insert 4 none]
def wsL_take_r6 : List Cond := [Cond.fieldLink RX2 7 "FridgeGossip$WordChain" "earliest" "LFridgeGossip$Word;", Cond.fieldLink RX2 23 "FridgeGossip$Word" "next" "LFridgeGossip$Word;", Cond.fieldLink RX2 13 "FridgeGossip$WordChain" "size" "I", Cond.methodLink RX2 17 yX1_isLaterThan, Cond.instanceMethod yX1_isLaterThan, Cond.selects RX1 yX1_isLaterThan yX1_isLaterThan, Cond.code yX1_isLaterThan cX1_isLaterThan 2 (some .boolean)]
def wsL_take : List Cond := .codeWith yL_take cL_take 5 (some .int) [(0, 10, 13, 13), (0, 10, 17, 15)] :: ((wsL_take_r1 ++ (wsL_take_r2 ++ (wsL_take_r3 ++ (wsL_take_r4 ++ (wsL_take_r5 ++ wsL_take_r6))))) ++ wsX30 ++ wsX00 ++ wsX20 ++ wsX10 ++ (vx_atS RX3 57 "java/lang/IllegalStateException" ["java/lang/RuntimeException", "java/lang/Exception"]).filter goodWord ++ (vx_atS RX3 158 "java/lang/IndexOutOfBoundsException" ["java/lang/RuntimeException", "java/lang/Exception"]).filter goodWord)
def wsL_where_r1 : List Cond := [Cond.classLink RL 13 "java/lang/IndexOutOfBoundsException", Cond.methodLink RL 20 yX3_where, Cond.instanceMethod yX3_where, Cond.selects RX3 yX3_where yX3_where, Cond.initialized RX3, Cond.code yX3_where cX3_where 3 (some .int), Cond.fieldLink RX3 19 "FridgeGossip" "view" "LFridgeGossip$View;", Cond.fieldLink RX3 50 "FridgeGossip$View" "place" "[I", Cond.methodLink RX3 42 yX3_checkNumber, Cond.static yX3_checkNumber, Cond.code yX3_checkNumber cX3_checkNumber 2 none, Cond.classLink RX3 154 "java/lang/IndexOutOfBoundsException", Cond.initialized "java/lang/IndexOutOfBoundsException", Cond.methodLink RX3 46 yX3_lookAs, Cond.instanceMethod yX3_lookAs, Cond.selects RX3 yX3_lookAs yX3_lookAs, Cond.code yX3_lookAs cX3_lookAs 2 none, Cond.fieldLink RX3 12 "FridgeGossip" "chain" "LFridgeGossip$WordChain;", Cond.fieldLink RX3 35 "FridgeGossip" "dayOf" "[I", Cond.methodLink RX3 165 yX0_read, Cond.instanceMethod yX0_read, Cond.selects RX0 yX0_read yX0_read, Cond.initialized RX0, Cond.code yX0_read cX0_read 5 none]
def wsL_where_r2 : List Cond := [Cond.fieldLink RX0 46 "FridgeGossip$WordChain" "earliest" "LFridgeGossip$Word;", Cond.fieldLink RX0 52 "FridgeGossip$Word" "knownTo" "I", Cond.fieldLink RX0 61 "FridgeGossip$Word" "next" "LFridgeGossip$Word;", Cond.fieldLink RX0 64 "FridgeGossip$Word" "kind" "I", Cond.fieldLink RX0 67 "FridgeGossip$Word" "subject" "I", Cond.fieldLink RX0 70 "FridgeGossip$Word" "cake" "I", Cond.methodLink RX0 43 yX0_forget, Cond.instanceMethod yX0_forget, Cond.selects RX0 yX0_forget yX0_forget, Cond.code yX0_forget cX0_forget 1 none, Cond.fieldLink RX0 9 "FridgeGossip$View" "place" "[I", Cond.fieldLink RX0 15 "FridgeGossip$View" "claimers" "[I", Cond.fieldLink RX0 18 "FridgeGossip$View" "kept" "[I", Cond.fieldLink RX0 21 "FridgeGossip$View" "firstDay" "[I", Cond.fieldLink RX0 24 "FridgeGossip$View" "lastDay" "[I", Cond.fieldLink RX0 27 "FridgeGossip$View" "dislikes" "[I", Cond.fieldLink RX0 30 "FridgeGossip$View" "state" "[I", Cond.fieldLink RX0 33 "FridgeGossip$View" "planRank" "[I", Cond.fieldLink RX0 36 "FridgeGossip$View" "planCount" "I", Cond.fieldLink RX0 40 "FridgeGossip$View" "spoiltCakes" "I", Cond.methodLink RX0 77 yJ7_fill_53178, Cond.static yJ7_fill_53178, Cond.initialized RJ7, Cond.code yJ7_fill_53178 cJ7_fill_53178 4 none]
def wsL_where_r3 : List Cond := [Cond.methodLink RX0 57 yX0_hear, Cond.instanceMethod yX0_hear, Cond.selects RX0 yX0_hear yX0_hear, Cond.code yX0_hear cX0_hear 2 none, Cond.fieldLink RX0 83 "FridgeGossip$Word" "writer" "I", Cond.fieldLink RX0 89 "FridgeGossip$Word" "firstDay" "I", Cond.fieldLink RX0 91 "FridgeGossip$Word" "lastDay" "I", Cond.fieldLink RX0 93 "FridgeGossip$Word" "dislikes" "I", Cond.methodLink RX0 86 yX0_hearTake, Cond.instanceMethod yX0_hearTake, Cond.selects RX0 yX0_hearTake yX0_hearTake, Cond.code yX0_hearTake cX0_hearTake 2 none, Cond.methodLink RX0 73 yX0_hearKeep, Cond.instanceMethod yX0_hearKeep, Cond.selects RX0 yX0_hearKeep yX0_hearKeep, Cond.code yX0_hearKeep cX0_hearKeep 4 none, Cond.methodLink RX0 95 yX0_isAhead, Cond.instanceMethod yX0_isAhead, Cond.selects RX0 yX0_isAhead yX0_isAhead, Cond.code yX0_isAhead cX0_isAhead 8 (some .boolean), Cond.methodLink RX0 99 yX0_guestsOn, Cond.instanceMethod yX0_guestsOn, Cond.selects RX0 yX0_guestsOn yX0_guestsOn, Cond.code yX0_guestsOn cX0_guestsOn 4 (some .int)]
def wsL_where_r4 : List Cond := [Cond.methodLink RX0 108 yX0_comesOn, Cond.instanceMethod yX0_comesOn, Cond.selects RX0 yX0_comesOn yX0_comesOn, Cond.code yX0_comesOn cX0_comesOn 3 (some .boolean), Cond.methodLink RX0 103 yJ6_bitCount_0f7a4, Cond.static yJ6_bitCount_0f7a4, Cond.initialized RJ6, Cond.code yJ6_bitCount_0f7a4 cJ6_bitCount_0f7a4 1 (some .int), Cond.constant RJ6 265 (1431655765), Cond.constant RJ6 266 (858993459), Cond.constant RJ6 267 (252645135)]
def wsL_where : List Cond := .codeWith yL_where cL_where 5 (some .int) [(0, 10, 13, 13)] :: ((wsL_where_r1 ++ (wsL_where_r2 ++ (wsL_where_r3 ++ wsL_where_r4))) ++ wsX30 ++ wsX00 ++ wsX20 ++ wsX10 ++ (vx_atS RX3 158 "java/lang/IndexOutOfBoundsException" ["java/lang/RuntimeException", "java/lang/Exception"]).filter goodWord)
def wsL_whereByAll_r1 : List Cond := [Cond.classLink RL 13 "java/lang/IndexOutOfBoundsException", Cond.methodLink RL 23 yX3_whereByAll, Cond.instanceMethod yX3_whereByAll, Cond.selects RX3 yX3_whereByAll yX3_whereByAll, Cond.initialized RX3, Cond.code yX3_whereByAll cX3_whereByAll 2 (some .int), Cond.fieldLink RX3 19 "FridgeGossip" "view" "LFridgeGossip$View;", Cond.fieldLink RX3 50 "FridgeGossip$View" "place" "[I", Cond.methodLink RX3 42 yX3_checkNumber, Cond.static yX3_checkNumber, Cond.code yX3_checkNumber cX3_checkNumber 2 none, Cond.classLink RX3 154 "java/lang/IndexOutOfBoundsException", Cond.initialized "java/lang/IndexOutOfBoundsException", Cond.methodLink RX3 74 yX3_lookByAll, Cond.instanceMethod yX3_lookByAll, Cond.selects RX3 yX3_lookByAll yX3_lookByAll, Cond.code yX3_lookByAll cX3_lookByAll 1 none, Cond.fieldLink RX3 12 "FridgeGossip" "chain" "LFridgeGossip$WordChain;", Cond.fieldLink RX3 35 "FridgeGossip" "dayOf" "[I", Cond.methodLink RX3 165 yX0_read, Cond.instanceMethod yX0_read, Cond.selects RX0 yX0_read yX0_read, Cond.initialized RX0, Cond.code yX0_read cX0_read 5 none]
def wsL_whereByAll_r2 : List Cond := [Cond.fieldLink RX0 46 "FridgeGossip$WordChain" "earliest" "LFridgeGossip$Word;", Cond.fieldLink RX0 52 "FridgeGossip$Word" "knownTo" "I", Cond.fieldLink RX0 61 "FridgeGossip$Word" "next" "LFridgeGossip$Word;", Cond.fieldLink RX0 64 "FridgeGossip$Word" "kind" "I", Cond.fieldLink RX0 67 "FridgeGossip$Word" "subject" "I", Cond.fieldLink RX0 70 "FridgeGossip$Word" "cake" "I", Cond.methodLink RX0 43 yX0_forget, Cond.instanceMethod yX0_forget, Cond.selects RX0 yX0_forget yX0_forget, Cond.code yX0_forget cX0_forget 1 none, Cond.fieldLink RX0 9 "FridgeGossip$View" "place" "[I", Cond.fieldLink RX0 15 "FridgeGossip$View" "claimers" "[I", Cond.fieldLink RX0 18 "FridgeGossip$View" "kept" "[I", Cond.fieldLink RX0 21 "FridgeGossip$View" "firstDay" "[I", Cond.fieldLink RX0 24 "FridgeGossip$View" "lastDay" "[I", Cond.fieldLink RX0 27 "FridgeGossip$View" "dislikes" "[I", Cond.fieldLink RX0 30 "FridgeGossip$View" "state" "[I", Cond.fieldLink RX0 33 "FridgeGossip$View" "planRank" "[I", Cond.fieldLink RX0 36 "FridgeGossip$View" "planCount" "I", Cond.fieldLink RX0 40 "FridgeGossip$View" "spoiltCakes" "I", Cond.methodLink RX0 77 yJ7_fill_53178, Cond.static yJ7_fill_53178, Cond.initialized RJ7, Cond.code yJ7_fill_53178 cJ7_fill_53178 4 none]
def wsL_whereByAll_r3 : List Cond := [Cond.methodLink RX0 57 yX0_hear, Cond.instanceMethod yX0_hear, Cond.selects RX0 yX0_hear yX0_hear, Cond.code yX0_hear cX0_hear 2 none, Cond.fieldLink RX0 83 "FridgeGossip$Word" "writer" "I", Cond.fieldLink RX0 89 "FridgeGossip$Word" "firstDay" "I", Cond.fieldLink RX0 91 "FridgeGossip$Word" "lastDay" "I", Cond.fieldLink RX0 93 "FridgeGossip$Word" "dislikes" "I", Cond.methodLink RX0 86 yX0_hearTake, Cond.instanceMethod yX0_hearTake, Cond.selects RX0 yX0_hearTake yX0_hearTake, Cond.code yX0_hearTake cX0_hearTake 2 none, Cond.methodLink RX0 73 yX0_hearKeep, Cond.instanceMethod yX0_hearKeep, Cond.selects RX0 yX0_hearKeep yX0_hearKeep, Cond.code yX0_hearKeep cX0_hearKeep 4 none, Cond.methodLink RX0 95 yX0_isAhead, Cond.instanceMethod yX0_isAhead, Cond.selects RX0 yX0_isAhead yX0_isAhead, Cond.code yX0_isAhead cX0_isAhead 8 (some .boolean), Cond.methodLink RX0 99 yX0_guestsOn, Cond.instanceMethod yX0_guestsOn, Cond.selects RX0 yX0_guestsOn yX0_guestsOn, Cond.code yX0_guestsOn cX0_guestsOn 4 (some .int)]
def wsL_whereByAll_r4 : List Cond := [Cond.methodLink RX0 108 yX0_comesOn, Cond.instanceMethod yX0_comesOn, Cond.selects RX0 yX0_comesOn yX0_comesOn, Cond.code yX0_comesOn cX0_comesOn 3 (some .boolean), Cond.methodLink RX0 103 yJ6_bitCount_0f7a4, Cond.static yJ6_bitCount_0f7a4, Cond.initialized RJ6, Cond.code yJ6_bitCount_0f7a4 cJ6_bitCount_0f7a4 1 (some .int), Cond.constant RJ6 265 (1431655765), Cond.constant RJ6 266 (858993459), Cond.constant RJ6 267 (252645135)]
def wsL_whereByAll : List Cond := .codeWith yL_whereByAll cL_whereByAll 4 (some .int) [(0, 9, 12, 13)] :: ((wsL_whereByAll_r1 ++ (wsL_whereByAll_r2 ++ (wsL_whereByAll_r3 ++ wsL_whereByAll_r4))) ++ wsX30 ++ wsX00 ++ wsX20 ++ wsX10 ++ (vx_atS RX3 158 "java/lang/IndexOutOfBoundsException" ["java/lang/RuntimeException", "java/lang/Exception"]).filter goodWord)
def wsL_count_r1 : List Cond := [Cond.classLink RL 13 "java/lang/IndexOutOfBoundsException", Cond.methodLink RL 27 yX3_count, Cond.instanceMethod yX3_count, Cond.selects RX3 yX3_count yX3_count, Cond.initialized RX3, Cond.code yX3_count cX3_count 3 (some .int), Cond.fieldLink RX3 19 "FridgeGossip" "view" "LFridgeGossip$View;", Cond.methodLink RX3 42 yX3_checkNumber, Cond.static yX3_checkNumber, Cond.code yX3_checkNumber cX3_checkNumber 2 none, Cond.classLink RX3 154 "java/lang/IndexOutOfBoundsException", Cond.initialized "java/lang/IndexOutOfBoundsException", Cond.methodLink RX3 46 yX3_lookAs, Cond.instanceMethod yX3_lookAs, Cond.selects RX3 yX3_lookAs yX3_lookAs, Cond.code yX3_lookAs cX3_lookAs 2 none, Cond.fieldLink RX3 12 "FridgeGossip" "chain" "LFridgeGossip$WordChain;", Cond.fieldLink RX3 35 "FridgeGossip" "dayOf" "[I", Cond.methodLink RX3 165 yX0_read, Cond.instanceMethod yX0_read, Cond.selects RX0 yX0_read yX0_read, Cond.initialized RX0, Cond.code yX0_read cX0_read 5 none, Cond.fieldLink RX0 46 "FridgeGossip$WordChain" "earliest" "LFridgeGossip$Word;"]
def wsL_count_r2 : List Cond := [Cond.fieldLink RX0 52 "FridgeGossip$Word" "knownTo" "I", Cond.fieldLink RX0 61 "FridgeGossip$Word" "next" "LFridgeGossip$Word;", Cond.fieldLink RX0 64 "FridgeGossip$Word" "kind" "I", Cond.fieldLink RX0 67 "FridgeGossip$Word" "subject" "I", Cond.fieldLink RX0 70 "FridgeGossip$Word" "cake" "I", Cond.methodLink RX0 43 yX0_forget, Cond.instanceMethod yX0_forget, Cond.selects RX0 yX0_forget yX0_forget, Cond.code yX0_forget cX0_forget 1 none, Cond.fieldLink RX0 9 "FridgeGossip$View" "place" "[I", Cond.fieldLink RX0 15 "FridgeGossip$View" "claimers" "[I", Cond.fieldLink RX0 18 "FridgeGossip$View" "kept" "[I", Cond.fieldLink RX0 21 "FridgeGossip$View" "firstDay" "[I", Cond.fieldLink RX0 24 "FridgeGossip$View" "lastDay" "[I", Cond.fieldLink RX0 27 "FridgeGossip$View" "dislikes" "[I", Cond.fieldLink RX0 30 "FridgeGossip$View" "state" "[I", Cond.fieldLink RX0 33 "FridgeGossip$View" "planRank" "[I", Cond.fieldLink RX0 36 "FridgeGossip$View" "planCount" "I", Cond.fieldLink RX0 40 "FridgeGossip$View" "spoiltCakes" "I", Cond.methodLink RX0 77 yJ7_fill_53178, Cond.static yJ7_fill_53178, Cond.initialized RJ7, Cond.code yJ7_fill_53178 cJ7_fill_53178 4 none, Cond.methodLink RX0 57 yX0_hear]
def wsL_count_r3 : List Cond := [Cond.instanceMethod yX0_hear, Cond.selects RX0 yX0_hear yX0_hear, Cond.code yX0_hear cX0_hear 2 none, Cond.fieldLink RX0 83 "FridgeGossip$Word" "writer" "I", Cond.fieldLink RX0 89 "FridgeGossip$Word" "firstDay" "I", Cond.fieldLink RX0 91 "FridgeGossip$Word" "lastDay" "I", Cond.fieldLink RX0 93 "FridgeGossip$Word" "dislikes" "I", Cond.methodLink RX0 86 yX0_hearTake, Cond.instanceMethod yX0_hearTake, Cond.selects RX0 yX0_hearTake yX0_hearTake, Cond.code yX0_hearTake cX0_hearTake 2 none, Cond.methodLink RX0 73 yX0_hearKeep, Cond.instanceMethod yX0_hearKeep, Cond.selects RX0 yX0_hearKeep yX0_hearKeep, Cond.code yX0_hearKeep cX0_hearKeep 4 none, Cond.methodLink RX0 95 yX0_isAhead, Cond.instanceMethod yX0_isAhead, Cond.selects RX0 yX0_isAhead yX0_isAhead, Cond.code yX0_isAhead cX0_isAhead 8 (some .boolean), Cond.methodLink RX0 99 yX0_guestsOn, Cond.instanceMethod yX0_guestsOn, Cond.selects RX0 yX0_guestsOn yX0_guestsOn, Cond.code yX0_guestsOn cX0_guestsOn 4 (some .int), Cond.methodLink RX0 108 yX0_comesOn]
def wsL_count_r4 : List Cond := [Cond.instanceMethod yX0_comesOn, Cond.selects RX0 yX0_comesOn yX0_comesOn, Cond.code yX0_comesOn cX0_comesOn 3 (some .boolean), Cond.methodLink RX0 103 yJ6_bitCount_0f7a4, Cond.static yJ6_bitCount_0f7a4, Cond.initialized RJ6, Cond.code yJ6_bitCount_0f7a4 cJ6_bitCount_0f7a4 1 (some .int), Cond.constant RJ6 265 (1431655765), Cond.constant RJ6 266 (858993459), Cond.constant RJ6 267 (252645135), Cond.methodLink RX3 77 yX0_thingsSomewhere, Cond.instanceMethod yX0_thingsSomewhere, Cond.selects RX0 yX0_thingsSomewhere yX0_thingsSomewhere, Cond.code yX0_thingsSomewhere cX0_thingsSomewhere 4 (some .int)]
def wsL_count : List Cond := .codeWith yL_count cL_count 5 (some .int) [(0, 10, 13, 13)] :: ((wsL_count_r1 ++ (wsL_count_r2 ++ (wsL_count_r3 ++ wsL_count_r4))) ++ wsX30 ++ wsX20 ++ wsX10 ++ wsX00 ++ (vx_atS RX3 158 "java/lang/IndexOutOfBoundsException" ["java/lang/RuntimeException", "java/lang/Exception"]).filter goodWord)
def wsL_countByAll_r1 : List Cond := [Cond.classLink RL 13 "java/lang/IndexOutOfBoundsException", Cond.methodLink RL 30 yX3_countByAll, Cond.instanceMethod yX3_countByAll, Cond.selects RX3 yX3_countByAll yX3_countByAll, Cond.initialized RX3, Cond.code yX3_countByAll cX3_countByAll 2 (some .int), Cond.fieldLink RX3 19 "FridgeGossip" "view" "LFridgeGossip$View;", Cond.methodLink RX3 42 yX3_checkNumber, Cond.static yX3_checkNumber, Cond.code yX3_checkNumber cX3_checkNumber 2 none, Cond.classLink RX3 154 "java/lang/IndexOutOfBoundsException", Cond.initialized "java/lang/IndexOutOfBoundsException", Cond.methodLink RX3 74 yX3_lookByAll, Cond.instanceMethod yX3_lookByAll, Cond.selects RX3 yX3_lookByAll yX3_lookByAll, Cond.code yX3_lookByAll cX3_lookByAll 1 none, Cond.fieldLink RX3 12 "FridgeGossip" "chain" "LFridgeGossip$WordChain;", Cond.fieldLink RX3 35 "FridgeGossip" "dayOf" "[I", Cond.methodLink RX3 165 yX0_read, Cond.instanceMethod yX0_read, Cond.selects RX0 yX0_read yX0_read, Cond.initialized RX0, Cond.code yX0_read cX0_read 5 none, Cond.fieldLink RX0 46 "FridgeGossip$WordChain" "earliest" "LFridgeGossip$Word;"]
def wsL_countByAll_r2 : List Cond := [Cond.fieldLink RX0 52 "FridgeGossip$Word" "knownTo" "I", Cond.fieldLink RX0 61 "FridgeGossip$Word" "next" "LFridgeGossip$Word;", Cond.fieldLink RX0 64 "FridgeGossip$Word" "kind" "I", Cond.fieldLink RX0 67 "FridgeGossip$Word" "subject" "I", Cond.fieldLink RX0 70 "FridgeGossip$Word" "cake" "I", Cond.methodLink RX0 43 yX0_forget, Cond.instanceMethod yX0_forget, Cond.selects RX0 yX0_forget yX0_forget, Cond.code yX0_forget cX0_forget 1 none, Cond.fieldLink RX0 9 "FridgeGossip$View" "place" "[I", Cond.fieldLink RX0 15 "FridgeGossip$View" "claimers" "[I", Cond.fieldLink RX0 18 "FridgeGossip$View" "kept" "[I", Cond.fieldLink RX0 21 "FridgeGossip$View" "firstDay" "[I", Cond.fieldLink RX0 24 "FridgeGossip$View" "lastDay" "[I", Cond.fieldLink RX0 27 "FridgeGossip$View" "dislikes" "[I", Cond.fieldLink RX0 30 "FridgeGossip$View" "state" "[I", Cond.fieldLink RX0 33 "FridgeGossip$View" "planRank" "[I", Cond.fieldLink RX0 36 "FridgeGossip$View" "planCount" "I", Cond.fieldLink RX0 40 "FridgeGossip$View" "spoiltCakes" "I", Cond.methodLink RX0 77 yJ7_fill_53178, Cond.static yJ7_fill_53178, Cond.initialized RJ7, Cond.code yJ7_fill_53178 cJ7_fill_53178 4 none, Cond.methodLink RX0 57 yX0_hear]
def wsL_countByAll_r3 : List Cond := [Cond.instanceMethod yX0_hear, Cond.selects RX0 yX0_hear yX0_hear, Cond.code yX0_hear cX0_hear 2 none, Cond.fieldLink RX0 83 "FridgeGossip$Word" "writer" "I", Cond.fieldLink RX0 89 "FridgeGossip$Word" "firstDay" "I", Cond.fieldLink RX0 91 "FridgeGossip$Word" "lastDay" "I", Cond.fieldLink RX0 93 "FridgeGossip$Word" "dislikes" "I", Cond.methodLink RX0 86 yX0_hearTake, Cond.instanceMethod yX0_hearTake, Cond.selects RX0 yX0_hearTake yX0_hearTake, Cond.code yX0_hearTake cX0_hearTake 2 none, Cond.methodLink RX0 73 yX0_hearKeep, Cond.instanceMethod yX0_hearKeep, Cond.selects RX0 yX0_hearKeep yX0_hearKeep, Cond.code yX0_hearKeep cX0_hearKeep 4 none, Cond.methodLink RX0 95 yX0_isAhead, Cond.instanceMethod yX0_isAhead, Cond.selects RX0 yX0_isAhead yX0_isAhead, Cond.code yX0_isAhead cX0_isAhead 8 (some .boolean), Cond.methodLink RX0 99 yX0_guestsOn, Cond.instanceMethod yX0_guestsOn, Cond.selects RX0 yX0_guestsOn yX0_guestsOn, Cond.code yX0_guestsOn cX0_guestsOn 4 (some .int), Cond.methodLink RX0 108 yX0_comesOn]
def wsL_countByAll_r4 : List Cond := [Cond.instanceMethod yX0_comesOn, Cond.selects RX0 yX0_comesOn yX0_comesOn, Cond.code yX0_comesOn cX0_comesOn 3 (some .boolean), Cond.methodLink RX0 103 yJ6_bitCount_0f7a4, Cond.static yJ6_bitCount_0f7a4, Cond.initialized RJ6, Cond.code yJ6_bitCount_0f7a4 cJ6_bitCount_0f7a4 1 (some .int), Cond.constant RJ6 265 (1431655765), Cond.constant RJ6 266 (858993459), Cond.constant RJ6 267 (252645135), Cond.methodLink RX3 77 yX0_thingsSomewhere, Cond.instanceMethod yX0_thingsSomewhere, Cond.selects RX0 yX0_thingsSomewhere yX0_thingsSomewhere, Cond.code yX0_thingsSomewhere cX0_thingsSomewhere 4 (some .int)]
def wsL_countByAll : List Cond := .codeWith yL_countByAll cL_countByAll 4 (some .int) [(0, 9, 12, 13)] :: ((wsL_countByAll_r1 ++ (wsL_countByAll_r2 ++ (wsL_countByAll_r3 ++ wsL_countByAll_r4))) ++ wsX30 ++ wsX20 ++ wsX10 ++ wsX00 ++ (vx_atS RX3 158 "java/lang/IndexOutOfBoundsException" ["java/lang/RuntimeException", "java/lang/Exception"]).filter goodWord)
def wsL_claims_r1 : List Cond := [Cond.classLink RL 13 "java/lang/IndexOutOfBoundsException", Cond.methodLink RL 33 yX3_claims, Cond.instanceMethod yX3_claims, Cond.selects RX3 yX3_claims yX3_claims, Cond.initialized RX3, Cond.code yX3_claims cX3_claims 3 (some .int), Cond.fieldLink RX3 19 "FridgeGossip" "view" "LFridgeGossip$View;", Cond.methodLink RX3 42 yX3_checkNumber, Cond.static yX3_checkNumber, Cond.code yX3_checkNumber cX3_checkNumber 2 none, Cond.classLink RX3 154 "java/lang/IndexOutOfBoundsException", Cond.initialized "java/lang/IndexOutOfBoundsException", Cond.methodLink RX3 46 yX3_lookAs, Cond.instanceMethod yX3_lookAs, Cond.selects RX3 yX3_lookAs yX3_lookAs, Cond.code yX3_lookAs cX3_lookAs 2 none, Cond.fieldLink RX3 12 "FridgeGossip" "chain" "LFridgeGossip$WordChain;", Cond.fieldLink RX3 35 "FridgeGossip" "dayOf" "[I", Cond.methodLink RX3 165 yX0_read, Cond.instanceMethod yX0_read, Cond.selects RX0 yX0_read yX0_read, Cond.initialized RX0, Cond.code yX0_read cX0_read 5 none, Cond.fieldLink RX0 46 "FridgeGossip$WordChain" "earliest" "LFridgeGossip$Word;"]
def wsL_claims_r2 : List Cond := [Cond.fieldLink RX0 52 "FridgeGossip$Word" "knownTo" "I", Cond.fieldLink RX0 61 "FridgeGossip$Word" "next" "LFridgeGossip$Word;", Cond.fieldLink RX0 64 "FridgeGossip$Word" "kind" "I", Cond.fieldLink RX0 67 "FridgeGossip$Word" "subject" "I", Cond.fieldLink RX0 70 "FridgeGossip$Word" "cake" "I", Cond.methodLink RX0 43 yX0_forget, Cond.instanceMethod yX0_forget, Cond.selects RX0 yX0_forget yX0_forget, Cond.code yX0_forget cX0_forget 1 none, Cond.fieldLink RX0 9 "FridgeGossip$View" "place" "[I", Cond.fieldLink RX0 15 "FridgeGossip$View" "claimers" "[I", Cond.fieldLink RX0 18 "FridgeGossip$View" "kept" "[I", Cond.fieldLink RX0 21 "FridgeGossip$View" "firstDay" "[I", Cond.fieldLink RX0 24 "FridgeGossip$View" "lastDay" "[I", Cond.fieldLink RX0 27 "FridgeGossip$View" "dislikes" "[I", Cond.fieldLink RX0 30 "FridgeGossip$View" "state" "[I", Cond.fieldLink RX0 33 "FridgeGossip$View" "planRank" "[I", Cond.fieldLink RX0 36 "FridgeGossip$View" "planCount" "I", Cond.fieldLink RX0 40 "FridgeGossip$View" "spoiltCakes" "I", Cond.methodLink RX0 77 yJ7_fill_53178, Cond.static yJ7_fill_53178, Cond.initialized RJ7, Cond.code yJ7_fill_53178 cJ7_fill_53178 4 none, Cond.methodLink RX0 57 yX0_hear]
def wsL_claims_r3 : List Cond := [Cond.instanceMethod yX0_hear, Cond.selects RX0 yX0_hear yX0_hear, Cond.code yX0_hear cX0_hear 2 none, Cond.fieldLink RX0 83 "FridgeGossip$Word" "writer" "I", Cond.fieldLink RX0 89 "FridgeGossip$Word" "firstDay" "I", Cond.fieldLink RX0 91 "FridgeGossip$Word" "lastDay" "I", Cond.fieldLink RX0 93 "FridgeGossip$Word" "dislikes" "I", Cond.methodLink RX0 86 yX0_hearTake, Cond.instanceMethod yX0_hearTake, Cond.selects RX0 yX0_hearTake yX0_hearTake, Cond.code yX0_hearTake cX0_hearTake 2 none, Cond.methodLink RX0 73 yX0_hearKeep, Cond.instanceMethod yX0_hearKeep, Cond.selects RX0 yX0_hearKeep yX0_hearKeep, Cond.code yX0_hearKeep cX0_hearKeep 4 none, Cond.methodLink RX0 95 yX0_isAhead, Cond.instanceMethod yX0_isAhead, Cond.selects RX0 yX0_isAhead yX0_isAhead, Cond.code yX0_isAhead cX0_isAhead 8 (some .boolean), Cond.methodLink RX0 99 yX0_guestsOn, Cond.instanceMethod yX0_guestsOn, Cond.selects RX0 yX0_guestsOn yX0_guestsOn, Cond.code yX0_guestsOn cX0_guestsOn 4 (some .int), Cond.methodLink RX0 108 yX0_comesOn]
def wsL_claims_r4 : List Cond := [Cond.instanceMethod yX0_comesOn, Cond.selects RX0 yX0_comesOn yX0_comesOn, Cond.code yX0_comesOn cX0_comesOn 3 (some .boolean), Cond.methodLink RX0 103 yJ6_bitCount_0f7a4, Cond.static yJ6_bitCount_0f7a4, Cond.initialized RJ6, Cond.code yJ6_bitCount_0f7a4 cJ6_bitCount_0f7a4 1 (some .int), Cond.constant RJ6 265 (1431655765), Cond.constant RJ6 266 (858993459), Cond.constant RJ6 267 (252645135), Cond.methodLink RX3 81 yX0_wrongClaimers, Cond.instanceMethod yX0_wrongClaimers, Cond.selects RX0 yX0_wrongClaimers yX0_wrongClaimers, Cond.code yX0_wrongClaimers cX0_wrongClaimers 3 (some .int)]
def wsL_claims : List Cond := .codeWith yL_claims cL_claims 5 (some .int) [(0, 10, 13, 13)] :: ((wsL_claims_r1 ++ (wsL_claims_r2 ++ (wsL_claims_r3 ++ wsL_claims_r4))) ++ wsX30 ++ wsX20 ++ wsX10 ++ wsX00 ++ (vx_atS RX3 158 "java/lang/IndexOutOfBoundsException" ["java/lang/RuntimeException", "java/lang/Exception"]).filter goodWord)
def wsL_meet_r1 : List Cond := [Cond.classLink RL 13 "java/lang/IndexOutOfBoundsException", Cond.classLink RL 39 "java/lang/IllegalArgumentException", Cond.methodLink RL 36 yX3_meet, Cond.instanceMethod yX3_meet, Cond.selects RX3 yX3_meet yX3_meet, Cond.initialized RX3, Cond.code yX3_meet cX3_meet 4 (some .int), Cond.classLink RX3 84 "java/lang/IllegalArgumentException", Cond.initialized "java/lang/IllegalArgumentException", Cond.fieldLink RX3 23 "FridgeGossip" "clocks" "[I", Cond.methodLink RX3 89 Lib.Math.max.name, Cond.static Lib.Math.max.name, Cond.initialized "java/lang/Math", Cond.code Lib.Math.max.name Lib.Math.max.code 2 (some .int), Cond.fieldLink RX3 12 "FridgeGossip" "chain" "LFridgeGossip$WordChain;", Cond.methodLink RX3 42 yX3_checkNumber, Cond.static yX3_checkNumber, Cond.code yX3_checkNumber cX3_checkNumber 2 none, Cond.classLink RX3 154 "java/lang/IndexOutOfBoundsException", Cond.initialized "java/lang/IndexOutOfBoundsException", Cond.methodLink RX3 95 yX2_shareAmong, Cond.instanceMethod yX2_shareAmong, Cond.selects RX2 yX2_shareAmong yX2_shareAmong, Cond.initialized RX2]
def wsL_meet_r2 : List Cond := [Cond.code yX2_shareAmong cX2_shareAmong 5 (some .int), Cond.fieldLink RX2 7 "FridgeGossip$WordChain" "earliest" "LFridgeGossip$Word;", Cond.fieldLink RX2 26 "FridgeGossip$Word" "knownTo" "I", Cond.fieldLink RX2 23 "FridgeGossip$Word" "next" "LFridgeGossip$Word;"]
def wsL_meet : List Cond := .codeWith yL_meet cL_meet 5 (some .int) [(0, 10, 13, 13), (0, 10, 17, 39)] :: ((wsL_meet_r1 ++ wsL_meet_r2) ++ wsX30 ++ wsX20 ++ wsX10 ++ (vx_atS RX3 88 "java/lang/IllegalArgumentException" ["java/lang/RuntimeException", "java/lang/Exception"]).filter goodWord ++ (vx_atS RX3 158 "java/lang/IndexOutOfBoundsException" ["java/lang/RuntimeException", "java/lang/Exception"]).filter goodWord)
def wsL_known : List Cond := .codeWith yL_known cL_known 4 (some .int) [(0, 9, 12, 13)] :: ([.classLink RL 13 "java/lang/IndexOutOfBoundsException", .methodLink RL 41 yX3_known, .instanceMethod yX3_known, .selects RX3 yX3_known yX3_known, .initialized RX3, .code yX3_known cX3_known 2 (some .int), .fieldLink RX3 12 "FridgeGossip" "chain" "LFridgeGossip$WordChain;", .methodLink RX3 42 yX3_checkNumber, .static yX3_checkNumber, .code yX3_checkNumber cX3_checkNumber 2 none, .classLink RX3 154 "java/lang/IndexOutOfBoundsException", .initialized "java/lang/IndexOutOfBoundsException", .methodLink RX3 101 yX2_sizeKnownTo, .instanceMethod yX2_sizeKnownTo, .selects RX2 yX2_sizeKnownTo yX2_sizeKnownTo, .initialized RX2, .code yX2_sizeKnownTo cX2_sizeKnownTo 4 (some .int), .fieldLink RX2 7 "FridgeGossip$WordChain" "earliest" "LFridgeGossip$Word;", .fieldLink RX2 26 "FridgeGossip$Word" "knownTo" "I", .fieldLink RX2 23 "FridgeGossip$Word" "next" "LFridgeGossip$Word;"] ++ wsX30 ++ wsX20 ++ wsX10 ++ (vx_atS RX3 158 "java/lang/IndexOutOfBoundsException" ["java/lang/RuntimeException", "java/lang/Exception"]).filter goodWord)
def wsL_clock : List Cond := .codeWith yL_clock cL_clock 4 (some .int) [(0, 9, 12, 13)] :: ([.classLink RL 13 "java/lang/IndexOutOfBoundsException", .methodLink RL 44 yX3_clock, .instanceMethod yX3_clock, .selects RX3 yX3_clock yX3_clock, .initialized RX3, .code yX3_clock cX3_clock 2 (some .int), .fieldLink RX3 23 "FridgeGossip" "clocks" "[I", .methodLink RX3 42 yX3_checkNumber, .static yX3_checkNumber, .code yX3_checkNumber cX3_checkNumber 2 none, .classLink RX3 154 "java/lang/IndexOutOfBoundsException", .initialized "java/lang/IndexOutOfBoundsException"] ++ wsX30 ++ (vx_atS RX3 158 "java/lang/IndexOutOfBoundsException" ["java/lang/RuntimeException", "java/lang/Exception"]).filter goodWord)
def wsL_guest_r1 : List Cond := [Cond.classLink RL 13 "java/lang/IndexOutOfBoundsException", Cond.classLink RL 39 "java/lang/IllegalArgumentException", Cond.classLink RL 15 "java/lang/IllegalStateException", Cond.methodLink RL 47 yX3_guest, Cond.instanceMethod yX3_guest, Cond.selects RX3 yX3_guest yX3_guest, Cond.initialized RX3, Cond.code yX3_guest cX3_guest 7 (some .int), Cond.fieldLink RX3 108 "FridgeGossip$Word" "firstDay" "I", Cond.fieldLink RX3 111 "FridgeGossip$Word" "lastDay" "I", Cond.fieldLink RX3 114 "FridgeGossip$Word" "dislikes" "I", Cond.fieldLink RX3 69 "FridgeGossip$Word" "stamp" "I", Cond.methodLink RX3 42 yX3_checkNumber, Cond.static yX3_checkNumber, Cond.code yX3_checkNumber cX3_checkNumber 2 none, Cond.classLink RX3 154 "java/lang/IndexOutOfBoundsException", Cond.initialized "java/lang/IndexOutOfBoundsException", Cond.methodLink RX3 104 yX3_checkRange, Cond.static yX3_checkRange, Cond.code yX3_checkRange cX3_checkRange 3 none, Cond.classLink RX3 84 "java/lang/IllegalArgumentException", Cond.initialized "java/lang/IllegalArgumentException", Cond.methodLink RX3 60 yX3_checkRoomFor, Cond.instanceMethod yX3_checkRoomFor]
def wsL_guest_r2 : List Cond := [Cond.selects RX3 yX3_checkRoomFor yX3_checkRoomFor, Cond.code yX3_checkRoomFor cX3_checkRoomFor 2 none, Cond.classLink RX3 53 "java/lang/IllegalStateException", Cond.initialized "java/lang/IllegalStateException", Cond.fieldLink RX3 12 "FridgeGossip" "chain" "LFridgeGossip$WordChain;", Cond.fieldLink RX3 98 "FridgeGossip$WordChain" "size" "I", Cond.methodLink RX3 65 yX3_write, Cond.instanceMethod yX3_write, Cond.selects RX3 yX3_write yX3_write, Cond.code yX3_write cX3_write 6 (some (.object "FridgeGossip$Word")), Cond.fieldLink RX3 23 "FridgeGossip" "clocks" "[I", Cond.classLink RX3 63 RX1, Cond.instantiable RX1 10, Cond.initialized RX1, Cond.methodLink RX3 169 yX1_init, Cond.instanceMethod yX1_init, Cond.code yX1_init cX1_init 6 none, Cond.methodLink RX1 1 objectInit, Cond.instanceMethod objectInit, Cond.code objectInit ⟨#[0xb1]⟩ 1 none, Cond.fieldLink RX1 7 "FridgeGossip$Word" "firstDay" "I", Cond.fieldLink RX1 13 "FridgeGossip$Word" "lastDay" "I", Cond.fieldLink RX1 16 "FridgeGossip$Word" "dislikes" "I", Cond.fieldLink RX1 19 "FridgeGossip$Word" "next" "LFridgeGossip$Word;"]
def wsL_guest_r3 : List Cond := [Cond.fieldLink RX1 23 "FridgeGossip$Word" "kind" "I", Cond.fieldLink RX1 26 "FridgeGossip$Word" "stamp" "I", Cond.fieldLink RX1 29 "FridgeGossip$Word" "writer" "I", Cond.fieldLink RX1 32 "FridgeGossip$Word" "subject" "I", Cond.fieldLink RX1 35 "FridgeGossip$Word" "cake" "I", Cond.fieldLink RX1 38 "FridgeGossip$Word" "knownTo" "I", Cond.methodLink RX3 172 yX2_insert, Cond.instanceMethod yX2_insert, Cond.selects RX2 yX2_insert yX2_insert, Cond.initialized RX2, Cond.code yX2_insert cX2_insert 4 none, Cond.fieldLink RX2 7 "FridgeGossip$WordChain" "earliest" "LFridgeGossip$Word;", Cond.fieldLink RX2 23 "FridgeGossip$Word" "next" "LFridgeGossip$Word;", Cond.fieldLink RX2 13 "FridgeGossip$WordChain" "size" "I", Cond.methodLink RX2 17 yX1_isLaterThan, Cond.instanceMethod yX1_isLaterThan, Cond.selects RX1 yX1_isLaterThan yX1_isLaterThan, Cond.code yX1_isLaterThan cX1_isLaterThan 2 (some .boolean)]
def wsL_guest : List Cond := .codeWith yL_guest cL_guest 8 (some .int) [(0, 16, 19, 13), (0, 16, 23, 39), (0, 16, 27, 15)] :: ((wsL_guest_r1 ++ (wsL_guest_r2 ++ wsL_guest_r3)) ++ wsX10 ++ wsX30 ++ wsX20 ++ (vx_atS RX3 158 "java/lang/IndexOutOfBoundsException" ["java/lang/RuntimeException", "java/lang/Exception"]).filter goodWord ++ (vx_atS RX3 88 "java/lang/IllegalArgumentException" ["java/lang/RuntimeException", "java/lang/Exception"]).filter goodWord ++ (vx_atS RX3 57 "java/lang/IllegalStateException" ["java/lang/RuntimeException", "java/lang/Exception"]).filter goodWord)
def wsL_guests_r1 : List Cond := [Cond.classLink RL 13 "java/lang/IndexOutOfBoundsException", Cond.classLink RL 39 "java/lang/IllegalArgumentException", Cond.methodLink RL 51 yX3_guests, Cond.instanceMethod yX3_guests, Cond.selects RX3 yX3_guests yX3_guests, Cond.initialized RX3, Cond.code yX3_guests cX3_guests 3 (some .int), Cond.fieldLink RX3 19 "FridgeGossip" "view" "LFridgeGossip$View;", Cond.methodLink RX3 42 yX3_checkNumber, Cond.static yX3_checkNumber, Cond.code yX3_checkNumber cX3_checkNumber 2 none, Cond.classLink RX3 154 "java/lang/IndexOutOfBoundsException", Cond.initialized "java/lang/IndexOutOfBoundsException", Cond.methodLink RX3 104 yX3_checkRange, Cond.static yX3_checkRange, Cond.code yX3_checkRange cX3_checkRange 3 none, Cond.classLink RX3 84 "java/lang/IllegalArgumentException", Cond.initialized "java/lang/IllegalArgumentException", Cond.methodLink RX3 46 yX3_lookAs, Cond.instanceMethod yX3_lookAs, Cond.selects RX3 yX3_lookAs yX3_lookAs, Cond.code yX3_lookAs cX3_lookAs 2 none, Cond.fieldLink RX3 12 "FridgeGossip" "chain" "LFridgeGossip$WordChain;", Cond.fieldLink RX3 35 "FridgeGossip" "dayOf" "[I"]
def wsL_guests_r2 : List Cond := [Cond.methodLink RX3 165 yX0_read, Cond.instanceMethod yX0_read, Cond.selects RX0 yX0_read yX0_read, Cond.initialized RX0, Cond.code yX0_read cX0_read 5 none, Cond.fieldLink RX0 46 "FridgeGossip$WordChain" "earliest" "LFridgeGossip$Word;", Cond.fieldLink RX0 52 "FridgeGossip$Word" "knownTo" "I", Cond.fieldLink RX0 61 "FridgeGossip$Word" "next" "LFridgeGossip$Word;", Cond.fieldLink RX0 64 "FridgeGossip$Word" "kind" "I", Cond.fieldLink RX0 67 "FridgeGossip$Word" "subject" "I", Cond.fieldLink RX0 70 "FridgeGossip$Word" "cake" "I", Cond.methodLink RX0 43 yX0_forget, Cond.instanceMethod yX0_forget, Cond.selects RX0 yX0_forget yX0_forget, Cond.code yX0_forget cX0_forget 1 none, Cond.fieldLink RX0 9 "FridgeGossip$View" "place" "[I", Cond.fieldLink RX0 15 "FridgeGossip$View" "claimers" "[I", Cond.fieldLink RX0 18 "FridgeGossip$View" "kept" "[I", Cond.fieldLink RX0 21 "FridgeGossip$View" "firstDay" "[I", Cond.fieldLink RX0 24 "FridgeGossip$View" "lastDay" "[I", Cond.fieldLink RX0 27 "FridgeGossip$View" "dislikes" "[I", Cond.fieldLink RX0 30 "FridgeGossip$View" "state" "[I", Cond.fieldLink RX0 33 "FridgeGossip$View" "planRank" "[I", Cond.fieldLink RX0 36 "FridgeGossip$View" "planCount" "I"]
def wsL_guests_r3 : List Cond := [Cond.fieldLink RX0 40 "FridgeGossip$View" "spoiltCakes" "I", Cond.methodLink RX0 77 yJ7_fill_53178, Cond.static yJ7_fill_53178, Cond.initialized RJ7, Cond.code yJ7_fill_53178 cJ7_fill_53178 4 none, Cond.methodLink RX0 57 yX0_hear, Cond.instanceMethod yX0_hear, Cond.selects RX0 yX0_hear yX0_hear, Cond.code yX0_hear cX0_hear 2 none, Cond.fieldLink RX0 83 "FridgeGossip$Word" "writer" "I", Cond.fieldLink RX0 89 "FridgeGossip$Word" "firstDay" "I", Cond.fieldLink RX0 91 "FridgeGossip$Word" "lastDay" "I", Cond.fieldLink RX0 93 "FridgeGossip$Word" "dislikes" "I", Cond.methodLink RX0 86 yX0_hearTake, Cond.instanceMethod yX0_hearTake, Cond.selects RX0 yX0_hearTake yX0_hearTake, Cond.code yX0_hearTake cX0_hearTake 2 none, Cond.methodLink RX0 73 yX0_hearKeep, Cond.instanceMethod yX0_hearKeep, Cond.selects RX0 yX0_hearKeep yX0_hearKeep, Cond.code yX0_hearKeep cX0_hearKeep 4 none, Cond.methodLink RX0 95 yX0_isAhead, Cond.instanceMethod yX0_isAhead, Cond.selects RX0 yX0_isAhead yX0_isAhead]
def wsL_guests_r4 : List Cond := [Cond.code yX0_isAhead cX0_isAhead 8 (some .boolean), Cond.methodLink RX0 99 yX0_guestsOn, Cond.instanceMethod yX0_guestsOn, Cond.selects RX0 yX0_guestsOn yX0_guestsOn, Cond.code yX0_guestsOn cX0_guestsOn 4 (some .int), Cond.methodLink RX0 108 yX0_comesOn, Cond.instanceMethod yX0_comesOn, Cond.selects RX0 yX0_comesOn yX0_comesOn, Cond.code yX0_comesOn cX0_comesOn 3 (some .boolean), Cond.methodLink RX0 103 yJ6_bitCount_0f7a4, Cond.static yJ6_bitCount_0f7a4, Cond.initialized RJ6, Cond.code yJ6_bitCount_0f7a4 cJ6_bitCount_0f7a4 1 (some .int), Cond.constant RJ6 265 (1431655765), Cond.constant RJ6 266 (858993459), Cond.constant RJ6 267 (252645135), Cond.methodLink RX3 117 yX0_guestsOn]
def wsL_guests : List Cond := .codeWith yL_guests cL_guests 5 (some .int) [(0, 10, 13, 13), (0, 10, 17, 39)] :: ((wsL_guests_r1 ++ (wsL_guests_r2 ++ (wsL_guests_r3 ++ wsL_guests_r4))) ++ wsX30 ++ wsX20 ++ wsX10 ++ wsX00 ++ (vx_atS RX3 158 "java/lang/IndexOutOfBoundsException" ["java/lang/RuntimeException", "java/lang/Exception"]).filter goodWord ++ (vx_atS RX3 88 "java/lang/IllegalArgumentException" ["java/lang/RuntimeException", "java/lang/Exception"]).filter goodWord)
def wsL_setNeed : List Cond := .codeWith yL_setNeed cL_setNeed 6 (some .int) [(0, 12, 15, 13), (0, 12, 19, 39)] :: ([.classLink RL 13 "java/lang/IndexOutOfBoundsException", .classLink RL 39 "java/lang/IllegalArgumentException", .methodLink RL 54 yX3_setNeed, .instanceMethod yX3_setNeed, .selects RX3 yX3_setNeed yX3_setNeed, .initialized RX3, .code yX3_setNeed cX3_setNeed 5 (some .int), .fieldLink RX3 29 "FridgeGossip" "needs" "[[I", .methodLink RX3 42 yX3_checkNumber, .static yX3_checkNumber, .code yX3_checkNumber cX3_checkNumber 2 none, .classLink RX3 154 "java/lang/IndexOutOfBoundsException", .initialized "java/lang/IndexOutOfBoundsException", .methodLink RX3 104 yX3_checkRange, .static yX3_checkRange, .code yX3_checkRange cX3_checkRange 3 none, .classLink RX3 84 "java/lang/IllegalArgumentException", .initialized "java/lang/IllegalArgumentException"] ++ wsX30 ++ (vx_atS RX3 158 "java/lang/IndexOutOfBoundsException" ["java/lang/RuntimeException", "java/lang/Exception"]).filter goodWord ++ (vx_atS RX3 88 "java/lang/IllegalArgumentException" ["java/lang/RuntimeException", "java/lang/Exception"]).filter goodWord)
def wsL_plan_r1 : List Cond := [Cond.classLink RL 13 "java/lang/IndexOutOfBoundsException", Cond.classLink RL 39 "java/lang/IllegalArgumentException", Cond.classLink RL 15 "java/lang/IllegalStateException", Cond.methodLink RL 58 yX3_plan, Cond.instanceMethod yX3_plan, Cond.selects RX3 yX3_plan yX3_plan, Cond.initialized RX3, Cond.code yX3_plan cX3_plan 5 (some .int), Cond.classLink RX3 53 "java/lang/IllegalStateException", Cond.initialized "java/lang/IllegalStateException", Cond.fieldLink RX3 38 "FridgeGossip" "cakeCount" "I", Cond.fieldLink RX3 32 "FridgeGossip" "recipeOf" "[I", Cond.fieldLink RX3 35 "FridgeGossip" "dayOf" "[I", Cond.methodLink RX3 42 yX3_checkNumber, Cond.static yX3_checkNumber, Cond.code yX3_checkNumber cX3_checkNumber 2 none, Cond.classLink RX3 154 "java/lang/IndexOutOfBoundsException", Cond.initialized "java/lang/IndexOutOfBoundsException", Cond.methodLink RX3 104 yX3_checkRange, Cond.static yX3_checkRange, Cond.code yX3_checkRange cX3_checkRange 3 none, Cond.classLink RX3 84 "java/lang/IllegalArgumentException", Cond.initialized "java/lang/IllegalArgumentException", Cond.methodLink RX3 46 yX3_lookAs]
def wsL_plan_r2 : List Cond := [Cond.instanceMethod yX3_lookAs, Cond.selects RX3 yX3_lookAs yX3_lookAs, Cond.code yX3_lookAs cX3_lookAs 2 none, Cond.fieldLink RX3 19 "FridgeGossip" "view" "LFridgeGossip$View;", Cond.fieldLink RX3 12 "FridgeGossip" "chain" "LFridgeGossip$WordChain;", Cond.methodLink RX3 165 yX0_read, Cond.instanceMethod yX0_read, Cond.selects RX0 yX0_read yX0_read, Cond.initialized RX0, Cond.code yX0_read cX0_read 5 none, Cond.fieldLink RX0 46 "FridgeGossip$WordChain" "earliest" "LFridgeGossip$Word;", Cond.fieldLink RX0 52 "FridgeGossip$Word" "knownTo" "I", Cond.fieldLink RX0 61 "FridgeGossip$Word" "next" "LFridgeGossip$Word;", Cond.fieldLink RX0 64 "FridgeGossip$Word" "kind" "I", Cond.fieldLink RX0 67 "FridgeGossip$Word" "subject" "I", Cond.fieldLink RX0 70 "FridgeGossip$Word" "cake" "I", Cond.methodLink RX0 43 yX0_forget, Cond.instanceMethod yX0_forget, Cond.selects RX0 yX0_forget yX0_forget, Cond.code yX0_forget cX0_forget 1 none, Cond.fieldLink RX0 9 "FridgeGossip$View" "place" "[I", Cond.fieldLink RX0 15 "FridgeGossip$View" "claimers" "[I", Cond.fieldLink RX0 18 "FridgeGossip$View" "kept" "[I", Cond.fieldLink RX0 21 "FridgeGossip$View" "firstDay" "[I"]
def wsL_plan_r3 : List Cond := [Cond.fieldLink RX0 24 "FridgeGossip$View" "lastDay" "[I", Cond.fieldLink RX0 27 "FridgeGossip$View" "dislikes" "[I", Cond.fieldLink RX0 30 "FridgeGossip$View" "state" "[I", Cond.fieldLink RX0 33 "FridgeGossip$View" "planRank" "[I", Cond.fieldLink RX0 36 "FridgeGossip$View" "planCount" "I", Cond.fieldLink RX0 40 "FridgeGossip$View" "spoiltCakes" "I", Cond.methodLink RX0 77 yJ7_fill_53178, Cond.static yJ7_fill_53178, Cond.initialized RJ7, Cond.code yJ7_fill_53178 cJ7_fill_53178 4 none, Cond.methodLink RX0 57 yX0_hear, Cond.instanceMethod yX0_hear, Cond.selects RX0 yX0_hear yX0_hear, Cond.code yX0_hear cX0_hear 2 none, Cond.fieldLink RX0 83 "FridgeGossip$Word" "writer" "I", Cond.fieldLink RX0 89 "FridgeGossip$Word" "firstDay" "I", Cond.fieldLink RX0 91 "FridgeGossip$Word" "lastDay" "I", Cond.fieldLink RX0 93 "FridgeGossip$Word" "dislikes" "I", Cond.methodLink RX0 86 yX0_hearTake, Cond.instanceMethod yX0_hearTake, Cond.selects RX0 yX0_hearTake yX0_hearTake, Cond.code yX0_hearTake cX0_hearTake 2 none, Cond.methodLink RX0 73 yX0_hearKeep, Cond.instanceMethod yX0_hearKeep]
def wsL_plan_r4 : List Cond := [Cond.selects RX0 yX0_hearKeep yX0_hearKeep, Cond.code yX0_hearKeep cX0_hearKeep 4 none, Cond.methodLink RX0 95 yX0_isAhead, Cond.instanceMethod yX0_isAhead, Cond.selects RX0 yX0_isAhead yX0_isAhead, Cond.code yX0_isAhead cX0_isAhead 8 (some .boolean), Cond.methodLink RX0 99 yX0_guestsOn, Cond.instanceMethod yX0_guestsOn, Cond.selects RX0 yX0_guestsOn yX0_guestsOn, Cond.code yX0_guestsOn cX0_guestsOn 4 (some .int), Cond.methodLink RX0 108 yX0_comesOn, Cond.instanceMethod yX0_comesOn, Cond.selects RX0 yX0_comesOn yX0_comesOn, Cond.code yX0_comesOn cX0_comesOn 3 (some .boolean), Cond.methodLink RX0 103 yJ6_bitCount_0f7a4, Cond.static yJ6_bitCount_0f7a4, Cond.initialized RJ6, Cond.code yJ6_bitCount_0f7a4 cJ6_bitCount_0f7a4 1 (some .int), Cond.constant RJ6 265 (1431655765), Cond.constant RJ6 266 (858993459), Cond.constant RJ6 267 (252645135), Cond.methodLink RX3 120 yX3_isDisliked, Cond.instanceMethod yX3_isDisliked, Cond.selects RX3 yX3_isDisliked yX3_isDisliked]
def wsL_plan_r5 : List Cond := [Cond.code yX3_isDisliked cX3_isDisliked 5 (some .boolean), Cond.fieldLink RX3 29 "FridgeGossip" "needs" "[[I", Cond.methodLink RX3 176 yX0_dislikedOn, Cond.instanceMethod yX0_dislikedOn, Cond.selects RX0 yX0_dislikedOn yX0_dislikedOn, Cond.code yX0_dislikedOn cX0_dislikedOn 4 (some .int), Cond.methodLink RX3 60 yX3_checkRoomFor, Cond.instanceMethod yX3_checkRoomFor, Cond.selects RX3 yX3_checkRoomFor yX3_checkRoomFor, Cond.code yX3_checkRoomFor cX3_checkRoomFor 2 none, Cond.fieldLink RX3 98 "FridgeGossip$WordChain" "size" "I", Cond.methodLink RX3 65 yX3_write, Cond.instanceMethod yX3_write, Cond.selects RX3 yX3_write yX3_write, Cond.code yX3_write cX3_write 6 (some (.object "FridgeGossip$Word")), Cond.fieldLink RX3 23 "FridgeGossip" "clocks" "[I", Cond.classLink RX3 63 RX1, Cond.instantiable RX1 10, Cond.initialized RX1, Cond.methodLink RX3 169 yX1_init, Cond.instanceMethod yX1_init, Cond.code yX1_init cX1_init 6 none, Cond.methodLink RX1 1 objectInit, Cond.instanceMethod objectInit]
def wsL_plan_r6 : List Cond := [Cond.code objectInit ⟨#[0xb1]⟩ 1 none, Cond.fieldLink RX1 7 "FridgeGossip$Word" "firstDay" "I", Cond.fieldLink RX1 13 "FridgeGossip$Word" "lastDay" "I", Cond.fieldLink RX1 16 "FridgeGossip$Word" "dislikes" "I", Cond.fieldLink RX1 19 "FridgeGossip$Word" "next" "LFridgeGossip$Word;", Cond.fieldLink RX1 23 "FridgeGossip$Word" "kind" "I", Cond.fieldLink RX1 26 "FridgeGossip$Word" "stamp" "I", Cond.fieldLink RX1 29 "FridgeGossip$Word" "writer" "I", Cond.fieldLink RX1 32 "FridgeGossip$Word" "subject" "I", Cond.fieldLink RX1 35 "FridgeGossip$Word" "cake" "I", Cond.fieldLink RX1 38 "FridgeGossip$Word" "knownTo" "I", Cond.methodLink RX3 172 yX2_insert, Cond.instanceMethod yX2_insert, Cond.selects RX2 yX2_insert yX2_insert, Cond.initialized RX2, Cond.code yX2_insert cX2_insert 4 none, Cond.fieldLink RX2 7 "FridgeGossip$WordChain" "earliest" "LFridgeGossip$Word;", Cond.fieldLink RX2 23 "FridgeGossip$Word" "next" "LFridgeGossip$Word;", Cond.fieldLink RX2 13 "FridgeGossip$WordChain" "size" "I", Cond.methodLink RX2 17 yX1_isLaterThan, Cond.instanceMethod yX1_isLaterThan, Cond.selects RX1 yX1_isLaterThan yX1_isLaterThan, Cond.code yX1_isLaterThan cX1_isLaterThan 2 (some .boolean)]
def wsL_plan : List Cond := .codeWith yL_plan cL_plan 6 (some .int) [(0, 12, 15, 13), (0, 12, 19, 39), (0, 12, 23, 15)] :: ((wsL_plan_r1 ++ (wsL_plan_r2 ++ (wsL_plan_r3 ++ (wsL_plan_r4 ++ (wsL_plan_r5 ++ wsL_plan_r6))))) ++ wsX30 ++ wsX20 ++ wsX10 ++ wsX00 ++ (vx_atS RX3 57 "java/lang/IllegalStateException" ["java/lang/RuntimeException", "java/lang/Exception"]).filter goodWord ++ (vx_atS RX3 158 "java/lang/IndexOutOfBoundsException" ["java/lang/RuntimeException", "java/lang/Exception"]).filter goodWord ++ (vx_atS RX3 88 "java/lang/IllegalArgumentException" ["java/lang/RuntimeException", "java/lang/Exception"]).filter goodWord)
def wsL_keep_r1 : List Cond := [Cond.classLink RL 13 "java/lang/IndexOutOfBoundsException", Cond.classLink RL 15 "java/lang/IllegalStateException", Cond.methodLink RL 61 yX3_keep, Cond.instanceMethod yX3_keep, Cond.selects RX3 yX3_keep yX3_keep, Cond.initialized RX3, Cond.code yX3_keep cX3_keep 5 (some .int), Cond.fieldLink RX3 38 "FridgeGossip" "cakeCount" "I", Cond.methodLink RX3 42 yX3_checkNumber, Cond.static yX3_checkNumber, Cond.code yX3_checkNumber cX3_checkNumber 2 none, Cond.classLink RX3 154 "java/lang/IndexOutOfBoundsException", Cond.initialized "java/lang/IndexOutOfBoundsException", Cond.methodLink RX3 46 yX3_lookAs, Cond.instanceMethod yX3_lookAs, Cond.selects RX3 yX3_lookAs yX3_lookAs, Cond.code yX3_lookAs cX3_lookAs 2 none, Cond.fieldLink RX3 19 "FridgeGossip" "view" "LFridgeGossip$View;", Cond.fieldLink RX3 12 "FridgeGossip" "chain" "LFridgeGossip$WordChain;", Cond.fieldLink RX3 35 "FridgeGossip" "dayOf" "[I", Cond.methodLink RX3 165 yX0_read, Cond.instanceMethod yX0_read, Cond.selects RX0 yX0_read yX0_read, Cond.initialized RX0]
def wsL_keep_r2 : List Cond := [Cond.code yX0_read cX0_read 5 none, Cond.fieldLink RX0 46 "FridgeGossip$WordChain" "earliest" "LFridgeGossip$Word;", Cond.fieldLink RX0 52 "FridgeGossip$Word" "knownTo" "I", Cond.fieldLink RX0 61 "FridgeGossip$Word" "next" "LFridgeGossip$Word;", Cond.fieldLink RX0 64 "FridgeGossip$Word" "kind" "I", Cond.fieldLink RX0 67 "FridgeGossip$Word" "subject" "I", Cond.fieldLink RX0 70 "FridgeGossip$Word" "cake" "I", Cond.methodLink RX0 43 yX0_forget, Cond.instanceMethod yX0_forget, Cond.selects RX0 yX0_forget yX0_forget, Cond.code yX0_forget cX0_forget 1 none, Cond.fieldLink RX0 9 "FridgeGossip$View" "place" "[I", Cond.fieldLink RX0 15 "FridgeGossip$View" "claimers" "[I", Cond.fieldLink RX0 18 "FridgeGossip$View" "kept" "[I", Cond.fieldLink RX0 21 "FridgeGossip$View" "firstDay" "[I", Cond.fieldLink RX0 24 "FridgeGossip$View" "lastDay" "[I", Cond.fieldLink RX0 27 "FridgeGossip$View" "dislikes" "[I", Cond.fieldLink RX0 30 "FridgeGossip$View" "state" "[I", Cond.fieldLink RX0 33 "FridgeGossip$View" "planRank" "[I", Cond.fieldLink RX0 36 "FridgeGossip$View" "planCount" "I", Cond.fieldLink RX0 40 "FridgeGossip$View" "spoiltCakes" "I", Cond.methodLink RX0 77 yJ7_fill_53178, Cond.static yJ7_fill_53178, Cond.initialized RJ7]
def wsL_keep_r3 : List Cond := [Cond.code yJ7_fill_53178 cJ7_fill_53178 4 none, Cond.methodLink RX0 57 yX0_hear, Cond.instanceMethod yX0_hear, Cond.selects RX0 yX0_hear yX0_hear, Cond.code yX0_hear cX0_hear 2 none, Cond.fieldLink RX0 83 "FridgeGossip$Word" "writer" "I", Cond.fieldLink RX0 89 "FridgeGossip$Word" "firstDay" "I", Cond.fieldLink RX0 91 "FridgeGossip$Word" "lastDay" "I", Cond.fieldLink RX0 93 "FridgeGossip$Word" "dislikes" "I", Cond.methodLink RX0 86 yX0_hearTake, Cond.instanceMethod yX0_hearTake, Cond.selects RX0 yX0_hearTake yX0_hearTake, Cond.code yX0_hearTake cX0_hearTake 2 none, Cond.methodLink RX0 73 yX0_hearKeep, Cond.instanceMethod yX0_hearKeep, Cond.selects RX0 yX0_hearKeep yX0_hearKeep, Cond.code yX0_hearKeep cX0_hearKeep 4 none, Cond.methodLink RX0 95 yX0_isAhead, Cond.instanceMethod yX0_isAhead, Cond.selects RX0 yX0_isAhead yX0_isAhead, Cond.code yX0_isAhead cX0_isAhead 8 (some .boolean), Cond.methodLink RX0 99 yX0_guestsOn, Cond.instanceMethod yX0_guestsOn, Cond.selects RX0 yX0_guestsOn yX0_guestsOn]
def wsL_keep_r4 : List Cond := [Cond.code yX0_guestsOn cX0_guestsOn 4 (some .int), Cond.methodLink RX0 108 yX0_comesOn, Cond.instanceMethod yX0_comesOn, Cond.selects RX0 yX0_comesOn yX0_comesOn, Cond.code yX0_comesOn cX0_comesOn 3 (some .boolean), Cond.methodLink RX0 103 yJ6_bitCount_0f7a4, Cond.static yJ6_bitCount_0f7a4, Cond.initialized RJ6, Cond.code yJ6_bitCount_0f7a4 cJ6_bitCount_0f7a4 1 (some .int), Cond.constant RJ6 265 (1431655765), Cond.constant RJ6 266 (858993459), Cond.constant RJ6 267 (252645135), Cond.methodLink RX3 128 yX3_checkOpen, Cond.instanceMethod yX3_checkOpen, Cond.selects RX3 yX3_checkOpen yX3_checkOpen, Cond.code yX3_checkOpen cX3_checkOpen 2 none, Cond.classLink RX3 53 "java/lang/IllegalStateException", Cond.initialized "java/lang/IllegalStateException", Cond.fieldLink RX3 148 "FridgeGossip$View" "state" "[I", Cond.methodLink RX3 131 yX3_keepable, Cond.instanceMethod yX3_keepable, Cond.selects RX3 yX3_keepable yX3_keepable, Cond.code yX3_keepable cX3_keepable 3 (some .int), Cond.methodLink RX3 185 Lib.Math.min.name]
def wsL_keep_r5 : List Cond := [Cond.static Lib.Math.min.name, Cond.initialized "java/lang/Math", Cond.code Lib.Math.min.name Lib.Math.min.code 2 (some .int), Cond.methodLink RX3 140 yX3_lacking, Cond.instanceMethod yX3_lacking, Cond.selects RX3 yX3_lacking yX3_lacking, Cond.code yX3_lacking cX3_lacking 3 (some .int), Cond.fieldLink RX3 29 "FridgeGossip" "needs" "[[I", Cond.fieldLink RX3 32 "FridgeGossip" "recipeOf" "[I", Cond.methodLink RX3 89 Lib.Math.max.name, Cond.static Lib.Math.max.name, Cond.code Lib.Math.max.name Lib.Math.max.code 2 (some .int), Cond.methodLink RX3 179 yX0_thingsKept, Cond.instanceMethod yX0_thingsKept, Cond.selects RX0 yX0_thingsKept yX0_thingsKept, Cond.code yX0_thingsKept cX0_thingsKept 5 (some .int), Cond.methodLink RX3 182 yX0_thingsFree, Cond.instanceMethod yX0_thingsFree, Cond.selects RX0 yX0_thingsFree yX0_thingsFree, Cond.code yX0_thingsFree cX0_thingsFree 4 (some .int), Cond.methodLink RX0 112 yX0_isFree, Cond.instanceMethod yX0_isFree, Cond.selects RX0 yX0_isFree yX0_isFree, Cond.code yX0_isFree cX0_isFree 2 (some .boolean)]
def wsL_keep_r6 : List Cond := [Cond.methodLink RX3 60 yX3_checkRoomFor, Cond.instanceMethod yX3_checkRoomFor, Cond.selects RX3 yX3_checkRoomFor yX3_checkRoomFor, Cond.code yX3_checkRoomFor cX3_checkRoomFor 2 none, Cond.fieldLink RX3 98 "FridgeGossip$WordChain" "size" "I", Cond.methodLink RX3 134 yX3_writeKeeps, Cond.instanceMethod yX3_writeKeeps, Cond.selects RX3 yX3_writeKeeps yX3_writeKeeps, Cond.code yX3_writeKeeps cX3_writeKeeps 6 none, Cond.methodLink RX3 188 yX0_isFree, Cond.methodLink RX3 65 yX3_write, Cond.instanceMethod yX3_write, Cond.selects RX3 yX3_write yX3_write, Cond.code yX3_write cX3_write 6 (some (.object "FridgeGossip$Word")), Cond.fieldLink RX3 23 "FridgeGossip" "clocks" "[I", Cond.classLink RX3 63 RX1, Cond.instantiable RX1 10, Cond.initialized RX1, Cond.methodLink RX3 169 yX1_init, Cond.instanceMethod yX1_init, Cond.code yX1_init cX1_init 6 none, Cond.methodLink RX1 1 objectInit, Cond.instanceMethod objectInit, Cond.code objectInit ⟨#[0xb1]⟩ 1 none]
def wsL_keep_r7 : List Cond := [Cond.fieldLink RX1 7 "FridgeGossip$Word" "firstDay" "I", Cond.fieldLink RX1 13 "FridgeGossip$Word" "lastDay" "I", Cond.fieldLink RX1 16 "FridgeGossip$Word" "dislikes" "I", Cond.fieldLink RX1 19 "FridgeGossip$Word" "next" "LFridgeGossip$Word;", Cond.fieldLink RX1 23 "FridgeGossip$Word" "kind" "I", Cond.fieldLink RX1 26 "FridgeGossip$Word" "stamp" "I", Cond.fieldLink RX1 29 "FridgeGossip$Word" "writer" "I", Cond.fieldLink RX1 32 "FridgeGossip$Word" "subject" "I", Cond.fieldLink RX1 35 "FridgeGossip$Word" "cake" "I", Cond.fieldLink RX1 38 "FridgeGossip$Word" "knownTo" "I", Cond.methodLink RX3 172 yX2_insert, Cond.instanceMethod yX2_insert, Cond.selects RX2 yX2_insert yX2_insert, Cond.initialized RX2, Cond.code yX2_insert cX2_insert 4 none, Cond.fieldLink RX2 7 "FridgeGossip$WordChain" "earliest" "LFridgeGossip$Word;", Cond.fieldLink RX2 23 "FridgeGossip$Word" "next" "LFridgeGossip$Word;", Cond.fieldLink RX2 13 "FridgeGossip$WordChain" "size" "I", Cond.methodLink RX2 17 yX1_isLaterThan, Cond.instanceMethod yX1_isLaterThan, Cond.selects RX1 yX1_isLaterThan yX1_isLaterThan, Cond.code yX1_isLaterThan cX1_isLaterThan 2 (some .boolean)]
def wsL_keep : List Cond := .codeWith yL_keep cL_keep 5 (some .int) [(0, 10, 13, 13), (0, 10, 17, 15)] :: ((wsL_keep_r1 ++ (wsL_keep_r2 ++ (wsL_keep_r3 ++ (wsL_keep_r4 ++ (wsL_keep_r5 ++ (wsL_keep_r6 ++ wsL_keep_r7)))))) ++ wsX30 ++ wsX20 ++ wsX10 ++ wsX00 ++ (vx_atS RX3 158 "java/lang/IndexOutOfBoundsException" ["java/lang/RuntimeException", "java/lang/Exception"]).filter goodWord ++ (vx_atS RX3 57 "java/lang/IllegalStateException" ["java/lang/RuntimeException", "java/lang/Exception"]).filter goodWord)
def wsL_drop_r1 : List Cond := [Cond.classLink RL 13 "java/lang/IndexOutOfBoundsException", Cond.classLink RL 15 "java/lang/IllegalStateException", Cond.methodLink RL 64 yX3_drop, Cond.instanceMethod yX3_drop, Cond.selects RX3 yX3_drop yX3_drop, Cond.initialized RX3, Cond.code yX3_drop cX3_drop 3 (some .int), Cond.fieldLink RX3 38 "FridgeGossip" "cakeCount" "I", Cond.methodLink RX3 42 yX3_checkNumber, Cond.static yX3_checkNumber, Cond.code yX3_checkNumber cX3_checkNumber 2 none, Cond.classLink RX3 154 "java/lang/IndexOutOfBoundsException", Cond.initialized "java/lang/IndexOutOfBoundsException", Cond.methodLink RX3 46 yX3_lookAs, Cond.instanceMethod yX3_lookAs, Cond.selects RX3 yX3_lookAs yX3_lookAs, Cond.code yX3_lookAs cX3_lookAs 2 none, Cond.fieldLink RX3 19 "FridgeGossip" "view" "LFridgeGossip$View;", Cond.fieldLink RX3 12 "FridgeGossip" "chain" "LFridgeGossip$WordChain;", Cond.fieldLink RX3 35 "FridgeGossip" "dayOf" "[I", Cond.methodLink RX3 165 yX0_read, Cond.instanceMethod yX0_read, Cond.selects RX0 yX0_read yX0_read, Cond.initialized RX0]
def wsL_drop_r2 : List Cond := [Cond.code yX0_read cX0_read 5 none, Cond.fieldLink RX0 46 "FridgeGossip$WordChain" "earliest" "LFridgeGossip$Word;", Cond.fieldLink RX0 52 "FridgeGossip$Word" "knownTo" "I", Cond.fieldLink RX0 61 "FridgeGossip$Word" "next" "LFridgeGossip$Word;", Cond.fieldLink RX0 64 "FridgeGossip$Word" "kind" "I", Cond.fieldLink RX0 67 "FridgeGossip$Word" "subject" "I", Cond.fieldLink RX0 70 "FridgeGossip$Word" "cake" "I", Cond.methodLink RX0 43 yX0_forget, Cond.instanceMethod yX0_forget, Cond.selects RX0 yX0_forget yX0_forget, Cond.code yX0_forget cX0_forget 1 none, Cond.fieldLink RX0 9 "FridgeGossip$View" "place" "[I", Cond.fieldLink RX0 15 "FridgeGossip$View" "claimers" "[I", Cond.fieldLink RX0 18 "FridgeGossip$View" "kept" "[I", Cond.fieldLink RX0 21 "FridgeGossip$View" "firstDay" "[I", Cond.fieldLink RX0 24 "FridgeGossip$View" "lastDay" "[I", Cond.fieldLink RX0 27 "FridgeGossip$View" "dislikes" "[I", Cond.fieldLink RX0 30 "FridgeGossip$View" "state" "[I", Cond.fieldLink RX0 33 "FridgeGossip$View" "planRank" "[I", Cond.fieldLink RX0 36 "FridgeGossip$View" "planCount" "I", Cond.fieldLink RX0 40 "FridgeGossip$View" "spoiltCakes" "I", Cond.methodLink RX0 77 yJ7_fill_53178, Cond.static yJ7_fill_53178, Cond.initialized RJ7]
def wsL_drop_r3 : List Cond := [Cond.code yJ7_fill_53178 cJ7_fill_53178 4 none, Cond.methodLink RX0 57 yX0_hear, Cond.instanceMethod yX0_hear, Cond.selects RX0 yX0_hear yX0_hear, Cond.code yX0_hear cX0_hear 2 none, Cond.fieldLink RX0 83 "FridgeGossip$Word" "writer" "I", Cond.fieldLink RX0 89 "FridgeGossip$Word" "firstDay" "I", Cond.fieldLink RX0 91 "FridgeGossip$Word" "lastDay" "I", Cond.fieldLink RX0 93 "FridgeGossip$Word" "dislikes" "I", Cond.methodLink RX0 86 yX0_hearTake, Cond.instanceMethod yX0_hearTake, Cond.selects RX0 yX0_hearTake yX0_hearTake, Cond.code yX0_hearTake cX0_hearTake 2 none, Cond.methodLink RX0 73 yX0_hearKeep, Cond.instanceMethod yX0_hearKeep, Cond.selects RX0 yX0_hearKeep yX0_hearKeep, Cond.code yX0_hearKeep cX0_hearKeep 4 none, Cond.methodLink RX0 95 yX0_isAhead, Cond.instanceMethod yX0_isAhead, Cond.selects RX0 yX0_isAhead yX0_isAhead, Cond.code yX0_isAhead cX0_isAhead 8 (some .boolean), Cond.methodLink RX0 99 yX0_guestsOn, Cond.instanceMethod yX0_guestsOn, Cond.selects RX0 yX0_guestsOn yX0_guestsOn]
def wsL_drop_r4 : List Cond := [Cond.code yX0_guestsOn cX0_guestsOn 4 (some .int), Cond.methodLink RX0 108 yX0_comesOn, Cond.instanceMethod yX0_comesOn, Cond.selects RX0 yX0_comesOn yX0_comesOn, Cond.code yX0_comesOn cX0_comesOn 3 (some .boolean), Cond.methodLink RX0 103 yJ6_bitCount_0f7a4, Cond.static yJ6_bitCount_0f7a4, Cond.initialized RJ6, Cond.code yJ6_bitCount_0f7a4 cJ6_bitCount_0f7a4 1 (some .int), Cond.constant RJ6 265 (1431655765), Cond.constant RJ6 266 (858993459), Cond.constant RJ6 267 (252645135), Cond.methodLink RX3 128 yX3_checkOpen, Cond.instanceMethod yX3_checkOpen, Cond.selects RX3 yX3_checkOpen yX3_checkOpen, Cond.code yX3_checkOpen cX3_checkOpen 2 none, Cond.classLink RX3 53 "java/lang/IllegalStateException", Cond.initialized "java/lang/IllegalStateException", Cond.fieldLink RX3 148 "FridgeGossip$View" "state" "[I", Cond.methodLink RX3 60 yX3_checkRoomFor, Cond.instanceMethod yX3_checkRoomFor, Cond.selects RX3 yX3_checkRoomFor yX3_checkRoomFor, Cond.code yX3_checkRoomFor cX3_checkRoomFor 2 none, Cond.fieldLink RX3 98 "FridgeGossip$WordChain" "size" "I"]
def wsL_drop_r5 : List Cond := [Cond.methodLink RX3 65 yX3_write, Cond.instanceMethod yX3_write, Cond.selects RX3 yX3_write yX3_write, Cond.code yX3_write cX3_write 6 (some (.object "FridgeGossip$Word")), Cond.fieldLink RX3 23 "FridgeGossip" "clocks" "[I", Cond.classLink RX3 63 RX1, Cond.instantiable RX1 10, Cond.initialized RX1, Cond.methodLink RX3 169 yX1_init, Cond.instanceMethod yX1_init, Cond.code yX1_init cX1_init 6 none, Cond.methodLink RX1 1 objectInit, Cond.instanceMethod objectInit, Cond.code objectInit ⟨#[0xb1]⟩ 1 none, Cond.fieldLink RX1 7 "FridgeGossip$Word" "firstDay" "I", Cond.fieldLink RX1 13 "FridgeGossip$Word" "lastDay" "I", Cond.fieldLink RX1 16 "FridgeGossip$Word" "dislikes" "I", Cond.fieldLink RX1 19 "FridgeGossip$Word" "next" "LFridgeGossip$Word;", Cond.fieldLink RX1 23 "FridgeGossip$Word" "kind" "I", Cond.fieldLink RX1 26 "FridgeGossip$Word" "stamp" "I", Cond.fieldLink RX1 29 "FridgeGossip$Word" "writer" "I", Cond.fieldLink RX1 32 "FridgeGossip$Word" "subject" "I", Cond.fieldLink RX1 35 "FridgeGossip$Word" "cake" "I", Cond.fieldLink RX1 38 "FridgeGossip$Word" "knownTo" "I"]
def wsL_drop_r6 : List Cond := [Cond.methodLink RX3 172 yX2_insert, Cond.instanceMethod yX2_insert, Cond.selects RX2 yX2_insert yX2_insert, Cond.initialized RX2, Cond.code yX2_insert cX2_insert 4 none, Cond.fieldLink RX2 7 "FridgeGossip$WordChain" "earliest" "LFridgeGossip$Word;", Cond.fieldLink RX2 23 "FridgeGossip$Word" "next" "LFridgeGossip$Word;", Cond.fieldLink RX2 13 "FridgeGossip$WordChain" "size" "I", Cond.methodLink RX2 17 yX1_isLaterThan, Cond.instanceMethod yX1_isLaterThan, Cond.selects RX1 yX1_isLaterThan yX1_isLaterThan, Cond.code yX1_isLaterThan cX1_isLaterThan 2 (some .boolean), Cond.methodLink RX3 137 yX3_keptInAll, Cond.instanceMethod yX3_keptInAll, Cond.selects RX3 yX3_keptInAll yX3_keptInAll, Cond.code yX3_keptInAll cX3_keptInAll 4 (some .int), Cond.methodLink RX3 179 yX0_thingsKept, Cond.instanceMethod yX0_thingsKept, Cond.selects RX0 yX0_thingsKept yX0_thingsKept, Cond.code yX0_thingsKept cX0_thingsKept 5 (some .int)]
def wsL_drop : List Cond := .codeWith yL_drop cL_drop 5 (some .int) [(0, 10, 13, 13), (0, 10, 17, 15)] :: ((wsL_drop_r1 ++ (wsL_drop_r2 ++ (wsL_drop_r3 ++ (wsL_drop_r4 ++ (wsL_drop_r5 ++ wsL_drop_r6))))) ++ wsX30 ++ wsX20 ++ wsX10 ++ wsX00 ++ (vx_atS RX3 158 "java/lang/IndexOutOfBoundsException" ["java/lang/RuntimeException", "java/lang/Exception"]).filter goodWord ++ (vx_atS RX3 57 "java/lang/IllegalStateException" ["java/lang/RuntimeException", "java/lang/Exception"]).filter goodWord)
def wsL_bake_r1 : List Cond := [Cond.classLink RL 13 "java/lang/IndexOutOfBoundsException", Cond.classLink RL 15 "java/lang/IllegalStateException", Cond.methodLink RL 67 yX3_bake, Cond.instanceMethod yX3_bake, Cond.selects RX3 yX3_bake yX3_bake, Cond.initialized RX3, Cond.code yX3_bake cX3_bake 5 (some .int), Cond.classLink RX3 53 "java/lang/IllegalStateException", Cond.initialized "java/lang/IllegalStateException", Cond.fieldLink RX3 38 "FridgeGossip" "cakeCount" "I", Cond.fieldLink RX3 19 "FridgeGossip" "view" "LFridgeGossip$View;", Cond.fieldLink RX3 145 "FridgeGossip$View" "kept" "[I", Cond.methodLink RX3 42 yX3_checkNumber, Cond.static yX3_checkNumber, Cond.code yX3_checkNumber cX3_checkNumber 2 none, Cond.classLink RX3 154 "java/lang/IndexOutOfBoundsException", Cond.initialized "java/lang/IndexOutOfBoundsException", Cond.methodLink RX3 46 yX3_lookAs, Cond.instanceMethod yX3_lookAs, Cond.selects RX3 yX3_lookAs yX3_lookAs, Cond.code yX3_lookAs cX3_lookAs 2 none, Cond.fieldLink RX3 12 "FridgeGossip" "chain" "LFridgeGossip$WordChain;", Cond.fieldLink RX3 35 "FridgeGossip" "dayOf" "[I", Cond.methodLink RX3 165 yX0_read]
def wsL_bake_r2 : List Cond := [Cond.instanceMethod yX0_read, Cond.selects RX0 yX0_read yX0_read, Cond.initialized RX0, Cond.code yX0_read cX0_read 5 none, Cond.fieldLink RX0 46 "FridgeGossip$WordChain" "earliest" "LFridgeGossip$Word;", Cond.fieldLink RX0 52 "FridgeGossip$Word" "knownTo" "I", Cond.fieldLink RX0 61 "FridgeGossip$Word" "next" "LFridgeGossip$Word;", Cond.fieldLink RX0 64 "FridgeGossip$Word" "kind" "I", Cond.fieldLink RX0 67 "FridgeGossip$Word" "subject" "I", Cond.fieldLink RX0 70 "FridgeGossip$Word" "cake" "I", Cond.methodLink RX0 43 yX0_forget, Cond.instanceMethod yX0_forget, Cond.selects RX0 yX0_forget yX0_forget, Cond.code yX0_forget cX0_forget 1 none, Cond.fieldLink RX0 9 "FridgeGossip$View" "place" "[I", Cond.fieldLink RX0 15 "FridgeGossip$View" "claimers" "[I", Cond.fieldLink RX0 18 "FridgeGossip$View" "kept" "[I", Cond.fieldLink RX0 21 "FridgeGossip$View" "firstDay" "[I", Cond.fieldLink RX0 24 "FridgeGossip$View" "lastDay" "[I", Cond.fieldLink RX0 27 "FridgeGossip$View" "dislikes" "[I", Cond.fieldLink RX0 30 "FridgeGossip$View" "state" "[I", Cond.fieldLink RX0 33 "FridgeGossip$View" "planRank" "[I", Cond.fieldLink RX0 36 "FridgeGossip$View" "planCount" "I", Cond.fieldLink RX0 40 "FridgeGossip$View" "spoiltCakes" "I"]
def wsL_bake_r3 : List Cond := [Cond.methodLink RX0 77 yJ7_fill_53178, Cond.static yJ7_fill_53178, Cond.initialized RJ7, Cond.code yJ7_fill_53178 cJ7_fill_53178 4 none, Cond.methodLink RX0 57 yX0_hear, Cond.instanceMethod yX0_hear, Cond.selects RX0 yX0_hear yX0_hear, Cond.code yX0_hear cX0_hear 2 none, Cond.fieldLink RX0 83 "FridgeGossip$Word" "writer" "I", Cond.fieldLink RX0 89 "FridgeGossip$Word" "firstDay" "I", Cond.fieldLink RX0 91 "FridgeGossip$Word" "lastDay" "I", Cond.fieldLink RX0 93 "FridgeGossip$Word" "dislikes" "I", Cond.methodLink RX0 86 yX0_hearTake, Cond.instanceMethod yX0_hearTake, Cond.selects RX0 yX0_hearTake yX0_hearTake, Cond.code yX0_hearTake cX0_hearTake 2 none, Cond.methodLink RX0 73 yX0_hearKeep, Cond.instanceMethod yX0_hearKeep, Cond.selects RX0 yX0_hearKeep yX0_hearKeep, Cond.code yX0_hearKeep cX0_hearKeep 4 none, Cond.methodLink RX0 95 yX0_isAhead, Cond.instanceMethod yX0_isAhead, Cond.selects RX0 yX0_isAhead yX0_isAhead, Cond.code yX0_isAhead cX0_isAhead 8 (some .boolean)]
def wsL_bake_r4 : List Cond := [Cond.methodLink RX0 99 yX0_guestsOn, Cond.instanceMethod yX0_guestsOn, Cond.selects RX0 yX0_guestsOn yX0_guestsOn, Cond.code yX0_guestsOn cX0_guestsOn 4 (some .int), Cond.methodLink RX0 108 yX0_comesOn, Cond.instanceMethod yX0_comesOn, Cond.selects RX0 yX0_comesOn yX0_comesOn, Cond.code yX0_comesOn cX0_comesOn 3 (some .boolean), Cond.methodLink RX0 103 yJ6_bitCount_0f7a4, Cond.static yJ6_bitCount_0f7a4, Cond.initialized RJ6, Cond.code yJ6_bitCount_0f7a4 cJ6_bitCount_0f7a4 1 (some .int), Cond.constant RJ6 265 (1431655765), Cond.constant RJ6 266 (858993459), Cond.constant RJ6 267 (252645135), Cond.methodLink RX3 128 yX3_checkOpen, Cond.instanceMethod yX3_checkOpen, Cond.selects RX3 yX3_checkOpen yX3_checkOpen, Cond.code yX3_checkOpen cX3_checkOpen 2 none, Cond.fieldLink RX3 148 "FridgeGossip$View" "state" "[I", Cond.methodLink RX3 140 yX3_lacking, Cond.instanceMethod yX3_lacking, Cond.selects RX3 yX3_lacking yX3_lacking, Cond.code yX3_lacking cX3_lacking 3 (some .int)]
def wsL_bake_r5 : List Cond := [Cond.fieldLink RX3 29 "FridgeGossip" "needs" "[[I", Cond.fieldLink RX3 32 "FridgeGossip" "recipeOf" "[I", Cond.methodLink RX3 89 Lib.Math.max.name, Cond.static Lib.Math.max.name, Cond.initialized "java/lang/Math", Cond.code Lib.Math.max.name Lib.Math.max.code 2 (some .int), Cond.methodLink RX3 179 yX0_thingsKept, Cond.instanceMethod yX0_thingsKept, Cond.selects RX0 yX0_thingsKept yX0_thingsKept, Cond.code yX0_thingsKept cX0_thingsKept 5 (some .int), Cond.methodLink RX3 137 yX3_keptInAll, Cond.instanceMethod yX3_keptInAll, Cond.selects RX3 yX3_keptInAll yX3_keptInAll, Cond.code yX3_keptInAll cX3_keptInAll 4 (some .int), Cond.methodLink RX3 60 yX3_checkRoomFor, Cond.instanceMethod yX3_checkRoomFor, Cond.selects RX3 yX3_checkRoomFor yX3_checkRoomFor, Cond.code yX3_checkRoomFor cX3_checkRoomFor 2 none, Cond.fieldLink RX3 98 "FridgeGossip$WordChain" "size" "I", Cond.methodLink RX3 65 yX3_write, Cond.instanceMethod yX3_write, Cond.selects RX3 yX3_write yX3_write, Cond.code yX3_write cX3_write 6 (some (.object "FridgeGossip$Word")), Cond.fieldLink RX3 23 "FridgeGossip" "clocks" "[I"]
def wsL_bake_r6 : List Cond := [Cond.classLink RX3 63 RX1, Cond.instantiable RX1 10, Cond.initialized RX1, Cond.methodLink RX3 169 yX1_init, Cond.instanceMethod yX1_init, Cond.code yX1_init cX1_init 6 none, Cond.methodLink RX1 1 objectInit, Cond.instanceMethod objectInit, Cond.code objectInit ⟨#[0xb1]⟩ 1 none, Cond.fieldLink RX1 7 "FridgeGossip$Word" "firstDay" "I", Cond.fieldLink RX1 13 "FridgeGossip$Word" "lastDay" "I", Cond.fieldLink RX1 16 "FridgeGossip$Word" "dislikes" "I", Cond.fieldLink RX1 19 "FridgeGossip$Word" "next" "LFridgeGossip$Word;", Cond.fieldLink RX1 23 "FridgeGossip$Word" "kind" "I", Cond.fieldLink RX1 26 "FridgeGossip$Word" "stamp" "I", Cond.fieldLink RX1 29 "FridgeGossip$Word" "writer" "I", Cond.fieldLink RX1 32 "FridgeGossip$Word" "subject" "I", Cond.fieldLink RX1 35 "FridgeGossip$Word" "cake" "I", Cond.fieldLink RX1 38 "FridgeGossip$Word" "knownTo" "I", Cond.methodLink RX3 172 yX2_insert, Cond.instanceMethod yX2_insert, Cond.selects RX2 yX2_insert yX2_insert, Cond.initialized RX2, Cond.code yX2_insert cX2_insert 4 none]
def wsL_bake_r7 : List Cond := [Cond.fieldLink RX2 7 "FridgeGossip$WordChain" "earliest" "LFridgeGossip$Word;", Cond.fieldLink RX2 23 "FridgeGossip$Word" "next" "LFridgeGossip$Word;", Cond.fieldLink RX2 13 "FridgeGossip$WordChain" "size" "I", Cond.methodLink RX2 17 yX1_isLaterThan, Cond.instanceMethod yX1_isLaterThan, Cond.selects RX1 yX1_isLaterThan yX1_isLaterThan, Cond.code yX1_isLaterThan cX1_isLaterThan 2 (some .boolean)]
def wsL_bake : List Cond := .codeWith yL_bake cL_bake 5 (some .int) [(0, 10, 13, 13), (0, 10, 17, 15)] :: ((wsL_bake_r1 ++ (wsL_bake_r2 ++ (wsL_bake_r3 ++ (wsL_bake_r4 ++ (wsL_bake_r5 ++ (wsL_bake_r6 ++ wsL_bake_r7)))))) ++ wsX30 ++ wsX00 ++ wsX20 ++ wsX10 ++ (vx_atS RX3 57 "java/lang/IllegalStateException" ["java/lang/RuntimeException", "java/lang/Exception"]).filter goodWord ++ (vx_atS RX3 158 "java/lang/IndexOutOfBoundsException" ["java/lang/RuntimeException", "java/lang/Exception"]).filter goodWord)
def wsL_cake_r1 : List Cond := [Cond.classLink RL 13 "java/lang/IndexOutOfBoundsException", Cond.methodLink RL 70 yX3_cake, Cond.instanceMethod yX3_cake, Cond.selects RX3 yX3_cake yX3_cake, Cond.initialized RX3, Cond.code yX3_cake cX3_cake 3 (some .int), Cond.fieldLink RX3 38 "FridgeGossip" "cakeCount" "I", Cond.fieldLink RX3 19 "FridgeGossip" "view" "LFridgeGossip$View;", Cond.fieldLink RX3 148 "FridgeGossip$View" "state" "[I", Cond.methodLink RX3 42 yX3_checkNumber, Cond.static yX3_checkNumber, Cond.code yX3_checkNumber cX3_checkNumber 2 none, Cond.classLink RX3 154 "java/lang/IndexOutOfBoundsException", Cond.initialized "java/lang/IndexOutOfBoundsException", Cond.methodLink RX3 46 yX3_lookAs, Cond.instanceMethod yX3_lookAs, Cond.selects RX3 yX3_lookAs yX3_lookAs, Cond.code yX3_lookAs cX3_lookAs 2 none, Cond.fieldLink RX3 12 "FridgeGossip" "chain" "LFridgeGossip$WordChain;", Cond.fieldLink RX3 35 "FridgeGossip" "dayOf" "[I", Cond.methodLink RX3 165 yX0_read, Cond.instanceMethod yX0_read, Cond.selects RX0 yX0_read yX0_read, Cond.initialized RX0]
def wsL_cake_r2 : List Cond := [Cond.code yX0_read cX0_read 5 none, Cond.fieldLink RX0 46 "FridgeGossip$WordChain" "earliest" "LFridgeGossip$Word;", Cond.fieldLink RX0 52 "FridgeGossip$Word" "knownTo" "I", Cond.fieldLink RX0 61 "FridgeGossip$Word" "next" "LFridgeGossip$Word;", Cond.fieldLink RX0 64 "FridgeGossip$Word" "kind" "I", Cond.fieldLink RX0 67 "FridgeGossip$Word" "subject" "I", Cond.fieldLink RX0 70 "FridgeGossip$Word" "cake" "I", Cond.methodLink RX0 43 yX0_forget, Cond.instanceMethod yX0_forget, Cond.selects RX0 yX0_forget yX0_forget, Cond.code yX0_forget cX0_forget 1 none, Cond.fieldLink RX0 9 "FridgeGossip$View" "place" "[I", Cond.fieldLink RX0 15 "FridgeGossip$View" "claimers" "[I", Cond.fieldLink RX0 18 "FridgeGossip$View" "kept" "[I", Cond.fieldLink RX0 21 "FridgeGossip$View" "firstDay" "[I", Cond.fieldLink RX0 24 "FridgeGossip$View" "lastDay" "[I", Cond.fieldLink RX0 27 "FridgeGossip$View" "dislikes" "[I", Cond.fieldLink RX0 30 "FridgeGossip$View" "state" "[I", Cond.fieldLink RX0 33 "FridgeGossip$View" "planRank" "[I", Cond.fieldLink RX0 36 "FridgeGossip$View" "planCount" "I", Cond.fieldLink RX0 40 "FridgeGossip$View" "spoiltCakes" "I", Cond.methodLink RX0 77 yJ7_fill_53178, Cond.static yJ7_fill_53178, Cond.initialized RJ7]
def wsL_cake_r3 : List Cond := [Cond.code yJ7_fill_53178 cJ7_fill_53178 4 none, Cond.methodLink RX0 57 yX0_hear, Cond.instanceMethod yX0_hear, Cond.selects RX0 yX0_hear yX0_hear, Cond.code yX0_hear cX0_hear 2 none, Cond.fieldLink RX0 83 "FridgeGossip$Word" "writer" "I", Cond.fieldLink RX0 89 "FridgeGossip$Word" "firstDay" "I", Cond.fieldLink RX0 91 "FridgeGossip$Word" "lastDay" "I", Cond.fieldLink RX0 93 "FridgeGossip$Word" "dislikes" "I", Cond.methodLink RX0 86 yX0_hearTake, Cond.instanceMethod yX0_hearTake, Cond.selects RX0 yX0_hearTake yX0_hearTake, Cond.code yX0_hearTake cX0_hearTake 2 none, Cond.methodLink RX0 73 yX0_hearKeep, Cond.instanceMethod yX0_hearKeep, Cond.selects RX0 yX0_hearKeep yX0_hearKeep, Cond.code yX0_hearKeep cX0_hearKeep 4 none, Cond.methodLink RX0 95 yX0_isAhead, Cond.instanceMethod yX0_isAhead, Cond.selects RX0 yX0_isAhead yX0_isAhead, Cond.code yX0_isAhead cX0_isAhead 8 (some .boolean), Cond.methodLink RX0 99 yX0_guestsOn, Cond.instanceMethod yX0_guestsOn, Cond.selects RX0 yX0_guestsOn yX0_guestsOn]
def wsL_cake_r4 : List Cond := [Cond.code yX0_guestsOn cX0_guestsOn 4 (some .int), Cond.methodLink RX0 108 yX0_comesOn, Cond.instanceMethod yX0_comesOn, Cond.selects RX0 yX0_comesOn yX0_comesOn, Cond.code yX0_comesOn cX0_comesOn 3 (some .boolean), Cond.methodLink RX0 103 yJ6_bitCount_0f7a4, Cond.static yJ6_bitCount_0f7a4, Cond.initialized RJ6, Cond.code yJ6_bitCount_0f7a4 cJ6_bitCount_0f7a4 1 (some .int), Cond.constant RJ6 265 (1431655765), Cond.constant RJ6 266 (858993459), Cond.constant RJ6 267 (252645135)]
def wsL_cake : List Cond := .codeWith yL_cake cL_cake 5 (some .int) [(0, 10, 13, 13)] :: ((wsL_cake_r1 ++ (wsL_cake_r2 ++ (wsL_cake_r3 ++ wsL_cake_r4))) ++ wsX30 ++ wsX00 ++ wsX20 ++ wsX10 ++ (vx_atS RX3 158 "java/lang/IndexOutOfBoundsException" ["java/lang/RuntimeException", "java/lang/Exception"]).filter goodWord)
def wsL_keptFor_r1 : List Cond := [Cond.classLink RL 13 "java/lang/IndexOutOfBoundsException", Cond.methodLink RL 73 yX3_keptFor, Cond.instanceMethod yX3_keptFor, Cond.selects RX3 yX3_keptFor yX3_keptFor, Cond.initialized RX3, Cond.code yX3_keptFor cX3_keptFor 3 (some .int), Cond.fieldLink RX3 19 "FridgeGossip" "view" "LFridgeGossip$View;", Cond.fieldLink RX3 145 "FridgeGossip$View" "kept" "[I", Cond.methodLink RX3 42 yX3_checkNumber, Cond.static yX3_checkNumber, Cond.code yX3_checkNumber cX3_checkNumber 2 none, Cond.classLink RX3 154 "java/lang/IndexOutOfBoundsException", Cond.initialized "java/lang/IndexOutOfBoundsException", Cond.methodLink RX3 46 yX3_lookAs, Cond.instanceMethod yX3_lookAs, Cond.selects RX3 yX3_lookAs yX3_lookAs, Cond.code yX3_lookAs cX3_lookAs 2 none, Cond.fieldLink RX3 12 "FridgeGossip" "chain" "LFridgeGossip$WordChain;", Cond.fieldLink RX3 35 "FridgeGossip" "dayOf" "[I", Cond.methodLink RX3 165 yX0_read, Cond.instanceMethod yX0_read, Cond.selects RX0 yX0_read yX0_read, Cond.initialized RX0, Cond.code yX0_read cX0_read 5 none]
def wsL_keptFor_r2 : List Cond := [Cond.fieldLink RX0 46 "FridgeGossip$WordChain" "earliest" "LFridgeGossip$Word;", Cond.fieldLink RX0 52 "FridgeGossip$Word" "knownTo" "I", Cond.fieldLink RX0 61 "FridgeGossip$Word" "next" "LFridgeGossip$Word;", Cond.fieldLink RX0 64 "FridgeGossip$Word" "kind" "I", Cond.fieldLink RX0 67 "FridgeGossip$Word" "subject" "I", Cond.fieldLink RX0 70 "FridgeGossip$Word" "cake" "I", Cond.methodLink RX0 43 yX0_forget, Cond.instanceMethod yX0_forget, Cond.selects RX0 yX0_forget yX0_forget, Cond.code yX0_forget cX0_forget 1 none, Cond.fieldLink RX0 9 "FridgeGossip$View" "place" "[I", Cond.fieldLink RX0 15 "FridgeGossip$View" "claimers" "[I", Cond.fieldLink RX0 18 "FridgeGossip$View" "kept" "[I", Cond.fieldLink RX0 21 "FridgeGossip$View" "firstDay" "[I", Cond.fieldLink RX0 24 "FridgeGossip$View" "lastDay" "[I", Cond.fieldLink RX0 27 "FridgeGossip$View" "dislikes" "[I", Cond.fieldLink RX0 30 "FridgeGossip$View" "state" "[I", Cond.fieldLink RX0 33 "FridgeGossip$View" "planRank" "[I", Cond.fieldLink RX0 36 "FridgeGossip$View" "planCount" "I", Cond.fieldLink RX0 40 "FridgeGossip$View" "spoiltCakes" "I", Cond.methodLink RX0 77 yJ7_fill_53178, Cond.static yJ7_fill_53178, Cond.initialized RJ7, Cond.code yJ7_fill_53178 cJ7_fill_53178 4 none]
def wsL_keptFor_r3 : List Cond := [Cond.methodLink RX0 57 yX0_hear, Cond.instanceMethod yX0_hear, Cond.selects RX0 yX0_hear yX0_hear, Cond.code yX0_hear cX0_hear 2 none, Cond.fieldLink RX0 83 "FridgeGossip$Word" "writer" "I", Cond.fieldLink RX0 89 "FridgeGossip$Word" "firstDay" "I", Cond.fieldLink RX0 91 "FridgeGossip$Word" "lastDay" "I", Cond.fieldLink RX0 93 "FridgeGossip$Word" "dislikes" "I", Cond.methodLink RX0 86 yX0_hearTake, Cond.instanceMethod yX0_hearTake, Cond.selects RX0 yX0_hearTake yX0_hearTake, Cond.code yX0_hearTake cX0_hearTake 2 none, Cond.methodLink RX0 73 yX0_hearKeep, Cond.instanceMethod yX0_hearKeep, Cond.selects RX0 yX0_hearKeep yX0_hearKeep, Cond.code yX0_hearKeep cX0_hearKeep 4 none, Cond.methodLink RX0 95 yX0_isAhead, Cond.instanceMethod yX0_isAhead, Cond.selects RX0 yX0_isAhead yX0_isAhead, Cond.code yX0_isAhead cX0_isAhead 8 (some .boolean), Cond.methodLink RX0 99 yX0_guestsOn, Cond.instanceMethod yX0_guestsOn, Cond.selects RX0 yX0_guestsOn yX0_guestsOn, Cond.code yX0_guestsOn cX0_guestsOn 4 (some .int)]
def wsL_keptFor_r4 : List Cond := [Cond.methodLink RX0 108 yX0_comesOn, Cond.instanceMethod yX0_comesOn, Cond.selects RX0 yX0_comesOn yX0_comesOn, Cond.code yX0_comesOn cX0_comesOn 3 (some .boolean), Cond.methodLink RX0 103 yJ6_bitCount_0f7a4, Cond.static yJ6_bitCount_0f7a4, Cond.initialized RJ6, Cond.code yJ6_bitCount_0f7a4 cJ6_bitCount_0f7a4 1 (some .int), Cond.constant RJ6 265 (1431655765), Cond.constant RJ6 266 (858993459), Cond.constant RJ6 267 (252645135)]
def wsL_keptFor : List Cond := .codeWith yL_keptFor cL_keptFor 5 (some .int) [(0, 10, 13, 13)] :: ((wsL_keptFor_r1 ++ (wsL_keptFor_r2 ++ (wsL_keptFor_r3 ++ wsL_keptFor_r4))) ++ wsX30 ++ wsX00 ++ wsX20 ++ wsX10 ++ (vx_atS RX3 158 "java/lang/IndexOutOfBoundsException" ["java/lang/RuntimeException", "java/lang/Exception"]).filter goodWord)
def wsL_keptByAll_r1 : List Cond := [Cond.classLink RL 13 "java/lang/IndexOutOfBoundsException", Cond.methodLink RL 76 yX3_keptByAll, Cond.instanceMethod yX3_keptByAll, Cond.selects RX3 yX3_keptByAll yX3_keptByAll, Cond.initialized RX3, Cond.code yX3_keptByAll cX3_keptByAll 2 (some .int), Cond.fieldLink RX3 19 "FridgeGossip" "view" "LFridgeGossip$View;", Cond.fieldLink RX3 145 "FridgeGossip$View" "kept" "[I", Cond.methodLink RX3 42 yX3_checkNumber, Cond.static yX3_checkNumber, Cond.code yX3_checkNumber cX3_checkNumber 2 none, Cond.classLink RX3 154 "java/lang/IndexOutOfBoundsException", Cond.initialized "java/lang/IndexOutOfBoundsException", Cond.methodLink RX3 74 yX3_lookByAll, Cond.instanceMethod yX3_lookByAll, Cond.selects RX3 yX3_lookByAll yX3_lookByAll, Cond.code yX3_lookByAll cX3_lookByAll 1 none, Cond.fieldLink RX3 12 "FridgeGossip" "chain" "LFridgeGossip$WordChain;", Cond.fieldLink RX3 35 "FridgeGossip" "dayOf" "[I", Cond.methodLink RX3 165 yX0_read, Cond.instanceMethod yX0_read, Cond.selects RX0 yX0_read yX0_read, Cond.initialized RX0, Cond.code yX0_read cX0_read 5 none]
def wsL_keptByAll_r2 : List Cond := [Cond.fieldLink RX0 46 "FridgeGossip$WordChain" "earliest" "LFridgeGossip$Word;", Cond.fieldLink RX0 52 "FridgeGossip$Word" "knownTo" "I", Cond.fieldLink RX0 61 "FridgeGossip$Word" "next" "LFridgeGossip$Word;", Cond.fieldLink RX0 64 "FridgeGossip$Word" "kind" "I", Cond.fieldLink RX0 67 "FridgeGossip$Word" "subject" "I", Cond.fieldLink RX0 70 "FridgeGossip$Word" "cake" "I", Cond.methodLink RX0 43 yX0_forget, Cond.instanceMethod yX0_forget, Cond.selects RX0 yX0_forget yX0_forget, Cond.code yX0_forget cX0_forget 1 none, Cond.fieldLink RX0 9 "FridgeGossip$View" "place" "[I", Cond.fieldLink RX0 15 "FridgeGossip$View" "claimers" "[I", Cond.fieldLink RX0 18 "FridgeGossip$View" "kept" "[I", Cond.fieldLink RX0 21 "FridgeGossip$View" "firstDay" "[I", Cond.fieldLink RX0 24 "FridgeGossip$View" "lastDay" "[I", Cond.fieldLink RX0 27 "FridgeGossip$View" "dislikes" "[I", Cond.fieldLink RX0 30 "FridgeGossip$View" "state" "[I", Cond.fieldLink RX0 33 "FridgeGossip$View" "planRank" "[I", Cond.fieldLink RX0 36 "FridgeGossip$View" "planCount" "I", Cond.fieldLink RX0 40 "FridgeGossip$View" "spoiltCakes" "I", Cond.methodLink RX0 77 yJ7_fill_53178, Cond.static yJ7_fill_53178, Cond.initialized RJ7, Cond.code yJ7_fill_53178 cJ7_fill_53178 4 none]
def wsL_keptByAll_r3 : List Cond := [Cond.methodLink RX0 57 yX0_hear, Cond.instanceMethod yX0_hear, Cond.selects RX0 yX0_hear yX0_hear, Cond.code yX0_hear cX0_hear 2 none, Cond.fieldLink RX0 83 "FridgeGossip$Word" "writer" "I", Cond.fieldLink RX0 89 "FridgeGossip$Word" "firstDay" "I", Cond.fieldLink RX0 91 "FridgeGossip$Word" "lastDay" "I", Cond.fieldLink RX0 93 "FridgeGossip$Word" "dislikes" "I", Cond.methodLink RX0 86 yX0_hearTake, Cond.instanceMethod yX0_hearTake, Cond.selects RX0 yX0_hearTake yX0_hearTake, Cond.code yX0_hearTake cX0_hearTake 2 none, Cond.methodLink RX0 73 yX0_hearKeep, Cond.instanceMethod yX0_hearKeep, Cond.selects RX0 yX0_hearKeep yX0_hearKeep, Cond.code yX0_hearKeep cX0_hearKeep 4 none, Cond.methodLink RX0 95 yX0_isAhead, Cond.instanceMethod yX0_isAhead, Cond.selects RX0 yX0_isAhead yX0_isAhead, Cond.code yX0_isAhead cX0_isAhead 8 (some .boolean), Cond.methodLink RX0 99 yX0_guestsOn, Cond.instanceMethod yX0_guestsOn, Cond.selects RX0 yX0_guestsOn yX0_guestsOn, Cond.code yX0_guestsOn cX0_guestsOn 4 (some .int)]
def wsL_keptByAll_r4 : List Cond := [Cond.methodLink RX0 108 yX0_comesOn, Cond.instanceMethod yX0_comesOn, Cond.selects RX0 yX0_comesOn yX0_comesOn, Cond.code yX0_comesOn cX0_comesOn 3 (some .boolean), Cond.methodLink RX0 103 yJ6_bitCount_0f7a4, Cond.static yJ6_bitCount_0f7a4, Cond.initialized RJ6, Cond.code yJ6_bitCount_0f7a4 cJ6_bitCount_0f7a4 1 (some .int), Cond.constant RJ6 265 (1431655765), Cond.constant RJ6 266 (858993459), Cond.constant RJ6 267 (252645135)]
def wsL_keptByAll : List Cond := .codeWith yL_keptByAll cL_keptByAll 4 (some .int) [(0, 9, 12, 13)] :: ((wsL_keptByAll_r1 ++ (wsL_keptByAll_r2 ++ (wsL_keptByAll_r3 ++ wsL_keptByAll_r4))) ++ wsX30 ++ wsX00 ++ wsX20 ++ wsX10 ++ (vx_atS RX3 158 "java/lang/IndexOutOfBoundsException" ["java/lang/RuntimeException", "java/lang/Exception"]).filter goodWord)
def wsL_lacks_r1 : List Cond := [Cond.classLink RL 13 "java/lang/IndexOutOfBoundsException", Cond.methodLink RL 79 yX3_lacks, Cond.instanceMethod yX3_lacks, Cond.selects RX3 yX3_lacks yX3_lacks, Cond.initialized RX3, Cond.code yX3_lacks cX3_lacks 4 (some .int), Cond.fieldLink RX3 38 "FridgeGossip" "cakeCount" "I", Cond.fieldLink RX3 19 "FridgeGossip" "view" "LFridgeGossip$View;", Cond.fieldLink RX3 148 "FridgeGossip$View" "state" "[I", Cond.methodLink RX3 42 yX3_checkNumber, Cond.static yX3_checkNumber, Cond.code yX3_checkNumber cX3_checkNumber 2 none, Cond.classLink RX3 154 "java/lang/IndexOutOfBoundsException", Cond.initialized "java/lang/IndexOutOfBoundsException", Cond.methodLink RX3 46 yX3_lookAs, Cond.instanceMethod yX3_lookAs, Cond.selects RX3 yX3_lookAs yX3_lookAs, Cond.code yX3_lookAs cX3_lookAs 2 none, Cond.fieldLink RX3 12 "FridgeGossip" "chain" "LFridgeGossip$WordChain;", Cond.fieldLink RX3 35 "FridgeGossip" "dayOf" "[I", Cond.methodLink RX3 165 yX0_read, Cond.instanceMethod yX0_read, Cond.selects RX0 yX0_read yX0_read, Cond.initialized RX0]
def wsL_lacks_r2 : List Cond := [Cond.code yX0_read cX0_read 5 none, Cond.fieldLink RX0 46 "FridgeGossip$WordChain" "earliest" "LFridgeGossip$Word;", Cond.fieldLink RX0 52 "FridgeGossip$Word" "knownTo" "I", Cond.fieldLink RX0 61 "FridgeGossip$Word" "next" "LFridgeGossip$Word;", Cond.fieldLink RX0 64 "FridgeGossip$Word" "kind" "I", Cond.fieldLink RX0 67 "FridgeGossip$Word" "subject" "I", Cond.fieldLink RX0 70 "FridgeGossip$Word" "cake" "I", Cond.methodLink RX0 43 yX0_forget, Cond.instanceMethod yX0_forget, Cond.selects RX0 yX0_forget yX0_forget, Cond.code yX0_forget cX0_forget 1 none, Cond.fieldLink RX0 9 "FridgeGossip$View" "place" "[I", Cond.fieldLink RX0 15 "FridgeGossip$View" "claimers" "[I", Cond.fieldLink RX0 18 "FridgeGossip$View" "kept" "[I", Cond.fieldLink RX0 21 "FridgeGossip$View" "firstDay" "[I", Cond.fieldLink RX0 24 "FridgeGossip$View" "lastDay" "[I", Cond.fieldLink RX0 27 "FridgeGossip$View" "dislikes" "[I", Cond.fieldLink RX0 30 "FridgeGossip$View" "state" "[I", Cond.fieldLink RX0 33 "FridgeGossip$View" "planRank" "[I", Cond.fieldLink RX0 36 "FridgeGossip$View" "planCount" "I", Cond.fieldLink RX0 40 "FridgeGossip$View" "spoiltCakes" "I", Cond.methodLink RX0 77 yJ7_fill_53178, Cond.static yJ7_fill_53178, Cond.initialized RJ7]
def wsL_lacks_r3 : List Cond := [Cond.code yJ7_fill_53178 cJ7_fill_53178 4 none, Cond.methodLink RX0 57 yX0_hear, Cond.instanceMethod yX0_hear, Cond.selects RX0 yX0_hear yX0_hear, Cond.code yX0_hear cX0_hear 2 none, Cond.fieldLink RX0 83 "FridgeGossip$Word" "writer" "I", Cond.fieldLink RX0 89 "FridgeGossip$Word" "firstDay" "I", Cond.fieldLink RX0 91 "FridgeGossip$Word" "lastDay" "I", Cond.fieldLink RX0 93 "FridgeGossip$Word" "dislikes" "I", Cond.methodLink RX0 86 yX0_hearTake, Cond.instanceMethod yX0_hearTake, Cond.selects RX0 yX0_hearTake yX0_hearTake, Cond.code yX0_hearTake cX0_hearTake 2 none, Cond.methodLink RX0 73 yX0_hearKeep, Cond.instanceMethod yX0_hearKeep, Cond.selects RX0 yX0_hearKeep yX0_hearKeep, Cond.code yX0_hearKeep cX0_hearKeep 4 none, Cond.methodLink RX0 95 yX0_isAhead, Cond.instanceMethod yX0_isAhead, Cond.selects RX0 yX0_isAhead yX0_isAhead, Cond.code yX0_isAhead cX0_isAhead 8 (some .boolean), Cond.methodLink RX0 99 yX0_guestsOn, Cond.instanceMethod yX0_guestsOn, Cond.selects RX0 yX0_guestsOn yX0_guestsOn]
def wsL_lacks_r4 : List Cond := [Cond.code yX0_guestsOn cX0_guestsOn 4 (some .int), Cond.methodLink RX0 108 yX0_comesOn, Cond.instanceMethod yX0_comesOn, Cond.selects RX0 yX0_comesOn yX0_comesOn, Cond.code yX0_comesOn cX0_comesOn 3 (some .boolean), Cond.methodLink RX0 103 yJ6_bitCount_0f7a4, Cond.static yJ6_bitCount_0f7a4, Cond.initialized RJ6, Cond.code yJ6_bitCount_0f7a4 cJ6_bitCount_0f7a4 1 (some .int), Cond.constant RJ6 265 (1431655765), Cond.constant RJ6 266 (858993459), Cond.constant RJ6 267 (252645135), Cond.methodLink RX3 140 yX3_lacking, Cond.instanceMethod yX3_lacking, Cond.selects RX3 yX3_lacking yX3_lacking, Cond.code yX3_lacking cX3_lacking 3 (some .int), Cond.fieldLink RX3 29 "FridgeGossip" "needs" "[[I", Cond.fieldLink RX3 32 "FridgeGossip" "recipeOf" "[I", Cond.methodLink RX3 89 Lib.Math.max.name, Cond.static Lib.Math.max.name, Cond.initialized "java/lang/Math", Cond.code Lib.Math.max.name Lib.Math.max.code 2 (some .int), Cond.methodLink RX3 179 yX0_thingsKept, Cond.instanceMethod yX0_thingsKept]
def wsL_lacks_r5 : List Cond := [Cond.selects RX0 yX0_thingsKept yX0_thingsKept, Cond.code yX0_thingsKept cX0_thingsKept 5 (some .int)]
def wsL_lacks : List Cond := .codeWith yL_lacks cL_lacks 6 (some .int) [(0, 12, 15, 13)] :: ((wsL_lacks_r1 ++ (wsL_lacks_r2 ++ (wsL_lacks_r3 ++ (wsL_lacks_r4 ++ wsL_lacks_r5)))) ++ wsX30 ++ wsX00 ++ wsX20 ++ wsX10 ++ (vx_atS RX3 158 "java/lang/IndexOutOfBoundsException" ["java/lang/RuntimeException", "java/lang/Exception"]).filter goodWord)
def wsL_isUnfit_r1 : List Cond := [Cond.classLink RL 13 "java/lang/IndexOutOfBoundsException", Cond.methodLink RL 82 yX3_isUnfit, Cond.instanceMethod yX3_isUnfit, Cond.selects RX3 yX3_isUnfit yX3_isUnfit, Cond.initialized RX3, Cond.code yX3_isUnfit cX3_isUnfit 3 (some .boolean), Cond.fieldLink RX3 38 "FridgeGossip" "cakeCount" "I", Cond.fieldLink RX3 19 "FridgeGossip" "view" "LFridgeGossip$View;", Cond.fieldLink RX3 148 "FridgeGossip$View" "state" "[I", Cond.fieldLink RX3 32 "FridgeGossip" "recipeOf" "[I", Cond.fieldLink RX3 35 "FridgeGossip" "dayOf" "[I", Cond.methodLink RX3 42 yX3_checkNumber, Cond.static yX3_checkNumber, Cond.code yX3_checkNumber cX3_checkNumber 2 none, Cond.classLink RX3 154 "java/lang/IndexOutOfBoundsException", Cond.initialized "java/lang/IndexOutOfBoundsException", Cond.methodLink RX3 46 yX3_lookAs, Cond.instanceMethod yX3_lookAs, Cond.selects RX3 yX3_lookAs yX3_lookAs, Cond.code yX3_lookAs cX3_lookAs 2 none, Cond.fieldLink RX3 12 "FridgeGossip" "chain" "LFridgeGossip$WordChain;", Cond.methodLink RX3 165 yX0_read, Cond.instanceMethod yX0_read, Cond.selects RX0 yX0_read yX0_read]
def wsL_isUnfit_r2 : List Cond := [Cond.initialized RX0, Cond.code yX0_read cX0_read 5 none, Cond.fieldLink RX0 46 "FridgeGossip$WordChain" "earliest" "LFridgeGossip$Word;", Cond.fieldLink RX0 52 "FridgeGossip$Word" "knownTo" "I", Cond.fieldLink RX0 61 "FridgeGossip$Word" "next" "LFridgeGossip$Word;", Cond.fieldLink RX0 64 "FridgeGossip$Word" "kind" "I", Cond.fieldLink RX0 67 "FridgeGossip$Word" "subject" "I", Cond.fieldLink RX0 70 "FridgeGossip$Word" "cake" "I", Cond.methodLink RX0 43 yX0_forget, Cond.instanceMethod yX0_forget, Cond.selects RX0 yX0_forget yX0_forget, Cond.code yX0_forget cX0_forget 1 none, Cond.fieldLink RX0 9 "FridgeGossip$View" "place" "[I", Cond.fieldLink RX0 15 "FridgeGossip$View" "claimers" "[I", Cond.fieldLink RX0 18 "FridgeGossip$View" "kept" "[I", Cond.fieldLink RX0 21 "FridgeGossip$View" "firstDay" "[I", Cond.fieldLink RX0 24 "FridgeGossip$View" "lastDay" "[I", Cond.fieldLink RX0 27 "FridgeGossip$View" "dislikes" "[I", Cond.fieldLink RX0 30 "FridgeGossip$View" "state" "[I", Cond.fieldLink RX0 33 "FridgeGossip$View" "planRank" "[I", Cond.fieldLink RX0 36 "FridgeGossip$View" "planCount" "I", Cond.fieldLink RX0 40 "FridgeGossip$View" "spoiltCakes" "I", Cond.methodLink RX0 77 yJ7_fill_53178, Cond.static yJ7_fill_53178]
def wsL_isUnfit_r3 : List Cond := [Cond.initialized RJ7, Cond.code yJ7_fill_53178 cJ7_fill_53178 4 none, Cond.methodLink RX0 57 yX0_hear, Cond.instanceMethod yX0_hear, Cond.selects RX0 yX0_hear yX0_hear, Cond.code yX0_hear cX0_hear 2 none, Cond.fieldLink RX0 83 "FridgeGossip$Word" "writer" "I", Cond.fieldLink RX0 89 "FridgeGossip$Word" "firstDay" "I", Cond.fieldLink RX0 91 "FridgeGossip$Word" "lastDay" "I", Cond.fieldLink RX0 93 "FridgeGossip$Word" "dislikes" "I", Cond.methodLink RX0 86 yX0_hearTake, Cond.instanceMethod yX0_hearTake, Cond.selects RX0 yX0_hearTake yX0_hearTake, Cond.code yX0_hearTake cX0_hearTake 2 none, Cond.methodLink RX0 73 yX0_hearKeep, Cond.instanceMethod yX0_hearKeep, Cond.selects RX0 yX0_hearKeep yX0_hearKeep, Cond.code yX0_hearKeep cX0_hearKeep 4 none, Cond.methodLink RX0 95 yX0_isAhead, Cond.instanceMethod yX0_isAhead, Cond.selects RX0 yX0_isAhead yX0_isAhead, Cond.code yX0_isAhead cX0_isAhead 8 (some .boolean), Cond.methodLink RX0 99 yX0_guestsOn, Cond.instanceMethod yX0_guestsOn]
def wsL_isUnfit_r4 : List Cond := [Cond.selects RX0 yX0_guestsOn yX0_guestsOn, Cond.code yX0_guestsOn cX0_guestsOn 4 (some .int), Cond.methodLink RX0 108 yX0_comesOn, Cond.instanceMethod yX0_comesOn, Cond.selects RX0 yX0_comesOn yX0_comesOn, Cond.code yX0_comesOn cX0_comesOn 3 (some .boolean), Cond.methodLink RX0 103 yJ6_bitCount_0f7a4, Cond.static yJ6_bitCount_0f7a4, Cond.initialized RJ6, Cond.code yJ6_bitCount_0f7a4 cJ6_bitCount_0f7a4 1 (some .int), Cond.constant RJ6 265 (1431655765), Cond.constant RJ6 266 (858993459), Cond.constant RJ6 267 (252645135), Cond.methodLink RX3 120 yX3_isDisliked, Cond.instanceMethod yX3_isDisliked, Cond.selects RX3 yX3_isDisliked yX3_isDisliked, Cond.code yX3_isDisliked cX3_isDisliked 5 (some .boolean), Cond.fieldLink RX3 29 "FridgeGossip" "needs" "[[I", Cond.methodLink RX3 176 yX0_dislikedOn, Cond.instanceMethod yX0_dislikedOn, Cond.selects RX0 yX0_dislikedOn yX0_dislikedOn, Cond.code yX0_dislikedOn cX0_dislikedOn 4 (some .int)]
def wsL_isUnfit : List Cond := .codeWith yL_isUnfit cL_isUnfit 5 (some .int) [(0, 17, 20, 13)] :: ((wsL_isUnfit_r1 ++ (wsL_isUnfit_r2 ++ (wsL_isUnfit_r3 ++ wsL_isUnfit_r4))) ++ wsX30 ++ wsX00 ++ wsX20 ++ wsX10 ++ (vx_atS RX3 158 "java/lang/IndexOutOfBoundsException" ["java/lang/RuntimeException", "java/lang/Exception"]).filter goodWord)
def wsL_isSpoilt_r1 : List Cond := [Cond.classLink RL 13 "java/lang/IndexOutOfBoundsException", Cond.methodLink RL 86 yX3_isSpoilt, Cond.instanceMethod yX3_isSpoilt, Cond.selects RX3 yX3_isSpoilt yX3_isSpoilt, Cond.initialized RX3, Cond.code yX3_isSpoilt cX3_isSpoilt 3 (some .boolean), Cond.fieldLink RX3 38 "FridgeGossip" "cakeCount" "I", Cond.fieldLink RX3 19 "FridgeGossip" "view" "LFridgeGossip$View;", Cond.fieldLink RX3 148 "FridgeGossip$View" "state" "[I", Cond.fieldLink RX3 151 "FridgeGossip$View" "spoiltCakes" "I", Cond.methodLink RX3 42 yX3_checkNumber, Cond.static yX3_checkNumber, Cond.code yX3_checkNumber cX3_checkNumber 2 none, Cond.classLink RX3 154 "java/lang/IndexOutOfBoundsException", Cond.initialized "java/lang/IndexOutOfBoundsException", Cond.methodLink RX3 46 yX3_lookAs, Cond.instanceMethod yX3_lookAs, Cond.selects RX3 yX3_lookAs yX3_lookAs, Cond.code yX3_lookAs cX3_lookAs 2 none, Cond.fieldLink RX3 12 "FridgeGossip" "chain" "LFridgeGossip$WordChain;", Cond.fieldLink RX3 35 "FridgeGossip" "dayOf" "[I", Cond.methodLink RX3 165 yX0_read, Cond.instanceMethod yX0_read, Cond.selects RX0 yX0_read yX0_read]
def wsL_isSpoilt_r2 : List Cond := [Cond.initialized RX0, Cond.code yX0_read cX0_read 5 none, Cond.fieldLink RX0 46 "FridgeGossip$WordChain" "earliest" "LFridgeGossip$Word;", Cond.fieldLink RX0 52 "FridgeGossip$Word" "knownTo" "I", Cond.fieldLink RX0 61 "FridgeGossip$Word" "next" "LFridgeGossip$Word;", Cond.fieldLink RX0 64 "FridgeGossip$Word" "kind" "I", Cond.fieldLink RX0 67 "FridgeGossip$Word" "subject" "I", Cond.fieldLink RX0 70 "FridgeGossip$Word" "cake" "I", Cond.methodLink RX0 43 yX0_forget, Cond.instanceMethod yX0_forget, Cond.selects RX0 yX0_forget yX0_forget, Cond.code yX0_forget cX0_forget 1 none, Cond.fieldLink RX0 9 "FridgeGossip$View" "place" "[I", Cond.fieldLink RX0 15 "FridgeGossip$View" "claimers" "[I", Cond.fieldLink RX0 18 "FridgeGossip$View" "kept" "[I", Cond.fieldLink RX0 21 "FridgeGossip$View" "firstDay" "[I", Cond.fieldLink RX0 24 "FridgeGossip$View" "lastDay" "[I", Cond.fieldLink RX0 27 "FridgeGossip$View" "dislikes" "[I", Cond.fieldLink RX0 30 "FridgeGossip$View" "state" "[I", Cond.fieldLink RX0 33 "FridgeGossip$View" "planRank" "[I", Cond.fieldLink RX0 36 "FridgeGossip$View" "planCount" "I", Cond.fieldLink RX0 40 "FridgeGossip$View" "spoiltCakes" "I", Cond.methodLink RX0 77 yJ7_fill_53178, Cond.static yJ7_fill_53178]
def wsL_isSpoilt_r3 : List Cond := [Cond.initialized RJ7, Cond.code yJ7_fill_53178 cJ7_fill_53178 4 none, Cond.methodLink RX0 57 yX0_hear, Cond.instanceMethod yX0_hear, Cond.selects RX0 yX0_hear yX0_hear, Cond.code yX0_hear cX0_hear 2 none, Cond.fieldLink RX0 83 "FridgeGossip$Word" "writer" "I", Cond.fieldLink RX0 89 "FridgeGossip$Word" "firstDay" "I", Cond.fieldLink RX0 91 "FridgeGossip$Word" "lastDay" "I", Cond.fieldLink RX0 93 "FridgeGossip$Word" "dislikes" "I", Cond.methodLink RX0 86 yX0_hearTake, Cond.instanceMethod yX0_hearTake, Cond.selects RX0 yX0_hearTake yX0_hearTake, Cond.code yX0_hearTake cX0_hearTake 2 none, Cond.methodLink RX0 73 yX0_hearKeep, Cond.instanceMethod yX0_hearKeep, Cond.selects RX0 yX0_hearKeep yX0_hearKeep, Cond.code yX0_hearKeep cX0_hearKeep 4 none, Cond.methodLink RX0 95 yX0_isAhead, Cond.instanceMethod yX0_isAhead, Cond.selects RX0 yX0_isAhead yX0_isAhead, Cond.code yX0_isAhead cX0_isAhead 8 (some .boolean), Cond.methodLink RX0 99 yX0_guestsOn, Cond.instanceMethod yX0_guestsOn]
def wsL_isSpoilt_r4 : List Cond := [Cond.selects RX0 yX0_guestsOn yX0_guestsOn, Cond.code yX0_guestsOn cX0_guestsOn 4 (some .int), Cond.methodLink RX0 108 yX0_comesOn, Cond.instanceMethod yX0_comesOn, Cond.selects RX0 yX0_comesOn yX0_comesOn, Cond.code yX0_comesOn cX0_comesOn 3 (some .boolean), Cond.methodLink RX0 103 yJ6_bitCount_0f7a4, Cond.static yJ6_bitCount_0f7a4, Cond.initialized RJ6, Cond.code yJ6_bitCount_0f7a4 cJ6_bitCount_0f7a4 1 (some .int), Cond.constant RJ6 265 (1431655765), Cond.constant RJ6 266 (858993459), Cond.constant RJ6 267 (252645135)]
def wsL_isSpoilt : List Cond := .codeWith yL_isSpoilt cL_isSpoilt 5 (some .int) [(0, 17, 20, 13)] :: ((wsL_isSpoilt_r1 ++ (wsL_isSpoilt_r2 ++ (wsL_isSpoilt_r3 ++ wsL_isSpoilt_r4))) ++ wsX30 ++ wsX00 ++ wsX20 ++ wsX10 ++ (vx_atS RX3 158 "java/lang/IndexOutOfBoundsException" ["java/lang/RuntimeException", "java/lang/Exception"]).filter goodWord)
def wsL_missing_r1 : List Cond := [Cond.classLink RL 13 "java/lang/IndexOutOfBoundsException", Cond.methodLink RL 89 yX3_missing, Cond.instanceMethod yX3_missing, Cond.selects RX3 yX3_missing yX3_missing, Cond.initialized RX3, Cond.code yX3_missing cX3_missing 5 (some .int), Cond.fieldLink RX3 38 "FridgeGossip" "cakeCount" "I", Cond.fieldLink RX3 19 "FridgeGossip" "view" "LFridgeGossip$View;", Cond.fieldLink RX3 148 "FridgeGossip$View" "state" "[I", Cond.fieldLink RX3 29 "FridgeGossip" "needs" "[[I", Cond.fieldLink RX3 32 "FridgeGossip" "recipeOf" "[I", Cond.methodLink RX3 89 Lib.Math.max.name, Cond.static Lib.Math.max.name, Cond.initialized "java/lang/Math", Cond.code Lib.Math.max.name Lib.Math.max.code 2 (some .int), Cond.methodLink RX3 42 yX3_checkNumber, Cond.static yX3_checkNumber, Cond.code yX3_checkNumber cX3_checkNumber 2 none, Cond.classLink RX3 154 "java/lang/IndexOutOfBoundsException", Cond.initialized "java/lang/IndexOutOfBoundsException", Cond.methodLink RX3 46 yX3_lookAs, Cond.instanceMethod yX3_lookAs, Cond.selects RX3 yX3_lookAs yX3_lookAs, Cond.code yX3_lookAs cX3_lookAs 2 none]
def wsL_missing_r2 : List Cond := [Cond.fieldLink RX3 12 "FridgeGossip" "chain" "LFridgeGossip$WordChain;", Cond.fieldLink RX3 35 "FridgeGossip" "dayOf" "[I", Cond.methodLink RX3 165 yX0_read, Cond.instanceMethod yX0_read, Cond.selects RX0 yX0_read yX0_read, Cond.initialized RX0, Cond.code yX0_read cX0_read 5 none, Cond.fieldLink RX0 46 "FridgeGossip$WordChain" "earliest" "LFridgeGossip$Word;", Cond.fieldLink RX0 52 "FridgeGossip$Word" "knownTo" "I", Cond.fieldLink RX0 61 "FridgeGossip$Word" "next" "LFridgeGossip$Word;", Cond.fieldLink RX0 64 "FridgeGossip$Word" "kind" "I", Cond.fieldLink RX0 67 "FridgeGossip$Word" "subject" "I", Cond.fieldLink RX0 70 "FridgeGossip$Word" "cake" "I", Cond.methodLink RX0 43 yX0_forget, Cond.instanceMethod yX0_forget, Cond.selects RX0 yX0_forget yX0_forget, Cond.code yX0_forget cX0_forget 1 none, Cond.fieldLink RX0 9 "FridgeGossip$View" "place" "[I", Cond.fieldLink RX0 15 "FridgeGossip$View" "claimers" "[I", Cond.fieldLink RX0 18 "FridgeGossip$View" "kept" "[I", Cond.fieldLink RX0 21 "FridgeGossip$View" "firstDay" "[I", Cond.fieldLink RX0 24 "FridgeGossip$View" "lastDay" "[I", Cond.fieldLink RX0 27 "FridgeGossip$View" "dislikes" "[I", Cond.fieldLink RX0 30 "FridgeGossip$View" "state" "[I"]
def wsL_missing_r3 : List Cond := [Cond.fieldLink RX0 33 "FridgeGossip$View" "planRank" "[I", Cond.fieldLink RX0 36 "FridgeGossip$View" "planCount" "I", Cond.fieldLink RX0 40 "FridgeGossip$View" "spoiltCakes" "I", Cond.methodLink RX0 77 yJ7_fill_53178, Cond.static yJ7_fill_53178, Cond.initialized RJ7, Cond.code yJ7_fill_53178 cJ7_fill_53178 4 none, Cond.methodLink RX0 57 yX0_hear, Cond.instanceMethod yX0_hear, Cond.selects RX0 yX0_hear yX0_hear, Cond.code yX0_hear cX0_hear 2 none, Cond.fieldLink RX0 83 "FridgeGossip$Word" "writer" "I", Cond.fieldLink RX0 89 "FridgeGossip$Word" "firstDay" "I", Cond.fieldLink RX0 91 "FridgeGossip$Word" "lastDay" "I", Cond.fieldLink RX0 93 "FridgeGossip$Word" "dislikes" "I", Cond.methodLink RX0 86 yX0_hearTake, Cond.instanceMethod yX0_hearTake, Cond.selects RX0 yX0_hearTake yX0_hearTake, Cond.code yX0_hearTake cX0_hearTake 2 none, Cond.methodLink RX0 73 yX0_hearKeep, Cond.instanceMethod yX0_hearKeep, Cond.selects RX0 yX0_hearKeep yX0_hearKeep, Cond.code yX0_hearKeep cX0_hearKeep 4 none, Cond.methodLink RX0 95 yX0_isAhead]
def wsL_missing_r4 : List Cond := [Cond.instanceMethod yX0_isAhead, Cond.selects RX0 yX0_isAhead yX0_isAhead, Cond.code yX0_isAhead cX0_isAhead 8 (some .boolean), Cond.methodLink RX0 99 yX0_guestsOn, Cond.instanceMethod yX0_guestsOn, Cond.selects RX0 yX0_guestsOn yX0_guestsOn, Cond.code yX0_guestsOn cX0_guestsOn 4 (some .int), Cond.methodLink RX0 108 yX0_comesOn, Cond.instanceMethod yX0_comesOn, Cond.selects RX0 yX0_comesOn yX0_comesOn, Cond.code yX0_comesOn cX0_comesOn 3 (some .boolean), Cond.methodLink RX0 103 yJ6_bitCount_0f7a4, Cond.static yJ6_bitCount_0f7a4, Cond.initialized RJ6, Cond.code yJ6_bitCount_0f7a4 cJ6_bitCount_0f7a4 1 (some .int), Cond.constant RJ6 265 (1431655765), Cond.constant RJ6 266 (858993459), Cond.constant RJ6 267 (252645135), Cond.methodLink RX3 77 yX0_thingsSomewhere, Cond.instanceMethod yX0_thingsSomewhere, Cond.selects RX0 yX0_thingsSomewhere yX0_thingsSomewhere, Cond.code yX0_thingsSomewhere cX0_thingsSomewhere 4 (some .int)]
def wsL_missing : List Cond := .codeWith yL_missing cL_missing 5 (some .int) [(0, 10, 13, 13)] :: ((wsL_missing_r1 ++ (wsL_missing_r2 ++ (wsL_missing_r3 ++ wsL_missing_r4))) ++ wsX30 ++ wsX00 ++ wsX20 ++ wsX10 ++ (vx_atS RX3 158 "java/lang/IndexOutOfBoundsException" ["java/lang/RuntimeException", "java/lang/Exception"]).filter goodWord)
abbrev vwCl : List vw_C := [(RX0, TX0, 10), (RX1, TX1, 10), (RX2, TX2, 2), (RX3, TX3, 7), (RX4, TX4, 19)]
end
section
theorem dX4_init_0 : decode cX4_init 0 = .ok (.aload_n 0, 1) := by decide +kernel
theorem dX4_init_1 : decode cX4_init 1 = .ok (.invokespecial 1, 3) := by decide +kernel
theorem dX4_init_4 : decode cX4_init 4 = .ok (.aload_n 0, 1) := by decide +kernel
theorem dX4_init_5 : decode cX4_init 5 = .ok (.sipush 240, 3) := by decide +kernel
theorem dX4_init_8 : decode cX4_init 8 = .ok (.newarray .int, 2) := by decide +kernel
theorem dX4_init_10 : decode cX4_init 10 = .ok (.putfield 7, 3) := by decide +kernel
theorem dX4_init_13 : decode cX4_init 13 = .ok (.aload_n 0, 1) := by decide +kernel
theorem dX4_init_14 : decode cX4_init 14 = .ok (.sipush 240, 3) := by decide +kernel
theorem dX4_init_17 : decode cX4_init 17 = .ok (.newarray .int, 2) := by decide +kernel
theorem dX4_init_19 : decode cX4_init 19 = .ok (.putfield 13, 3) := by decide +kernel
theorem dX4_init_22 : decode cX4_init 22 = .ok (.aload_n 0, 1) := by decide +kernel
theorem dX4_init_23 : decode cX4_init 23 = .ok (.sipush 240, 3) := by decide +kernel
theorem dX4_init_26 : decode cX4_init 26 = .ok (.newarray .int, 2) := by decide +kernel
theorem dX4_init_28 : decode cX4_init 28 = .ok (.putfield 16, 3) := by decide +kernel
theorem dX4_init_31 : decode cX4_init 31 = .ok (.aload_n 0, 1) := by decide +kernel
theorem dX4_init_32 : decode cX4_init 32 = .ok (.sipush 240, 3) := by decide +kernel
theorem dX4_init_35 : decode cX4_init 35 = .ok (.newarray .int, 2) := by decide +kernel
theorem dX4_init_37 : decode cX4_init 37 = .ok (.putfield 19, 3) := by decide +kernel
theorem dX4_init_40 : decode cX4_init 40 = .ok (.aload_n 0, 1) := by decide +kernel
theorem dX4_init_41 : decode cX4_init 41 = .ok (.sipush 240, 3) := by decide +kernel
theorem dX4_init_44 : decode cX4_init 44 = .ok (.newarray .int, 2) := by decide +kernel
theorem dX4_init_46 : decode cX4_init 46 = .ok (.putfield 22, 3) := by decide +kernel
theorem dX4_init_49 : decode cX4_init 49 = .ok (.aload_n 0, 1) := by decide +kernel
theorem dX4_init_50 : decode cX4_init 50 = .ok (.sipush 240, 3) := by decide +kernel
theorem dX4_init_53 : decode cX4_init 53 = .ok (.newarray .int, 2) := by decide +kernel
theorem dX4_init_55 : decode cX4_init 55 = .ok (.putfield 25, 3) := by decide +kernel
theorem dX4_init_58 : decode cX4_init 58 = .ok (.aload_n 0, 1) := by decide +kernel
theorem dX4_init_59 : decode cX4_init 59 = .ok (.sipush 240, 3) := by decide +kernel
theorem dX4_init_62 : decode cX4_init 62 = .ok (.newarray .int, 2) := by decide +kernel
theorem dX4_init_64 : decode cX4_init 64 = .ok (.putfield 28, 3) := by decide +kernel
theorem dX4_init_67 : decode cX4_init 67 = .ok (.aload_n 0, 1) := by decide +kernel
theorem dX4_init_68 : decode cX4_init 68 = .ok (.sipush 240, 3) := by decide +kernel
theorem dX4_init_71 : decode cX4_init 71 = .ok (.newarray .int, 2) := by decide +kernel
theorem dX4_init_73 : decode cX4_init 73 = .ok (.putfield 31, 3) := by decide +kernel
theorem dX4_init_76 : decode cX4_init 76 = .ok (.aload_n 0, 1) := by decide +kernel
theorem dX4_init_77 : decode cX4_init 77 = .ok (.sipush 1440, 3) := by decide +kernel
theorem dX4_init_80 : decode cX4_init 80 = .ok (.newarray .boolean, 2) := by decide +kernel
theorem dX4_init_82 : decode cX4_init 82 = .ok (.putfield 34, 3) := by decide +kernel
theorem dX4_init_85 : decode cX4_init 85 = .ok (.aload_n 0, 1) := by decide +kernel
theorem dX4_init_86 : decode cX4_init 86 = .ok (.iconst 5, 1) := by decide +kernel
theorem dX4_init_87 : decode cX4_init 87 = .ok (.newarray .int, 2) := by decide +kernel
theorem dX4_init_89 : decode cX4_init 89 = .ok (.putfield 38, 3) := by decide +kernel
theorem dX4_init_92 : decode cX4_init 92 = .ok (.aload_n 0, 1) := by decide +kernel
theorem dX4_init_93 : decode cX4_init 93 = .ok (.bipush 48, 2) := by decide +kernel
theorem dX4_init_95 : decode cX4_init 95 = .ok (.newarray .int, 2) := by decide +kernel
theorem dX4_init_97 : decode cX4_init 97 = .ok (.putfield 41, 3) := by decide +kernel
theorem dX4_init_100 : decode cX4_init 100 = .ok (.aload_n 0, 1) := by decide +kernel
theorem dX4_init_101 : decode cX4_init 101 = .ok (.bipush 20, 2) := by decide +kernel
theorem dX4_init_103 : decode cX4_init 103 = .ok (.newarray .int, 2) := by decide +kernel
theorem dX4_init_105 : decode cX4_init 105 = .ok (.putfield 44, 3) := by decide +kernel
theorem dX4_init_108 : decode cX4_init 108 = .ok (.aload_n 0, 1) := by decide +kernel
theorem dX4_init_109 : decode cX4_init 109 = .ok (.bipush 20, 2) := by decide +kernel
theorem dX4_init_111 : decode cX4_init 111 = .ok (.newarray .int, 2) := by decide +kernel
theorem dX4_init_113 : decode cX4_init 113 = .ok (.putfield 47, 3) := by decide +kernel
theorem dX4_init_116 : decode cX4_init 116 = .ok (.aload_n 0, 1) := by decide +kernel
theorem dX4_init_117 : decode cX4_init 117 = .ok (.bipush 20, 2) := by decide +kernel
theorem dX4_init_119 : decode cX4_init 119 = .ok (.newarray .int, 2) := by decide +kernel
theorem dX4_init_121 : decode cX4_init 121 = .ok (.putfield 50, 3) := by decide +kernel
theorem dX4_init_124 : decode cX4_init 124 = .ok (.aload_n 0, 1) := by decide +kernel
theorem dX4_init_125 : decode cX4_init 125 = .ok (.bipush 40, 2) := by decide +kernel
theorem dX4_init_127 : decode cX4_init 127 = .ok (.newarray .int, 2) := by decide +kernel
theorem dX4_init_129 : decode cX4_init 129 = .ok (.putfield 53, 3) := by decide +kernel
theorem dX4_init_132 : decode cX4_init 132 = .ok (.aload_n 0, 1) := by decide +kernel
theorem dX4_init_133 : decode cX4_init 133 = .ok (.iconst 0, 1) := by decide +kernel
theorem dX4_init_134 : decode cX4_init 134 = .ok (.putfield 56, 3) := by decide +kernel
theorem dX4_init_137 : decode cX4_init 137 = .ok (.return_, 1) := by decide +kernel
theorem dX4_thrown_0 : decode cX4_thrown 0 = .ok (.aload_n 0, 1) := by decide +kernel
theorem dX4_thrown_1 : decode cX4_thrown 1 = .ok (.getfield 60, 3) := by decide +kernel
theorem dX4_thrown_4 : decode cX4_thrown 4 = .ok (.ireturn, 1) := by decide +kernel
theorem dX4_in_0 : decode cX4_in 0 = .ok (.iload_n 0, 1) := by decide +kernel
theorem dX4_in_1 : decode cX4_in 1 = .ok (.iload_n 1, 1) := by decide +kernel
theorem dX4_in_2 : decode cX4_in 2 = .ok (.if_icmp .lt 12, 3) := by decide +kernel
theorem dX4_in_5 : decode cX4_in 5 = .ok (.iload_n 0, 1) := by decide +kernel
theorem dX4_in_6 : decode cX4_in 6 = .ok (.iload_n 2, 1) := by decide +kernel
theorem dX4_in_7 : decode cX4_in 7 = .ok (.if_icmp .gt 7, 3) := by decide +kernel
theorem dX4_in_10 : decode cX4_in 10 = .ok (.iconst 1, 1) := by decide +kernel
theorem dX4_in_11 : decode cX4_in 11 = .ok (.goto 4, 3) := by decide +kernel
theorem dX4_in_14 : decode cX4_in 14 = .ok (.iconst 0, 1) := by decide +kernel
theorem dX4_in_15 : decode cX4_in 15 = .ok (.ireturn, 1) := by decide +kernel
set_option maxRecDepth 20000 in
theorem ggX4_isFridge_X4_in : GoodIn wsX4_isFridge wsX4_in := goodIn_r _ [4] (by decide +kernel) (by decide +kernel)
set_option maxRecDepth 20000 in
theorem gX4_isFridge_X4_in : GoodIn wsX4_isFridge (va_wsS RX4 63 yX4_in wsX4_in) := goodIn_app (goodIn_of _ (by decide +kernel)) ggX4_isFridge_X4_in
theorem dX4_isFridge_0 : decode cX4_isFridge 0 = .ok (.iload_n 0, 1) := by decide +kernel
theorem dX4_isFridge_1 : decode cX4_isFridge 1 = .ok (.iconst 0, 1) := by decide +kernel
theorem dX4_isFridge_2 : decode cX4_isFridge 2 = .ok (.iconst 4, 1) := by decide +kernel
theorem dX4_isFridge_3 : decode cX4_isFridge 3 = .ok (.invokestatic 63, 3) := by decide +kernel
theorem dX4_isFridge_6 : decode cX4_isFridge 6 = .ok (.ireturn, 1) := by decide +kernel
set_option maxRecDepth 20000 in
theorem ggX4_isThing_X4_in : GoodIn wsX4_isThing wsX4_in := goodIn_r _ [4] (by decide +kernel) (by decide +kernel)
set_option maxRecDepth 20000 in
theorem gX4_isThing_X4_in : GoodIn wsX4_isThing (va_wsS RX4 63 yX4_in wsX4_in) := goodIn_app (goodIn_of _ (by decide +kernel)) ggX4_isThing_X4_in
theorem dX4_isThing_0 : decode cX4_isThing 0 = .ok (.iload_n 0, 1) := by decide +kernel
theorem dX4_isThing_1 : decode cX4_isThing 1 = .ok (.iconst 0, 1) := by decide +kernel
theorem dX4_isThing_2 : decode cX4_isThing 2 = .ok (.bipush 39, 2) := by decide +kernel
theorem dX4_isThing_4 : decode cX4_isThing 4 = .ok (.invokestatic 63, 3) := by decide +kernel
theorem dX4_isThing_7 : decode cX4_isThing 7 = .ok (.ireturn, 1) := by decide +kernel
set_option maxRecDepth 20000 in
theorem ggX4_isFood_X4_in : GoodIn wsX4_isFood wsX4_in := goodIn_r _ [4] (by decide +kernel) (by decide +kernel)
set_option maxRecDepth 20000 in
theorem gX4_isFood_X4_in : GoodIn wsX4_isFood (va_wsS RX4 63 yX4_in wsX4_in) := goodIn_app (goodIn_of _ (by decide +kernel)) ggX4_isFood_X4_in
theorem dX4_isFood_0 : decode cX4_isFood 0 = .ok (.iload_n 0, 1) := by decide +kernel
theorem dX4_isFood_1 : decode cX4_isFood 1 = .ok (.iconst 0, 1) := by decide +kernel
theorem dX4_isFood_2 : decode cX4_isFood 2 = .ok (.bipush 7, 2) := by decide +kernel
theorem dX4_isFood_4 : decode cX4_isFood 4 = .ok (.invokestatic 63, 3) := by decide +kernel
theorem dX4_isFood_7 : decode cX4_isFood 7 = .ok (.ireturn, 1) := by decide +kernel
set_option maxRecDepth 20000 in
theorem ggX4_isCake_X4_in : GoodIn wsX4_isCake wsX4_in := goodIn_r _ [5] (by decide +kernel) (by decide +kernel)
set_option maxRecDepth 20000 in
theorem gX4_isCake_X4_in : GoodIn wsX4_isCake (va_wsS RX4 63 yX4_in wsX4_in) := goodIn_app (goodIn_of _ (by decide +kernel)) ggX4_isCake_X4_in
theorem dX4_isCake_0 : decode cX4_isCake 0 = .ok (.iload_n 1, 1) := by decide +kernel
theorem dX4_isCake_1 : decode cX4_isCake 1 = .ok (.iconst 0, 1) := by decide +kernel
theorem dX4_isCake_2 : decode cX4_isCake 2 = .ok (.aload_n 0, 1) := by decide +kernel
theorem dX4_isCake_3 : decode cX4_isCake 3 = .ok (.getfield 67, 3) := by decide +kernel
theorem dX4_isCake_6 : decode cX4_isCake 6 = .ok (.iconst 1, 1) := by decide +kernel
theorem dX4_isCake_7 : decode cX4_isCake 7 = .ok (.isub, 1) := by decide +kernel
theorem dX4_isCake_8 : decode cX4_isCake 8 = .ok (.invokestatic 63, 3) := by decide +kernel
theorem dX4_isCake_11 : decode cX4_isCake 11 = .ok (.ireturn, 1) := by decide +kernel
theorem dX4_knows_0 : decode cX4_knows 0 = .ok (.aload_n 0, 1) := by decide +kernel
theorem dX4_knows_1 : decode cX4_knows 1 = .ok (.getfield 34, 3) := by decide +kernel
theorem dX4_knows_4 : decode cX4_knows 4 = .ok (.bipush 6, 2) := by decide +kernel
theorem dX4_knows_6 : decode cX4_knows 6 = .ok (.iload_n 2, 1) := by decide +kernel
theorem dX4_knows_7 : decode cX4_knows 7 = .ok (.imul, 1) := by decide +kernel
theorem dX4_knows_8 : decode cX4_knows 8 = .ok (.iload_n 1, 1) := by decide +kernel
theorem dX4_knows_9 : decode cX4_knows 9 = .ok (.iadd, 1) := by decide +kernel
theorem dX4_knows_10 : decode cX4_knows 10 = .ok (.baload, 1) := by decide +kernel
theorem dX4_knows_11 : decode cX4_knows 11 = .ok (.ireturn, 1) := by decide +kernel
theorem dX4_isLater_0 : decode cX4_isLater 0 = .ok (.aload_n 0, 1) := by decide +kernel
theorem dX4_isLater_1 : decode cX4_isLater 1 = .ok (.getfield 16, 3) := by decide +kernel
theorem dX4_isLater_4 : decode cX4_isLater 4 = .ok (.iload_n 1, 1) := by decide +kernel
theorem dX4_isLater_5 : decode cX4_isLater 5 = .ok (.iaload, 1) := by decide +kernel
theorem dX4_isLater_6 : decode cX4_isLater 6 = .ok (.aload_n 0, 1) := by decide +kernel
theorem dX4_isLater_7 : decode cX4_isLater 7 = .ok (.getfield 16, 3) := by decide +kernel
theorem dX4_isLater_10 : decode cX4_isLater 10 = .ok (.iload_n 2, 1) := by decide +kernel
theorem dX4_isLater_11 : decode cX4_isLater 11 = .ok (.iaload, 1) := by decide +kernel
theorem dX4_isLater_12 : decode cX4_isLater 12 = .ok (.if_icmp .gt 33, 3) := by decide +kernel
theorem dX4_isLater_15 : decode cX4_isLater 15 = .ok (.aload_n 0, 1) := by decide +kernel
theorem dX4_isLater_16 : decode cX4_isLater 16 = .ok (.getfield 16, 3) := by decide +kernel
theorem dX4_isLater_19 : decode cX4_isLater 19 = .ok (.iload_n 1, 1) := by decide +kernel
theorem dX4_isLater_20 : decode cX4_isLater 20 = .ok (.iaload, 1) := by decide +kernel
theorem dX4_isLater_21 : decode cX4_isLater 21 = .ok (.aload_n 0, 1) := by decide +kernel
theorem dX4_isLater_22 : decode cX4_isLater 22 = .ok (.getfield 16, 3) := by decide +kernel
theorem dX4_isLater_25 : decode cX4_isLater 25 = .ok (.iload_n 2, 1) := by decide +kernel
theorem dX4_isLater_26 : decode cX4_isLater 26 = .ok (.iaload, 1) := by decide +kernel
theorem dX4_isLater_27 : decode cX4_isLater 27 = .ok (.if_icmp .ne 22, 3) := by decide +kernel
theorem dX4_isLater_30 : decode cX4_isLater 30 = .ok (.aload_n 0, 1) := by decide +kernel
theorem dX4_isLater_31 : decode cX4_isLater 31 = .ok (.getfield 13, 3) := by decide +kernel
theorem dX4_isLater_34 : decode cX4_isLater 34 = .ok (.iload_n 1, 1) := by decide +kernel
theorem dX4_isLater_35 : decode cX4_isLater 35 = .ok (.iaload, 1) := by decide +kernel
theorem dX4_isLater_36 : decode cX4_isLater 36 = .ok (.aload_n 0, 1) := by decide +kernel
theorem dX4_isLater_37 : decode cX4_isLater 37 = .ok (.getfield 13, 3) := by decide +kernel
theorem dX4_isLater_40 : decode cX4_isLater 40 = .ok (.iload_n 2, 1) := by decide +kernel
theorem dX4_isLater_41 : decode cX4_isLater 41 = .ok (.iaload, 1) := by decide +kernel
theorem dX4_isLater_42 : decode cX4_isLater 42 = .ok (.if_icmp .le 7, 3) := by decide +kernel
theorem dX4_isLater_45 : decode cX4_isLater 45 = .ok (.iconst 1, 1) := by decide +kernel
theorem dX4_isLater_46 : decode cX4_isLater 46 = .ok (.goto 4, 3) := by decide +kernel
theorem dX4_isLater_49 : decode cX4_isLater 49 = .ok (.iconst 0, 1) := by decide +kernel
theorem dX4_isLater_50 : decode cX4_isLater 50 = .ok (.ireturn, 1) := by decide +kernel
theorem dX4_write_0 : decode cX4_write 0 = .ok (.aload_n 0, 1) := by decide +kernel
theorem dX4_write_1 : decode cX4_write 1 = .ok (.getfield 38, 3) := by decide +kernel
theorem dX4_write_4 : decode cX4_write 4 = .ok (.iload_n 1, 1) := by decide +kernel
theorem dX4_write_5 : decode cX4_write 5 = .ok (.dup2, 1) := by decide +kernel
theorem dX4_write_6 : decode cX4_write 6 = .ok (.iaload, 1) := by decide +kernel
theorem dX4_write_7 : decode cX4_write 7 = .ok (.iconst 1, 1) := by decide +kernel
theorem dX4_write_8 : decode cX4_write 8 = .ok (.iadd, 1) := by decide +kernel
theorem dX4_write_9 : decode cX4_write 9 = .ok (.iastore, 1) := by decide +kernel
theorem dX4_write_10 : decode cX4_write 10 = .ok (.aload_n 0, 1) := by decide +kernel
theorem dX4_write_11 : decode cX4_write 11 = .ok (.getfield 7, 3) := by decide +kernel
theorem dX4_write_14 : decode cX4_write 14 = .ok (.aload_n 0, 1) := by decide +kernel
theorem dX4_write_15 : decode cX4_write 15 = .ok (.getfield 56, 3) := by decide +kernel
theorem dX4_write_18 : decode cX4_write 18 = .ok (.iload_n 2, 1) := by decide +kernel
theorem dX4_write_19 : decode cX4_write 19 = .ok (.iastore, 1) := by decide +kernel
theorem dX4_write_20 : decode cX4_write 20 = .ok (.aload_n 0, 1) := by decide +kernel
theorem dX4_write_21 : decode cX4_write 21 = .ok (.getfield 13, 3) := by decide +kernel
theorem dX4_write_24 : decode cX4_write 24 = .ok (.aload_n 0, 1) := by decide +kernel
theorem dX4_write_25 : decode cX4_write 25 = .ok (.getfield 56, 3) := by decide +kernel
theorem dX4_write_28 : decode cX4_write 28 = .ok (.iload_n 1, 1) := by decide +kernel
theorem dX4_write_29 : decode cX4_write 29 = .ok (.iastore, 1) := by decide +kernel
theorem dX4_write_30 : decode cX4_write 30 = .ok (.aload_n 0, 1) := by decide +kernel
theorem dX4_write_31 : decode cX4_write 31 = .ok (.getfield 16, 3) := by decide +kernel
theorem dX4_write_34 : decode cX4_write 34 = .ok (.aload_n 0, 1) := by decide +kernel
theorem dX4_write_35 : decode cX4_write 35 = .ok (.getfield 56, 3) := by decide +kernel
theorem dX4_write_38 : decode cX4_write 38 = .ok (.aload_n 0, 1) := by decide +kernel
theorem dX4_write_39 : decode cX4_write 39 = .ok (.getfield 38, 3) := by decide +kernel
theorem dX4_write_42 : decode cX4_write 42 = .ok (.iload_n 1, 1) := by decide +kernel
theorem dX4_write_43 : decode cX4_write 43 = .ok (.iaload, 1) := by decide +kernel
theorem dX4_write_44 : decode cX4_write 44 = .ok (.iastore, 1) := by decide +kernel
theorem dX4_write_45 : decode cX4_write 45 = .ok (.aload_n 0, 1) := by decide +kernel
theorem dX4_write_46 : decode cX4_write 46 = .ok (.getfield 19, 3) := by decide +kernel
theorem dX4_write_49 : decode cX4_write 49 = .ok (.aload_n 0, 1) := by decide +kernel
theorem dX4_write_50 : decode cX4_write 50 = .ok (.getfield 56, 3) := by decide +kernel
theorem dX4_write_53 : decode cX4_write 53 = .ok (.iload_n 3, 1) := by decide +kernel
theorem dX4_write_54 : decode cX4_write 54 = .ok (.iastore, 1) := by decide +kernel
theorem dX4_write_55 : decode cX4_write 55 = .ok (.aload_n 0, 1) := by decide +kernel
theorem dX4_write_56 : decode cX4_write 56 = .ok (.getfield 22, 3) := by decide +kernel
theorem dX4_write_59 : decode cX4_write 59 = .ok (.aload_n 0, 1) := by decide +kernel
theorem dX4_write_60 : decode cX4_write 60 = .ok (.getfield 56, 3) := by decide +kernel
theorem dX4_write_63 : decode cX4_write 63 = .ok (.iload 4, 2) := by decide +kernel
theorem dX4_write_65 : decode cX4_write 65 = .ok (.iastore, 1) := by decide +kernel
theorem dX4_write_66 : decode cX4_write 66 = .ok (.aload_n 0, 1) := by decide +kernel
theorem dX4_write_67 : decode cX4_write 67 = .ok (.getfield 34, 3) := by decide +kernel
theorem dX4_write_70 : decode cX4_write 70 = .ok (.bipush 6, 2) := by decide +kernel
theorem dX4_write_72 : decode cX4_write 72 = .ok (.aload_n 0, 1) := by decide +kernel
theorem dX4_write_73 : decode cX4_write 73 = .ok (.getfield 56, 3) := by decide +kernel
theorem dX4_write_76 : decode cX4_write 76 = .ok (.imul, 1) := by decide +kernel
theorem dX4_write_77 : decode cX4_write 77 = .ok (.iload_n 1, 1) := by decide +kernel
theorem dX4_write_78 : decode cX4_write 78 = .ok (.iadd, 1) := by decide +kernel
theorem dX4_write_79 : decode cX4_write 79 = .ok (.iconst 1, 1) := by decide +kernel
theorem dX4_write_80 : decode cX4_write 80 = .ok (.bastore, 1) := by decide +kernel
theorem dX4_write_81 : decode cX4_write 81 = .ok (.aload_n 0, 1) := by decide +kernel
theorem dX4_write_82 : decode cX4_write 82 = .ok (.getfield 34, 3) := by decide +kernel
theorem dX4_write_85 : decode cX4_write 85 = .ok (.bipush 6, 2) := by decide +kernel
theorem dX4_write_87 : decode cX4_write 87 = .ok (.aload_n 0, 1) := by decide +kernel
theorem dX4_write_88 : decode cX4_write 88 = .ok (.getfield 56, 3) := by decide +kernel
theorem dX4_write_91 : decode cX4_write 91 = .ok (.imul, 1) := by decide +kernel
theorem dX4_write_92 : decode cX4_write 92 = .ok (.iconst 5, 1) := by decide +kernel
theorem dX4_write_93 : decode cX4_write 93 = .ok (.iadd, 1) := by decide +kernel
theorem dX4_write_94 : decode cX4_write 94 = .ok (.iconst 1, 1) := by decide +kernel
theorem dX4_write_95 : decode cX4_write 95 = .ok (.bastore, 1) := by decide +kernel
theorem dX4_write_96 : decode cX4_write 96 = .ok (.aload_n 0, 1) := by decide +kernel
theorem dX4_write_97 : decode cX4_write 97 = .ok (.dup, 1) := by decide +kernel
theorem dX4_write_98 : decode cX4_write 98 = .ok (.getfield 56, 3) := by decide +kernel
theorem dX4_write_101 : decode cX4_write 101 = .ok (.iconst 1, 1) := by decide +kernel
theorem dX4_write_102 : decode cX4_write 102 = .ok (.iadd, 1) := by decide +kernel
theorem dX4_write_103 : decode cX4_write 103 = .ok (.putfield 56, 3) := by decide +kernel
theorem dX4_write_106 : decode cX4_write 106 = .ok (.aload_n 0, 1) := by decide +kernel
theorem dX4_write_107 : decode cX4_write 107 = .ok (.getfield 38, 3) := by decide +kernel
theorem dX4_write_110 : decode cX4_write 110 = .ok (.iload_n 1, 1) := by decide +kernel
theorem dX4_write_111 : decode cX4_write 111 = .ok (.iaload, 1) := by decide +kernel
theorem dX4_write_112 : decode cX4_write 112 = .ok (.ireturn, 1) := by decide +kernel
theorem dX4_isMove_0 : decode cX4_isMove 0 = .ok (.aload_n 0, 1) := by decide +kernel
theorem dX4_isMove_1 : decode cX4_isMove 1 = .ok (.getfield 7, 3) := by decide +kernel
theorem dX4_isMove_4 : decode cX4_isMove 4 = .ok (.iload_n 1, 1) := by decide +kernel
theorem dX4_isMove_5 : decode cX4_isMove 5 = .ok (.iaload, 1) := by decide +kernel
theorem dX4_isMove_6 : decode cX4_isMove 6 = .ok (.ifCond .eq 13, 3) := by decide +kernel
theorem dX4_isMove_9 : decode cX4_isMove 9 = .ok (.aload_n 0, 1) := by decide +kernel
theorem dX4_isMove_10 : decode cX4_isMove 10 = .ok (.getfield 7, 3) := by decide +kernel
theorem dX4_isMove_13 : decode cX4_isMove 13 = .ok (.iload_n 1, 1) := by decide +kernel
theorem dX4_isMove_14 : decode cX4_isMove 14 = .ok (.iaload, 1) := by decide +kernel
theorem dX4_isMove_15 : decode cX4_isMove 15 = .ok (.iconst 1, 1) := by decide +kernel
theorem dX4_isMove_16 : decode cX4_isMove 16 = .ok (.if_icmp .ne 17, 3) := by decide +kernel
theorem dX4_isMove_19 : decode cX4_isMove 19 = .ok (.aload_n 0, 1) := by decide +kernel
theorem dX4_isMove_20 : decode cX4_isMove 20 = .ok (.getfield 19, 3) := by decide +kernel
theorem dX4_isMove_23 : decode cX4_isMove 23 = .ok (.iload_n 1, 1) := by decide +kernel
theorem dX4_isMove_24 : decode cX4_isMove 24 = .ok (.iaload, 1) := by decide +kernel
theorem dX4_isMove_25 : decode cX4_isMove 25 = .ok (.iload_n 2, 1) := by decide +kernel
theorem dX4_isMove_26 : decode cX4_isMove 26 = .ok (.if_icmp .ne 7, 3) := by decide +kernel
theorem dX4_isMove_29 : decode cX4_isMove 29 = .ok (.iconst 1, 1) := by decide +kernel
theorem dX4_isMove_30 : decode cX4_isMove 30 = .ok (.goto 4, 3) := by decide +kernel
theorem dX4_isMove_33 : decode cX4_isMove 33 = .ok (.iconst 0, 1) := by decide +kernel
theorem dX4_isMove_34 : decode cX4_isMove 34 = .ok (.ireturn, 1) := by decide +kernel
set_option maxRecDepth 20000 in
theorem ggX4_latestMove_X4_knows : GoodIn wsX4_latestMove wsX4_knows := goodIn_r _ [7, 8, 20, 21, 22, 23, 24, 25, 26, 27, 28, 29, 30, 31, 32, 33, 34, 35, 36, 37, 38] (by decide +kernel) (by decide +kernel)
set_option maxRecDepth 20000 in
theorem gX4_latestMove_X4_knows : GoodIn wsX4_latestMove (wsV RX4 70 RX4 yX4_knows wsX4_knows) := goodIn_app (goodIn_of _ (by decide +kernel)) ggX4_latestMove_X4_knows
set_option maxRecDepth 20000 in
theorem ggX4_latestMove_X4_isMove : GoodIn wsX4_latestMove wsX4_isMove := goodIn_r _ [12, 13, 14, 20, 21, 22, 23, 24, 25, 26, 27, 28, 29, 30, 31, 32, 33, 34, 35, 36, 37, 38] (by decide +kernel) (by decide +kernel)
set_option maxRecDepth 20000 in
theorem gX4_latestMove_X4_isMove : GoodIn wsX4_latestMove (wsV RX4 74 RX4 yX4_isMove wsX4_isMove) := goodIn_app (goodIn_of _ (by decide +kernel)) ggX4_latestMove_X4_isMove
set_option maxRecDepth 20000 in
theorem ggX4_latestMove_X4_isLater : GoodIn wsX4_latestMove wsX4_isLater := goodIn_r _ [18, 19, 2, 20, 21, 22, 23, 24, 25, 26, 27, 28, 29, 30, 31, 32, 33, 34, 35, 36, 37, 38] (by decide +kernel) (by decide +kernel)
set_option maxRecDepth 20000 in
theorem gX4_latestMove_X4_isLater : GoodIn wsX4_latestMove (wsV RX4 77 RX4 yX4_isLater wsX4_isLater) := goodIn_app (goodIn_of _ (by decide +kernel)) ggX4_latestMove_X4_isLater
theorem dX4_latestMove_0 : decode cX4_latestMove 0 = .ok (.iconst (-1), 1) := by decide +kernel
theorem dX4_latestMove_1 : decode cX4_latestMove 1 = .ok (.istore 4, 2) := by decide +kernel
theorem dX4_latestMove_3 : decode cX4_latestMove 3 = .ok (.iconst 0, 1) := by decide +kernel
theorem dX4_latestMove_4 : decode cX4_latestMove 4 = .ok (.istore 5, 2) := by decide +kernel
theorem dX4_latestMove_6 : decode cX4_latestMove 6 = .ok (.iload 5, 2) := by decide +kernel
theorem dX4_latestMove_8 : decode cX4_latestMove 8 = .ok (.aload_n 0, 1) := by decide +kernel
theorem dX4_latestMove_9 : decode cX4_latestMove 9 = .ok (.getfield 56, 3) := by decide +kernel
theorem dX4_latestMove_12 : decode cX4_latestMove 12 = .ok (.if_icmp .ge 83, 3) := by decide +kernel
theorem dX4_latestMove_15 : decode cX4_latestMove 15 = .ok (.aload_n 0, 1) := by decide +kernel
theorem dX4_latestMove_16 : decode cX4_latestMove 16 = .ok (.iload_n 1, 1) := by decide +kernel
theorem dX4_latestMove_17 : decode cX4_latestMove 17 = .ok (.iload 5, 2) := by decide +kernel
theorem dX4_latestMove_19 : decode cX4_latestMove 19 = .ok (.invokevirtual 70, 3) := by decide +kernel
theorem dX4_latestMove_22 : decode cX4_latestMove 22 = .ok (.ifCond .eq 33, 3) := by decide +kernel
theorem dX4_latestMove_25 : decode cX4_latestMove 25 = .ok (.aload_n 0, 1) := by decide +kernel
theorem dX4_latestMove_26 : decode cX4_latestMove 26 = .ok (.iload 5, 2) := by decide +kernel
theorem dX4_latestMove_28 : decode cX4_latestMove 28 = .ok (.iload_n 2, 1) := by decide +kernel
theorem dX4_latestMove_29 : decode cX4_latestMove 29 = .ok (.invokevirtual 74, 3) := by decide +kernel
theorem dX4_latestMove_32 : decode cX4_latestMove 32 = .ok (.ifCond .eq 23, 3) := by decide +kernel
theorem dX4_latestMove_35 : decode cX4_latestMove 35 = .ok (.iload_n 3, 1) := by decide +kernel
theorem dX4_latestMove_36 : decode cX4_latestMove 36 = .ok (.iconst (-1), 1) := by decide +kernel
theorem dX4_latestMove_37 : decode cX4_latestMove 37 = .ok (.if_icmp .eq 14, 3) := by decide +kernel
theorem dX4_latestMove_40 : decode cX4_latestMove 40 = .ok (.aload_n 0, 1) := by decide +kernel
theorem dX4_latestMove_41 : decode cX4_latestMove 41 = .ok (.getfield 13, 3) := by decide +kernel
theorem dX4_latestMove_44 : decode cX4_latestMove 44 = .ok (.iload 5, 2) := by decide +kernel
theorem dX4_latestMove_46 : decode cX4_latestMove 46 = .ok (.iaload, 1) := by decide +kernel
theorem dX4_latestMove_47 : decode cX4_latestMove 47 = .ok (.iload_n 3, 1) := by decide +kernel
theorem dX4_latestMove_48 : decode cX4_latestMove 48 = .ok (.if_icmp .ne 7, 3) := by decide +kernel
theorem dX4_latestMove_51 : decode cX4_latestMove 51 = .ok (.iconst 1, 1) := by decide +kernel
theorem dX4_latestMove_52 : decode cX4_latestMove 52 = .ok (.goto 4, 3) := by decide +kernel
theorem dX4_latestMove_55 : decode cX4_latestMove 55 = .ok (.iconst 0, 1) := by decide +kernel
theorem dX4_latestMove_56 : decode cX4_latestMove 56 = .ok (.istore 6, 2) := by decide +kernel
theorem dX4_latestMove_58 : decode cX4_latestMove 58 = .ok (.iload 6, 2) := by decide +kernel
theorem dX4_latestMove_60 : decode cX4_latestMove 60 = .ok (.ifCond .eq 25, 3) := by decide +kernel
theorem dX4_latestMove_63 : decode cX4_latestMove 63 = .ok (.iload 4, 2) := by decide +kernel
theorem dX4_latestMove_65 : decode cX4_latestMove 65 = .ok (.iconst (-1), 1) := by decide +kernel
theorem dX4_latestMove_66 : decode cX4_latestMove 66 = .ok (.if_icmp .eq 14, 3) := by decide +kernel
theorem dX4_latestMove_69 : decode cX4_latestMove 69 = .ok (.aload_n 0, 1) := by decide +kernel
theorem dX4_latestMove_70 : decode cX4_latestMove 70 = .ok (.iload 5, 2) := by decide +kernel
theorem dX4_latestMove_72 : decode cX4_latestMove 72 = .ok (.iload 4, 2) := by decide +kernel
theorem dX4_latestMove_74 : decode cX4_latestMove 74 = .ok (.invokevirtual 77, 3) := by decide +kernel
theorem dX4_latestMove_77 : decode cX4_latestMove 77 = .ok (.ifCond .eq 8, 3) := by decide +kernel
theorem dX4_latestMove_80 : decode cX4_latestMove 80 = .ok (.iload 5, 2) := by decide +kernel
theorem dX4_latestMove_82 : decode cX4_latestMove 82 = .ok (.goto 5, 3) := by decide +kernel
theorem dX4_latestMove_85 : decode cX4_latestMove 85 = .ok (.iload 4, 2) := by decide +kernel
theorem dX4_latestMove_87 : decode cX4_latestMove 87 = .ok (.istore 4, 2) := by decide +kernel
theorem dX4_latestMove_89 : decode cX4_latestMove 89 = .ok (.iinc 5 1, 3) := by decide +kernel
theorem dX4_latestMove_92 : decode cX4_latestMove 92 = .ok (.goto (-86), 3) := by decide +kernel
theorem dX4_latestMove_95 : decode cX4_latestMove 95 = .ok (.iload 4, 2) := by decide +kernel
theorem dX4_latestMove_97 : decode cX4_latestMove 97 = .ok (.ireturn, 1) := by decide +kernel
set_option maxRecDepth 20000 in
theorem ggX4_placeOf_X4_latestMove : GoodIn wsX4_placeOf wsX4_latestMove := goodIn_r _ [7, 8, 2, 9, 10, 11, 6, 12, 13, 14, 15, 16, 17, 1, 18, 19, 20, 21, 22, 23, 24, 25, 26, 27, 28, 29, 30, 31, 32, 33, 34, 35, 36, 37, 38, 39, 40, 41, 42] (by decide +kernel) (by decide +kernel)
set_option maxRecDepth 20000 in
theorem gX4_placeOf_X4_latestMove : GoodIn wsX4_placeOf (wsV RX4 80 RX4 yX4_latestMove wsX4_latestMove) := goodIn_app (goodIn_of _ (by decide +kernel)) ggX4_placeOf_X4_latestMove
theorem dX4_placeOf_0 : decode cX4_placeOf 0 = .ok (.aload_n 0, 1) := by decide +kernel
theorem dX4_placeOf_1 : decode cX4_placeOf 1 = .ok (.iload_n 1, 1) := by decide +kernel
theorem dX4_placeOf_2 : decode cX4_placeOf 2 = .ok (.iload_n 2, 1) := by decide +kernel
theorem dX4_placeOf_3 : decode cX4_placeOf 3 = .ok (.iconst (-1), 1) := by decide +kernel
theorem dX4_placeOf_4 : decode cX4_placeOf 4 = .ok (.invokevirtual 80, 3) := by decide +kernel
theorem dX4_placeOf_7 : decode cX4_placeOf 7 = .ok (.istore_n 3, 1) := by decide +kernel
theorem dX4_placeOf_8 : decode cX4_placeOf 8 = .ok (.iload_n 3, 1) := by decide +kernel
theorem dX4_placeOf_9 : decode cX4_placeOf 9 = .ok (.iconst (-1), 1) := by decide +kernel
theorem dX4_placeOf_10 : decode cX4_placeOf 10 = .ok (.if_icmp .eq 21, 3) := by decide +kernel
theorem dX4_placeOf_13 : decode cX4_placeOf 13 = .ok (.aload_n 0, 1) := by decide +kernel
theorem dX4_placeOf_14 : decode cX4_placeOf 14 = .ok (.getfield 7, 3) := by decide +kernel
theorem dX4_placeOf_17 : decode cX4_placeOf 17 = .ok (.iload_n 3, 1) := by decide +kernel
theorem dX4_placeOf_18 : decode cX4_placeOf 18 = .ok (.iaload, 1) := by decide +kernel
theorem dX4_placeOf_19 : decode cX4_placeOf 19 = .ok (.ifCond .ne 12, 3) := by decide +kernel
theorem dX4_placeOf_22 : decode cX4_placeOf 22 = .ok (.aload_n 0, 1) := by decide +kernel
theorem dX4_placeOf_23 : decode cX4_placeOf 23 = .ok (.getfield 13, 3) := by decide +kernel
theorem dX4_placeOf_26 : decode cX4_placeOf 26 = .ok (.iload_n 3, 1) := by decide +kernel
theorem dX4_placeOf_27 : decode cX4_placeOf 27 = .ok (.iaload, 1) := by decide +kernel
theorem dX4_placeOf_28 : decode cX4_placeOf 28 = .ok (.goto 4, 3) := by decide +kernel
theorem dX4_placeOf_31 : decode cX4_placeOf 31 = .ok (.iconst (-1), 1) := by decide +kernel
theorem dX4_placeOf_32 : decode cX4_placeOf 32 = .ok (.ireturn, 1) := by decide +kernel
theorem dX4_isFull_0 : decode cX4_isFull 0 = .ok (.aload_n 0, 1) := by decide +kernel
theorem dX4_isFull_1 : decode cX4_isFull 1 = .ok (.getfield 56, 3) := by decide +kernel
theorem dX4_isFull_4 : decode cX4_isFull 4 = .ok (.iload_n 1, 1) := by decide +kernel
theorem dX4_isFull_5 : decode cX4_isFull 5 = .ok (.iadd, 1) := by decide +kernel
theorem dX4_isFull_6 : decode cX4_isFull 6 = .ok (.sipush 240, 3) := by decide +kernel
theorem dX4_isFull_9 : decode cX4_isFull 9 = .ok (.if_icmp .le 7, 3) := by decide +kernel
theorem dX4_isFull_12 : decode cX4_isFull 12 = .ok (.iconst 1, 1) := by decide +kernel
theorem dX4_isFull_13 : decode cX4_isFull 13 = .ok (.goto 4, 3) := by decide +kernel
theorem dX4_isFull_16 : decode cX4_isFull 16 = .ok (.iconst 0, 1) := by decide +kernel
theorem dX4_isFull_17 : decode cX4_isFull 17 = .ok (.ireturn, 1) := by decide +kernel
set_option maxRecDepth 20000 in
theorem ggX4_areOne_X4_isFridge : GoodIn wsX4_areOne wsX4_isFridge := goodIn_r _ [5, 6, 7, 4, 8] (by decide +kernel) (by decide +kernel)
set_option maxRecDepth 20000 in
theorem gX4_areOne_X4_isFridge : GoodIn wsX4_areOne (va_wsS RX4 84 yX4_isFridge wsX4_isFridge) := goodIn_app (goodIn_of _ (by decide +kernel)) ggX4_areOne_X4_isFridge
set_option maxRecDepth 20000 in
theorem ggX4_areOne_X4_isThing : GoodIn wsX4_areOne wsX4_isThing := goodIn_r _ [11, 6, 7, 4, 8] (by decide +kernel) (by decide +kernel)
set_option maxRecDepth 20000 in
theorem gX4_areOne_X4_isThing : GoodIn wsX4_areOne (va_wsS RX4 88 yX4_isThing wsX4_isThing) := goodIn_app (goodIn_of _ (by decide +kernel)) ggX4_areOne_X4_isThing
theorem dX4_areOne_0 : decode cX4_areOne 0 = .ok (.aload_n 0, 1) := by decide +kernel
theorem dX4_areOne_1 : decode cX4_areOne 1 = .ok (.iload_n 1, 1) := by decide +kernel
theorem dX4_areOne_2 : decode cX4_areOne 2 = .ok (.invokestatic 84, 3) := by decide +kernel
theorem dX4_areOne_5 : decode cX4_areOne 5 = .ok (.ifCond .eq 14, 3) := by decide +kernel
theorem dX4_areOne_8 : decode cX4_areOne 8 = .ok (.iload_n 2, 1) := by decide +kernel
theorem dX4_areOne_9 : decode cX4_areOne 9 = .ok (.invokestatic 88, 3) := by decide +kernel
theorem dX4_areOne_12 : decode cX4_areOne 12 = .ok (.ifCond .eq 7, 3) := by decide +kernel
theorem dX4_areOne_15 : decode cX4_areOne 15 = .ok (.iconst 0, 1) := by decide +kernel
theorem dX4_areOne_16 : decode cX4_areOne 16 = .ok (.goto 4, 3) := by decide +kernel
theorem dX4_areOne_19 : decode cX4_areOne 19 = .ok (.iconst 1, 1) := by decide +kernel
theorem dX4_areOne_20 : decode cX4_areOne 20 = .ok (.putfield 60, 3) := by decide +kernel
theorem dX4_areOne_23 : decode cX4_areOne 23 = .ok (.aload_n 0, 1) := by decide +kernel
theorem dX4_areOne_24 : decode cX4_areOne 24 = .ok (.getfield 60, 3) := by decide +kernel
theorem dX4_areOne_27 : decode cX4_areOne 27 = .ok (.ifCond .ne 7, 3) := by decide +kernel
theorem dX4_areOne_30 : decode cX4_areOne 30 = .ok (.iconst 1, 1) := by decide +kernel
theorem dX4_areOne_31 : decode cX4_areOne 31 = .ok (.goto 4, 3) := by decide +kernel
theorem dX4_areOne_34 : decode cX4_areOne 34 = .ok (.iconst 0, 1) := by decide +kernel
theorem dX4_areOne_35 : decode cX4_areOne 35 = .ok (.ireturn, 1) := by decide +kernel
set_option maxRecDepth 20000 in
theorem ggX4_put_X4_areOne : GoodIn wsX4_put wsX4_areOne := goodIn_r _ [6, 1, 7, 8, 5, 9, 10, 11, 12, 13, 14, 15, 52, 53, 54, 55, 56, 57, 58, 59, 60, 61, 62, 63, 64, 65, 66, 67, 68, 69, 70] (by decide +kernel) (by decide +kernel)
set_option maxRecDepth 20000 in
theorem gX4_put_X4_areOne : GoodIn wsX4_put (wsV RX4 91 RX4 yX4_areOne wsX4_areOne) := goodIn_app (goodIn_of _ (by decide +kernel)) ggX4_put_X4_areOne
set_option maxRecDepth 20000 in
theorem ggX4_put_X4_placeOf : GoodIn wsX4_put wsX4_placeOf := goodIn_r _ [19, 20, 21, 22, 23, 24, 5, 25, 26, 27, 28, 29, 30, 31, 32, 33, 34, 35, 36, 37, 38, 39, 40, 41, 52, 53, 54, 55, 56, 57, 58, 59, 60, 61, 62, 63, 64, 65, 66, 67, 68, 69, 70] (by decide +kernel) (by decide +kernel)
set_option maxRecDepth 20000 in
theorem gX4_put_X4_placeOf : GoodIn wsX4_put (wsV RX4 94 RX4 yX4_placeOf wsX4_placeOf) := goodIn_app (goodIn_of _ (by decide +kernel)) ggX4_put_X4_placeOf
set_option maxRecDepth 20000 in
theorem ggX4_put_X4_isFull : GoodIn wsX4_put wsX4_isFull := goodIn_r _ [45, 26, 52, 53, 54, 55, 56, 57, 58, 59, 60, 61, 62, 63, 64, 65, 66, 67, 68, 69, 70] (by decide +kernel) (by decide +kernel)
set_option maxRecDepth 20000 in
theorem gX4_put_X4_isFull : GoodIn wsX4_put (wsV RX4 98 RX4 yX4_isFull wsX4_isFull) := goodIn_app (goodIn_of _ (by decide +kernel)) ggX4_put_X4_isFull
set_option maxRecDepth 20000 in
theorem ggX4_put_X4_write : GoodIn wsX4_put wsX4_write := goodIn_r _ [49, 50, 20, 26, 21, 41, 36, 51, 31, 52, 53, 54, 55, 56, 57, 58, 59, 60, 61, 62, 63, 64, 65, 66, 67, 68, 69, 70] (by decide +kernel) (by decide +kernel)
set_option maxRecDepth 20000 in
theorem gX4_put_X4_write : GoodIn wsX4_put (wsV RX4 101 RX4 yX4_write wsX4_write) := goodIn_app (goodIn_of _ (by decide +kernel)) ggX4_put_X4_write
theorem dX4_put_0 : decode cX4_put 0 = .ok (.aload_n 0, 1) := by decide +kernel
theorem dX4_put_1 : decode cX4_put 1 = .ok (.iload_n 1, 1) := by decide +kernel
theorem dX4_put_2 : decode cX4_put 2 = .ok (.iload_n 2, 1) := by decide +kernel
theorem dX4_put_3 : decode cX4_put 3 = .ok (.invokevirtual 91, 3) := by decide +kernel
theorem dX4_put_6 : decode cX4_put 6 = .ok (.ifCond .eq 30, 3) := by decide +kernel
theorem dX4_put_9 : decode cX4_put 9 = .ok (.aload_n 0, 1) := by decide +kernel
theorem dX4_put_10 : decode cX4_put 10 = .ok (.aload_n 0, 1) := by decide +kernel
theorem dX4_put_11 : decode cX4_put 11 = .ok (.iload_n 1, 1) := by decide +kernel
theorem dX4_put_12 : decode cX4_put 12 = .ok (.iload_n 2, 1) := by decide +kernel
theorem dX4_put_13 : decode cX4_put 13 = .ok (.invokevirtual 94, 3) := by decide +kernel
theorem dX4_put_16 : decode cX4_put 16 = .ok (.iload_n 1, 1) := by decide +kernel
theorem dX4_put_17 : decode cX4_put 17 = .ok (.if_icmp .eq 11, 3) := by decide +kernel
theorem dX4_put_20 : decode cX4_put 20 = .ok (.aload_n 0, 1) := by decide +kernel
theorem dX4_put_21 : decode cX4_put 21 = .ok (.iconst 1, 1) := by decide +kernel
theorem dX4_put_22 : decode cX4_put 22 = .ok (.invokevirtual 98, 3) := by decide +kernel
theorem dX4_put_25 : decode cX4_put 25 = .ok (.ifCond .eq 7, 3) := by decide +kernel
theorem dX4_put_28 : decode cX4_put 28 = .ok (.iconst 2, 1) := by decide +kernel
theorem dX4_put_29 : decode cX4_put 29 = .ok (.goto 4, 3) := by decide +kernel
theorem dX4_put_32 : decode cX4_put 32 = .ok (.iconst 0, 1) := by decide +kernel
theorem dX4_put_33 : decode cX4_put 33 = .ok (.putfield 60, 3) := by decide +kernel
theorem dX4_put_36 : decode cX4_put 36 = .ok (.aload_n 0, 1) := by decide +kernel
theorem dX4_put_37 : decode cX4_put 37 = .ok (.getfield 60, 3) := by decide +kernel
theorem dX4_put_40 : decode cX4_put 40 = .ok (.ifCond .ne 14, 3) := by decide +kernel
theorem dX4_put_43 : decode cX4_put 43 = .ok (.aload_n 0, 1) := by decide +kernel
theorem dX4_put_44 : decode cX4_put 44 = .ok (.iload_n 1, 1) := by decide +kernel
theorem dX4_put_45 : decode cX4_put 45 = .ok (.iconst 0, 1) := by decide +kernel
theorem dX4_put_46 : decode cX4_put 46 = .ok (.iload_n 2, 1) := by decide +kernel
theorem dX4_put_47 : decode cX4_put 47 = .ok (.iconst (-1), 1) := by decide +kernel
theorem dX4_put_48 : decode cX4_put 48 = .ok (.invokevirtual 101, 3) := by decide +kernel
theorem dX4_put_51 : decode cX4_put 51 = .ok (.goto 4, 3) := by decide +kernel
theorem dX4_put_54 : decode cX4_put 54 = .ok (.iconst 0, 1) := by decide +kernel
theorem dX4_put_55 : decode cX4_put 55 = .ok (.ireturn, 1) := by decide +kernel
set_option maxRecDepth 20000 in
theorem ggX4_take_X4_areOne : GoodIn wsX4_take wsX4_areOne := goodIn_r _ [6, 1, 7, 8, 5, 9, 10, 11, 12, 13, 14, 15, 52, 53, 54, 55, 56, 57, 58, 59, 60, 61, 62, 63, 64, 65, 66, 67, 68, 69, 70] (by decide +kernel) (by decide +kernel)
set_option maxRecDepth 20000 in
theorem gX4_take_X4_areOne : GoodIn wsX4_take (wsV RX4 91 RX4 yX4_areOne wsX4_areOne) := goodIn_app (goodIn_of _ (by decide +kernel)) ggX4_take_X4_areOne
set_option maxRecDepth 20000 in
theorem ggX4_take_X4_placeOf : GoodIn wsX4_take wsX4_placeOf := goodIn_r _ [19, 20, 21, 22, 23, 24, 5, 25, 26, 27, 28, 29, 30, 31, 32, 33, 34, 35, 36, 37, 38, 39, 40, 41, 52, 53, 54, 55, 56, 57, 58, 59, 60, 61, 62, 63, 64, 65, 66, 67, 68, 69, 70] (by decide +kernel) (by decide +kernel)
set_option maxRecDepth 20000 in
theorem gX4_take_X4_placeOf : GoodIn wsX4_take (wsV RX4 94 RX4 yX4_placeOf wsX4_placeOf) := goodIn_app (goodIn_of _ (by decide +kernel)) ggX4_take_X4_placeOf
set_option maxRecDepth 20000 in
theorem ggX4_take_X4_isFull : GoodIn wsX4_take wsX4_isFull := goodIn_r _ [45, 26, 52, 53, 54, 55, 56, 57, 58, 59, 60, 61, 62, 63, 64, 65, 66, 67, 68, 69, 70] (by decide +kernel) (by decide +kernel)
set_option maxRecDepth 20000 in
theorem gX4_take_X4_isFull : GoodIn wsX4_take (wsV RX4 98 RX4 yX4_isFull wsX4_isFull) := goodIn_app (goodIn_of _ (by decide +kernel)) ggX4_take_X4_isFull
set_option maxRecDepth 20000 in
theorem ggX4_take_X4_write : GoodIn wsX4_take wsX4_write := goodIn_r _ [49, 50, 20, 26, 21, 41, 36, 51, 31, 52, 53, 54, 55, 56, 57, 58, 59, 60, 61, 62, 63, 64, 65, 66, 67, 68, 69, 70] (by decide +kernel) (by decide +kernel)
set_option maxRecDepth 20000 in
theorem gX4_take_X4_write : GoodIn wsX4_take (wsV RX4 101 RX4 yX4_write wsX4_write) := goodIn_app (goodIn_of _ (by decide +kernel)) ggX4_take_X4_write
theorem dX4_take_0 : decode cX4_take 0 = .ok (.aload_n 0, 1) := by decide +kernel
theorem dX4_take_1 : decode cX4_take 1 = .ok (.iload_n 1, 1) := by decide +kernel
theorem dX4_take_2 : decode cX4_take 2 = .ok (.iload_n 2, 1) := by decide +kernel
theorem dX4_take_3 : decode cX4_take 3 = .ok (.invokevirtual 91, 3) := by decide +kernel
theorem dX4_take_6 : decode cX4_take 6 = .ok (.ifCond .eq 12, 3) := by decide +kernel
theorem dX4_take_9 : decode cX4_take 9 = .ok (.aload_n 0, 1) := by decide +kernel
theorem dX4_take_10 : decode cX4_take 10 = .ok (.iload_n 1, 1) := by decide +kernel
theorem dX4_take_11 : decode cX4_take 11 = .ok (.iload_n 2, 1) := by decide +kernel
theorem dX4_take_12 : decode cX4_take 12 = .ok (.invokevirtual 94, 3) := by decide +kernel
theorem dX4_take_15 : decode cX4_take 15 = .ok (.goto 4, 3) := by decide +kernel
theorem dX4_take_18 : decode cX4_take 18 = .ok (.iconst (-1), 1) := by decide +kernel
theorem dX4_take_19 : decode cX4_take 19 = .ok (.istore_n 3, 1) := by decide +kernel
theorem dX4_take_20 : decode cX4_take 20 = .ok (.aload_n 0, 1) := by decide +kernel
theorem dX4_take_21 : decode cX4_take 21 = .ok (.aload_n 0, 1) := by decide +kernel
theorem dX4_take_22 : decode cX4_take 22 = .ok (.getfield 60, 3) := by decide +kernel
theorem dX4_take_25 : decode cX4_take 25 = .ok (.ifCond .ne 20, 3) := by decide +kernel
theorem dX4_take_28 : decode cX4_take 28 = .ok (.iload_n 3, 1) := by decide +kernel
theorem dX4_take_29 : decode cX4_take 29 = .ok (.iconst (-1), 1) := by decide +kernel
theorem dX4_take_30 : decode cX4_take 30 = .ok (.if_icmp .eq 11, 3) := by decide +kernel
theorem dX4_take_33 : decode cX4_take 33 = .ok (.aload_n 0, 1) := by decide +kernel
theorem dX4_take_34 : decode cX4_take 34 = .ok (.iconst 1, 1) := by decide +kernel
theorem dX4_take_35 : decode cX4_take 35 = .ok (.invokevirtual 98, 3) := by decide +kernel
theorem dX4_take_38 : decode cX4_take 38 = .ok (.ifCond .eq 7, 3) := by decide +kernel
theorem dX4_take_41 : decode cX4_take 41 = .ok (.iconst 2, 1) := by decide +kernel
theorem dX4_take_42 : decode cX4_take 42 = .ok (.goto 7, 3) := by decide +kernel
theorem dX4_take_45 : decode cX4_take 45 = .ok (.aload_n 0, 1) := by decide +kernel
theorem dX4_take_46 : decode cX4_take 46 = .ok (.getfield 60, 3) := by decide +kernel
theorem dX4_take_49 : decode cX4_take 49 = .ok (.putfield 60, 3) := by decide +kernel
theorem dX4_take_52 : decode cX4_take 52 = .ok (.aload_n 0, 1) := by decide +kernel
theorem dX4_take_53 : decode cX4_take 53 = .ok (.getfield 60, 3) := by decide +kernel
theorem dX4_take_56 : decode cX4_take 56 = .ok (.ifCond .le 5, 3) := by decide +kernel
theorem dX4_take_59 : decode cX4_take 59 = .ok (.iconst 0, 1) := by decide +kernel
theorem dX4_take_60 : decode cX4_take 60 = .ok (.ireturn, 1) := by decide +kernel
theorem dX4_take_61 : decode cX4_take 61 = .ok (.aload_n 0, 1) := by decide +kernel
theorem dX4_take_62 : decode cX4_take 62 = .ok (.iload_n 1, 1) := by decide +kernel
theorem dX4_take_63 : decode cX4_take 63 = .ok (.iconst 1, 1) := by decide +kernel
theorem dX4_take_64 : decode cX4_take 64 = .ok (.iload_n 2, 1) := by decide +kernel
theorem dX4_take_65 : decode cX4_take 65 = .ok (.iconst (-1), 1) := by decide +kernel
theorem dX4_take_66 : decode cX4_take 66 = .ok (.invokevirtual 101, 3) := by decide +kernel
theorem dX4_take_69 : decode cX4_take 69 = .ok (.istore 4, 2) := by decide +kernel
theorem dX4_take_71 : decode cX4_take 71 = .ok (.iload_n 3, 1) := by decide +kernel
theorem dX4_take_72 : decode cX4_take 72 = .ok (.ireturn, 1) := by decide +kernel
set_option maxRecDepth 20000 in
theorem ggX4_where_X4_areOne : GoodIn wsX4_where wsX4_areOne := goodIn_r _ [5, 6, 7, 8, 4, 9, 10, 11, 12, 13, 14, 15, 42, 43, 44, 45, 46, 47, 48, 49, 50, 51, 52, 53, 54, 55, 56, 57, 58, 59, 60] (by decide +kernel) (by decide +kernel)
set_option maxRecDepth 20000 in
theorem gX4_where_X4_areOne : GoodIn wsX4_where (wsV RX4 91 RX4 yX4_areOne wsX4_areOne) := goodIn_app (goodIn_of _ (by decide +kernel)) ggX4_where_X4_areOne
set_option maxRecDepth 20000 in
theorem ggX4_where_X4_placeOf : GoodIn wsX4_where wsX4_placeOf := goodIn_r _ [19, 20, 21, 22, 23, 24, 4, 25, 26, 27, 28, 29, 30, 31, 32, 33, 34, 35, 36, 37, 38, 39, 40, 41, 42, 43, 44, 45, 46, 47, 48, 49, 50, 51, 52, 53, 54, 55, 56, 57, 58, 59, 60] (by decide +kernel) (by decide +kernel)
set_option maxRecDepth 20000 in
theorem gX4_where_X4_placeOf : GoodIn wsX4_where (wsV RX4 94 RX4 yX4_placeOf wsX4_placeOf) := goodIn_app (goodIn_of _ (by decide +kernel)) ggX4_where_X4_placeOf
theorem dX4_where_0 : decode cX4_where 0 = .ok (.aload_n 0, 1) := by decide +kernel
theorem dX4_where_1 : decode cX4_where 1 = .ok (.iload_n 1, 1) := by decide +kernel
theorem dX4_where_2 : decode cX4_where 2 = .ok (.iload_n 2, 1) := by decide +kernel
theorem dX4_where_3 : decode cX4_where 3 = .ok (.invokevirtual 91, 3) := by decide +kernel
theorem dX4_where_6 : decode cX4_where 6 = .ok (.ifCond .eq 12, 3) := by decide +kernel
theorem dX4_where_9 : decode cX4_where 9 = .ok (.aload_n 0, 1) := by decide +kernel
theorem dX4_where_10 : decode cX4_where 10 = .ok (.iload_n 1, 1) := by decide +kernel
theorem dX4_where_11 : decode cX4_where 11 = .ok (.iload_n 2, 1) := by decide +kernel
theorem dX4_where_12 : decode cX4_where 12 = .ok (.invokevirtual 94, 3) := by decide +kernel
theorem dX4_where_15 : decode cX4_where 15 = .ok (.goto 4, 3) := by decide +kernel
theorem dX4_where_18 : decode cX4_where 18 = .ok (.iconst 0, 1) := by decide +kernel
theorem dX4_where_19 : decode cX4_where 19 = .ok (.ireturn, 1) := by decide +kernel
set_option maxRecDepth 20000 in
theorem ggX4_whereByAll_X4_isThing : GoodIn wsX4_whereByAll wsX4_isThing := goodIn_r _ [5, 6, 7, 4, 8] (by decide +kernel) (by decide +kernel)
set_option maxRecDepth 20000 in
theorem gX4_whereByAll_X4_isThing : GoodIn wsX4_whereByAll (va_wsS RX4 88 yX4_isThing wsX4_isThing) := goodIn_app (goodIn_of _ (by decide +kernel)) ggX4_whereByAll_X4_isThing
set_option maxRecDepth 20000 in
theorem ggX4_whereByAll_X4_placeOf : GoodIn wsX4_whereByAll wsX4_placeOf := goodIn_r _ [12, 13, 14, 15, 16, 17, 4, 18, 19, 20, 21, 22, 23, 24, 25, 26, 27, 28, 29, 30, 31, 32, 33, 34, 35, 36, 37, 38, 39, 40, 41, 42, 43, 44, 45, 46, 47, 48, 49, 50, 51, 52, 53] (by decide +kernel) (by decide +kernel)
set_option maxRecDepth 20000 in
theorem gX4_whereByAll_X4_placeOf : GoodIn wsX4_whereByAll (wsV RX4 94 RX4 yX4_placeOf wsX4_placeOf) := goodIn_app (goodIn_of _ (by decide +kernel)) ggX4_whereByAll_X4_placeOf
theorem dX4_whereByAll_0 : decode cX4_whereByAll 0 = .ok (.aload_n 0, 1) := by decide +kernel
theorem dX4_whereByAll_1 : decode cX4_whereByAll 1 = .ok (.iload_n 1, 1) := by decide +kernel
theorem dX4_whereByAll_2 : decode cX4_whereByAll 2 = .ok (.invokestatic 88, 3) := by decide +kernel
theorem dX4_whereByAll_5 : decode cX4_whereByAll 5 = .ok (.ifCond .eq 7, 3) := by decide +kernel
theorem dX4_whereByAll_8 : decode cX4_whereByAll 8 = .ok (.iconst 0, 1) := by decide +kernel
theorem dX4_whereByAll_9 : decode cX4_whereByAll 9 = .ok (.goto 4, 3) := by decide +kernel
theorem dX4_whereByAll_12 : decode cX4_whereByAll 12 = .ok (.iconst 1, 1) := by decide +kernel
theorem dX4_whereByAll_13 : decode cX4_whereByAll 13 = .ok (.putfield 60, 3) := by decide +kernel
theorem dX4_whereByAll_16 : decode cX4_whereByAll 16 = .ok (.aload_n 0, 1) := by decide +kernel
theorem dX4_whereByAll_17 : decode cX4_whereByAll 17 = .ok (.getfield 60, 3) := by decide +kernel
theorem dX4_whereByAll_20 : decode cX4_whereByAll 20 = .ok (.ifCond .ne 12, 3) := by decide +kernel
theorem dX4_whereByAll_23 : decode cX4_whereByAll 23 = .ok (.aload_n 0, 1) := by decide +kernel
theorem dX4_whereByAll_24 : decode cX4_whereByAll 24 = .ok (.iconst 5, 1) := by decide +kernel
theorem dX4_whereByAll_25 : decode cX4_whereByAll 25 = .ok (.iload_n 1, 1) := by decide +kernel
theorem dX4_whereByAll_26 : decode cX4_whereByAll 26 = .ok (.invokevirtual 94, 3) := by decide +kernel
theorem dX4_whereByAll_29 : decode cX4_whereByAll 29 = .ok (.goto 4, 3) := by decide +kernel
theorem dX4_whereByAll_32 : decode cX4_whereByAll 32 = .ok (.iconst 0, 1) := by decide +kernel
theorem dX4_whereByAll_33 : decode cX4_whereByAll 33 = .ok (.ireturn, 1) := by decide +kernel
set_option maxRecDepth 20000 in
theorem ggX4_countOf_X4_placeOf : GoodIn wsX4_countOf wsX4_placeOf := goodIn_r _ [5, 6, 7, 8, 9, 10, 4, 11, 12, 13, 14, 15, 16, 17, 18, 19, 20, 21, 22, 23, 24, 25, 26, 27, 28, 29, 30, 31, 32, 33, 34, 35, 36, 37, 38, 39, 40, 41, 42, 43, 44, 45, 46] (by decide +kernel) (by decide +kernel)
set_option maxRecDepth 20000 in
theorem gX4_countOf_X4_placeOf : GoodIn wsX4_countOf (wsV RX4 94 RX4 yX4_placeOf wsX4_placeOf) := goodIn_app (goodIn_of _ (by decide +kernel)) ggX4_countOf_X4_placeOf
theorem dX4_countOf_0 : decode cX4_countOf 0 = .ok (.iconst 0, 1) := by decide +kernel
theorem dX4_countOf_1 : decode cX4_countOf 1 = .ok (.istore_n 3, 1) := by decide +kernel
theorem dX4_countOf_2 : decode cX4_countOf 2 = .ok (.iload_n 2, 1) := by decide +kernel
theorem dX4_countOf_3 : decode cX4_countOf 3 = .ok (.istore 4, 2) := by decide +kernel
theorem dX4_countOf_5 : decode cX4_countOf 5 = .ok (.iload 4, 2) := by decide +kernel
theorem dX4_countOf_7 : decode cX4_countOf 7 = .ok (.bipush 40, 2) := by decide +kernel
theorem dX4_countOf_9 : decode cX4_countOf 9 = .ok (.if_icmp .ge 28, 3) := by decide +kernel
theorem dX4_countOf_12 : decode cX4_countOf 12 = .ok (.iload_n 3, 1) := by decide +kernel
theorem dX4_countOf_13 : decode cX4_countOf 13 = .ok (.aload_n 0, 1) := by decide +kernel
theorem dX4_countOf_14 : decode cX4_countOf 14 = .ok (.iload_n 1, 1) := by decide +kernel
theorem dX4_countOf_15 : decode cX4_countOf 15 = .ok (.iload 4, 2) := by decide +kernel
theorem dX4_countOf_17 : decode cX4_countOf 17 = .ok (.invokevirtual 94, 3) := by decide +kernel
theorem dX4_countOf_20 : decode cX4_countOf 20 = .ok (.iconst (-1), 1) := by decide +kernel
theorem dX4_countOf_21 : decode cX4_countOf 21 = .ok (.if_icmp .eq 7, 3) := by decide +kernel
theorem dX4_countOf_24 : decode cX4_countOf 24 = .ok (.iconst 1, 1) := by decide +kernel
theorem dX4_countOf_25 : decode cX4_countOf 25 = .ok (.goto 4, 3) := by decide +kernel
theorem dX4_countOf_28 : decode cX4_countOf 28 = .ok (.iconst 0, 1) := by decide +kernel
theorem dX4_countOf_29 : decode cX4_countOf 29 = .ok (.iadd, 1) := by decide +kernel
theorem dX4_countOf_30 : decode cX4_countOf 30 = .ok (.istore_n 3, 1) := by decide +kernel
theorem dX4_countOf_31 : decode cX4_countOf 31 = .ok (.iinc 4 8, 3) := by decide +kernel
theorem dX4_countOf_34 : decode cX4_countOf 34 = .ok (.goto (-29), 3) := by decide +kernel
theorem dX4_countOf_37 : decode cX4_countOf 37 = .ok (.iload_n 3, 1) := by decide +kernel
theorem dX4_countOf_38 : decode cX4_countOf 38 = .ok (.ireturn, 1) := by decide +kernel
set_option maxRecDepth 20000 in
theorem ggX4_count_X4_isFridge : GoodIn wsX4_count wsX4_isFridge := goodIn_r _ [5, 6, 7, 4, 8] (by decide +kernel) (by decide +kernel)
set_option maxRecDepth 20000 in
theorem gX4_count_X4_isFridge : GoodIn wsX4_count (va_wsS RX4 84 yX4_isFridge wsX4_isFridge) := goodIn_app (goodIn_of _ (by decide +kernel)) ggX4_count_X4_isFridge
set_option maxRecDepth 20000 in
theorem ggX4_count_X4_isFood : GoodIn wsX4_count wsX4_isFood := goodIn_r _ [11, 6, 7, 4, 8] (by decide +kernel) (by decide +kernel)
set_option maxRecDepth 20000 in
theorem gX4_count_X4_isFood : GoodIn wsX4_count (va_wsS RX4 105 yX4_isFood wsX4_isFood) := goodIn_app (goodIn_of _ (by decide +kernel)) ggX4_count_X4_isFood
set_option maxRecDepth 20000 in
theorem ggX4_count_X4_countOf : GoodIn wsX4_count wsX4_countOf := goodIn_r _ [15, 16, 17, 18, 4, 19, 20, 21, 22, 23, 24, 25, 26, 27, 28, 29, 30, 31, 32, 33, 34, 35, 36, 37, 38, 39, 40, 41, 42, 43, 44, 45, 46, 47, 48, 49, 50, 51, 52, 53, 54, 55, 56, 57, 58, 59, 60] (by decide +kernel) (by decide +kernel)
set_option maxRecDepth 20000 in
theorem gX4_count_X4_countOf : GoodIn wsX4_count (wsV RX4 108 RX4 yX4_countOf wsX4_countOf) := goodIn_app (goodIn_of _ (by decide +kernel)) ggX4_count_X4_countOf
theorem dX4_count_0 : decode cX4_count 0 = .ok (.aload_n 0, 1) := by decide +kernel
theorem dX4_count_1 : decode cX4_count 1 = .ok (.iload_n 1, 1) := by decide +kernel
theorem dX4_count_2 : decode cX4_count 2 = .ok (.invokestatic 84, 3) := by decide +kernel
theorem dX4_count_5 : decode cX4_count 5 = .ok (.ifCond .eq 14, 3) := by decide +kernel
theorem dX4_count_8 : decode cX4_count 8 = .ok (.iload_n 2, 1) := by decide +kernel
theorem dX4_count_9 : decode cX4_count 9 = .ok (.invokestatic 105, 3) := by decide +kernel
theorem dX4_count_12 : decode cX4_count 12 = .ok (.ifCond .eq 7, 3) := by decide +kernel
theorem dX4_count_15 : decode cX4_count 15 = .ok (.iconst 0, 1) := by decide +kernel
theorem dX4_count_16 : decode cX4_count 16 = .ok (.goto 4, 3) := by decide +kernel
theorem dX4_count_19 : decode cX4_count 19 = .ok (.iconst 1, 1) := by decide +kernel
theorem dX4_count_20 : decode cX4_count 20 = .ok (.putfield 60, 3) := by decide +kernel
theorem dX4_count_23 : decode cX4_count 23 = .ok (.aload_n 0, 1) := by decide +kernel
theorem dX4_count_24 : decode cX4_count 24 = .ok (.getfield 60, 3) := by decide +kernel
theorem dX4_count_27 : decode cX4_count 27 = .ok (.ifCond .ne 12, 3) := by decide +kernel
theorem dX4_count_30 : decode cX4_count 30 = .ok (.aload_n 0, 1) := by decide +kernel
theorem dX4_count_31 : decode cX4_count 31 = .ok (.iload_n 1, 1) := by decide +kernel
theorem dX4_count_32 : decode cX4_count 32 = .ok (.iload_n 2, 1) := by decide +kernel
theorem dX4_count_33 : decode cX4_count 33 = .ok (.invokevirtual 108, 3) := by decide +kernel
theorem dX4_count_36 : decode cX4_count 36 = .ok (.goto 4, 3) := by decide +kernel
theorem dX4_count_39 : decode cX4_count 39 = .ok (.iconst 0, 1) := by decide +kernel
theorem dX4_count_40 : decode cX4_count 40 = .ok (.ireturn, 1) := by decide +kernel
set_option maxRecDepth 20000 in
theorem ggX4_countByAll_X4_isFood : GoodIn wsX4_countByAll wsX4_isFood := goodIn_r _ [5, 6, 7, 4, 8] (by decide +kernel) (by decide +kernel)
set_option maxRecDepth 20000 in
theorem gX4_countByAll_X4_isFood : GoodIn wsX4_countByAll (va_wsS RX4 105 yX4_isFood wsX4_isFood) := goodIn_app (goodIn_of _ (by decide +kernel)) ggX4_countByAll_X4_isFood
set_option maxRecDepth 20000 in
theorem ggX4_countByAll_X4_countOf : GoodIn wsX4_countByAll wsX4_countOf := goodIn_r _ [12, 13, 14, 15, 4, 16, 17, 18, 19, 20, 21, 22, 23, 24, 25, 26, 27, 28, 29, 30, 31, 32, 33, 34, 35, 36, 37, 38, 39, 40, 41, 42, 43, 44, 45, 46, 47, 48, 49, 50, 51, 52, 53, 54, 55, 56, 57] (by decide +kernel) (by decide +kernel)
set_option maxRecDepth 20000 in
theorem gX4_countByAll_X4_countOf : GoodIn wsX4_countByAll (wsV RX4 108 RX4 yX4_countOf wsX4_countOf) := goodIn_app (goodIn_of _ (by decide +kernel)) ggX4_countByAll_X4_countOf
theorem dX4_countByAll_0 : decode cX4_countByAll 0 = .ok (.aload_n 0, 1) := by decide +kernel
theorem dX4_countByAll_1 : decode cX4_countByAll 1 = .ok (.iload_n 1, 1) := by decide +kernel
theorem dX4_countByAll_2 : decode cX4_countByAll 2 = .ok (.invokestatic 105, 3) := by decide +kernel
theorem dX4_countByAll_5 : decode cX4_countByAll 5 = .ok (.ifCond .eq 7, 3) := by decide +kernel
theorem dX4_countByAll_8 : decode cX4_countByAll 8 = .ok (.iconst 0, 1) := by decide +kernel
theorem dX4_countByAll_9 : decode cX4_countByAll 9 = .ok (.goto 4, 3) := by decide +kernel
theorem dX4_countByAll_12 : decode cX4_countByAll 12 = .ok (.iconst 1, 1) := by decide +kernel
theorem dX4_countByAll_13 : decode cX4_countByAll 13 = .ok (.putfield 60, 3) := by decide +kernel
theorem dX4_countByAll_16 : decode cX4_countByAll 16 = .ok (.aload_n 0, 1) := by decide +kernel
theorem dX4_countByAll_17 : decode cX4_countByAll 17 = .ok (.getfield 60, 3) := by decide +kernel
theorem dX4_countByAll_20 : decode cX4_countByAll 20 = .ok (.ifCond .ne 12, 3) := by decide +kernel
theorem dX4_countByAll_23 : decode cX4_countByAll 23 = .ok (.aload_n 0, 1) := by decide +kernel
theorem dX4_countByAll_24 : decode cX4_countByAll 24 = .ok (.iconst 5, 1) := by decide +kernel
theorem dX4_countByAll_25 : decode cX4_countByAll 25 = .ok (.iload_n 1, 1) := by decide +kernel
theorem dX4_countByAll_26 : decode cX4_countByAll 26 = .ok (.invokevirtual 108, 3) := by decide +kernel
theorem dX4_countByAll_29 : decode cX4_countByAll 29 = .ok (.goto 4, 3) := by decide +kernel
theorem dX4_countByAll_32 : decode cX4_countByAll 32 = .ok (.iconst 0, 1) := by decide +kernel
theorem dX4_countByAll_33 : decode cX4_countByAll 33 = .ok (.ireturn, 1) := by decide +kernel
set_option maxRecDepth 20000 in
theorem ggX4_claims_X4_areOne : GoodIn wsX4_claims wsX4_areOne := goodIn_r _ [6, 7, 8, 9, 5, 10, 11, 12, 13, 14, 15, 16, 42, 43, 44, 45, 46, 47, 48, 49, 50, 51, 52, 53, 54, 55, 56, 57, 58, 59, 60] (by decide +kernel) (by decide +kernel)
set_option maxRecDepth 20000 in
theorem gX4_claims_X4_areOne : GoodIn wsX4_claims (wsV RX4 91 RX4 yX4_areOne wsX4_areOne) := goodIn_app (goodIn_of _ (by decide +kernel)) ggX4_claims_X4_areOne
set_option maxRecDepth 20000 in
theorem ggX4_claims_X4_placeOf : GoodIn wsX4_claims wsX4_placeOf := goodIn_r _ [20, 1, 21, 22, 23, 24, 5, 25, 26, 27, 28, 29, 30, 31, 32, 33, 34, 35, 36, 37, 38, 39, 40, 41, 42, 43, 44, 45, 46, 47, 48, 49, 50, 51, 52, 53, 54, 55, 56, 57, 58, 59, 60] (by decide +kernel) (by decide +kernel)
set_option maxRecDepth 20000 in
theorem gX4_claims_X4_placeOf : GoodIn wsX4_claims (wsV RX4 94 RX4 yX4_placeOf wsX4_placeOf) := goodIn_app (goodIn_of _ (by decide +kernel)) ggX4_claims_X4_placeOf
set_option maxRecDepth 20000 in
theorem ggX4_claims_X4_latestMove : GoodIn wsX4_claims wsX4_latestMove := goodIn_r _ [25, 26, 21, 27, 28, 29, 5, 30, 31, 32, 33, 34, 35, 1, 36, 37, 38, 39, 40, 41, 42, 43, 44, 45, 46, 47, 48, 49, 50, 51, 52, 53, 54, 55, 56, 57, 58, 59, 60] (by decide +kernel) (by decide +kernel)
set_option maxRecDepth 20000 in
theorem gX4_claims_X4_latestMove : GoodIn wsX4_claims (wsV RX4 80 RX4 yX4_latestMove wsX4_latestMove) := goodIn_app (goodIn_of _ (by decide +kernel)) ggX4_claims_X4_latestMove
theorem dX4_claims_0 : decode cX4_claims 0 = .ok (.iconst 0, 1) := by decide +kernel
theorem dX4_claims_1 : decode cX4_claims 1 = .ok (.istore_n 3, 1) := by decide +kernel
theorem dX4_claims_2 : decode cX4_claims 2 = .ok (.aload_n 0, 1) := by decide +kernel
theorem dX4_claims_3 : decode cX4_claims 3 = .ok (.iload_n 1, 1) := by decide +kernel
theorem dX4_claims_4 : decode cX4_claims 4 = .ok (.iload_n 2, 1) := by decide +kernel
theorem dX4_claims_5 : decode cX4_claims 5 = .ok (.invokevirtual 91, 3) := by decide +kernel
theorem dX4_claims_8 : decode cX4_claims 8 = .ok (.ifCond .eq 70, 3) := by decide +kernel
theorem dX4_claims_11 : decode cX4_claims 11 = .ok (.aload_n 0, 1) := by decide +kernel
theorem dX4_claims_12 : decode cX4_claims 12 = .ok (.iload_n 1, 1) := by decide +kernel
theorem dX4_claims_13 : decode cX4_claims 13 = .ok (.iload_n 2, 1) := by decide +kernel
theorem dX4_claims_14 : decode cX4_claims 14 = .ok (.invokevirtual 94, 3) := by decide +kernel
theorem dX4_claims_17 : decode cX4_claims 17 = .ok (.istore 4, 2) := by decide +kernel
theorem dX4_claims_19 : decode cX4_claims 19 = .ok (.iconst 0, 1) := by decide +kernel
theorem dX4_claims_20 : decode cX4_claims 20 = .ok (.istore 5, 2) := by decide +kernel
theorem dX4_claims_22 : decode cX4_claims 22 = .ok (.iload 5, 2) := by decide +kernel
theorem dX4_claims_24 : decode cX4_claims 24 = .ok (.iconst 5, 1) := by decide +kernel
theorem dX4_claims_25 : decode cX4_claims 25 = .ok (.if_icmp .ge 53, 3) := by decide +kernel
theorem dX4_claims_28 : decode cX4_claims 28 = .ok (.aload_n 0, 1) := by decide +kernel
theorem dX4_claims_29 : decode cX4_claims 29 = .ok (.iload_n 1, 1) := by decide +kernel
theorem dX4_claims_30 : decode cX4_claims 30 = .ok (.iload_n 2, 1) := by decide +kernel
theorem dX4_claims_31 : decode cX4_claims 31 = .ok (.iload 5, 2) := by decide +kernel
theorem dX4_claims_33 : decode cX4_claims 33 = .ok (.invokevirtual 80, 3) := by decide +kernel
theorem dX4_claims_36 : decode cX4_claims 36 = .ok (.istore 6, 2) := by decide +kernel
theorem dX4_claims_38 : decode cX4_claims 38 = .ok (.iload_n 3, 1) := by decide +kernel
theorem dX4_claims_39 : decode cX4_claims 39 = .ok (.iload 6, 2) := by decide +kernel
theorem dX4_claims_41 : decode cX4_claims 41 = .ok (.iconst (-1), 1) := by decide +kernel
theorem dX4_claims_42 : decode cX4_claims 42 = .ok (.if_icmp .eq 27, 3) := by decide +kernel
theorem dX4_claims_45 : decode cX4_claims 45 = .ok (.aload_n 0, 1) := by decide +kernel
theorem dX4_claims_46 : decode cX4_claims 46 = .ok (.getfield 7, 3) := by decide +kernel
theorem dX4_claims_49 : decode cX4_claims 49 = .ok (.iload 6, 2) := by decide +kernel
theorem dX4_claims_51 : decode cX4_claims 51 = .ok (.iaload, 1) := by decide +kernel
theorem dX4_claims_52 : decode cX4_claims 52 = .ok (.ifCond .ne 17, 3) := by decide +kernel
theorem dX4_claims_55 : decode cX4_claims 55 = .ok (.iload 4, 2) := by decide +kernel
theorem dX4_claims_57 : decode cX4_claims 57 = .ok (.iload 5, 2) := by decide +kernel
theorem dX4_claims_59 : decode cX4_claims 59 = .ok (.if_icmp .eq 10, 3) := by decide +kernel
theorem dX4_claims_62 : decode cX4_claims 62 = .ok (.iconst 1, 1) := by decide +kernel
theorem dX4_claims_63 : decode cX4_claims 63 = .ok (.iload 5, 2) := by decide +kernel
theorem dX4_claims_65 : decode cX4_claims 65 = .ok (.ishl, 1) := by decide +kernel
theorem dX4_claims_66 : decode cX4_claims 66 = .ok (.goto 4, 3) := by decide +kernel
theorem dX4_claims_69 : decode cX4_claims 69 = .ok (.iconst 0, 1) := by decide +kernel
theorem dX4_claims_70 : decode cX4_claims 70 = .ok (.ior, 1) := by decide +kernel
theorem dX4_claims_71 : decode cX4_claims 71 = .ok (.istore_n 3, 1) := by decide +kernel
theorem dX4_claims_72 : decode cX4_claims 72 = .ok (.iinc 5 1, 3) := by decide +kernel
theorem dX4_claims_75 : decode cX4_claims 75 = .ok (.goto (-53), 3) := by decide +kernel
theorem dX4_claims_78 : decode cX4_claims 78 = .ok (.iload_n 3, 1) := by decide +kernel
theorem dX4_claims_79 : decode cX4_claims 79 = .ok (.ireturn, 1) := by decide +kernel
set_option maxRecDepth 20000 in
theorem ggX4_meet_X4_isFridge : GoodIn wsX4_meet wsX4_isFridge := goodIn_r _ [8, 9, 10, 7, 11] (by decide +kernel) (by decide +kernel)
set_option maxRecDepth 20000 in
theorem gX4_meet_X4_isFridge : GoodIn wsX4_meet (va_wsS RX4 84 yX4_isFridge wsX4_isFridge) := goodIn_app (goodIn_of _ (by decide +kernel)) ggX4_meet_X4_isFridge
set_option maxRecDepth 20000 in
theorem ggX4_meet_X4_knows : GoodIn wsX4_meet wsX4_knows := goodIn_r _ [15, 3, 16, 17, 18, 19, 20, 21, 22, 23, 24, 25, 26, 27, 28, 29, 30, 31, 32, 33, 34] (by decide +kernel) (by decide +kernel)
set_option maxRecDepth 20000 in
theorem gX4_meet_X4_knows : GoodIn wsX4_meet (wsV RX4 70 RX4 yX4_knows wsX4_knows) := goodIn_app (goodIn_of _ (by decide +kernel)) ggX4_meet_X4_knows
theorem dX4_meet_0 : decode cX4_meet 0 = .ok (.aload_n 0, 1) := by decide +kernel
theorem dX4_meet_1 : decode cX4_meet 1 = .ok (.iload_n 1, 1) := by decide +kernel
theorem dX4_meet_2 : decode cX4_meet 2 = .ok (.invokestatic 84, 3) := by decide +kernel
theorem dX4_meet_5 : decode cX4_meet 5 = .ok (.ifCond .eq 10, 3) := by decide +kernel
theorem dX4_meet_8 : decode cX4_meet 8 = .ok (.iload_n 2, 1) := by decide +kernel
theorem dX4_meet_9 : decode cX4_meet 9 = .ok (.invokestatic 84, 3) := by decide +kernel
theorem dX4_meet_12 : decode cX4_meet 12 = .ok (.ifCond .ne 7, 3) := by decide +kernel
theorem dX4_meet_15 : decode cX4_meet 15 = .ok (.iconst 1, 1) := by decide +kernel
theorem dX4_meet_16 : decode cX4_meet 16 = .ok (.goto 13, 3) := by decide +kernel
theorem dX4_meet_19 : decode cX4_meet 19 = .ok (.iload_n 1, 1) := by decide +kernel
theorem dX4_meet_20 : decode cX4_meet 20 = .ok (.iload_n 2, 1) := by decide +kernel
theorem dX4_meet_21 : decode cX4_meet 21 = .ok (.if_icmp .ne 7, 3) := by decide +kernel
theorem dX4_meet_24 : decode cX4_meet 24 = .ok (.iconst 2, 1) := by decide +kernel
theorem dX4_meet_25 : decode cX4_meet 25 = .ok (.goto 4, 3) := by decide +kernel
theorem dX4_meet_28 : decode cX4_meet 28 = .ok (.iconst 0, 1) := by decide +kernel
theorem dX4_meet_29 : decode cX4_meet 29 = .ok (.putfield 60, 3) := by decide +kernel
theorem dX4_meet_32 : decode cX4_meet 32 = .ok (.aload_n 0, 1) := by decide +kernel
theorem dX4_meet_33 : decode cX4_meet 33 = .ok (.getfield 60, 3) := by decide +kernel
theorem dX4_meet_36 : decode cX4_meet 36 = .ok (.ifCond .le 5, 3) := by decide +kernel
theorem dX4_meet_39 : decode cX4_meet 39 = .ok (.iconst 0, 1) := by decide +kernel
theorem dX4_meet_40 : decode cX4_meet 40 = .ok (.ireturn, 1) := by decide +kernel
theorem dX4_meet_41 : decode cX4_meet 41 = .ok (.iconst 0, 1) := by decide +kernel
theorem dX4_meet_42 : decode cX4_meet 42 = .ok (.istore_n 3, 1) := by decide +kernel
theorem dX4_meet_43 : decode cX4_meet 43 = .ok (.iconst 0, 1) := by decide +kernel
theorem dX4_meet_44 : decode cX4_meet 44 = .ok (.istore 4, 2) := by decide +kernel
theorem dX4_meet_46 : decode cX4_meet 46 = .ok (.iload 4, 2) := by decide +kernel
theorem dX4_meet_48 : decode cX4_meet 48 = .ok (.aload_n 0, 1) := by decide +kernel
theorem dX4_meet_49 : decode cX4_meet 49 = .ok (.getfield 56, 3) := by decide +kernel
theorem dX4_meet_52 : decode cX4_meet 52 = .ok (.if_icmp .ge 96, 3) := by decide +kernel
theorem dX4_meet_55 : decode cX4_meet 55 = .ok (.aload_n 0, 1) := by decide +kernel
theorem dX4_meet_56 : decode cX4_meet 56 = .ok (.iload_n 1, 1) := by decide +kernel
theorem dX4_meet_57 : decode cX4_meet 57 = .ok (.iload 4, 2) := by decide +kernel
theorem dX4_meet_59 : decode cX4_meet 59 = .ok (.invokevirtual 70, 3) := by decide +kernel
theorem dX4_meet_62 : decode cX4_meet 62 = .ok (.istore 5, 2) := by decide +kernel
theorem dX4_meet_64 : decode cX4_meet 64 = .ok (.aload_n 0, 1) := by decide +kernel
theorem dX4_meet_65 : decode cX4_meet 65 = .ok (.iload_n 2, 1) := by decide +kernel
theorem dX4_meet_66 : decode cX4_meet 66 = .ok (.iload 4, 2) := by decide +kernel
theorem dX4_meet_68 : decode cX4_meet 68 = .ok (.invokevirtual 70, 3) := by decide +kernel
theorem dX4_meet_71 : decode cX4_meet 71 = .ok (.istore 6, 2) := by decide +kernel
theorem dX4_meet_73 : decode cX4_meet 73 = .ok (.iload_n 3, 1) := by decide +kernel
theorem dX4_meet_74 : decode cX4_meet 74 = .ok (.iload 5, 2) := by decide +kernel
theorem dX4_meet_76 : decode cX4_meet 76 = .ok (.iload 6, 2) := by decide +kernel
theorem dX4_meet_78 : decode cX4_meet 78 = .ok (.if_icmp .eq 7, 3) := by decide +kernel
theorem dX4_meet_81 : decode cX4_meet 81 = .ok (.iconst 1, 1) := by decide +kernel
theorem dX4_meet_82 : decode cX4_meet 82 = .ok (.goto 4, 3) := by decide +kernel
theorem dX4_meet_85 : decode cX4_meet 85 = .ok (.iconst 0, 1) := by decide +kernel
theorem dX4_meet_86 : decode cX4_meet 86 = .ok (.iadd, 1) := by decide +kernel
theorem dX4_meet_87 : decode cX4_meet 87 = .ok (.istore_n 3, 1) := by decide +kernel
theorem dX4_meet_88 : decode cX4_meet 88 = .ok (.aload_n 0, 1) := by decide +kernel
theorem dX4_meet_89 : decode cX4_meet 89 = .ok (.getfield 34, 3) := by decide +kernel
theorem dX4_meet_92 : decode cX4_meet 92 = .ok (.bipush 6, 2) := by decide +kernel
theorem dX4_meet_94 : decode cX4_meet 94 = .ok (.iload 4, 2) := by decide +kernel
theorem dX4_meet_96 : decode cX4_meet 96 = .ok (.imul, 1) := by decide +kernel
theorem dX4_meet_97 : decode cX4_meet 97 = .ok (.iload_n 1, 1) := by decide +kernel
theorem dX4_meet_98 : decode cX4_meet 98 = .ok (.iadd, 1) := by decide +kernel
theorem dX4_meet_99 : decode cX4_meet 99 = .ok (.iload 5, 2) := by decide +kernel
theorem dX4_meet_101 : decode cX4_meet 101 = .ok (.ifCond .ne 8, 3) := by decide +kernel
theorem dX4_meet_104 : decode cX4_meet 104 = .ok (.iload 6, 2) := by decide +kernel
theorem dX4_meet_106 : decode cX4_meet 106 = .ok (.ifCond .eq 7, 3) := by decide +kernel
theorem dX4_meet_109 : decode cX4_meet 109 = .ok (.iconst 1, 1) := by decide +kernel
theorem dX4_meet_110 : decode cX4_meet 110 = .ok (.goto 4, 3) := by decide +kernel
theorem dX4_meet_113 : decode cX4_meet 113 = .ok (.iconst 0, 1) := by decide +kernel
theorem dX4_meet_114 : decode cX4_meet 114 = .ok (.bastore, 1) := by decide +kernel
theorem dX4_meet_115 : decode cX4_meet 115 = .ok (.aload_n 0, 1) := by decide +kernel
theorem dX4_meet_116 : decode cX4_meet 116 = .ok (.getfield 34, 3) := by decide +kernel
theorem dX4_meet_119 : decode cX4_meet 119 = .ok (.bipush 6, 2) := by decide +kernel
theorem dX4_meet_121 : decode cX4_meet 121 = .ok (.iload 4, 2) := by decide +kernel
theorem dX4_meet_123 : decode cX4_meet 123 = .ok (.imul, 1) := by decide +kernel
theorem dX4_meet_124 : decode cX4_meet 124 = .ok (.iload_n 2, 1) := by decide +kernel
theorem dX4_meet_125 : decode cX4_meet 125 = .ok (.iadd, 1) := by decide +kernel
theorem dX4_meet_126 : decode cX4_meet 126 = .ok (.iload 5, 2) := by decide +kernel
theorem dX4_meet_128 : decode cX4_meet 128 = .ok (.ifCond .ne 8, 3) := by decide +kernel
theorem dX4_meet_131 : decode cX4_meet 131 = .ok (.iload 6, 2) := by decide +kernel
theorem dX4_meet_133 : decode cX4_meet 133 = .ok (.ifCond .eq 7, 3) := by decide +kernel
theorem dX4_meet_136 : decode cX4_meet 136 = .ok (.iconst 1, 1) := by decide +kernel
theorem dX4_meet_137 : decode cX4_meet 137 = .ok (.goto 4, 3) := by decide +kernel
theorem dX4_meet_140 : decode cX4_meet 140 = .ok (.iconst 0, 1) := by decide +kernel
theorem dX4_meet_141 : decode cX4_meet 141 = .ok (.bastore, 1) := by decide +kernel
theorem dX4_meet_142 : decode cX4_meet 142 = .ok (.iinc 4 1, 3) := by decide +kernel
theorem dX4_meet_145 : decode cX4_meet 145 = .ok (.goto (-99), 3) := by decide +kernel
theorem dX4_meet_148 : decode cX4_meet 148 = .ok (.aload_n 0, 1) := by decide +kernel
theorem dX4_meet_149 : decode cX4_meet 149 = .ok (.getfield 38, 3) := by decide +kernel
theorem dX4_meet_152 : decode cX4_meet 152 = .ok (.iload_n 1, 1) := by decide +kernel
theorem dX4_meet_153 : decode cX4_meet 153 = .ok (.iaload, 1) := by decide +kernel
theorem dX4_meet_154 : decode cX4_meet 154 = .ok (.aload_n 0, 1) := by decide +kernel
theorem dX4_meet_155 : decode cX4_meet 155 = .ok (.getfield 38, 3) := by decide +kernel
theorem dX4_meet_158 : decode cX4_meet 158 = .ok (.iload_n 2, 1) := by decide +kernel
theorem dX4_meet_159 : decode cX4_meet 159 = .ok (.iaload, 1) := by decide +kernel
theorem dX4_meet_160 : decode cX4_meet 160 = .ok (.if_icmp .le 12, 3) := by decide +kernel
theorem dX4_meet_163 : decode cX4_meet 163 = .ok (.aload_n 0, 1) := by decide +kernel
theorem dX4_meet_164 : decode cX4_meet 164 = .ok (.getfield 38, 3) := by decide +kernel
theorem dX4_meet_167 : decode cX4_meet 167 = .ok (.iload_n 1, 1) := by decide +kernel
theorem dX4_meet_168 : decode cX4_meet 168 = .ok (.iaload, 1) := by decide +kernel
theorem dX4_meet_169 : decode cX4_meet 169 = .ok (.goto 9, 3) := by decide +kernel
theorem dX4_meet_172 : decode cX4_meet 172 = .ok (.aload_n 0, 1) := by decide +kernel
theorem dX4_meet_173 : decode cX4_meet 173 = .ok (.getfield 38, 3) := by decide +kernel
theorem dX4_meet_176 : decode cX4_meet 176 = .ok (.iload_n 2, 1) := by decide +kernel
theorem dX4_meet_177 : decode cX4_meet 177 = .ok (.iaload, 1) := by decide +kernel
theorem dX4_meet_178 : decode cX4_meet 178 = .ok (.istore 4, 2) := by decide +kernel
theorem dX4_meet_180 : decode cX4_meet 180 = .ok (.aload_n 0, 1) := by decide +kernel
theorem dX4_meet_181 : decode cX4_meet 181 = .ok (.getfield 38, 3) := by decide +kernel
theorem dX4_meet_184 : decode cX4_meet 184 = .ok (.iload_n 1, 1) := by decide +kernel
theorem dX4_meet_185 : decode cX4_meet 185 = .ok (.iload 4, 2) := by decide +kernel
theorem dX4_meet_187 : decode cX4_meet 187 = .ok (.iastore, 1) := by decide +kernel
theorem dX4_meet_188 : decode cX4_meet 188 = .ok (.aload_n 0, 1) := by decide +kernel
theorem dX4_meet_189 : decode cX4_meet 189 = .ok (.getfield 38, 3) := by decide +kernel
theorem dX4_meet_192 : decode cX4_meet 192 = .ok (.iload_n 2, 1) := by decide +kernel
theorem dX4_meet_193 : decode cX4_meet 193 = .ok (.iload 4, 2) := by decide +kernel
theorem dX4_meet_195 : decode cX4_meet 195 = .ok (.iastore, 1) := by decide +kernel
theorem dX4_meet_196 : decode cX4_meet 196 = .ok (.iload_n 3, 1) := by decide +kernel
theorem dX4_meet_197 : decode cX4_meet 197 = .ok (.ireturn, 1) := by decide +kernel
theorem dX4_words_0 : decode cX4_words 0 = .ok (.aload_n 0, 1) := by decide +kernel
theorem dX4_words_1 : decode cX4_words 1 = .ok (.iconst 0, 1) := by decide +kernel
theorem dX4_words_2 : decode cX4_words 2 = .ok (.putfield 60, 3) := by decide +kernel
theorem dX4_words_5 : decode cX4_words 5 = .ok (.aload_n 0, 1) := by decide +kernel
theorem dX4_words_6 : decode cX4_words 6 = .ok (.getfield 56, 3) := by decide +kernel
theorem dX4_words_9 : decode cX4_words 9 = .ok (.ireturn, 1) := by decide +kernel
set_option maxRecDepth 20000 in
theorem ggX4_known_X4_isFridge : GoodIn wsX4_known wsX4_isFridge := goodIn_r _ [6, 7, 8, 5, 9] (by decide +kernel) (by decide +kernel)
set_option maxRecDepth 20000 in
theorem gX4_known_X4_isFridge : GoodIn wsX4_known (va_wsS RX4 84 yX4_isFridge wsX4_isFridge) := goodIn_app (goodIn_of _ (by decide +kernel)) ggX4_known_X4_isFridge
set_option maxRecDepth 20000 in
theorem ggX4_known_X4_knows : GoodIn wsX4_known wsX4_knows := goodIn_r _ [13, 14, 15, 16, 17, 18, 19, 20, 21, 22, 23, 24, 25, 26, 27, 28, 29, 30, 31, 32, 33] (by decide +kernel) (by decide +kernel)
set_option maxRecDepth 20000 in
theorem gX4_known_X4_knows : GoodIn wsX4_known (wsV RX4 70 RX4 yX4_knows wsX4_knows) := goodIn_app (goodIn_of _ (by decide +kernel)) ggX4_known_X4_knows
theorem dX4_known_0 : decode cX4_known 0 = .ok (.aload_n 0, 1) := by decide +kernel
theorem dX4_known_1 : decode cX4_known 1 = .ok (.iload_n 1, 1) := by decide +kernel
theorem dX4_known_2 : decode cX4_known 2 = .ok (.invokestatic 84, 3) := by decide +kernel
theorem dX4_known_5 : decode cX4_known 5 = .ok (.ifCond .eq 7, 3) := by decide +kernel
theorem dX4_known_8 : decode cX4_known 8 = .ok (.iconst 0, 1) := by decide +kernel
theorem dX4_known_9 : decode cX4_known 9 = .ok (.goto 4, 3) := by decide +kernel
theorem dX4_known_12 : decode cX4_known 12 = .ok (.iconst 1, 1) := by decide +kernel
theorem dX4_known_13 : decode cX4_known 13 = .ok (.putfield 60, 3) := by decide +kernel
theorem dX4_known_16 : decode cX4_known 16 = .ok (.iconst 0, 1) := by decide +kernel
theorem dX4_known_17 : decode cX4_known 17 = .ok (.istore_n 2, 1) := by decide +kernel
theorem dX4_known_18 : decode cX4_known 18 = .ok (.iconst 0, 1) := by decide +kernel
theorem dX4_known_19 : decode cX4_known 19 = .ok (.istore_n 3, 1) := by decide +kernel
theorem dX4_known_20 : decode cX4_known 20 = .ok (.iload_n 3, 1) := by decide +kernel
theorem dX4_known_21 : decode cX4_known 21 = .ok (.aload_n 0, 1) := by decide +kernel
theorem dX4_known_22 : decode cX4_known 22 = .ok (.getfield 56, 3) := by decide +kernel
theorem dX4_known_25 : decode cX4_known 25 = .ok (.if_icmp .ge 33, 3) := by decide +kernel
theorem dX4_known_28 : decode cX4_known 28 = .ok (.aload_n 0, 1) := by decide +kernel
theorem dX4_known_29 : decode cX4_known 29 = .ok (.getfield 60, 3) := by decide +kernel
theorem dX4_known_32 : decode cX4_known 32 = .ok (.ifCond .ne 26, 3) := by decide +kernel
theorem dX4_known_35 : decode cX4_known 35 = .ok (.iload_n 2, 1) := by decide +kernel
theorem dX4_known_36 : decode cX4_known 36 = .ok (.aload_n 0, 1) := by decide +kernel
theorem dX4_known_37 : decode cX4_known 37 = .ok (.iload_n 1, 1) := by decide +kernel
theorem dX4_known_38 : decode cX4_known 38 = .ok (.iload_n 3, 1) := by decide +kernel
theorem dX4_known_39 : decode cX4_known 39 = .ok (.invokevirtual 70, 3) := by decide +kernel
theorem dX4_known_42 : decode cX4_known 42 = .ok (.ifCond .eq 7, 3) := by decide +kernel
theorem dX4_known_45 : decode cX4_known 45 = .ok (.iconst 1, 1) := by decide +kernel
theorem dX4_known_46 : decode cX4_known 46 = .ok (.goto 4, 3) := by decide +kernel
theorem dX4_known_49 : decode cX4_known 49 = .ok (.iconst 0, 1) := by decide +kernel
theorem dX4_known_50 : decode cX4_known 50 = .ok (.iadd, 1) := by decide +kernel
theorem dX4_known_51 : decode cX4_known 51 = .ok (.istore_n 2, 1) := by decide +kernel
theorem dX4_known_52 : decode cX4_known 52 = .ok (.iinc 3 1, 3) := by decide +kernel
theorem dX4_known_55 : decode cX4_known 55 = .ok (.goto (-35), 3) := by decide +kernel
theorem dX4_known_58 : decode cX4_known 58 = .ok (.iload_n 2, 1) := by decide +kernel
theorem dX4_known_59 : decode cX4_known 59 = .ok (.ireturn, 1) := by decide +kernel
set_option maxRecDepth 20000 in
theorem ggX4_clock_X4_isFridge : GoodIn wsX4_clock wsX4_isFridge := goodIn_r _ [6, 7, 8, 5, 9] (by decide +kernel) (by decide +kernel)
set_option maxRecDepth 20000 in
theorem gX4_clock_X4_isFridge : GoodIn wsX4_clock (va_wsS RX4 84 yX4_isFridge wsX4_isFridge) := goodIn_app (goodIn_of _ (by decide +kernel)) ggX4_clock_X4_isFridge
theorem dX4_clock_0 : decode cX4_clock 0 = .ok (.aload_n 0, 1) := by decide +kernel
theorem dX4_clock_1 : decode cX4_clock 1 = .ok (.iload_n 1, 1) := by decide +kernel
theorem dX4_clock_2 : decode cX4_clock 2 = .ok (.invokestatic 84, 3) := by decide +kernel
theorem dX4_clock_5 : decode cX4_clock 5 = .ok (.ifCond .eq 7, 3) := by decide +kernel
theorem dX4_clock_8 : decode cX4_clock 8 = .ok (.iconst 0, 1) := by decide +kernel
theorem dX4_clock_9 : decode cX4_clock 9 = .ok (.goto 4, 3) := by decide +kernel
theorem dX4_clock_12 : decode cX4_clock 12 = .ok (.iconst 1, 1) := by decide +kernel
theorem dX4_clock_13 : decode cX4_clock 13 = .ok (.putfield 60, 3) := by decide +kernel
theorem dX4_clock_16 : decode cX4_clock 16 = .ok (.aload_n 0, 1) := by decide +kernel
theorem dX4_clock_17 : decode cX4_clock 17 = .ok (.getfield 60, 3) := by decide +kernel
theorem dX4_clock_20 : decode cX4_clock 20 = .ok (.ifCond .ne 12, 3) := by decide +kernel
theorem dX4_clock_23 : decode cX4_clock 23 = .ok (.aload_n 0, 1) := by decide +kernel
theorem dX4_clock_24 : decode cX4_clock 24 = .ok (.getfield 38, 3) := by decide +kernel
theorem dX4_clock_27 : decode cX4_clock 27 = .ok (.iload_n 1, 1) := by decide +kernel
theorem dX4_clock_28 : decode cX4_clock 28 = .ok (.iaload, 1) := by decide +kernel
theorem dX4_clock_29 : decode cX4_clock 29 = .ok (.goto 4, 3) := by decide +kernel
theorem dX4_clock_32 : decode cX4_clock 32 = .ok (.iconst 0, 1) := by decide +kernel
theorem dX4_clock_33 : decode cX4_clock 33 = .ok (.ireturn, 1) := by decide +kernel
set_option maxRecDepth 20000 in
theorem ggX4_guest_X4_isFridge : GoodIn wsX4_guest wsX4_isFridge := goodIn_r _ [9, 10, 11, 8, 12] (by decide +kernel) (by decide +kernel)
set_option maxRecDepth 20000 in
theorem gX4_guest_X4_isFridge : GoodIn wsX4_guest (va_wsS RX4 84 yX4_isFridge wsX4_isFridge) := goodIn_app (goodIn_of _ (by decide +kernel)) ggX4_guest_X4_isFridge
set_option maxRecDepth 20000 in
theorem ggX4_guest_X4_in : GoodIn wsX4_guest wsX4_in := goodIn_r _ [12] (by decide +kernel) (by decide +kernel)
set_option maxRecDepth 20000 in
theorem gX4_guest_X4_in : GoodIn wsX4_guest (va_wsS RX4 63 yX4_in wsX4_in) := goodIn_app (goodIn_of _ (by decide +kernel)) ggX4_guest_X4_in
set_option maxRecDepth 20000 in
theorem ggX4_guest_X4_isFull : GoodIn wsX4_guest wsX4_isFull := goodIn_r _ [16, 3, 28, 29, 30, 31, 32, 33, 34, 35, 36, 37, 38, 39, 40, 41, 42, 43, 44, 45, 46] (by decide +kernel) (by decide +kernel)
set_option maxRecDepth 20000 in
theorem gX4_guest_X4_isFull : GoodIn wsX4_guest (wsV RX4 98 RX4 yX4_isFull wsX4_isFull) := goodIn_app (goodIn_of _ (by decide +kernel)) ggX4_guest_X4_isFull
set_option maxRecDepth 20000 in
theorem ggX4_guest_X4_write : GoodIn wsX4_guest wsX4_write := goodIn_r _ [20, 21, 22, 3, 23, 24, 25, 26, 27, 28, 29, 30, 31, 32, 33, 34, 35, 36, 37, 38, 39, 40, 41, 42, 43, 44, 45, 46] (by decide +kernel) (by decide +kernel)
set_option maxRecDepth 20000 in
theorem gX4_guest_X4_write : GoodIn wsX4_guest (wsV RX4 101 RX4 yX4_write wsX4_write) := goodIn_app (goodIn_of _ (by decide +kernel)) ggX4_guest_X4_write
theorem dX4_guest_0 : decode cX4_guest 0 = .ok (.aload_n 0, 1) := by decide +kernel
theorem dX4_guest_1 : decode cX4_guest 1 = .ok (.iload_n 1, 1) := by decide +kernel
theorem dX4_guest_2 : decode cX4_guest 2 = .ok (.invokestatic 84, 3) := by decide +kernel
theorem dX4_guest_5 : decode cX4_guest 5 = .ok (.ifCond .eq 13, 3) := by decide +kernel
theorem dX4_guest_8 : decode cX4_guest 8 = .ok (.iload_n 2, 1) := by decide +kernel
theorem dX4_guest_9 : decode cX4_guest 9 = .ok (.iconst 0, 1) := by decide +kernel
theorem dX4_guest_10 : decode cX4_guest 10 = .ok (.bipush 7, 2) := by decide +kernel
theorem dX4_guest_12 : decode cX4_guest 12 = .ok (.invokestatic 63, 3) := by decide +kernel
theorem dX4_guest_15 : decode cX4_guest 15 = .ok (.ifCond .ne 7, 3) := by decide +kernel
theorem dX4_guest_18 : decode cX4_guest 18 = .ok (.iconst 1, 1) := by decide +kernel
theorem dX4_guest_19 : decode cX4_guest 19 = .ok (.goto 53, 3) := by decide +kernel
theorem dX4_guest_22 : decode cX4_guest 22 = .ok (.iload_n 3, 1) := by decide +kernel
theorem dX4_guest_23 : decode cX4_guest 23 = .ok (.iconst 0, 1) := by decide +kernel
theorem dX4_guest_24 : decode cX4_guest 24 = .ok (.bipush 99, 2) := by decide +kernel
theorem dX4_guest_26 : decode cX4_guest 26 = .ok (.invokestatic 63, 3) := by decide +kernel
theorem dX4_guest_29 : decode cX4_guest 29 = .ok (.ifCond .eq 26, 3) := by decide +kernel
theorem dX4_guest_32 : decode cX4_guest 32 = .ok (.iload 4, 2) := by decide +kernel
theorem dX4_guest_34 : decode cX4_guest 34 = .ok (.iload_n 3, 1) := by decide +kernel
theorem dX4_guest_35 : decode cX4_guest 35 = .ok (.bipush 99, 2) := by decide +kernel
theorem dX4_guest_37 : decode cX4_guest 37 = .ok (.invokestatic 63, 3) := by decide +kernel
theorem dX4_guest_40 : decode cX4_guest 40 = .ok (.ifCond .eq 15, 3) := by decide +kernel
theorem dX4_guest_43 : decode cX4_guest 43 = .ok (.iload 5, 2) := by decide +kernel
theorem dX4_guest_45 : decode cX4_guest 45 = .ok (.iconst 0, 1) := by decide +kernel
theorem dX4_guest_46 : decode cX4_guest 46 = .ok (.sipush 255, 3) := by decide +kernel
theorem dX4_guest_49 : decode cX4_guest 49 = .ok (.invokestatic 63, 3) := by decide +kernel
theorem dX4_guest_52 : decode cX4_guest 52 = .ok (.ifCond .ne 7, 3) := by decide +kernel
theorem dX4_guest_55 : decode cX4_guest 55 = .ok (.iconst 2, 1) := by decide +kernel
theorem dX4_guest_56 : decode cX4_guest 56 = .ok (.goto 16, 3) := by decide +kernel
theorem dX4_guest_59 : decode cX4_guest 59 = .ok (.aload_n 0, 1) := by decide +kernel
theorem dX4_guest_60 : decode cX4_guest 60 = .ok (.iconst 1, 1) := by decide +kernel
theorem dX4_guest_61 : decode cX4_guest 61 = .ok (.invokevirtual 98, 3) := by decide +kernel
theorem dX4_guest_64 : decode cX4_guest 64 = .ok (.ifCond .eq 7, 3) := by decide +kernel
theorem dX4_guest_67 : decode cX4_guest 67 = .ok (.iconst 3, 1) := by decide +kernel
theorem dX4_guest_68 : decode cX4_guest 68 = .ok (.goto 4, 3) := by decide +kernel
theorem dX4_guest_71 : decode cX4_guest 71 = .ok (.iconst 0, 1) := by decide +kernel
theorem dX4_guest_72 : decode cX4_guest 72 = .ok (.putfield 60, 3) := by decide +kernel
theorem dX4_guest_75 : decode cX4_guest 75 = .ok (.aload_n 0, 1) := by decide +kernel
theorem dX4_guest_76 : decode cX4_guest 76 = .ok (.getfield 60, 3) := by decide +kernel
theorem dX4_guest_79 : decode cX4_guest 79 = .ok (.ifCond .le 5, 3) := by decide +kernel
theorem dX4_guest_82 : decode cX4_guest 82 = .ok (.iconst 0, 1) := by decide +kernel
theorem dX4_guest_83 : decode cX4_guest 83 = .ok (.ireturn, 1) := by decide +kernel
theorem dX4_guest_84 : decode cX4_guest 84 = .ok (.aload_n 0, 1) := by decide +kernel
theorem dX4_guest_85 : decode cX4_guest 85 = .ok (.getfield 25, 3) := by decide +kernel
theorem dX4_guest_88 : decode cX4_guest 88 = .ok (.aload_n 0, 1) := by decide +kernel
theorem dX4_guest_89 : decode cX4_guest 89 = .ok (.getfield 56, 3) := by decide +kernel
theorem dX4_guest_92 : decode cX4_guest 92 = .ok (.iload_n 3, 1) := by decide +kernel
theorem dX4_guest_93 : decode cX4_guest 93 = .ok (.iastore, 1) := by decide +kernel
theorem dX4_guest_94 : decode cX4_guest 94 = .ok (.aload_n 0, 1) := by decide +kernel
theorem dX4_guest_95 : decode cX4_guest 95 = .ok (.getfield 28, 3) := by decide +kernel
theorem dX4_guest_98 : decode cX4_guest 98 = .ok (.aload_n 0, 1) := by decide +kernel
theorem dX4_guest_99 : decode cX4_guest 99 = .ok (.getfield 56, 3) := by decide +kernel
theorem dX4_guest_102 : decode cX4_guest 102 = .ok (.iload 4, 2) := by decide +kernel
theorem dX4_guest_104 : decode cX4_guest 104 = .ok (.iastore, 1) := by decide +kernel
theorem dX4_guest_105 : decode cX4_guest 105 = .ok (.aload_n 0, 1) := by decide +kernel
theorem dX4_guest_106 : decode cX4_guest 106 = .ok (.getfield 31, 3) := by decide +kernel
theorem dX4_guest_109 : decode cX4_guest 109 = .ok (.aload_n 0, 1) := by decide +kernel
theorem dX4_guest_110 : decode cX4_guest 110 = .ok (.getfield 56, 3) := by decide +kernel
theorem dX4_guest_113 : decode cX4_guest 113 = .ok (.iload 5, 2) := by decide +kernel
theorem dX4_guest_115 : decode cX4_guest 115 = .ok (.iastore, 1) := by decide +kernel
theorem dX4_guest_116 : decode cX4_guest 116 = .ok (.aload_n 0, 1) := by decide +kernel
theorem dX4_guest_117 : decode cX4_guest 117 = .ok (.iload_n 1, 1) := by decide +kernel
theorem dX4_guest_118 : decode cX4_guest 118 = .ok (.iconst 2, 1) := by decide +kernel
theorem dX4_guest_119 : decode cX4_guest 119 = .ok (.iload_n 2, 1) := by decide +kernel
theorem dX4_guest_120 : decode cX4_guest 120 = .ok (.iconst (-1), 1) := by decide +kernel
theorem dX4_guest_121 : decode cX4_guest 121 = .ok (.invokevirtual 101, 3) := by decide +kernel
theorem dX4_guest_124 : decode cX4_guest 124 = .ok (.ireturn, 1) := by decide +kernel
set_option maxRecDepth 20000 in
theorem ggX4_coming_X4_knows : GoodIn wsX4_coming wsX4_knows := goodIn_r _ [10, 11, 21, 22, 23, 24, 25, 26, 27, 28, 29, 30, 31, 32, 33, 34, 35, 36, 37, 38, 39] (by decide +kernel) (by decide +kernel)
set_option maxRecDepth 20000 in
theorem gX4_coming_X4_knows : GoodIn wsX4_coming (wsV RX4 70 RX4 yX4_knows wsX4_knows) := goodIn_app (goodIn_of _ (by decide +kernel)) ggX4_coming_X4_knows
set_option maxRecDepth 20000 in
theorem ggX4_coming_X4_isLater : GoodIn wsX4_coming wsX4_isLater := goodIn_r _ [15, 16, 17, 21, 22, 23, 24, 25, 26, 27, 28, 29, 30, 31, 32, 33, 34, 35, 36, 37, 38, 39] (by decide +kernel) (by decide +kernel)
set_option maxRecDepth 20000 in
theorem gX4_coming_X4_isLater : GoodIn wsX4_coming (wsV RX4 77 RX4 yX4_isLater wsX4_isLater) := goodIn_app (goodIn_of _ (by decide +kernel)) ggX4_coming_X4_isLater
set_option maxRecDepth 20000 in
theorem ggX4_coming_X4_in : GoodIn wsX4_coming wsX4_in := goodIn_r _ [20] (by decide +kernel) (by decide +kernel)
set_option maxRecDepth 20000 in
theorem gX4_coming_X4_in : GoodIn wsX4_coming (va_wsS RX4 63 yX4_in wsX4_in) := goodIn_app (goodIn_of _ (by decide +kernel)) ggX4_coming_X4_in
theorem dX4_coming_0 : decode cX4_coming 0 = .ok (.iconst (-1), 1) := by decide +kernel
theorem dX4_coming_1 : decode cX4_coming 1 = .ok (.istore 4, 2) := by decide +kernel
theorem dX4_coming_3 : decode cX4_coming 3 = .ok (.iconst 0, 1) := by decide +kernel
theorem dX4_coming_4 : decode cX4_coming 4 = .ok (.istore 5, 2) := by decide +kernel
theorem dX4_coming_6 : decode cX4_coming 6 = .ok (.iload 5, 2) := by decide +kernel
theorem dX4_coming_8 : decode cX4_coming 8 = .ok (.aload_n 0, 1) := by decide +kernel
theorem dX4_coming_9 : decode cX4_coming 9 = .ok (.getfield 56, 3) := by decide +kernel
theorem dX4_coming_12 : decode cX4_coming 12 = .ok (.if_icmp .ge 79, 3) := by decide +kernel
theorem dX4_coming_15 : decode cX4_coming 15 = .ok (.aload_n 0, 1) := by decide +kernel
theorem dX4_coming_16 : decode cX4_coming 16 = .ok (.iload_n 1, 1) := by decide +kernel
theorem dX4_coming_17 : decode cX4_coming 17 = .ok (.iload 5, 2) := by decide +kernel
theorem dX4_coming_19 : decode cX4_coming 19 = .ok (.invokevirtual 70, 3) := by decide +kernel
theorem dX4_coming_22 : decode cX4_coming 22 = .ok (.ifCond .eq 29, 3) := by decide +kernel
theorem dX4_coming_25 : decode cX4_coming 25 = .ok (.aload_n 0, 1) := by decide +kernel
theorem dX4_coming_26 : decode cX4_coming 26 = .ok (.getfield 7, 3) := by decide +kernel
theorem dX4_coming_29 : decode cX4_coming 29 = .ok (.iload 5, 2) := by decide +kernel
theorem dX4_coming_31 : decode cX4_coming 31 = .ok (.iaload, 1) := by decide +kernel
theorem dX4_coming_32 : decode cX4_coming 32 = .ok (.iconst 2, 1) := by decide +kernel
theorem dX4_coming_33 : decode cX4_coming 33 = .ok (.if_icmp .ne 18, 3) := by decide +kernel
theorem dX4_coming_36 : decode cX4_coming 36 = .ok (.aload_n 0, 1) := by decide +kernel
theorem dX4_coming_37 : decode cX4_coming 37 = .ok (.getfield 19, 3) := by decide +kernel
theorem dX4_coming_40 : decode cX4_coming 40 = .ok (.iload 5, 2) := by decide +kernel
theorem dX4_coming_42 : decode cX4_coming 42 = .ok (.iaload, 1) := by decide +kernel
theorem dX4_coming_43 : decode cX4_coming 43 = .ok (.iload_n 2, 1) := by decide +kernel
theorem dX4_coming_44 : decode cX4_coming 44 = .ok (.if_icmp .ne 7, 3) := by decide +kernel
theorem dX4_coming_47 : decode cX4_coming 47 = .ok (.iconst 1, 1) := by decide +kernel
theorem dX4_coming_48 : decode cX4_coming 48 = .ok (.goto 4, 3) := by decide +kernel
theorem dX4_coming_51 : decode cX4_coming 51 = .ok (.iconst 0, 1) := by decide +kernel
theorem dX4_coming_52 : decode cX4_coming 52 = .ok (.istore 6, 2) := by decide +kernel
theorem dX4_coming_54 : decode cX4_coming 54 = .ok (.iload 6, 2) := by decide +kernel
theorem dX4_coming_56 : decode cX4_coming 56 = .ok (.ifCond .eq 25, 3) := by decide +kernel
theorem dX4_coming_59 : decode cX4_coming 59 = .ok (.iload 4, 2) := by decide +kernel
theorem dX4_coming_61 : decode cX4_coming 61 = .ok (.iconst (-1), 1) := by decide +kernel
theorem dX4_coming_62 : decode cX4_coming 62 = .ok (.if_icmp .eq 14, 3) := by decide +kernel
theorem dX4_coming_65 : decode cX4_coming 65 = .ok (.aload_n 0, 1) := by decide +kernel
theorem dX4_coming_66 : decode cX4_coming 66 = .ok (.iload 5, 2) := by decide +kernel
theorem dX4_coming_68 : decode cX4_coming 68 = .ok (.iload 4, 2) := by decide +kernel
theorem dX4_coming_70 : decode cX4_coming 70 = .ok (.invokevirtual 77, 3) := by decide +kernel
theorem dX4_coming_73 : decode cX4_coming 73 = .ok (.ifCond .eq 8, 3) := by decide +kernel
theorem dX4_coming_76 : decode cX4_coming 76 = .ok (.iload 5, 2) := by decide +kernel
theorem dX4_coming_78 : decode cX4_coming 78 = .ok (.goto 5, 3) := by decide +kernel
theorem dX4_coming_81 : decode cX4_coming 81 = .ok (.iload 4, 2) := by decide +kernel
theorem dX4_coming_83 : decode cX4_coming 83 = .ok (.istore 4, 2) := by decide +kernel
theorem dX4_coming_85 : decode cX4_coming 85 = .ok (.iinc 5 1, 3) := by decide +kernel
theorem dX4_coming_88 : decode cX4_coming 88 = .ok (.goto (-82), 3) := by decide +kernel
theorem dX4_coming_91 : decode cX4_coming 91 = .ok (.iload 4, 2) := by decide +kernel
theorem dX4_coming_93 : decode cX4_coming 93 = .ok (.iconst (-1), 1) := by decide +kernel
theorem dX4_coming_94 : decode cX4_coming 94 = .ok (.if_icmp .eq 29, 3) := by decide +kernel
theorem dX4_coming_97 : decode cX4_coming 97 = .ok (.iload_n 3, 1) := by decide +kernel
theorem dX4_coming_98 : decode cX4_coming 98 = .ok (.aload_n 0, 1) := by decide +kernel
theorem dX4_coming_99 : decode cX4_coming 99 = .ok (.getfield 25, 3) := by decide +kernel
theorem dX4_coming_102 : decode cX4_coming 102 = .ok (.iload 4, 2) := by decide +kernel
theorem dX4_coming_104 : decode cX4_coming 104 = .ok (.iaload, 1) := by decide +kernel
theorem dX4_coming_105 : decode cX4_coming 105 = .ok (.aload_n 0, 1) := by decide +kernel
theorem dX4_coming_106 : decode cX4_coming 106 = .ok (.getfield 28, 3) := by decide +kernel
theorem dX4_coming_109 : decode cX4_coming 109 = .ok (.iload 4, 2) := by decide +kernel
theorem dX4_coming_111 : decode cX4_coming 111 = .ok (.iaload, 1) := by decide +kernel
theorem dX4_coming_112 : decode cX4_coming 112 = .ok (.invokestatic 63, 3) := by decide +kernel
theorem dX4_coming_115 : decode cX4_coming 115 = .ok (.ifCond .eq 8, 3) := by decide +kernel
theorem dX4_coming_118 : decode cX4_coming 118 = .ok (.iload 4, 2) := by decide +kernel
theorem dX4_coming_120 : decode cX4_coming 120 = .ok (.goto 4, 3) := by decide +kernel
theorem dX4_coming_123 : decode cX4_coming 123 = .ok (.iconst (-1), 1) := by decide +kernel
theorem dX4_coming_124 : decode cX4_coming 124 = .ok (.ireturn, 1) := by decide +kernel
set_option maxRecDepth 20000 in
theorem ggX4_guests_X4_isFridge : GoodIn wsX4_guests wsX4_isFridge := goodIn_r _ [5, 6, 7, 4, 8] (by decide +kernel) (by decide +kernel)
set_option maxRecDepth 20000 in
theorem gX4_guests_X4_isFridge : GoodIn wsX4_guests (va_wsS RX4 84 yX4_isFridge wsX4_isFridge) := goodIn_app (goodIn_of _ (by decide +kernel)) ggX4_guests_X4_isFridge
set_option maxRecDepth 20000 in
theorem ggX4_guests_X4_in : GoodIn wsX4_guests wsX4_in := goodIn_r _ [8] (by decide +kernel) (by decide +kernel)
set_option maxRecDepth 20000 in
theorem gX4_guests_X4_in : GoodIn wsX4_guests (va_wsS RX4 63 yX4_in wsX4_in) := goodIn_app (goodIn_of _ (by decide +kernel)) ggX4_guests_X4_in
set_option maxRecDepth 20000 in
theorem ggX4_guests_X4_coming : GoodIn wsX4_guests wsX4_coming := goodIn_r _ [12, 13, 14, 15, 16, 17, 18, 19, 20, 4, 21, 22, 23, 24, 25, 26, 27, 28, 6, 7, 8, 29, 30, 31, 32, 33, 34, 35, 36, 37, 38, 39, 40, 41, 42, 43, 44, 45, 46, 47] (by decide +kernel) (by decide +kernel)
set_option maxRecDepth 20000 in
theorem gX4_guests_X4_coming : GoodIn wsX4_guests (wsV RX4 111 RX4 yX4_coming wsX4_coming) := goodIn_app (goodIn_of _ (by decide +kernel)) ggX4_guests_X4_coming
theorem dX4_guests_0 : decode cX4_guests 0 = .ok (.aload_n 0, 1) := by decide +kernel
theorem dX4_guests_1 : decode cX4_guests 1 = .ok (.iload_n 1, 1) := by decide +kernel
theorem dX4_guests_2 : decode cX4_guests 2 = .ok (.invokestatic 84, 3) := by decide +kernel
theorem dX4_guests_5 : decode cX4_guests 5 = .ok (.ifCond .ne 7, 3) := by decide +kernel
theorem dX4_guests_8 : decode cX4_guests 8 = .ok (.iconst 1, 1) := by decide +kernel
theorem dX4_guests_9 : decode cX4_guests 9 = .ok (.goto 18, 3) := by decide +kernel
theorem dX4_guests_12 : decode cX4_guests 12 = .ok (.iload_n 2, 1) := by decide +kernel
theorem dX4_guests_13 : decode cX4_guests 13 = .ok (.iconst 0, 1) := by decide +kernel
theorem dX4_guests_14 : decode cX4_guests 14 = .ok (.bipush 99, 2) := by decide +kernel
theorem dX4_guests_16 : decode cX4_guests 16 = .ok (.invokestatic 63, 3) := by decide +kernel
theorem dX4_guests_19 : decode cX4_guests 19 = .ok (.ifCond .ne 7, 3) := by decide +kernel
theorem dX4_guests_22 : decode cX4_guests 22 = .ok (.iconst 2, 1) := by decide +kernel
theorem dX4_guests_23 : decode cX4_guests 23 = .ok (.goto 4, 3) := by decide +kernel
theorem dX4_guests_26 : decode cX4_guests 26 = .ok (.iconst 0, 1) := by decide +kernel
theorem dX4_guests_27 : decode cX4_guests 27 = .ok (.putfield 60, 3) := by decide +kernel
theorem dX4_guests_30 : decode cX4_guests 30 = .ok (.iconst 0, 1) := by decide +kernel
theorem dX4_guests_31 : decode cX4_guests 31 = .ok (.istore_n 3, 1) := by decide +kernel
theorem dX4_guests_32 : decode cX4_guests 32 = .ok (.iconst 0, 1) := by decide +kernel
theorem dX4_guests_33 : decode cX4_guests 33 = .ok (.istore 4, 2) := by decide +kernel
theorem dX4_guests_35 : decode cX4_guests 35 = .ok (.iload 4, 2) := by decide +kernel
theorem dX4_guests_37 : decode cX4_guests 37 = .ok (.bipush 8, 2) := by decide +kernel
theorem dX4_guests_39 : decode cX4_guests 39 = .ok (.if_icmp .ge 39, 3) := by decide +kernel
theorem dX4_guests_42 : decode cX4_guests 42 = .ok (.aload_n 0, 1) := by decide +kernel
theorem dX4_guests_43 : decode cX4_guests 43 = .ok (.getfield 60, 3) := by decide +kernel
theorem dX4_guests_46 : decode cX4_guests 46 = .ok (.ifCond .ne 32, 3) := by decide +kernel
theorem dX4_guests_49 : decode cX4_guests 49 = .ok (.iload_n 3, 1) := by decide +kernel
theorem dX4_guests_50 : decode cX4_guests 50 = .ok (.aload_n 0, 1) := by decide +kernel
theorem dX4_guests_51 : decode cX4_guests 51 = .ok (.iload_n 1, 1) := by decide +kernel
theorem dX4_guests_52 : decode cX4_guests 52 = .ok (.iload 4, 2) := by decide +kernel
theorem dX4_guests_54 : decode cX4_guests 54 = .ok (.iload_n 2, 1) := by decide +kernel
theorem dX4_guests_55 : decode cX4_guests 55 = .ok (.invokevirtual 111, 3) := by decide +kernel
theorem dX4_guests_58 : decode cX4_guests 58 = .ok (.iconst (-1), 1) := by decide +kernel
theorem dX4_guests_59 : decode cX4_guests 59 = .ok (.if_icmp .eq 10, 3) := by decide +kernel
theorem dX4_guests_62 : decode cX4_guests 62 = .ok (.iconst 1, 1) := by decide +kernel
theorem dX4_guests_63 : decode cX4_guests 63 = .ok (.iload 4, 2) := by decide +kernel
theorem dX4_guests_65 : decode cX4_guests 65 = .ok (.ishl, 1) := by decide +kernel
theorem dX4_guests_66 : decode cX4_guests 66 = .ok (.goto 4, 3) := by decide +kernel
theorem dX4_guests_69 : decode cX4_guests 69 = .ok (.iconst 0, 1) := by decide +kernel
theorem dX4_guests_70 : decode cX4_guests 70 = .ok (.ior, 1) := by decide +kernel
theorem dX4_guests_71 : decode cX4_guests 71 = .ok (.istore_n 3, 1) := by decide +kernel
theorem dX4_guests_72 : decode cX4_guests 72 = .ok (.iinc 4 1, 3) := by decide +kernel
theorem dX4_guests_75 : decode cX4_guests 75 = .ok (.goto (-40), 3) := by decide +kernel
theorem dX4_guests_78 : decode cX4_guests 78 = .ok (.iload_n 3, 1) := by decide +kernel
theorem dX4_guests_79 : decode cX4_guests 79 = .ok (.ireturn, 1) := by decide +kernel
set_option maxRecDepth 20000 in
theorem ggX4_guestMany_X4_coming : GoodIn wsX4_guestMany wsX4_coming := goodIn_r _ [5, 6, 7, 8, 9, 10, 11, 12, 13, 4, 14, 15, 16, 17, 18, 19, 20, 21, 22, 23, 24, 25, 26, 27, 28, 29, 30, 31, 32, 33, 34, 35, 36, 37, 38, 39, 40, 41, 42, 43] (by decide +kernel) (by decide +kernel)
set_option maxRecDepth 20000 in
theorem gX4_guestMany_X4_coming : GoodIn wsX4_guestMany (wsV RX4 111 RX4 yX4_coming wsX4_coming) := goodIn_app (goodIn_of _ (by decide +kernel)) ggX4_guestMany_X4_coming
theorem dX4_guestMany_0 : decode cX4_guestMany 0 = .ok (.iconst 0, 1) := by decide +kernel
theorem dX4_guestMany_1 : decode cX4_guestMany 1 = .ok (.istore_n 3, 1) := by decide +kernel
theorem dX4_guestMany_2 : decode cX4_guestMany 2 = .ok (.iconst 0, 1) := by decide +kernel
theorem dX4_guestMany_3 : decode cX4_guestMany 3 = .ok (.istore 4, 2) := by decide +kernel
theorem dX4_guestMany_5 : decode cX4_guestMany 5 = .ok (.iload 4, 2) := by decide +kernel
theorem dX4_guestMany_7 : decode cX4_guestMany 7 = .ok (.bipush 8, 2) := by decide +kernel
theorem dX4_guestMany_9 : decode cX4_guestMany 9 = .ok (.if_icmp .ge 29, 3) := by decide +kernel
theorem dX4_guestMany_12 : decode cX4_guestMany 12 = .ok (.iload_n 3, 1) := by decide +kernel
theorem dX4_guestMany_13 : decode cX4_guestMany 13 = .ok (.aload_n 0, 1) := by decide +kernel
theorem dX4_guestMany_14 : decode cX4_guestMany 14 = .ok (.iload_n 1, 1) := by decide +kernel
theorem dX4_guestMany_15 : decode cX4_guestMany 15 = .ok (.iload 4, 2) := by decide +kernel
theorem dX4_guestMany_17 : decode cX4_guestMany 17 = .ok (.iload_n 2, 1) := by decide +kernel
theorem dX4_guestMany_18 : decode cX4_guestMany 18 = .ok (.invokevirtual 111, 3) := by decide +kernel
theorem dX4_guestMany_21 : decode cX4_guestMany 21 = .ok (.iconst (-1), 1) := by decide +kernel
theorem dX4_guestMany_22 : decode cX4_guestMany 22 = .ok (.if_icmp .eq 7, 3) := by decide +kernel
theorem dX4_guestMany_25 : decode cX4_guestMany 25 = .ok (.iconst 1, 1) := by decide +kernel
theorem dX4_guestMany_26 : decode cX4_guestMany 26 = .ok (.goto 4, 3) := by decide +kernel
theorem dX4_guestMany_29 : decode cX4_guestMany 29 = .ok (.iconst 0, 1) := by decide +kernel
theorem dX4_guestMany_30 : decode cX4_guestMany 30 = .ok (.iadd, 1) := by decide +kernel
theorem dX4_guestMany_31 : decode cX4_guestMany 31 = .ok (.istore_n 3, 1) := by decide +kernel
theorem dX4_guestMany_32 : decode cX4_guestMany 32 = .ok (.iinc 4 1, 3) := by decide +kernel
theorem dX4_guestMany_35 : decode cX4_guestMany 35 = .ok (.goto (-30), 3) := by decide +kernel
theorem dX4_guestMany_38 : decode cX4_guestMany 38 = .ok (.iload_n 3, 1) := by decide +kernel
theorem dX4_guestMany_39 : decode cX4_guestMany 39 = .ok (.ireturn, 1) := by decide +kernel
set_option maxRecDepth 20000 in
theorem ggX4_setNeed_X4_in : GoodIn wsX4_setNeed wsX4_in := goodIn_r _ [6] (by decide +kernel) (by decide +kernel)
set_option maxRecDepth 20000 in
theorem gX4_setNeed_X4_in : GoodIn wsX4_setNeed (va_wsS RX4 63 yX4_in wsX4_in) := goodIn_app (goodIn_of _ (by decide +kernel)) ggX4_setNeed_X4_in
set_option maxRecDepth 20000 in
theorem ggX4_setNeed_X4_isFood : GoodIn wsX4_setNeed wsX4_isFood := goodIn_r _ [9, 3, 4, 5, 6] (by decide +kernel) (by decide +kernel)
set_option maxRecDepth 20000 in
theorem gX4_setNeed_X4_isFood : GoodIn wsX4_setNeed (va_wsS RX4 105 yX4_isFood wsX4_isFood) := goodIn_app (goodIn_of _ (by decide +kernel)) ggX4_setNeed_X4_isFood
theorem dX4_setNeed_0 : decode cX4_setNeed 0 = .ok (.aload_n 0, 1) := by decide +kernel
theorem dX4_setNeed_1 : decode cX4_setNeed 1 = .ok (.iload_n 1, 1) := by decide +kernel
theorem dX4_setNeed_2 : decode cX4_setNeed 2 = .ok (.iconst 0, 1) := by decide +kernel
theorem dX4_setNeed_3 : decode cX4_setNeed 3 = .ok (.iconst 5, 1) := by decide +kernel
theorem dX4_setNeed_4 : decode cX4_setNeed 4 = .ok (.invokestatic 63, 3) := by decide +kernel
theorem dX4_setNeed_7 : decode cX4_setNeed 7 = .ok (.ifCond .eq 10, 3) := by decide +kernel
theorem dX4_setNeed_10 : decode cX4_setNeed 10 = .ok (.iload_n 2, 1) := by decide +kernel
theorem dX4_setNeed_11 : decode cX4_setNeed 11 = .ok (.invokestatic 105, 3) := by decide +kernel
theorem dX4_setNeed_14 : decode cX4_setNeed 14 = .ok (.ifCond .ne 7, 3) := by decide +kernel
theorem dX4_setNeed_17 : decode cX4_setNeed 17 = .ok (.iconst 1, 1) := by decide +kernel
theorem dX4_setNeed_18 : decode cX4_setNeed 18 = .ok (.goto 17, 3) := by decide +kernel
theorem dX4_setNeed_21 : decode cX4_setNeed 21 = .ok (.iload_n 3, 1) := by decide +kernel
theorem dX4_setNeed_22 : decode cX4_setNeed 22 = .ok (.iconst 0, 1) := by decide +kernel
theorem dX4_setNeed_23 : decode cX4_setNeed 23 = .ok (.iconst 3, 1) := by decide +kernel
theorem dX4_setNeed_24 : decode cX4_setNeed 24 = .ok (.invokestatic 63, 3) := by decide +kernel
theorem dX4_setNeed_27 : decode cX4_setNeed 27 = .ok (.ifCond .ne 7, 3) := by decide +kernel
theorem dX4_setNeed_30 : decode cX4_setNeed 30 = .ok (.iconst 2, 1) := by decide +kernel
theorem dX4_setNeed_31 : decode cX4_setNeed 31 = .ok (.goto 4, 3) := by decide +kernel
theorem dX4_setNeed_34 : decode cX4_setNeed 34 = .ok (.iconst 0, 1) := by decide +kernel
theorem dX4_setNeed_35 : decode cX4_setNeed 35 = .ok (.putfield 60, 3) := by decide +kernel
theorem dX4_setNeed_38 : decode cX4_setNeed 38 = .ok (.aload_n 0, 1) := by decide +kernel
theorem dX4_setNeed_39 : decode cX4_setNeed 39 = .ok (.getfield 60, 3) := by decide +kernel
theorem dX4_setNeed_42 : decode cX4_setNeed 42 = .ok (.ifCond .le 5, 3) := by decide +kernel
theorem dX4_setNeed_45 : decode cX4_setNeed 45 = .ok (.iconst 0, 1) := by decide +kernel
theorem dX4_setNeed_46 : decode cX4_setNeed 46 = .ok (.ireturn, 1) := by decide +kernel
theorem dX4_setNeed_47 : decode cX4_setNeed 47 = .ok (.aload_n 0, 1) := by decide +kernel
theorem dX4_setNeed_48 : decode cX4_setNeed 48 = .ok (.getfield 41, 3) := by decide +kernel
theorem dX4_setNeed_51 : decode cX4_setNeed 51 = .ok (.bipush 8, 2) := by decide +kernel
theorem dX4_setNeed_53 : decode cX4_setNeed 53 = .ok (.iload_n 1, 1) := by decide +kernel
theorem dX4_setNeed_54 : decode cX4_setNeed 54 = .ok (.imul, 1) := by decide +kernel
theorem dX4_setNeed_55 : decode cX4_setNeed 55 = .ok (.iload_n 2, 1) := by decide +kernel
theorem dX4_setNeed_56 : decode cX4_setNeed 56 = .ok (.iadd, 1) := by decide +kernel
theorem dX4_setNeed_57 : decode cX4_setNeed 57 = .ok (.iaload, 1) := by decide +kernel
theorem dX4_setNeed_58 : decode cX4_setNeed 58 = .ok (.istore 4, 2) := by decide +kernel
theorem dX4_setNeed_60 : decode cX4_setNeed 60 = .ok (.aload_n 0, 1) := by decide +kernel
theorem dX4_setNeed_61 : decode cX4_setNeed 61 = .ok (.getfield 41, 3) := by decide +kernel
theorem dX4_setNeed_64 : decode cX4_setNeed 64 = .ok (.bipush 8, 2) := by decide +kernel
theorem dX4_setNeed_66 : decode cX4_setNeed 66 = .ok (.iload_n 1, 1) := by decide +kernel
theorem dX4_setNeed_67 : decode cX4_setNeed 67 = .ok (.imul, 1) := by decide +kernel
theorem dX4_setNeed_68 : decode cX4_setNeed 68 = .ok (.iload_n 2, 1) := by decide +kernel
theorem dX4_setNeed_69 : decode cX4_setNeed 69 = .ok (.iadd, 1) := by decide +kernel
theorem dX4_setNeed_70 : decode cX4_setNeed 70 = .ok (.iload_n 3, 1) := by decide +kernel
theorem dX4_setNeed_71 : decode cX4_setNeed 71 = .ok (.iastore, 1) := by decide +kernel
theorem dX4_setNeed_72 : decode cX4_setNeed 72 = .ok (.iload 4, 2) := by decide +kernel
theorem dX4_setNeed_74 : decode cX4_setNeed 74 = .ok (.ireturn, 1) := by decide +kernel
set_option maxRecDepth 20000 in
theorem ggX4_isDisliked_X4_coming : GoodIn wsX4_isDisliked wsX4_coming := goodIn_r _ [7, 8, 9, 10, 11, 12, 13, 14, 15, 6, 16, 17, 18, 19, 20, 21, 22, 23, 24, 25, 26, 27, 28, 29, 30, 31, 32, 33, 34, 35, 36, 37, 38, 39, 40, 41, 42, 43, 44, 45] (by decide +kernel) (by decide +kernel)
end
section
set_option maxRecDepth 20000 in
theorem gX4_isDisliked_X4_coming : GoodIn wsX4_isDisliked (wsV RX4 111 RX4 yX4_coming wsX4_coming) := goodIn_app (goodIn_of _ (by decide +kernel)) ggX4_isDisliked_X4_coming
theorem dX4_isDisliked_0 : decode cX4_isDisliked 0 = .ok (.iconst 0, 1) := by decide +kernel
theorem dX4_isDisliked_1 : decode cX4_isDisliked 1 = .ok (.istore 4, 2) := by decide +kernel
theorem dX4_isDisliked_3 : decode cX4_isDisliked 3 = .ok (.iconst 0, 1) := by decide +kernel
theorem dX4_isDisliked_4 : decode cX4_isDisliked 4 = .ok (.istore 5, 2) := by decide +kernel
theorem dX4_isDisliked_6 : decode cX4_isDisliked 6 = .ok (.iload 5, 2) := by decide +kernel
theorem dX4_isDisliked_8 : decode cX4_isDisliked 8 = .ok (.bipush 8, 2) := by decide +kernel
theorem dX4_isDisliked_10 : decode cX4_isDisliked 10 = .ok (.if_icmp .ge 84, 3) := by decide +kernel
theorem dX4_isDisliked_13 : decode cX4_isDisliked 13 = .ok (.aload_n 0, 1) := by decide +kernel
theorem dX4_isDisliked_14 : decode cX4_isDisliked 14 = .ok (.iload_n 1, 1) := by decide +kernel
theorem dX4_isDisliked_15 : decode cX4_isDisliked 15 = .ok (.iload 5, 2) := by decide +kernel
theorem dX4_isDisliked_17 : decode cX4_isDisliked 17 = .ok (.iload_n 3, 1) := by decide +kernel
theorem dX4_isDisliked_18 : decode cX4_isDisliked 18 = .ok (.invokevirtual 111, 3) := by decide +kernel
theorem dX4_isDisliked_21 : decode cX4_isDisliked 21 = .ok (.istore 6, 2) := by decide +kernel
theorem dX4_isDisliked_23 : decode cX4_isDisliked 23 = .ok (.iconst 0, 1) := by decide +kernel
theorem dX4_isDisliked_24 : decode cX4_isDisliked 24 = .ok (.istore 7, 2) := by decide +kernel
theorem dX4_isDisliked_26 : decode cX4_isDisliked 26 = .ok (.iload 7, 2) := by decide +kernel
theorem dX4_isDisliked_28 : decode cX4_isDisliked 28 = .ok (.bipush 8, 2) := by decide +kernel
theorem dX4_isDisliked_30 : decode cX4_isDisliked 30 = .ok (.if_icmp .ge 58, 3) := by decide +kernel
theorem dX4_isDisliked_33 : decode cX4_isDisliked 33 = .ok (.iload 6, 2) := by decide +kernel
theorem dX4_isDisliked_35 : decode cX4_isDisliked 35 = .ok (.iconst (-1), 1) := by decide +kernel
theorem dX4_isDisliked_36 : decode cX4_isDisliked 36 = .ok (.if_icmp .eq 52, 3) := by decide +kernel
theorem dX4_isDisliked_39 : decode cX4_isDisliked 39 = .ok (.iload 4, 2) := by decide +kernel
theorem dX4_isDisliked_41 : decode cX4_isDisliked 41 = .ok (.ifCond .ne 34, 3) := by decide +kernel
theorem dX4_isDisliked_44 : decode cX4_isDisliked 44 = .ok (.aload_n 0, 1) := by decide +kernel
theorem dX4_isDisliked_45 : decode cX4_isDisliked 45 = .ok (.getfield 41, 3) := by decide +kernel
theorem dX4_isDisliked_48 : decode cX4_isDisliked 48 = .ok (.bipush 8, 2) := by decide +kernel
theorem dX4_isDisliked_50 : decode cX4_isDisliked 50 = .ok (.iload_n 2, 1) := by decide +kernel
theorem dX4_isDisliked_51 : decode cX4_isDisliked 51 = .ok (.imul, 1) := by decide +kernel
theorem dX4_isDisliked_52 : decode cX4_isDisliked 52 = .ok (.iload 7, 2) := by decide +kernel
theorem dX4_isDisliked_54 : decode cX4_isDisliked 54 = .ok (.iadd, 1) := by decide +kernel
theorem dX4_isDisliked_55 : decode cX4_isDisliked 55 = .ok (.iaload, 1) := by decide +kernel
theorem dX4_isDisliked_56 : decode cX4_isDisliked 56 = .ok (.ifCond .le 23, 3) := by decide +kernel
theorem dX4_isDisliked_59 : decode cX4_isDisliked 59 = .ok (.aload_n 0, 1) := by decide +kernel
theorem dX4_isDisliked_60 : decode cX4_isDisliked 60 = .ok (.getfield 31, 3) := by decide +kernel
theorem dX4_isDisliked_63 : decode cX4_isDisliked 63 = .ok (.iload 6, 2) := by decide +kernel
theorem dX4_isDisliked_65 : decode cX4_isDisliked 65 = .ok (.iaload, 1) := by decide +kernel
theorem dX4_isDisliked_66 : decode cX4_isDisliked 66 = .ok (.iload 7, 2) := by decide +kernel
theorem dX4_isDisliked_68 : decode cX4_isDisliked 68 = .ok (.ishr, 1) := by decide +kernel
theorem dX4_isDisliked_69 : decode cX4_isDisliked 69 = .ok (.iconst 1, 1) := by decide +kernel
theorem dX4_isDisliked_70 : decode cX4_isDisliked 70 = .ok (.iand, 1) := by decide +kernel
theorem dX4_isDisliked_71 : decode cX4_isDisliked 71 = .ok (.iconst 1, 1) := by decide +kernel
theorem dX4_isDisliked_72 : decode cX4_isDisliked 72 = .ok (.if_icmp .ne 7, 3) := by decide +kernel
theorem dX4_isDisliked_75 : decode cX4_isDisliked 75 = .ok (.iconst 1, 1) := by decide +kernel
theorem dX4_isDisliked_76 : decode cX4_isDisliked 76 = .ok (.goto 4, 3) := by decide +kernel
theorem dX4_isDisliked_79 : decode cX4_isDisliked 79 = .ok (.iconst 0, 1) := by decide +kernel
theorem dX4_isDisliked_80 : decode cX4_isDisliked 80 = .ok (.istore 4, 2) := by decide +kernel
theorem dX4_isDisliked_82 : decode cX4_isDisliked 82 = .ok (.iinc 7 1, 3) := by decide +kernel
theorem dX4_isDisliked_85 : decode cX4_isDisliked 85 = .ok (.goto (-59), 3) := by decide +kernel
theorem dX4_isDisliked_88 : decode cX4_isDisliked 88 = .ok (.iinc 5 1, 3) := by decide +kernel
theorem dX4_isDisliked_91 : decode cX4_isDisliked 91 = .ok (.goto (-85), 3) := by decide +kernel
theorem dX4_isDisliked_94 : decode cX4_isDisliked 94 = .ok (.iload 4, 2) := by decide +kernel
theorem dX4_isDisliked_96 : decode cX4_isDisliked 96 = .ok (.ireturn, 1) := by decide +kernel
set_option maxRecDepth 20000 in
theorem ggX4_plan_X4_isFridge : GoodIn wsX4_plan wsX4_isFridge := goodIn_r _ [10, 11, 12, 9, 13] (by decide +kernel) (by decide +kernel)
set_option maxRecDepth 20000 in
theorem gX4_plan_X4_isFridge : GoodIn wsX4_plan (va_wsS RX4 84 yX4_isFridge wsX4_isFridge) := goodIn_app (goodIn_of _ (by decide +kernel)) ggX4_plan_X4_isFridge
set_option maxRecDepth 20000 in
theorem ggX4_plan_X4_in : GoodIn wsX4_plan wsX4_in := goodIn_r _ [13] (by decide +kernel) (by decide +kernel)
set_option maxRecDepth 20000 in
theorem gX4_plan_X4_in : GoodIn wsX4_plan (va_wsS RX4 63 yX4_in wsX4_in) := goodIn_app (goodIn_of _ (by decide +kernel)) ggX4_plan_X4_in
set_option maxRecDepth 20000 in
theorem ggX4_plan_X4_isDisliked : GoodIn wsX4_plan wsX4_isDisliked := goodIn_r _ [17, 18, 19, 20, 21, 22, 9, 23, 6, 24, 25, 26, 27, 28, 29, 30, 31, 32, 33, 34, 35, 36, 37, 38, 11, 12, 13, 49, 50, 51, 52, 53, 54, 55, 56, 57, 58, 59, 60, 61, 62, 63, 64, 65, 66, 67] (by decide +kernel) (by decide +kernel)
set_option maxRecDepth 20000 in
theorem gX4_plan_X4_isDisliked : GoodIn wsX4_plan (wsV RX4 114 RX4 yX4_isDisliked wsX4_isDisliked) := goodIn_app (goodIn_of _ (by decide +kernel)) ggX4_plan_X4_isDisliked
set_option maxRecDepth 20000 in
theorem ggX4_plan_X4_isFull : GoodIn wsX4_plan wsX4_isFull := goodIn_r _ [42, 6, 49, 50, 51, 52, 53, 54, 55, 56, 57, 58, 59, 60, 61, 62, 63, 64, 65, 66, 67] (by decide +kernel) (by decide +kernel)
set_option maxRecDepth 20000 in
theorem gX4_plan_X4_isFull : GoodIn wsX4_plan (wsV RX4 98 RX4 yX4_isFull wsX4_isFull) := goodIn_app (goodIn_of _ (by decide +kernel)) ggX4_plan_X4_isFull
set_option maxRecDepth 20000 in
theorem ggX4_plan_X4_write : GoodIn wsX4_plan wsX4_write := goodIn_r _ [46, 47, 24, 6, 38, 37, 25, 48, 32, 49, 50, 51, 52, 53, 54, 55, 56, 57, 58, 59, 60, 61, 62, 63, 64, 65, 66, 67] (by decide +kernel) (by decide +kernel)
set_option maxRecDepth 20000 in
theorem gX4_plan_X4_write : GoodIn wsX4_plan (wsV RX4 101 RX4 yX4_write wsX4_write) := goodIn_app (goodIn_of _ (by decide +kernel)) ggX4_plan_X4_write
theorem dX4_plan_0 : decode cX4_plan 0 = .ok (.aload_n 0, 1) := by decide +kernel
theorem dX4_plan_1 : decode cX4_plan 1 = .ok (.iload_n 1, 1) := by decide +kernel
theorem dX4_plan_2 : decode cX4_plan 2 = .ok (.invokestatic 84, 3) := by decide +kernel
theorem dX4_plan_5 : decode cX4_plan 5 = .ok (.ifCond .eq 12, 3) := by decide +kernel
theorem dX4_plan_8 : decode cX4_plan 8 = .ok (.iload_n 2, 1) := by decide +kernel
theorem dX4_plan_9 : decode cX4_plan 9 = .ok (.iconst 0, 1) := by decide +kernel
theorem dX4_plan_10 : decode cX4_plan 10 = .ok (.iconst 5, 1) := by decide +kernel
theorem dX4_plan_11 : decode cX4_plan 11 = .ok (.invokestatic 63, 3) := by decide +kernel
theorem dX4_plan_14 : decode cX4_plan 14 = .ok (.ifCond .ne 7, 3) := by decide +kernel
theorem dX4_plan_17 : decode cX4_plan 17 = .ok (.iconst 1, 1) := by decide +kernel
theorem dX4_plan_18 : decode cX4_plan 18 = .ok (.goto 18, 3) := by decide +kernel
theorem dX4_plan_21 : decode cX4_plan 21 = .ok (.iload_n 3, 1) := by decide +kernel
theorem dX4_plan_22 : decode cX4_plan 22 = .ok (.iconst 0, 1) := by decide +kernel
theorem dX4_plan_23 : decode cX4_plan 23 = .ok (.bipush 99, 2) := by decide +kernel
theorem dX4_plan_25 : decode cX4_plan 25 = .ok (.invokestatic 63, 3) := by decide +kernel
theorem dX4_plan_28 : decode cX4_plan 28 = .ok (.ifCond .ne 7, 3) := by decide +kernel
theorem dX4_plan_31 : decode cX4_plan 31 = .ok (.iconst 2, 1) := by decide +kernel
theorem dX4_plan_32 : decode cX4_plan 32 = .ok (.goto 4, 3) := by decide +kernel
theorem dX4_plan_35 : decode cX4_plan 35 = .ok (.iconst 0, 1) := by decide +kernel
theorem dX4_plan_36 : decode cX4_plan 36 = .ok (.putfield 60, 3) := by decide +kernel
theorem dX4_plan_39 : decode cX4_plan 39 = .ok (.aload_n 0, 1) := by decide +kernel
theorem dX4_plan_40 : decode cX4_plan 40 = .ok (.getfield 60, 3) := by decide +kernel
theorem dX4_plan_43 : decode cX4_plan 43 = .ok (.ifCond .ne 39, 3) := by decide +kernel
theorem dX4_plan_46 : decode cX4_plan 46 = .ok (.aload_n 0, 1) := by decide +kernel
theorem dX4_plan_47 : decode cX4_plan 47 = .ok (.aload_n 0, 1) := by decide +kernel
theorem dX4_plan_48 : decode cX4_plan 48 = .ok (.iload_n 1, 1) := by decide +kernel
theorem dX4_plan_49 : decode cX4_plan 49 = .ok (.iload_n 2, 1) := by decide +kernel
theorem dX4_plan_50 : decode cX4_plan 50 = .ok (.iload_n 3, 1) := by decide +kernel
theorem dX4_plan_51 : decode cX4_plan 51 = .ok (.invokevirtual 114, 3) := by decide +kernel
theorem dX4_plan_54 : decode cX4_plan 54 = .ok (.ifCond .ne 20, 3) := by decide +kernel
theorem dX4_plan_57 : decode cX4_plan 57 = .ok (.aload_n 0, 1) := by decide +kernel
theorem dX4_plan_58 : decode cX4_plan 58 = .ok (.getfield 67, 3) := by decide +kernel
theorem dX4_plan_61 : decode cX4_plan 61 = .ok (.bipush 20, 2) := by decide +kernel
theorem dX4_plan_63 : decode cX4_plan 63 = .ok (.if_icmp .eq 11, 3) := by decide +kernel
theorem dX4_plan_66 : decode cX4_plan 66 = .ok (.aload_n 0, 1) := by decide +kernel
theorem dX4_plan_67 : decode cX4_plan 67 = .ok (.iconst 1, 1) := by decide +kernel
theorem dX4_plan_68 : decode cX4_plan 68 = .ok (.invokevirtual 98, 3) := by decide +kernel
theorem dX4_plan_71 : decode cX4_plan 71 = .ok (.ifCond .eq 7, 3) := by decide +kernel
theorem dX4_plan_74 : decode cX4_plan 74 = .ok (.iconst 3, 1) := by decide +kernel
theorem dX4_plan_75 : decode cX4_plan 75 = .ok (.goto 4, 3) := by decide +kernel
theorem dX4_plan_78 : decode cX4_plan 78 = .ok (.iconst 0, 1) := by decide +kernel
theorem dX4_plan_79 : decode cX4_plan 79 = .ok (.putfield 60, 3) := by decide +kernel
theorem dX4_plan_82 : decode cX4_plan 82 = .ok (.aload_n 0, 1) := by decide +kernel
theorem dX4_plan_83 : decode cX4_plan 83 = .ok (.getfield 60, 3) := by decide +kernel
theorem dX4_plan_86 : decode cX4_plan 86 = .ok (.ifCond .le 5, 3) := by decide +kernel
theorem dX4_plan_89 : decode cX4_plan 89 = .ok (.iconst 0, 1) := by decide +kernel
theorem dX4_plan_90 : decode cX4_plan 90 = .ok (.ireturn, 1) := by decide +kernel
theorem dX4_plan_91 : decode cX4_plan 91 = .ok (.aload_n 0, 1) := by decide +kernel
theorem dX4_plan_92 : decode cX4_plan 92 = .ok (.getfield 44, 3) := by decide +kernel
theorem dX4_plan_95 : decode cX4_plan 95 = .ok (.aload_n 0, 1) := by decide +kernel
theorem dX4_plan_96 : decode cX4_plan 96 = .ok (.getfield 67, 3) := by decide +kernel
theorem dX4_plan_99 : decode cX4_plan 99 = .ok (.iload_n 2, 1) := by decide +kernel
theorem dX4_plan_100 : decode cX4_plan 100 = .ok (.iastore, 1) := by decide +kernel
theorem dX4_plan_101 : decode cX4_plan 101 = .ok (.aload_n 0, 1) := by decide +kernel
theorem dX4_plan_102 : decode cX4_plan 102 = .ok (.getfield 47, 3) := by decide +kernel
theorem dX4_plan_105 : decode cX4_plan 105 = .ok (.aload_n 0, 1) := by decide +kernel
theorem dX4_plan_106 : decode cX4_plan 106 = .ok (.getfield 67, 3) := by decide +kernel
theorem dX4_plan_109 : decode cX4_plan 109 = .ok (.iload_n 3, 1) := by decide +kernel
theorem dX4_plan_110 : decode cX4_plan 110 = .ok (.iastore, 1) := by decide +kernel
theorem dX4_plan_111 : decode cX4_plan 111 = .ok (.aload_n 0, 1) := by decide +kernel
theorem dX4_plan_112 : decode cX4_plan 112 = .ok (.getfield 50, 3) := by decide +kernel
theorem dX4_plan_115 : decode cX4_plan 115 = .ok (.aload_n 0, 1) := by decide +kernel
theorem dX4_plan_116 : decode cX4_plan 116 = .ok (.getfield 67, 3) := by decide +kernel
theorem dX4_plan_119 : decode cX4_plan 119 = .ok (.aload_n 0, 1) := by decide +kernel
theorem dX4_plan_120 : decode cX4_plan 120 = .ok (.getfield 56, 3) := by decide +kernel
theorem dX4_plan_123 : decode cX4_plan 123 = .ok (.iastore, 1) := by decide +kernel
theorem dX4_plan_124 : decode cX4_plan 124 = .ok (.aload_n 0, 1) := by decide +kernel
theorem dX4_plan_125 : decode cX4_plan 125 = .ok (.iload_n 1, 1) := by decide +kernel
theorem dX4_plan_126 : decode cX4_plan 126 = .ok (.iconst 3, 1) := by decide +kernel
theorem dX4_plan_127 : decode cX4_plan 127 = .ok (.aload_n 0, 1) := by decide +kernel
theorem dX4_plan_128 : decode cX4_plan 128 = .ok (.getfield 67, 3) := by decide +kernel
theorem dX4_plan_131 : decode cX4_plan 131 = .ok (.iconst (-1), 1) := by decide +kernel
theorem dX4_plan_132 : decode cX4_plan 132 = .ok (.invokevirtual 101, 3) := by decide +kernel
theorem dX4_plan_135 : decode cX4_plan 135 = .ok (.istore 4, 2) := by decide +kernel
theorem dX4_plan_137 : decode cX4_plan 137 = .ok (.aload_n 0, 1) := by decide +kernel
theorem dX4_plan_138 : decode cX4_plan 138 = .ok (.dup, 1) := by decide +kernel
theorem dX4_plan_139 : decode cX4_plan 139 = .ok (.getfield 67, 3) := by decide +kernel
theorem dX4_plan_142 : decode cX4_plan 142 = .ok (.iconst 1, 1) := by decide +kernel
theorem dX4_plan_143 : decode cX4_plan 143 = .ok (.iadd, 1) := by decide +kernel
theorem dX4_plan_144 : decode cX4_plan 144 = .ok (.putfield 67, 3) := by decide +kernel
theorem dX4_plan_147 : decode cX4_plan 147 = .ok (.aload_n 0, 1) := by decide +kernel
theorem dX4_plan_148 : decode cX4_plan 148 = .ok (.getfield 67, 3) := by decide +kernel
theorem dX4_plan_151 : decode cX4_plan 151 = .ok (.iconst 1, 1) := by decide +kernel
theorem dX4_plan_152 : decode cX4_plan 152 = .ok (.isub, 1) := by decide +kernel
theorem dX4_plan_153 : decode cX4_plan 153 = .ok (.ireturn, 1) := by decide +kernel
set_option maxRecDepth 20000 in
theorem ggX4_stateOf_X4_knows : GoodIn wsX4_stateOf wsX4_knows := goodIn_r _ [9, 10, 11, 12, 13, 14, 15, 16, 17, 18, 19, 20, 21, 22, 23, 24, 25, 26, 27, 28, 29] (by decide +kernel) (by decide +kernel)
set_option maxRecDepth 20000 in
theorem gX4_stateOf_X4_knows : GoodIn wsX4_stateOf (wsV RX4 70 RX4 yX4_knows wsX4_knows) := goodIn_app (goodIn_of _ (by decide +kernel)) ggX4_stateOf_X4_knows
theorem dX4_stateOf_0 : decode cX4_stateOf 0 = .ok (.aload_n 0, 1) := by decide +kernel
theorem dX4_stateOf_1 : decode cX4_stateOf 1 = .ok (.iload_n 1, 1) := by decide +kernel
theorem dX4_stateOf_2 : decode cX4_stateOf 2 = .ok (.aload_n 0, 1) := by decide +kernel
theorem dX4_stateOf_3 : decode cX4_stateOf 3 = .ok (.getfield 50, 3) := by decide +kernel
theorem dX4_stateOf_6 : decode cX4_stateOf 6 = .ok (.iload_n 2, 1) := by decide +kernel
theorem dX4_stateOf_7 : decode cX4_stateOf 7 = .ok (.iaload, 1) := by decide +kernel
theorem dX4_stateOf_8 : decode cX4_stateOf 8 = .ok (.invokevirtual 70, 3) := by decide +kernel
theorem dX4_stateOf_11 : decode cX4_stateOf 11 = .ok (.ifCond .ne 5, 3) := by decide +kernel
theorem dX4_stateOf_14 : decode cX4_stateOf 14 = .ok (.iconst 0, 1) := by decide +kernel
theorem dX4_stateOf_15 : decode cX4_stateOf 15 = .ok (.ireturn, 1) := by decide +kernel
theorem dX4_stateOf_16 : decode cX4_stateOf 16 = .ok (.iconst 1, 1) := by decide +kernel
theorem dX4_stateOf_17 : decode cX4_stateOf 17 = .ok (.istore_n 3, 1) := by decide +kernel
theorem dX4_stateOf_18 : decode cX4_stateOf 18 = .ok (.iconst 0, 1) := by decide +kernel
theorem dX4_stateOf_19 : decode cX4_stateOf 19 = .ok (.istore 4, 2) := by decide +kernel
theorem dX4_stateOf_21 : decode cX4_stateOf 21 = .ok (.iload 4, 2) := by decide +kernel
theorem dX4_stateOf_23 : decode cX4_stateOf 23 = .ok (.aload_n 0, 1) := by decide +kernel
theorem dX4_stateOf_24 : decode cX4_stateOf 24 = .ok (.getfield 56, 3) := by decide +kernel
theorem dX4_stateOf_27 : decode cX4_stateOf 27 = .ok (.if_icmp .ge 85, 3) := by decide +kernel
theorem dX4_stateOf_30 : decode cX4_stateOf 30 = .ok (.aload_n 0, 1) := by decide +kernel
theorem dX4_stateOf_31 : decode cX4_stateOf 31 = .ok (.iload_n 1, 1) := by decide +kernel
theorem dX4_stateOf_32 : decode cX4_stateOf 32 = .ok (.iload 4, 2) := by decide +kernel
theorem dX4_stateOf_34 : decode cX4_stateOf 34 = .ok (.invokevirtual 70, 3) := by decide +kernel
theorem dX4_stateOf_37 : decode cX4_stateOf 37 = .ok (.ifCond .eq 18, 3) := by decide +kernel
theorem dX4_stateOf_40 : decode cX4_stateOf 40 = .ok (.aload_n 0, 1) := by decide +kernel
theorem dX4_stateOf_41 : decode cX4_stateOf 41 = .ok (.getfield 19, 3) := by decide +kernel
theorem dX4_stateOf_44 : decode cX4_stateOf 44 = .ok (.iload 4, 2) := by decide +kernel
theorem dX4_stateOf_46 : decode cX4_stateOf 46 = .ok (.iaload, 1) := by decide +kernel
theorem dX4_stateOf_47 : decode cX4_stateOf 47 = .ok (.iload_n 2, 1) := by decide +kernel
theorem dX4_stateOf_48 : decode cX4_stateOf 48 = .ok (.if_icmp .ne 7, 3) := by decide +kernel
theorem dX4_stateOf_51 : decode cX4_stateOf 51 = .ok (.iconst 1, 1) := by decide +kernel
theorem dX4_stateOf_52 : decode cX4_stateOf 52 = .ok (.goto 4, 3) := by decide +kernel
theorem dX4_stateOf_55 : decode cX4_stateOf 55 = .ok (.iconst 0, 1) := by decide +kernel
theorem dX4_stateOf_56 : decode cX4_stateOf 56 = .ok (.istore 5, 2) := by decide +kernel
theorem dX4_stateOf_58 : decode cX4_stateOf 58 = .ok (.iload 5, 2) := by decide +kernel
theorem dX4_stateOf_60 : decode cX4_stateOf 60 = .ok (.ifCond .eq 19, 3) := by decide +kernel
theorem dX4_stateOf_63 : decode cX4_stateOf 63 = .ok (.aload_n 0, 1) := by decide +kernel
theorem dX4_stateOf_64 : decode cX4_stateOf 64 = .ok (.getfield 7, 3) := by decide +kernel
theorem dX4_stateOf_67 : decode cX4_stateOf 67 = .ok (.iload 4, 2) := by decide +kernel
theorem dX4_stateOf_69 : decode cX4_stateOf 69 = .ok (.iaload, 1) := by decide +kernel
theorem dX4_stateOf_70 : decode cX4_stateOf 70 = .ok (.bipush 6, 2) := by decide +kernel
theorem dX4_stateOf_72 : decode cX4_stateOf 72 = .ok (.if_icmp .ne 7, 3) := by decide +kernel
theorem dX4_stateOf_75 : decode cX4_stateOf 75 = .ok (.iconst 3, 1) := by decide +kernel
theorem dX4_stateOf_76 : decode cX4_stateOf 76 = .ok (.goto 29, 3) := by decide +kernel
theorem dX4_stateOf_79 : decode cX4_stateOf 79 = .ok (.iload 5, 2) := by decide +kernel
theorem dX4_stateOf_81 : decode cX4_stateOf 81 = .ok (.ifCond .eq 23, 3) := by decide +kernel
theorem dX4_stateOf_84 : decode cX4_stateOf 84 = .ok (.aload_n 0, 1) := by decide +kernel
theorem dX4_stateOf_85 : decode cX4_stateOf 85 = .ok (.getfield 7, 3) := by decide +kernel
theorem dX4_stateOf_88 : decode cX4_stateOf 88 = .ok (.iload 4, 2) := by decide +kernel
theorem dX4_stateOf_90 : decode cX4_stateOf 90 = .ok (.iaload, 1) := by decide +kernel
theorem dX4_stateOf_91 : decode cX4_stateOf 91 = .ok (.iconst 5, 1) := by decide +kernel
theorem dX4_stateOf_92 : decode cX4_stateOf 92 = .ok (.if_icmp .ne 12, 3) := by decide +kernel
theorem dX4_stateOf_95 : decode cX4_stateOf 95 = .ok (.iload_n 3, 1) := by decide +kernel
theorem dX4_stateOf_96 : decode cX4_stateOf 96 = .ok (.iconst 1, 1) := by decide +kernel
theorem dX4_stateOf_97 : decode cX4_stateOf 97 = .ok (.if_icmp .ne 7, 3) := by decide +kernel
theorem dX4_stateOf_100 : decode cX4_stateOf 100 = .ok (.iconst 2, 1) := by decide +kernel
theorem dX4_stateOf_101 : decode cX4_stateOf 101 = .ok (.goto 4, 3) := by decide +kernel
theorem dX4_stateOf_104 : decode cX4_stateOf 104 = .ok (.iload_n 3, 1) := by decide +kernel
theorem dX4_stateOf_105 : decode cX4_stateOf 105 = .ok (.istore_n 3, 1) := by decide +kernel
theorem dX4_stateOf_106 : decode cX4_stateOf 106 = .ok (.iinc 4 1, 3) := by decide +kernel
theorem dX4_stateOf_109 : decode cX4_stateOf 109 = .ok (.goto (-88), 3) := by decide +kernel
theorem dX4_stateOf_112 : decode cX4_stateOf 112 = .ok (.iload_n 3, 1) := by decide +kernel
theorem dX4_stateOf_113 : decode cX4_stateOf 113 = .ok (.ireturn, 1) := by decide +kernel
set_option maxRecDepth 20000 in
theorem ggX4_isAhead_X4_guestMany : GoodIn wsX4_isAhead wsX4_guestMany := goodIn_r _ [7, 8, 9, 10, 6, 11, 12, 13, 14, 15, 16, 17, 18, 19, 20, 21, 22, 23, 24, 25, 26, 27, 28, 29, 30, 31, 32, 33, 34, 35, 36, 37, 38, 39, 40, 41, 42, 43, 44, 45, 46, 47, 48, 49] (by decide +kernel) (by decide +kernel)
set_option maxRecDepth 20000 in
theorem gX4_isAhead_X4_guestMany : GoodIn wsX4_isAhead (wsV RX4 117 RX4 yX4_guestMany wsX4_guestMany) := goodIn_app (goodIn_of _ (by decide +kernel)) ggX4_isAhead_X4_guestMany
set_option maxRecDepth 20000 in
theorem ggX4_isAhead_X4_isLater : GoodIn wsX4_isAhead wsX4_isLater := goodIn_r _ [25, 26, 27, 31, 32, 33, 34, 35, 36, 37, 38, 39, 40, 41, 42, 43, 44, 45, 46, 47, 48, 49] (by decide +kernel) (by decide +kernel)
set_option maxRecDepth 20000 in
theorem gX4_isAhead_X4_isLater : GoodIn wsX4_isAhead (wsV RX4 77 RX4 yX4_isLater wsX4_isLater) := goodIn_app (goodIn_of _ (by decide +kernel)) ggX4_isAhead_X4_isLater
theorem dX4_isAhead_0 : decode cX4_isAhead 0 = .ok (.aload_n 0, 1) := by decide +kernel
theorem dX4_isAhead_1 : decode cX4_isAhead 1 = .ok (.iload_n 1, 1) := by decide +kernel
theorem dX4_isAhead_2 : decode cX4_isAhead 2 = .ok (.aload_n 0, 1) := by decide +kernel
theorem dX4_isAhead_3 : decode cX4_isAhead 3 = .ok (.getfield 47, 3) := by decide +kernel
theorem dX4_isAhead_6 : decode cX4_isAhead 6 = .ok (.iload_n 2, 1) := by decide +kernel
theorem dX4_isAhead_7 : decode cX4_isAhead 7 = .ok (.iaload, 1) := by decide +kernel
theorem dX4_isAhead_8 : decode cX4_isAhead 8 = .ok (.invokevirtual 117, 3) := by decide +kernel
theorem dX4_isAhead_11 : decode cX4_isAhead 11 = .ok (.aload_n 0, 1) := by decide +kernel
theorem dX4_isAhead_12 : decode cX4_isAhead 12 = .ok (.iload_n 1, 1) := by decide +kernel
theorem dX4_isAhead_13 : decode cX4_isAhead 13 = .ok (.aload_n 0, 1) := by decide +kernel
theorem dX4_isAhead_14 : decode cX4_isAhead 14 = .ok (.getfield 47, 3) := by decide +kernel
theorem dX4_isAhead_17 : decode cX4_isAhead 17 = .ok (.iload_n 3, 1) := by decide +kernel
theorem dX4_isAhead_18 : decode cX4_isAhead 18 = .ok (.iaload, 1) := by decide +kernel
theorem dX4_isAhead_19 : decode cX4_isAhead 19 = .ok (.invokevirtual 117, 3) := by decide +kernel
theorem dX4_isAhead_22 : decode cX4_isAhead 22 = .ok (.isub, 1) := by decide +kernel
theorem dX4_isAhead_23 : decode cX4_isAhead 23 = .ok (.istore 4, 2) := by decide +kernel
theorem dX4_isAhead_25 : decode cX4_isAhead 25 = .ok (.iload 4, 2) := by decide +kernel
theorem dX4_isAhead_27 : decode cX4_isAhead 27 = .ok (.ifCond .eq 14, 3) := by decide +kernel
theorem dX4_isAhead_30 : decode cX4_isAhead 30 = .ok (.iload 4, 2) := by decide +kernel
theorem dX4_isAhead_32 : decode cX4_isAhead 32 = .ok (.ifCond .le 7, 3) := by decide +kernel
theorem dX4_isAhead_35 : decode cX4_isAhead 35 = .ok (.iconst 1, 1) := by decide +kernel
theorem dX4_isAhead_36 : decode cX4_isAhead 36 = .ok (.goto 4, 3) := by decide +kernel
theorem dX4_isAhead_39 : decode cX4_isAhead 39 = .ok (.iconst 0, 1) := by decide +kernel
theorem dX4_isAhead_40 : decode cX4_isAhead 40 = .ok (.ireturn, 1) := by decide +kernel
theorem dX4_isAhead_41 : decode cX4_isAhead 41 = .ok (.aload_n 0, 1) := by decide +kernel
theorem dX4_isAhead_42 : decode cX4_isAhead 42 = .ok (.getfield 47, 3) := by decide +kernel
theorem dX4_isAhead_45 : decode cX4_isAhead 45 = .ok (.iload_n 2, 1) := by decide +kernel
theorem dX4_isAhead_46 : decode cX4_isAhead 46 = .ok (.iaload, 1) := by decide +kernel
theorem dX4_isAhead_47 : decode cX4_isAhead 47 = .ok (.aload_n 0, 1) := by decide +kernel
theorem dX4_isAhead_48 : decode cX4_isAhead 48 = .ok (.getfield 47, 3) := by decide +kernel
theorem dX4_isAhead_51 : decode cX4_isAhead 51 = .ok (.iload_n 3, 1) := by decide +kernel
theorem dX4_isAhead_52 : decode cX4_isAhead 52 = .ok (.iaload, 1) := by decide +kernel
theorem dX4_isAhead_53 : decode cX4_isAhead 53 = .ok (.if_icmp .lt 37, 3) := by decide +kernel
theorem dX4_isAhead_56 : decode cX4_isAhead 56 = .ok (.aload_n 0, 1) := by decide +kernel
theorem dX4_isAhead_57 : decode cX4_isAhead 57 = .ok (.getfield 47, 3) := by decide +kernel
theorem dX4_isAhead_60 : decode cX4_isAhead 60 = .ok (.iload_n 2, 1) := by decide +kernel
theorem dX4_isAhead_61 : decode cX4_isAhead 61 = .ok (.iaload, 1) := by decide +kernel
theorem dX4_isAhead_62 : decode cX4_isAhead 62 = .ok (.aload_n 0, 1) := by decide +kernel
theorem dX4_isAhead_63 : decode cX4_isAhead 63 = .ok (.getfield 47, 3) := by decide +kernel
theorem dX4_isAhead_66 : decode cX4_isAhead 66 = .ok (.iload_n 3, 1) := by decide +kernel
theorem dX4_isAhead_67 : decode cX4_isAhead 67 = .ok (.iaload, 1) := by decide +kernel
theorem dX4_isAhead_68 : decode cX4_isAhead 68 = .ok (.if_icmp .ne 26, 3) := by decide +kernel
theorem dX4_isAhead_71 : decode cX4_isAhead 71 = .ok (.aload_n 0, 1) := by decide +kernel
theorem dX4_isAhead_72 : decode cX4_isAhead 72 = .ok (.aload_n 0, 1) := by decide +kernel
theorem dX4_isAhead_73 : decode cX4_isAhead 73 = .ok (.getfield 50, 3) := by decide +kernel
theorem dX4_isAhead_76 : decode cX4_isAhead 76 = .ok (.iload_n 3, 1) := by decide +kernel
theorem dX4_isAhead_77 : decode cX4_isAhead 77 = .ok (.iaload, 1) := by decide +kernel
theorem dX4_isAhead_78 : decode cX4_isAhead 78 = .ok (.aload_n 0, 1) := by decide +kernel
theorem dX4_isAhead_79 : decode cX4_isAhead 79 = .ok (.getfield 50, 3) := by decide +kernel
theorem dX4_isAhead_82 : decode cX4_isAhead 82 = .ok (.iload_n 2, 1) := by decide +kernel
theorem dX4_isAhead_83 : decode cX4_isAhead 83 = .ok (.iaload, 1) := by decide +kernel
theorem dX4_isAhead_84 : decode cX4_isAhead 84 = .ok (.invokevirtual 77, 3) := by decide +kernel
theorem dX4_isAhead_87 : decode cX4_isAhead 87 = .ok (.ifCond .eq 7, 3) := by decide +kernel
theorem dX4_isAhead_90 : decode cX4_isAhead 90 = .ok (.iconst 1, 1) := by decide +kernel
theorem dX4_isAhead_91 : decode cX4_isAhead 91 = .ok (.goto 4, 3) := by decide +kernel
theorem dX4_isAhead_94 : decode cX4_isAhead 94 = .ok (.iconst 0, 1) := by decide +kernel
theorem dX4_isAhead_95 : decode cX4_isAhead 95 = .ok (.ireturn, 1) := by decide +kernel
set_option maxRecDepth 20000 in
theorem ggX4_keeper_X4_placeOf : GoodIn wsX4_keeper wsX4_placeOf := goodIn_r _ [9, 2, 10, 11, 12, 13, 8, 14, 1, 15, 16, 17, 18, 19, 20, 21, 22, 23, 3, 24, 25, 26, 27, 28, 52, 53, 54, 55, 56, 57, 58, 59, 60, 61, 62, 63, 64, 65, 66, 67, 68, 69, 70] (by decide +kernel) (by decide +kernel)
set_option maxRecDepth 20000 in
theorem gX4_keeper_X4_placeOf : GoodIn wsX4_keeper (wsV RX4 94 RX4 yX4_placeOf wsX4_placeOf) := goodIn_app (goodIn_of _ (by decide +kernel)) ggX4_keeper_X4_placeOf
set_option maxRecDepth 20000 in
theorem ggX4_keeper_X4_knows : GoodIn wsX4_keeper wsX4_knows := goodIn_r _ [18, 19, 52, 53, 54, 55, 56, 57, 58, 59, 60, 61, 62, 63, 64, 65, 66, 67, 68, 69, 70] (by decide +kernel) (by decide +kernel)
set_option maxRecDepth 20000 in
theorem gX4_keeper_X4_knows : GoodIn wsX4_keeper (wsV RX4 70 RX4 yX4_knows wsX4_knows) := goodIn_app (goodIn_of _ (by decide +kernel)) ggX4_keeper_X4_knows
set_option maxRecDepth 20000 in
theorem ggX4_keeper_X4_stateOf : GoodIn wsX4_keeper wsX4_stateOf := goodIn_r _ [32, 33, 1, 3, 2, 15, 16, 17, 8, 18, 19, 52, 53, 54, 55, 56, 57, 58, 59, 60, 61, 62, 63, 64, 65, 66, 67, 68, 69, 70] (by decide +kernel) (by decide +kernel)
set_option maxRecDepth 20000 in
theorem gX4_keeper_X4_stateOf : GoodIn wsX4_keeper (wsV RX4 120 RX4 yX4_stateOf wsX4_stateOf) := goodIn_app (goodIn_of _ (by decide +kernel)) ggX4_keeper_X4_stateOf
set_option maxRecDepth 20000 in
theorem ggX4_keeper_X4_isAhead : GoodIn wsX4_keeper wsX4_isAhead := goodIn_r _ [37, 38, 33, 39, 40, 41, 8, 42, 43, 44, 45, 46, 1, 2, 3, 47, 48, 15, 16, 17, 18, 19, 24, 25, 26, 27, 28, 10, 49, 50, 51, 52, 53, 54, 55, 56, 57, 58, 59, 60, 61, 62, 63, 64, 65, 66, 67, 68, 69, 70] (by decide +kernel) (by decide +kernel)
set_option maxRecDepth 20000 in
theorem gX4_keeper_X4_isAhead : GoodIn wsX4_keeper (wsV RX4 123 RX4 yX4_isAhead wsX4_isAhead) := goodIn_app (goodIn_of _ (by decide +kernel)) ggX4_keeper_X4_isAhead
theorem dX4_keeper_0 : decode cX4_keeper 0 = .ok (.iconst (-1), 1) := by decide +kernel
theorem dX4_keeper_1 : decode cX4_keeper 1 = .ok (.istore_n 3, 1) := by decide +kernel
theorem dX4_keeper_2 : decode cX4_keeper 2 = .ok (.aload_n 0, 1) := by decide +kernel
theorem dX4_keeper_3 : decode cX4_keeper 3 = .ok (.iload_n 1, 1) := by decide +kernel
theorem dX4_keeper_4 : decode cX4_keeper 4 = .ok (.iload_n 2, 1) := by decide +kernel
theorem dX4_keeper_5 : decode cX4_keeper 5 = .ok (.invokevirtual 94, 3) := by decide +kernel
theorem dX4_keeper_8 : decode cX4_keeper 8 = .ok (.iconst (-1), 1) := by decide +kernel
theorem dX4_keeper_9 : decode cX4_keeper 9 = .ok (.if_icmp .ne 5, 3) := by decide +kernel
theorem dX4_keeper_12 : decode cX4_keeper 12 = .ok (.iconst (-1), 1) := by decide +kernel
theorem dX4_keeper_13 : decode cX4_keeper 13 = .ok (.ireturn, 1) := by decide +kernel
theorem dX4_keeper_14 : decode cX4_keeper 14 = .ok (.iconst 0, 1) := by decide +kernel
theorem dX4_keeper_15 : decode cX4_keeper 15 = .ok (.istore 4, 2) := by decide +kernel
theorem dX4_keeper_17 : decode cX4_keeper 17 = .ok (.iload 4, 2) := by decide +kernel
theorem dX4_keeper_19 : decode cX4_keeper 19 = .ok (.aload_n 0, 1) := by decide +kernel
theorem dX4_keeper_20 : decode cX4_keeper 20 = .ok (.getfield 56, 3) := by decide +kernel
theorem dX4_keeper_23 : decode cX4_keeper 23 = .ok (.if_icmp .ge 101, 3) := by decide +kernel
theorem dX4_keeper_26 : decode cX4_keeper 26 = .ok (.aload_n 0, 1) := by decide +kernel
theorem dX4_keeper_27 : decode cX4_keeper 27 = .ok (.iload_n 1, 1) := by decide +kernel
theorem dX4_keeper_28 : decode cX4_keeper 28 = .ok (.iload 4, 2) := by decide +kernel
theorem dX4_keeper_30 : decode cX4_keeper 30 = .ok (.invokevirtual 70, 3) := by decide +kernel
theorem dX4_keeper_33 : decode cX4_keeper 33 = .ok (.ifCond .eq 85, 3) := by decide +kernel
theorem dX4_keeper_36 : decode cX4_keeper 36 = .ok (.aload_n 0, 1) := by decide +kernel
theorem dX4_keeper_37 : decode cX4_keeper 37 = .ok (.getfield 7, 3) := by decide +kernel
theorem dX4_keeper_40 : decode cX4_keeper 40 = .ok (.iload 4, 2) := by decide +kernel
theorem dX4_keeper_42 : decode cX4_keeper 42 = .ok (.iaload, 1) := by decide +kernel
theorem dX4_keeper_43 : decode cX4_keeper 43 = .ok (.iconst 4, 1) := by decide +kernel
theorem dX4_keeper_44 : decode cX4_keeper 44 = .ok (.if_icmp .ne 74, 3) := by decide +kernel
theorem dX4_keeper_47 : decode cX4_keeper 47 = .ok (.aload_n 0, 1) := by decide +kernel
theorem dX4_keeper_48 : decode cX4_keeper 48 = .ok (.getfield 19, 3) := by decide +kernel
theorem dX4_keeper_51 : decode cX4_keeper 51 = .ok (.iload 4, 2) := by decide +kernel
theorem dX4_keeper_53 : decode cX4_keeper 53 = .ok (.iaload, 1) := by decide +kernel
theorem dX4_keeper_54 : decode cX4_keeper 54 = .ok (.iload_n 2, 1) := by decide +kernel
theorem dX4_keeper_55 : decode cX4_keeper 55 = .ok (.if_icmp .ne 63, 3) := by decide +kernel
theorem dX4_keeper_58 : decode cX4_keeper 58 = .ok (.aload_n 0, 1) := by decide +kernel
theorem dX4_keeper_59 : decode cX4_keeper 59 = .ok (.iload_n 1, 1) := by decide +kernel
theorem dX4_keeper_60 : decode cX4_keeper 60 = .ok (.aload_n 0, 1) := by decide +kernel
theorem dX4_keeper_61 : decode cX4_keeper 61 = .ok (.getfield 22, 3) := by decide +kernel
theorem dX4_keeper_64 : decode cX4_keeper 64 = .ok (.iload 4, 2) := by decide +kernel
theorem dX4_keeper_66 : decode cX4_keeper 66 = .ok (.iaload, 1) := by decide +kernel
theorem dX4_keeper_67 : decode cX4_keeper 67 = .ok (.invokevirtual 120, 3) := by decide +kernel
theorem dX4_keeper_70 : decode cX4_keeper 70 = .ok (.iconst 1, 1) := by decide +kernel
theorem dX4_keeper_71 : decode cX4_keeper 71 = .ok (.if_icmp .ne 47, 3) := by decide +kernel
theorem dX4_keeper_74 : decode cX4_keeper 74 = .ok (.iload_n 3, 1) := by decide +kernel
theorem dX4_keeper_75 : decode cX4_keeper 75 = .ok (.iconst (-1), 1) := by decide +kernel
theorem dX4_keeper_76 : decode cX4_keeper 76 = .ok (.if_icmp .eq 30, 3) := by decide +kernel
theorem dX4_keeper_79 : decode cX4_keeper 79 = .ok (.iload_n 3, 1) := by decide +kernel
theorem dX4_keeper_80 : decode cX4_keeper 80 = .ok (.aload_n 0, 1) := by decide +kernel
theorem dX4_keeper_81 : decode cX4_keeper 81 = .ok (.getfield 22, 3) := by decide +kernel
theorem dX4_keeper_84 : decode cX4_keeper 84 = .ok (.iload 4, 2) := by decide +kernel
theorem dX4_keeper_86 : decode cX4_keeper 86 = .ok (.iaload, 1) := by decide +kernel
theorem dX4_keeper_87 : decode cX4_keeper 87 = .ok (.if_icmp .eq 29, 3) := by decide +kernel
theorem dX4_keeper_90 : decode cX4_keeper 90 = .ok (.aload_n 0, 1) := by decide +kernel
theorem dX4_keeper_91 : decode cX4_keeper 91 = .ok (.iload_n 1, 1) := by decide +kernel
theorem dX4_keeper_92 : decode cX4_keeper 92 = .ok (.aload_n 0, 1) := by decide +kernel
theorem dX4_keeper_93 : decode cX4_keeper 93 = .ok (.getfield 22, 3) := by decide +kernel
theorem dX4_keeper_96 : decode cX4_keeper 96 = .ok (.iload 4, 2) := by decide +kernel
theorem dX4_keeper_98 : decode cX4_keeper 98 = .ok (.iaload, 1) := by decide +kernel
theorem dX4_keeper_99 : decode cX4_keeper 99 = .ok (.iload_n 3, 1) := by decide +kernel
theorem dX4_keeper_100 : decode cX4_keeper 100 = .ok (.invokevirtual 123, 3) := by decide +kernel
theorem dX4_keeper_103 : decode cX4_keeper 103 = .ok (.ifCond .eq 13, 3) := by decide +kernel
theorem dX4_keeper_106 : decode cX4_keeper 106 = .ok (.aload_n 0, 1) := by decide +kernel
theorem dX4_keeper_107 : decode cX4_keeper 107 = .ok (.getfield 22, 3) := by decide +kernel
theorem dX4_keeper_110 : decode cX4_keeper 110 = .ok (.iload 4, 2) := by decide +kernel
theorem dX4_keeper_112 : decode cX4_keeper 112 = .ok (.iaload, 1) := by decide +kernel
theorem dX4_keeper_113 : decode cX4_keeper 113 = .ok (.goto 4, 3) := by decide +kernel
theorem dX4_keeper_116 : decode cX4_keeper 116 = .ok (.iload_n 3, 1) := by decide +kernel
theorem dX4_keeper_117 : decode cX4_keeper 117 = .ok (.istore_n 3, 1) := by decide +kernel
theorem dX4_keeper_118 : decode cX4_keeper 118 = .ok (.iinc 4 1, 3) := by decide +kernel
theorem dX4_keeper_121 : decode cX4_keeper 121 = .ok (.goto (-104), 3) := by decide +kernel
theorem dX4_keeper_124 : decode cX4_keeper 124 = .ok (.iload_n 3, 1) := by decide +kernel
theorem dX4_keeper_125 : decode cX4_keeper 125 = .ok (.ireturn, 1) := by decide +kernel
set_option maxRecDepth 20000 in
theorem ggX4_keptOf_X4_keeper : GoodIn wsX4_keptOf wsX4_keeper := goodIn_r _ [5, 6, 7, 8, 9, 10, 11, 12, 4, 13, 14, 15, 16, 17, 18, 19, 20, 21, 22, 23, 24, 25, 26, 27, 28, 29, 30, 31, 32, 33, 34, 35, 36, 37, 38, 39, 40, 41, 42, 43, 44, 45, 46, 47, 48, 49, 50, 51, 52, 53, 54, 55, 56, 57, 58, 59, 60, 61, 62, 63, 64, 65, 66, 67, 68, 69, 70, 71, 72, 73, 74] (by decide +kernel) (by decide +kernel)
set_option maxRecDepth 20000 in
theorem gX4_keptOf_X4_keeper : GoodIn wsX4_keptOf (wsV RX4 126 RX4 yX4_keeper wsX4_keeper) := goodIn_app (goodIn_of _ (by decide +kernel)) ggX4_keptOf_X4_keeper
theorem dX4_keptOf_0 : decode cX4_keptOf 0 = .ok (.iconst 0, 1) := by decide +kernel
theorem dX4_keptOf_1 : decode cX4_keptOf 1 = .ok (.istore 4, 2) := by decide +kernel
theorem dX4_keptOf_3 : decode cX4_keptOf 3 = .ok (.iload_n 3, 1) := by decide +kernel
theorem dX4_keptOf_4 : decode cX4_keptOf 4 = .ok (.istore 5, 2) := by decide +kernel
theorem dX4_keptOf_6 : decode cX4_keptOf 6 = .ok (.iload 5, 2) := by decide +kernel
theorem dX4_keptOf_8 : decode cX4_keptOf 8 = .ok (.bipush 40, 2) := by decide +kernel
theorem dX4_keptOf_10 : decode cX4_keptOf 10 = .ok (.if_icmp .ge 30, 3) := by decide +kernel
theorem dX4_keptOf_13 : decode cX4_keptOf 13 = .ok (.iload 4, 2) := by decide +kernel
theorem dX4_keptOf_15 : decode cX4_keptOf 15 = .ok (.aload_n 0, 1) := by decide +kernel
theorem dX4_keptOf_16 : decode cX4_keptOf 16 = .ok (.iload_n 1, 1) := by decide +kernel
theorem dX4_keptOf_17 : decode cX4_keptOf 17 = .ok (.iload 5, 2) := by decide +kernel
theorem dX4_keptOf_19 : decode cX4_keptOf 19 = .ok (.invokevirtual 126, 3) := by decide +kernel
theorem dX4_keptOf_22 : decode cX4_keptOf 22 = .ok (.iload_n 2, 1) := by decide +kernel
theorem dX4_keptOf_23 : decode cX4_keptOf 23 = .ok (.if_icmp .ne 7, 3) := by decide +kernel
theorem dX4_keptOf_26 : decode cX4_keptOf 26 = .ok (.iconst 1, 1) := by decide +kernel
theorem dX4_keptOf_27 : decode cX4_keptOf 27 = .ok (.goto 4, 3) := by decide +kernel
theorem dX4_keptOf_30 : decode cX4_keptOf 30 = .ok (.iconst 0, 1) := by decide +kernel
theorem dX4_keptOf_31 : decode cX4_keptOf 31 = .ok (.iadd, 1) := by decide +kernel
theorem dX4_keptOf_32 : decode cX4_keptOf 32 = .ok (.istore 4, 2) := by decide +kernel
theorem dX4_keptOf_34 : decode cX4_keptOf 34 = .ok (.iinc 5 8, 3) := by decide +kernel
theorem dX4_keptOf_37 : decode cX4_keptOf 37 = .ok (.goto (-31), 3) := by decide +kernel
theorem dX4_keptOf_40 : decode cX4_keptOf 40 = .ok (.iload 4, 2) := by decide +kernel
theorem dX4_keptOf_42 : decode cX4_keptOf 42 = .ok (.ireturn, 1) := by decide +kernel
set_option maxRecDepth 20000 in
theorem ggX4_lackOf_X4_keptOf : GoodIn wsX4_lackOf wsX4_keptOf := goodIn_r _ [7, 8, 9, 10, 6, 11, 12, 13, 14, 15, 16, 17, 18, 19, 20, 21, 22, 23, 24, 25, 26, 27, 28, 29, 30, 31, 32, 33, 34, 35, 36, 37, 38, 39, 40, 41, 42, 43, 44, 45, 46, 47, 48, 49, 50, 51, 52, 53, 54, 55, 56, 57, 58, 59, 60, 61, 62, 63, 64, 65, 66, 67, 68, 69, 70, 71, 72, 73, 74, 75, 76, 77, 78, 79, 80] (by decide +kernel) (by decide +kernel)
set_option maxRecDepth 20000 in
theorem gX4_lackOf_X4_keptOf : GoodIn wsX4_lackOf (wsV RX4 129 RX4 yX4_keptOf wsX4_keptOf) := goodIn_app (goodIn_of _ (by decide +kernel)) ggX4_lackOf_X4_keptOf
theorem dX4_lackOf_0 : decode cX4_lackOf 0 = .ok (.aload_n 0, 1) := by decide +kernel
theorem dX4_lackOf_1 : decode cX4_lackOf 1 = .ok (.getfield 41, 3) := by decide +kernel
theorem dX4_lackOf_4 : decode cX4_lackOf 4 = .ok (.bipush 8, 2) := by decide +kernel
theorem dX4_lackOf_6 : decode cX4_lackOf 6 = .ok (.aload_n 0, 1) := by decide +kernel
theorem dX4_lackOf_7 : decode cX4_lackOf 7 = .ok (.getfield 44, 3) := by decide +kernel
theorem dX4_lackOf_10 : decode cX4_lackOf 10 = .ok (.iload_n 2, 1) := by decide +kernel
theorem dX4_lackOf_11 : decode cX4_lackOf 11 = .ok (.iaload, 1) := by decide +kernel
theorem dX4_lackOf_12 : decode cX4_lackOf 12 = .ok (.imul, 1) := by decide +kernel
theorem dX4_lackOf_13 : decode cX4_lackOf 13 = .ok (.iload_n 3, 1) := by decide +kernel
theorem dX4_lackOf_14 : decode cX4_lackOf 14 = .ok (.iadd, 1) := by decide +kernel
theorem dX4_lackOf_15 : decode cX4_lackOf 15 = .ok (.iaload, 1) := by decide +kernel
theorem dX4_lackOf_16 : decode cX4_lackOf 16 = .ok (.aload_n 0, 1) := by decide +kernel
theorem dX4_lackOf_17 : decode cX4_lackOf 17 = .ok (.iload_n 1, 1) := by decide +kernel
theorem dX4_lackOf_18 : decode cX4_lackOf 18 = .ok (.iload_n 2, 1) := by decide +kernel
theorem dX4_lackOf_19 : decode cX4_lackOf 19 = .ok (.iload_n 3, 1) := by decide +kernel
theorem dX4_lackOf_20 : decode cX4_lackOf 20 = .ok (.invokevirtual 129, 3) := by decide +kernel
theorem dX4_lackOf_23 : decode cX4_lackOf 23 = .ok (.isub, 1) := by decide +kernel
theorem dX4_lackOf_24 : decode cX4_lackOf 24 = .ok (.istore 4, 2) := by decide +kernel
theorem dX4_lackOf_26 : decode cX4_lackOf 26 = .ok (.iload 4, 2) := by decide +kernel
theorem dX4_lackOf_28 : decode cX4_lackOf 28 = .ok (.ifCond .ge 7, 3) := by decide +kernel
theorem dX4_lackOf_31 : decode cX4_lackOf 31 = .ok (.iconst 0, 1) := by decide +kernel
theorem dX4_lackOf_32 : decode cX4_lackOf 32 = .ok (.goto 5, 3) := by decide +kernel
theorem dX4_lackOf_35 : decode cX4_lackOf 35 = .ok (.iload 4, 2) := by decide +kernel
theorem dX4_lackOf_37 : decode cX4_lackOf 37 = .ok (.ireturn, 1) := by decide +kernel
set_option maxRecDepth 20000 in
theorem ggX4_layKeeps_X4_lackOf : GoodIn wsX4_layKeeps wsX4_lackOf := goodIn_r _ [7, 8, 9, 10, 11, 12, 6, 13, 14, 15, 16, 17, 18, 19, 20, 21, 22, 23, 24, 25, 26, 27, 28, 29, 30, 31, 32, 33, 34, 35, 36, 37, 38, 39, 40, 41, 42, 43, 44, 45, 46, 47, 48, 49, 50, 51, 52, 53, 54, 55, 56, 57, 58, 59, 60, 61, 62, 63, 64, 65, 66, 67, 68, 69, 70, 71, 72, 73, 74, 75, 76, 77, 78, 79, 80, 81, 82, 83, 84, 85, 86] (by decide +kernel) (by decide +kernel)
set_option maxRecDepth 20000 in
theorem gX4_layKeeps_X4_lackOf : GoodIn wsX4_layKeeps (wsV RX4 135 RX4 yX4_lackOf wsX4_lackOf) := goodIn_app (goodIn_of _ (by decide +kernel)) ggX4_layKeeps_X4_lackOf
set_option maxRecDepth 20000 in
theorem ggX4_layKeeps_X4_placeOf : GoodIn wsX4_layKeeps wsX4_placeOf := goodIn_r _ [25, 19, 26, 27, 28, 29, 6, 30, 18, 31, 32, 33, 34, 35, 36, 37, 38, 39, 20, 40, 41, 42, 43, 44, 68, 69, 70, 71, 72, 73, 74, 75, 76, 77, 78, 79, 80, 81, 82, 83, 84, 85, 86] (by decide +kernel) (by decide +kernel)
set_option maxRecDepth 20000 in
theorem gX4_layKeeps_X4_placeOf : GoodIn wsX4_layKeeps (wsV RX4 94 RX4 yX4_placeOf wsX4_placeOf) := goodIn_app (goodIn_of _ (by decide +kernel)) ggX4_layKeeps_X4_placeOf
set_option maxRecDepth 20000 in
theorem ggX4_layKeeps_X4_keeper : GoodIn wsX4_layKeeps wsX4_keeper := goodIn_r _ [17, 18, 19, 20, 21, 22, 23, 24, 6, 25, 26, 27, 28, 29, 30, 31, 32, 33, 34, 35, 36, 37, 38, 39, 40, 41, 42, 43, 44, 45, 46, 47, 48, 49, 50, 51, 52, 53, 54, 55, 56, 57, 58, 59, 60, 61, 62, 63, 64, 65, 66, 67, 68, 69, 70, 71, 72, 73, 74, 75, 76, 77, 78, 79, 80, 81, 82, 83, 84, 85, 86] (by decide +kernel) (by decide +kernel)
set_option maxRecDepth 20000 in
theorem gX4_layKeeps_X4_keeper : GoodIn wsX4_layKeeps (wsV RX4 126 RX4 yX4_keeper wsX4_keeper) := goodIn_app (goodIn_of _ (by decide +kernel)) ggX4_layKeeps_X4_keeper
theorem dX4_layKeeps_0 : decode cX4_layKeeps 0 = .ok (.aload_n 0, 1) := by decide +kernel
theorem dX4_layKeeps_1 : decode cX4_layKeeps 1 = .ok (.iconst 0, 1) := by decide +kernel
theorem dX4_layKeeps_2 : decode cX4_layKeeps 2 = .ok (.putfield 132, 3) := by decide +kernel
theorem dX4_layKeeps_5 : decode cX4_layKeeps 5 = .ok (.iconst 0, 1) := by decide +kernel
theorem dX4_layKeeps_6 : decode cX4_layKeeps 6 = .ok (.istore_n 3, 1) := by decide +kernel
theorem dX4_layKeeps_7 : decode cX4_layKeeps 7 = .ok (.iload_n 3, 1) := by decide +kernel
theorem dX4_layKeeps_8 : decode cX4_layKeeps 8 = .ok (.bipush 8, 2) := by decide +kernel
theorem dX4_layKeeps_10 : decode cX4_layKeeps 10 = .ok (.if_icmp .ge 85, 3) := by decide +kernel
theorem dX4_layKeeps_13 : decode cX4_layKeeps 13 = .ok (.aload_n 0, 1) := by decide +kernel
theorem dX4_layKeeps_14 : decode cX4_layKeeps 14 = .ok (.iload_n 1, 1) := by decide +kernel
theorem dX4_layKeeps_15 : decode cX4_layKeeps 15 = .ok (.iload_n 2, 1) := by decide +kernel
theorem dX4_layKeeps_16 : decode cX4_layKeeps 16 = .ok (.iload_n 3, 1) := by decide +kernel
theorem dX4_layKeeps_17 : decode cX4_layKeeps 17 = .ok (.invokevirtual 135, 3) := by decide +kernel
theorem dX4_layKeeps_20 : decode cX4_layKeeps 20 = .ok (.istore 4, 2) := by decide +kernel
theorem dX4_layKeeps_22 : decode cX4_layKeeps 22 = .ok (.iload_n 3, 1) := by decide +kernel
theorem dX4_layKeeps_23 : decode cX4_layKeeps 23 = .ok (.istore 5, 2) := by decide +kernel
theorem dX4_layKeeps_25 : decode cX4_layKeeps 25 = .ok (.iload 5, 2) := by decide +kernel
theorem dX4_layKeeps_27 : decode cX4_layKeeps 27 = .ok (.bipush 40, 2) := by decide +kernel
theorem dX4_layKeeps_29 : decode cX4_layKeeps 29 = .ok (.if_icmp .ge 60, 3) := by decide +kernel
theorem dX4_layKeeps_32 : decode cX4_layKeeps 32 = .ok (.iload 4, 2) := by decide +kernel
theorem dX4_layKeeps_34 : decode cX4_layKeeps 34 = .ok (.ifCond .le 55, 3) := by decide +kernel
theorem dX4_layKeeps_37 : decode cX4_layKeeps 37 = .ok (.aload_n 0, 1) := by decide +kernel
theorem dX4_layKeeps_38 : decode cX4_layKeeps 38 = .ok (.iload_n 1, 1) := by decide +kernel
theorem dX4_layKeeps_39 : decode cX4_layKeeps 39 = .ok (.iload 5, 2) := by decide +kernel
theorem dX4_layKeeps_41 : decode cX4_layKeeps 41 = .ok (.invokevirtual 94, 3) := by decide +kernel
theorem dX4_layKeeps_44 : decode cX4_layKeeps 44 = .ok (.iconst (-1), 1) := by decide +kernel
theorem dX4_layKeeps_45 : decode cX4_layKeeps 45 = .ok (.if_icmp .eq 38, 3) := by decide +kernel
theorem dX4_layKeeps_48 : decode cX4_layKeeps 48 = .ok (.aload_n 0, 1) := by decide +kernel
theorem dX4_layKeeps_49 : decode cX4_layKeeps 49 = .ok (.iload_n 1, 1) := by decide +kernel
theorem dX4_layKeeps_50 : decode cX4_layKeeps 50 = .ok (.iload 5, 2) := by decide +kernel
theorem dX4_layKeeps_52 : decode cX4_layKeeps 52 = .ok (.invokevirtual 126, 3) := by decide +kernel
theorem dX4_layKeeps_55 : decode cX4_layKeeps 55 = .ok (.iconst (-1), 1) := by decide +kernel
theorem dX4_layKeeps_56 : decode cX4_layKeeps 56 = .ok (.if_icmp .ne 27, 3) := by decide +kernel
theorem dX4_layKeeps_59 : decode cX4_layKeeps 59 = .ok (.aload_n 0, 1) := by decide +kernel
theorem dX4_layKeeps_60 : decode cX4_layKeeps 60 = .ok (.getfield 53, 3) := by decide +kernel
theorem dX4_layKeeps_63 : decode cX4_layKeeps 63 = .ok (.aload_n 0, 1) := by decide +kernel
theorem dX4_layKeeps_64 : decode cX4_layKeeps 64 = .ok (.getfield 132, 3) := by decide +kernel
theorem dX4_layKeeps_67 : decode cX4_layKeeps 67 = .ok (.iload 5, 2) := by decide +kernel
theorem dX4_layKeeps_69 : decode cX4_layKeeps 69 = .ok (.iastore, 1) := by decide +kernel
theorem dX4_layKeeps_70 : decode cX4_layKeeps 70 = .ok (.aload_n 0, 1) := by decide +kernel
theorem dX4_layKeeps_71 : decode cX4_layKeeps 71 = .ok (.dup, 1) := by decide +kernel
theorem dX4_layKeeps_72 : decode cX4_layKeeps 72 = .ok (.getfield 132, 3) := by decide +kernel
theorem dX4_layKeeps_75 : decode cX4_layKeeps 75 = .ok (.iconst 1, 1) := by decide +kernel
theorem dX4_layKeeps_76 : decode cX4_layKeeps 76 = .ok (.iadd, 1) := by decide +kernel
theorem dX4_layKeeps_77 : decode cX4_layKeeps 77 = .ok (.putfield 132, 3) := by decide +kernel
theorem dX4_layKeeps_80 : decode cX4_layKeeps 80 = .ok (.iinc 4 (-1), 3) := by decide +kernel
theorem dX4_layKeeps_83 : decode cX4_layKeeps 83 = .ok (.iinc 5 8, 3) := by decide +kernel
theorem dX4_layKeeps_86 : decode cX4_layKeeps 86 = .ok (.goto (-61), 3) := by decide +kernel
theorem dX4_layKeeps_89 : decode cX4_layKeeps 89 = .ok (.iinc 3 1, 3) := by decide +kernel
theorem dX4_layKeeps_92 : decode cX4_layKeeps 92 = .ok (.goto (-85), 3) := by decide +kernel
theorem dX4_layKeeps_95 : decode cX4_layKeeps 95 = .ok (.return_, 1) := by decide +kernel
set_option maxRecDepth 20000 in
theorem ggX4_layKept_X4_keeper : GoodIn wsX4_layKept wsX4_keeper := goodIn_r _ [7, 8, 9, 10, 11, 12, 13, 14, 6, 15, 16, 17, 18, 19, 20, 21, 22, 23, 24, 25, 26, 27, 28, 29, 30, 31, 32, 33, 34, 35, 36, 37, 38, 39, 40, 41, 42, 43, 44, 45, 46, 47, 48, 49, 50, 51, 52, 53, 54, 55, 56, 57, 58, 59, 60, 61, 62, 63, 64, 65, 66, 67, 68, 69, 70, 71, 72, 73, 74, 75, 76] (by decide +kernel) (by decide +kernel)
set_option maxRecDepth 20000 in
theorem gX4_layKept_X4_keeper : GoodIn wsX4_layKept (wsV RX4 126 RX4 yX4_keeper wsX4_keeper) := goodIn_app (goodIn_of _ (by decide +kernel)) ggX4_layKept_X4_keeper
theorem dX4_layKept_0 : decode cX4_layKept 0 = .ok (.aload_n 0, 1) := by decide +kernel
theorem dX4_layKept_1 : decode cX4_layKept 1 = .ok (.iconst 0, 1) := by decide +kernel
theorem dX4_layKept_2 : decode cX4_layKept 2 = .ok (.putfield 132, 3) := by decide +kernel
theorem dX4_layKept_5 : decode cX4_layKept 5 = .ok (.iconst 0, 1) := by decide +kernel
theorem dX4_layKept_6 : decode cX4_layKept 6 = .ok (.istore_n 3, 1) := by decide +kernel
theorem dX4_layKept_7 : decode cX4_layKept 7 = .ok (.iload_n 3, 1) := by decide +kernel
theorem dX4_layKept_8 : decode cX4_layKept 8 = .ok (.bipush 40, 2) := by decide +kernel
theorem dX4_layKept_10 : decode cX4_layKept 10 = .ok (.if_icmp .ge 39, 3) := by decide +kernel
theorem dX4_layKept_13 : decode cX4_layKept 13 = .ok (.aload_n 0, 1) := by decide +kernel
theorem dX4_layKept_14 : decode cX4_layKept 14 = .ok (.iload_n 1, 1) := by decide +kernel
theorem dX4_layKept_15 : decode cX4_layKept 15 = .ok (.iload_n 3, 1) := by decide +kernel
theorem dX4_layKept_16 : decode cX4_layKept 16 = .ok (.invokevirtual 126, 3) := by decide +kernel
theorem dX4_layKept_19 : decode cX4_layKept 19 = .ok (.iload_n 2, 1) := by decide +kernel
theorem dX4_layKept_20 : decode cX4_layKept 20 = .ok (.if_icmp .ne 23, 3) := by decide +kernel
theorem dX4_layKept_23 : decode cX4_layKept 23 = .ok (.aload_n 0, 1) := by decide +kernel
theorem dX4_layKept_24 : decode cX4_layKept 24 = .ok (.getfield 53, 3) := by decide +kernel
theorem dX4_layKept_27 : decode cX4_layKept 27 = .ok (.aload_n 0, 1) := by decide +kernel
theorem dX4_layKept_28 : decode cX4_layKept 28 = .ok (.getfield 132, 3) := by decide +kernel
theorem dX4_layKept_31 : decode cX4_layKept 31 = .ok (.iload_n 3, 1) := by decide +kernel
theorem dX4_layKept_32 : decode cX4_layKept 32 = .ok (.iastore, 1) := by decide +kernel
theorem dX4_layKept_33 : decode cX4_layKept 33 = .ok (.aload_n 0, 1) := by decide +kernel
theorem dX4_layKept_34 : decode cX4_layKept 34 = .ok (.dup, 1) := by decide +kernel
theorem dX4_layKept_35 : decode cX4_layKept 35 = .ok (.getfield 132, 3) := by decide +kernel
theorem dX4_layKept_38 : decode cX4_layKept 38 = .ok (.iconst 1, 1) := by decide +kernel
theorem dX4_layKept_39 : decode cX4_layKept 39 = .ok (.iadd, 1) := by decide +kernel
theorem dX4_layKept_40 : decode cX4_layKept 40 = .ok (.putfield 132, 3) := by decide +kernel
theorem dX4_layKept_43 : decode cX4_layKept 43 = .ok (.iinc 3 1, 3) := by decide +kernel
theorem dX4_layKept_46 : decode cX4_layKept 46 = .ok (.goto (-39), 3) := by decide +kernel
theorem dX4_layKept_49 : decode cX4_layKept 49 = .ok (.return_, 1) := by decide +kernel
set_option maxRecDepth 20000 in
theorem ggX4_areCake_X4_isFridge : GoodIn wsX4_areCake wsX4_isFridge := goodIn_r _ [5, 6, 7, 4, 8] (by decide +kernel) (by decide +kernel)
set_option maxRecDepth 20000 in
theorem gX4_areCake_X4_isFridge : GoodIn wsX4_areCake (va_wsS RX4 84 yX4_isFridge wsX4_isFridge) := goodIn_app (goodIn_of _ (by decide +kernel)) ggX4_areCake_X4_isFridge
set_option maxRecDepth 20000 in
theorem ggX4_areCake_X4_isCake : GoodIn wsX4_areCake wsX4_isCake := goodIn_r _ [12, 13, 6, 7, 4, 8, 14, 15, 16, 17, 18, 19, 20, 21, 22, 23, 24, 25, 26, 27, 28, 29, 30, 31, 32] (by decide +kernel) (by decide +kernel)
set_option maxRecDepth 20000 in
theorem gX4_areCake_X4_isCake : GoodIn wsX4_areCake (wsV RX4 138 RX4 yX4_isCake wsX4_isCake) := goodIn_app (goodIn_of _ (by decide +kernel)) ggX4_areCake_X4_isCake
theorem dX4_areCake_0 : decode cX4_areCake 0 = .ok (.aload_n 0, 1) := by decide +kernel
theorem dX4_areCake_1 : decode cX4_areCake 1 = .ok (.iload_n 1, 1) := by decide +kernel
theorem dX4_areCake_2 : decode cX4_areCake 2 = .ok (.invokestatic 84, 3) := by decide +kernel
theorem dX4_areCake_5 : decode cX4_areCake 5 = .ok (.ifCond .eq 15, 3) := by decide +kernel
theorem dX4_areCake_8 : decode cX4_areCake 8 = .ok (.aload_n 0, 1) := by decide +kernel
theorem dX4_areCake_9 : decode cX4_areCake 9 = .ok (.iload_n 2, 1) := by decide +kernel
theorem dX4_areCake_10 : decode cX4_areCake 10 = .ok (.invokevirtual 138, 3) := by decide +kernel
theorem dX4_areCake_13 : decode cX4_areCake 13 = .ok (.ifCond .eq 7, 3) := by decide +kernel
theorem dX4_areCake_16 : decode cX4_areCake 16 = .ok (.iconst 0, 1) := by decide +kernel
theorem dX4_areCake_17 : decode cX4_areCake 17 = .ok (.goto 4, 3) := by decide +kernel
theorem dX4_areCake_20 : decode cX4_areCake 20 = .ok (.iconst 1, 1) := by decide +kernel
theorem dX4_areCake_21 : decode cX4_areCake 21 = .ok (.putfield 60, 3) := by decide +kernel
theorem dX4_areCake_24 : decode cX4_areCake 24 = .ok (.aload_n 0, 1) := by decide +kernel
theorem dX4_areCake_25 : decode cX4_areCake 25 = .ok (.getfield 60, 3) := by decide +kernel
theorem dX4_areCake_28 : decode cX4_areCake 28 = .ok (.ifCond .ne 7, 3) := by decide +kernel
theorem dX4_areCake_31 : decode cX4_areCake 31 = .ok (.iconst 1, 1) := by decide +kernel
theorem dX4_areCake_32 : decode cX4_areCake 32 = .ok (.goto 4, 3) := by decide +kernel
theorem dX4_areCake_35 : decode cX4_areCake 35 = .ok (.iconst 0, 1) := by decide +kernel
theorem dX4_areCake_36 : decode cX4_areCake 36 = .ok (.ireturn, 1) := by decide +kernel
set_option maxRecDepth 20000 in
theorem ggX4_isOpen_X4_areCake : GoodIn wsX4_isOpen wsX4_areCake := goodIn_r _ [6, 1, 7, 8, 5, 9, 10, 11, 12, 13, 14, 15, 16, 17, 31, 32, 33, 34, 35, 36, 37, 38, 39, 40, 41, 42, 43, 44, 45, 46, 47, 48, 49] (by decide +kernel) (by decide +kernel)
set_option maxRecDepth 20000 in
theorem gX4_isOpen_X4_areCake : GoodIn wsX4_isOpen (wsV RX4 141 RX4 yX4_areCake wsX4_areCake) := goodIn_app (goodIn_of _ (by decide +kernel)) ggX4_isOpen_X4_areCake
set_option maxRecDepth 20000 in
theorem ggX4_isOpen_X4_stateOf : GoodIn wsX4_isOpen wsX4_stateOf := goodIn_r _ [21, 22, 23, 24, 25, 26, 27, 28, 5, 29, 30, 31, 32, 33, 34, 35, 36, 37, 38, 39, 40, 41, 42, 43, 44, 45, 46, 47, 48, 49] (by decide +kernel) (by decide +kernel)
set_option maxRecDepth 20000 in
theorem gX4_isOpen_X4_stateOf : GoodIn wsX4_isOpen (wsV RX4 120 RX4 yX4_stateOf wsX4_stateOf) := goodIn_app (goodIn_of _ (by decide +kernel)) ggX4_isOpen_X4_stateOf
theorem dX4_isOpen_0 : decode cX4_isOpen 0 = .ok (.aload_n 0, 1) := by decide +kernel
theorem dX4_isOpen_1 : decode cX4_isOpen 1 = .ok (.iload_n 1, 1) := by decide +kernel
theorem dX4_isOpen_2 : decode cX4_isOpen 2 = .ok (.iload_n 2, 1) := by decide +kernel
theorem dX4_isOpen_3 : decode cX4_isOpen 3 = .ok (.invokevirtual 141, 3) := by decide +kernel
theorem dX4_isOpen_6 : decode cX4_isOpen 6 = .ok (.ifCond .eq 22, 3) := by decide +kernel
theorem dX4_isOpen_9 : decode cX4_isOpen 9 = .ok (.aload_n 0, 1) := by decide +kernel
theorem dX4_isOpen_10 : decode cX4_isOpen 10 = .ok (.aload_n 0, 1) := by decide +kernel
theorem dX4_isOpen_11 : decode cX4_isOpen 11 = .ok (.iload_n 1, 1) := by decide +kernel
theorem dX4_isOpen_12 : decode cX4_isOpen 12 = .ok (.iload_n 2, 1) := by decide +kernel
theorem dX4_isOpen_13 : decode cX4_isOpen 13 = .ok (.invokevirtual 120, 3) := by decide +kernel
theorem dX4_isOpen_16 : decode cX4_isOpen 16 = .ok (.iconst 1, 1) := by decide +kernel
theorem dX4_isOpen_17 : decode cX4_isOpen 17 = .ok (.if_icmp .ne 7, 3) := by decide +kernel
theorem dX4_isOpen_20 : decode cX4_isOpen 20 = .ok (.iconst 0, 1) := by decide +kernel
theorem dX4_isOpen_21 : decode cX4_isOpen 21 = .ok (.goto 4, 3) := by decide +kernel
theorem dX4_isOpen_24 : decode cX4_isOpen 24 = .ok (.iconst 2, 1) := by decide +kernel
theorem dX4_isOpen_25 : decode cX4_isOpen 25 = .ok (.putfield 60, 3) := by decide +kernel
theorem dX4_isOpen_28 : decode cX4_isOpen 28 = .ok (.aload_n 0, 1) := by decide +kernel
theorem dX4_isOpen_29 : decode cX4_isOpen 29 = .ok (.getfield 60, 3) := by decide +kernel
theorem dX4_isOpen_32 : decode cX4_isOpen 32 = .ok (.ifCond .ne 7, 3) := by decide +kernel
theorem dX4_isOpen_35 : decode cX4_isOpen 35 = .ok (.iconst 1, 1) := by decide +kernel
theorem dX4_isOpen_36 : decode cX4_isOpen 36 = .ok (.goto 4, 3) := by decide +kernel
theorem dX4_isOpen_39 : decode cX4_isOpen 39 = .ok (.iconst 0, 1) := by decide +kernel
theorem dX4_isOpen_40 : decode cX4_isOpen 40 = .ok (.ireturn, 1) := by decide +kernel
set_option maxRecDepth 20000 in
theorem ggX4_keep_X4_isOpen : GoodIn wsX4_keep wsX4_isOpen := goodIn_r _ [8, 2, 9, 10, 11, 7, 12, 13, 14, 15, 16, 17, 18, 19, 20, 21, 22, 23, 24, 25, 26, 27, 28, 29, 30, 31, 32, 33, 34, 35, 36, 98, 99, 100, 101, 102, 103, 104, 105, 106, 107, 108, 109, 110, 111, 112, 113, 114, 115, 116] (by decide +kernel) (by decide +kernel)
set_option maxRecDepth 20000 in
theorem gX4_keep_X4_isOpen : GoodIn wsX4_keep (wsV RX4 144 RX4 yX4_isOpen wsX4_isOpen) := goodIn_app (goodIn_of _ (by decide +kernel)) ggX4_keep_X4_isOpen
set_option maxRecDepth 20000 in
theorem ggX4_keep_X4_layKeeps : GoodIn wsX4_keep wsX4_layKeeps := goodIn_r _ [40, 1, 3, 41, 42, 43, 7, 44, 45, 46, 47, 48, 49, 50, 51, 52, 53, 54, 29, 31, 30, 55, 56, 57, 58, 59, 60, 61, 62, 63, 64, 32, 33, 34, 35, 36, 65, 66, 67, 68, 69, 70, 71, 72, 73, 24, 25, 26, 27, 28, 74, 75, 76, 77, 78, 79, 80, 81, 82, 83, 84, 85, 86, 87, 88, 16, 17, 18, 98, 99, 100, 101, 102, 103, 104, 105, 106, 107, 108, 109, 110, 111, 112, 113, 114, 115, 116] (by decide +kernel) (by decide +kernel)
set_option maxRecDepth 20000 in
theorem gX4_keep_X4_layKeeps : GoodIn wsX4_keep (wsV RX4 147 RX4 yX4_layKeeps wsX4_layKeeps) := goodIn_app (goodIn_of _ (by decide +kernel)) ggX4_keep_X4_layKeeps
set_option maxRecDepth 20000 in
theorem ggX4_keep_X4_isFull : GoodIn wsX4_keep wsX4_isFull := goodIn_r _ [92, 29, 98, 99, 100, 101, 102, 103, 104, 105, 106, 107, 108, 109, 110, 111, 112, 113, 114, 115, 116] (by decide +kernel) (by decide +kernel)
set_option maxRecDepth 20000 in
theorem gX4_keep_X4_isFull : GoodIn wsX4_keep (wsV RX4 98 RX4 yX4_isFull wsX4_isFull) := goodIn_app (goodIn_of _ (by decide +kernel)) ggX4_keep_X4_isFull
set_option maxRecDepth 20000 in
theorem ggX4_keep_X4_write : GoodIn wsX4_keep wsX4_write := goodIn_r _ [96, 97, 31, 29, 60, 73, 30, 55, 36, 98, 99, 100, 101, 102, 103, 104, 105, 106, 107, 108, 109, 110, 111, 112, 113, 114, 115, 116] (by decide +kernel) (by decide +kernel)
set_option maxRecDepth 20000 in
theorem gX4_keep_X4_write : GoodIn wsX4_keep (wsV RX4 101 RX4 yX4_write wsX4_write) := goodIn_app (goodIn_of _ (by decide +kernel)) ggX4_keep_X4_write
theorem dX4_keep_0 : decode cX4_keep 0 = .ok (.aload_n 0, 1) := by decide +kernel
theorem dX4_keep_1 : decode cX4_keep 1 = .ok (.iload_n 1, 1) := by decide +kernel
theorem dX4_keep_2 : decode cX4_keep 2 = .ok (.iload_n 2, 1) := by decide +kernel
theorem dX4_keep_3 : decode cX4_keep 3 = .ok (.invokevirtual 144, 3) := by decide +kernel
theorem dX4_keep_6 : decode cX4_keep 6 = .ok (.ifCond .ne 5, 3) := by decide +kernel
theorem dX4_keep_9 : decode cX4_keep 9 = .ok (.iconst 0, 1) := by decide +kernel
theorem dX4_keep_10 : decode cX4_keep 10 = .ok (.ireturn, 1) := by decide +kernel
theorem dX4_keep_11 : decode cX4_keep 11 = .ok (.aload_n 0, 1) := by decide +kernel
theorem dX4_keep_12 : decode cX4_keep 12 = .ok (.iload_n 1, 1) := by decide +kernel
theorem dX4_keep_13 : decode cX4_keep 13 = .ok (.iload_n 2, 1) := by decide +kernel
theorem dX4_keep_14 : decode cX4_keep 14 = .ok (.invokevirtual 147, 3) := by decide +kernel
theorem dX4_keep_17 : decode cX4_keep 17 = .ok (.aload_n 0, 1) := by decide +kernel
theorem dX4_keep_18 : decode cX4_keep 18 = .ok (.aload_n 0, 1) := by decide +kernel
theorem dX4_keep_19 : decode cX4_keep 19 = .ok (.aload_n 0, 1) := by decide +kernel
theorem dX4_keep_20 : decode cX4_keep 20 = .ok (.getfield 132, 3) := by decide +kernel
theorem dX4_keep_23 : decode cX4_keep 23 = .ok (.invokevirtual 98, 3) := by decide +kernel
theorem dX4_keep_26 : decode cX4_keep 26 = .ok (.ifCond .eq 7, 3) := by decide +kernel
theorem dX4_keep_29 : decode cX4_keep 29 = .ok (.iconst 2, 1) := by decide +kernel
theorem dX4_keep_30 : decode cX4_keep 30 = .ok (.goto 4, 3) := by decide +kernel
theorem dX4_keep_33 : decode cX4_keep 33 = .ok (.iconst 0, 1) := by decide +kernel
theorem dX4_keep_34 : decode cX4_keep 34 = .ok (.putfield 60, 3) := by decide +kernel
theorem dX4_keep_37 : decode cX4_keep 37 = .ok (.iconst 0, 1) := by decide +kernel
theorem dX4_keep_38 : decode cX4_keep 38 = .ok (.istore_n 3, 1) := by decide +kernel
theorem dX4_keep_39 : decode cX4_keep 39 = .ok (.iload_n 3, 1) := by decide +kernel
theorem dX4_keep_40 : decode cX4_keep 40 = .ok (.aload_n 0, 1) := by decide +kernel
theorem dX4_keep_41 : decode cX4_keep 41 = .ok (.getfield 132, 3) := by decide +kernel
theorem dX4_keep_44 : decode cX4_keep 44 = .ok (.if_icmp .ge 31, 3) := by decide +kernel
theorem dX4_keep_47 : decode cX4_keep 47 = .ok (.aload_n 0, 1) := by decide +kernel
theorem dX4_keep_48 : decode cX4_keep 48 = .ok (.getfield 60, 3) := by decide +kernel
theorem dX4_keep_51 : decode cX4_keep 51 = .ok (.ifCond .ne 24, 3) := by decide +kernel
theorem dX4_keep_54 : decode cX4_keep 54 = .ok (.aload_n 0, 1) := by decide +kernel
theorem dX4_keep_55 : decode cX4_keep 55 = .ok (.iload_n 1, 1) := by decide +kernel
theorem dX4_keep_56 : decode cX4_keep 56 = .ok (.iconst 4, 1) := by decide +kernel
theorem dX4_keep_57 : decode cX4_keep 57 = .ok (.aload_n 0, 1) := by decide +kernel
theorem dX4_keep_58 : decode cX4_keep 58 = .ok (.getfield 53, 3) := by decide +kernel
theorem dX4_keep_61 : decode cX4_keep 61 = .ok (.iload_n 3, 1) := by decide +kernel
theorem dX4_keep_62 : decode cX4_keep 62 = .ok (.iaload, 1) := by decide +kernel
theorem dX4_keep_63 : decode cX4_keep 63 = .ok (.iload_n 2, 1) := by decide +kernel
theorem dX4_keep_64 : decode cX4_keep 64 = .ok (.invokevirtual 101, 3) := by decide +kernel
theorem dX4_keep_67 : decode cX4_keep 67 = .ok (.istore 4, 2) := by decide +kernel
theorem dX4_keep_69 : decode cX4_keep 69 = .ok (.iinc 3 1, 3) := by decide +kernel
theorem dX4_keep_72 : decode cX4_keep 72 = .ok (.goto (-33), 3) := by decide +kernel
theorem dX4_keep_75 : decode cX4_keep 75 = .ok (.aload_n 0, 1) := by decide +kernel
theorem dX4_keep_76 : decode cX4_keep 76 = .ok (.getfield 60, 3) := by decide +kernel
theorem dX4_keep_79 : decode cX4_keep 79 = .ok (.ifCond .ne 10, 3) := by decide +kernel
theorem dX4_keep_82 : decode cX4_keep 82 = .ok (.aload_n 0, 1) := by decide +kernel
theorem dX4_keep_83 : decode cX4_keep 83 = .ok (.getfield 132, 3) := by decide +kernel
theorem dX4_keep_86 : decode cX4_keep 86 = .ok (.goto 4, 3) := by decide +kernel
theorem dX4_keep_89 : decode cX4_keep 89 = .ok (.iconst 0, 1) := by decide +kernel
theorem dX4_keep_90 : decode cX4_keep 90 = .ok (.ireturn, 1) := by decide +kernel
set_option maxRecDepth 20000 in
theorem ggX4_drop_X4_isOpen : GoodIn wsX4_drop wsX4_isOpen := goodIn_r _ [7, 1, 8, 9, 10, 6, 11, 12, 13, 14, 15, 16, 17, 18, 19, 20, 21, 22, 23, 24, 25, 26, 27, 28, 29, 30, 31, 32, 33, 34, 35, 88, 89, 90, 91, 92, 93, 94, 95, 96, 97, 98, 99, 100, 101, 102, 103, 104, 105, 106] (by decide +kernel) (by decide +kernel)
set_option maxRecDepth 20000 in
theorem gX4_drop_X4_isOpen : GoodIn wsX4_drop (wsV RX4 144 RX4 yX4_isOpen wsX4_isOpen) := goodIn_app (goodIn_of _ (by decide +kernel)) ggX4_drop_X4_isOpen
set_option maxRecDepth 20000 in
theorem ggX4_drop_X4_layKept : GoodIn wsX4_drop wsX4_layKept := goodIn_r _ [39, 2, 40, 41, 42, 43, 6, 44, 28, 30, 29, 45, 46, 47, 48, 49, 50, 51, 52, 53, 54, 31, 32, 33, 34, 35, 55, 56, 57, 58, 59, 60, 61, 62, 63, 23, 24, 25, 26, 27, 64, 65, 66, 67, 68, 69, 70, 71, 72, 73, 74, 75, 76, 77, 78, 15, 16, 17, 88, 89, 90, 91, 92, 93, 94, 95, 96, 97, 98, 99, 100, 101, 102, 103, 104, 105, 106] (by decide +kernel) (by decide +kernel)
set_option maxRecDepth 20000 in
theorem gX4_drop_X4_layKept : GoodIn wsX4_drop (wsV RX4 151 RX4 yX4_layKept wsX4_layKept) := goodIn_app (goodIn_of _ (by decide +kernel)) ggX4_drop_X4_layKept
set_option maxRecDepth 20000 in
theorem ggX4_drop_X4_isFull : GoodIn wsX4_drop wsX4_isFull := goodIn_r _ [82, 28, 88, 89, 90, 91, 92, 93, 94, 95, 96, 97, 98, 99, 100, 101, 102, 103, 104, 105, 106] (by decide +kernel) (by decide +kernel)
set_option maxRecDepth 20000 in
theorem gX4_drop_X4_isFull : GoodIn wsX4_drop (wsV RX4 98 RX4 yX4_isFull wsX4_isFull) := goodIn_app (goodIn_of _ (by decide +kernel)) ggX4_drop_X4_isFull
set_option maxRecDepth 20000 in
theorem ggX4_drop_X4_write : GoodIn wsX4_drop wsX4_write := goodIn_r _ [86, 87, 30, 28, 50, 63, 29, 45, 35, 88, 89, 90, 91, 92, 93, 94, 95, 96, 97, 98, 99, 100, 101, 102, 103, 104, 105, 106] (by decide +kernel) (by decide +kernel)
set_option maxRecDepth 20000 in
theorem gX4_drop_X4_write : GoodIn wsX4_drop (wsV RX4 101 RX4 yX4_write wsX4_write) := goodIn_app (goodIn_of _ (by decide +kernel)) ggX4_drop_X4_write
theorem dX4_drop_0 : decode cX4_drop 0 = .ok (.aload_n 0, 1) := by decide +kernel
theorem dX4_drop_1 : decode cX4_drop 1 = .ok (.iload_n 1, 1) := by decide +kernel
theorem dX4_drop_2 : decode cX4_drop 2 = .ok (.iload_n 2, 1) := by decide +kernel
theorem dX4_drop_3 : decode cX4_drop 3 = .ok (.invokevirtual 144, 3) := by decide +kernel
theorem dX4_drop_6 : decode cX4_drop 6 = .ok (.ifCond .ne 5, 3) := by decide +kernel
theorem dX4_drop_9 : decode cX4_drop 9 = .ok (.iconst 0, 1) := by decide +kernel
theorem dX4_drop_10 : decode cX4_drop 10 = .ok (.ireturn, 1) := by decide +kernel
theorem dX4_drop_11 : decode cX4_drop 11 = .ok (.aload_n 0, 1) := by decide +kernel
theorem dX4_drop_12 : decode cX4_drop 12 = .ok (.iload_n 1, 1) := by decide +kernel
theorem dX4_drop_13 : decode cX4_drop 13 = .ok (.iload_n 2, 1) := by decide +kernel
theorem dX4_drop_14 : decode cX4_drop 14 = .ok (.invokevirtual 151, 3) := by decide +kernel
theorem dX4_drop_17 : decode cX4_drop 17 = .ok (.aload_n 0, 1) := by decide +kernel
theorem dX4_drop_18 : decode cX4_drop 18 = .ok (.aload_n 0, 1) := by decide +kernel
theorem dX4_drop_19 : decode cX4_drop 19 = .ok (.iconst 1, 1) := by decide +kernel
theorem dX4_drop_20 : decode cX4_drop 20 = .ok (.invokevirtual 98, 3) := by decide +kernel
theorem dX4_drop_23 : decode cX4_drop 23 = .ok (.ifCond .eq 7, 3) := by decide +kernel
theorem dX4_drop_26 : decode cX4_drop 26 = .ok (.iconst 2, 1) := by decide +kernel
theorem dX4_drop_27 : decode cX4_drop 27 = .ok (.goto 4, 3) := by decide +kernel
theorem dX4_drop_30 : decode cX4_drop 30 = .ok (.iconst 0, 1) := by decide +kernel
theorem dX4_drop_31 : decode cX4_drop 31 = .ok (.putfield 60, 3) := by decide +kernel
theorem dX4_drop_34 : decode cX4_drop 34 = .ok (.aload_n 0, 1) := by decide +kernel
theorem dX4_drop_35 : decode cX4_drop 35 = .ok (.getfield 60, 3) := by decide +kernel
theorem dX4_drop_38 : decode cX4_drop 38 = .ok (.ifCond .le 5, 3) := by decide +kernel
theorem dX4_drop_41 : decode cX4_drop 41 = .ok (.iconst 0, 1) := by decide +kernel
theorem dX4_drop_42 : decode cX4_drop 42 = .ok (.ireturn, 1) := by decide +kernel
theorem dX4_drop_43 : decode cX4_drop 43 = .ok (.aload_n 0, 1) := by decide +kernel
theorem dX4_drop_44 : decode cX4_drop 44 = .ok (.iload_n 1, 1) := by decide +kernel
theorem dX4_drop_45 : decode cX4_drop 45 = .ok (.iconst 5, 1) := by decide +kernel
theorem dX4_drop_46 : decode cX4_drop 46 = .ok (.iload_n 2, 1) := by decide +kernel
theorem dX4_drop_47 : decode cX4_drop 47 = .ok (.iconst (-1), 1) := by decide +kernel
theorem dX4_drop_48 : decode cX4_drop 48 = .ok (.invokevirtual 101, 3) := by decide +kernel
theorem dX4_drop_51 : decode cX4_drop 51 = .ok (.istore_n 3, 1) := by decide +kernel
theorem dX4_drop_52 : decode cX4_drop 52 = .ok (.aload_n 0, 1) := by decide +kernel
theorem dX4_drop_53 : decode cX4_drop 53 = .ok (.getfield 132, 3) := by decide +kernel
theorem dX4_drop_56 : decode cX4_drop 56 = .ok (.ireturn, 1) := by decide +kernel
set_option maxRecDepth 20000 in
theorem ggX4_bake_X4_isOpen : GoodIn wsX4_bake wsX4_isOpen := goodIn_r _ [8, 2, 9, 10, 11, 7, 12, 13, 14, 15, 16, 17, 18, 19, 20, 21, 22, 23, 24, 25, 26, 27, 28, 29, 30, 31, 32, 33, 34, 35, 36, 98, 99, 100, 101, 102, 103, 104, 105, 106, 107, 108, 109, 110, 111, 112, 113, 114, 115, 116] (by decide +kernel) (by decide +kernel)
set_option maxRecDepth 20000 in
theorem gX4_bake_X4_isOpen : GoodIn wsX4_bake (wsV RX4 144 RX4 yX4_isOpen wsX4_isOpen) := goodIn_app (goodIn_of _ (by decide +kernel)) ggX4_bake_X4_isOpen
set_option maxRecDepth 20000 in
theorem ggX4_bake_X4_lackOf : GoodIn wsX4_bake wsX4_lackOf := goodIn_r _ [40, 41, 42, 43, 44, 45, 7, 46, 47, 48, 49, 50, 29, 31, 30, 51, 52, 53, 54, 55, 56, 57, 58, 59, 60, 32, 33, 34, 35, 36, 61, 62, 63, 64, 65, 66, 67, 68, 69, 24, 25, 26, 27, 28, 70, 71, 72, 73, 74, 75, 76, 77, 78, 79, 80, 81, 82, 83, 84, 16, 17, 18, 98, 99, 100, 101, 102, 103, 104, 105, 106, 107, 108, 109, 110, 111, 112, 113, 114, 115, 116] (by decide +kernel) (by decide +kernel)
set_option maxRecDepth 20000 in
theorem gX4_bake_X4_lackOf : GoodIn wsX4_bake (wsV RX4 135 RX4 yX4_lackOf wsX4_lackOf) := goodIn_app (goodIn_of _ (by decide +kernel)) ggX4_bake_X4_lackOf
set_option maxRecDepth 20000 in
theorem ggX4_bake_X4_layKept : GoodIn wsX4_bake wsX4_layKept := goodIn_r _ [88, 1, 3, 47, 48, 49, 7, 50, 29, 31, 30, 51, 52, 53, 54, 55, 56, 57, 58, 59, 60, 32, 33, 34, 35, 36, 61, 62, 63, 64, 65, 66, 67, 68, 69, 24, 25, 26, 27, 28, 70, 71, 72, 73, 74, 75, 76, 77, 78, 79, 80, 81, 82, 83, 84, 16, 17, 18, 98, 99, 100, 101, 102, 103, 104, 105, 106, 107, 108, 109, 110, 111, 112, 113, 114, 115, 116] (by decide +kernel) (by decide +kernel)
set_option maxRecDepth 20000 in
theorem gX4_bake_X4_layKept : GoodIn wsX4_bake (wsV RX4 151 RX4 yX4_layKept wsX4_layKept) := goodIn_app (goodIn_of _ (by decide +kernel)) ggX4_bake_X4_layKept
set_option maxRecDepth 20000 in
theorem ggX4_bake_X4_isFull : GoodIn wsX4_bake wsX4_isFull := goodIn_r _ [92, 29, 98, 99, 100, 101, 102, 103, 104, 105, 106, 107, 108, 109, 110, 111, 112, 113, 114, 115, 116] (by decide +kernel) (by decide +kernel)
set_option maxRecDepth 20000 in
theorem gX4_bake_X4_isFull : GoodIn wsX4_bake (wsV RX4 98 RX4 yX4_isFull wsX4_isFull) := goodIn_app (goodIn_of _ (by decide +kernel)) ggX4_bake_X4_isFull
set_option maxRecDepth 20000 in
theorem ggX4_bake_X4_write : GoodIn wsX4_bake wsX4_write := goodIn_r _ [96, 97, 31, 29, 56, 69, 30, 51, 36, 98, 99, 100, 101, 102, 103, 104, 105, 106, 107, 108, 109, 110, 111, 112, 113, 114, 115, 116] (by decide +kernel) (by decide +kernel)
set_option maxRecDepth 20000 in
theorem gX4_bake_X4_write : GoodIn wsX4_bake (wsV RX4 101 RX4 yX4_write wsX4_write) := goodIn_app (goodIn_of _ (by decide +kernel)) ggX4_bake_X4_write
theorem dX4_bake_0 : decode cX4_bake 0 = .ok (.aload_n 0, 1) := by decide +kernel
theorem dX4_bake_1 : decode cX4_bake 1 = .ok (.iload_n 1, 1) := by decide +kernel
theorem dX4_bake_2 : decode cX4_bake 2 = .ok (.iload_n 2, 1) := by decide +kernel
theorem dX4_bake_3 : decode cX4_bake 3 = .ok (.invokevirtual 144, 3) := by decide +kernel
theorem dX4_bake_6 : decode cX4_bake 6 = .ok (.ifCond .ne 5, 3) := by decide +kernel
theorem dX4_bake_9 : decode cX4_bake 9 = .ok (.iconst 0, 1) := by decide +kernel
theorem dX4_bake_10 : decode cX4_bake 10 = .ok (.ireturn, 1) := by decide +kernel
theorem dX4_bake_11 : decode cX4_bake 11 = .ok (.iconst 0, 1) := by decide +kernel
theorem dX4_bake_12 : decode cX4_bake 12 = .ok (.istore_n 3, 1) := by decide +kernel
theorem dX4_bake_13 : decode cX4_bake 13 = .ok (.iconst 0, 1) := by decide +kernel
theorem dX4_bake_14 : decode cX4_bake 14 = .ok (.istore 4, 2) := by decide +kernel
theorem dX4_bake_16 : decode cX4_bake 16 = .ok (.iload 4, 2) := by decide +kernel
theorem dX4_bake_18 : decode cX4_bake 18 = .ok (.bipush 8, 2) := by decide +kernel
theorem dX4_bake_20 : decode cX4_bake 20 = .ok (.if_icmp .ge 20, 3) := by decide +kernel
theorem dX4_bake_23 : decode cX4_bake 23 = .ok (.iload_n 3, 1) := by decide +kernel
theorem dX4_bake_24 : decode cX4_bake 24 = .ok (.aload_n 0, 1) := by decide +kernel
theorem dX4_bake_25 : decode cX4_bake 25 = .ok (.iload_n 1, 1) := by decide +kernel
theorem dX4_bake_26 : decode cX4_bake 26 = .ok (.iload_n 2, 1) := by decide +kernel
theorem dX4_bake_27 : decode cX4_bake 27 = .ok (.iload 4, 2) := by decide +kernel
theorem dX4_bake_29 : decode cX4_bake 29 = .ok (.invokevirtual 135, 3) := by decide +kernel
theorem dX4_bake_32 : decode cX4_bake 32 = .ok (.iadd, 1) := by decide +kernel
theorem dX4_bake_33 : decode cX4_bake 33 = .ok (.istore_n 3, 1) := by decide +kernel
theorem dX4_bake_34 : decode cX4_bake 34 = .ok (.iinc 4 1, 3) := by decide +kernel
theorem dX4_bake_37 : decode cX4_bake 37 = .ok (.goto (-21), 3) := by decide +kernel
theorem dX4_bake_40 : decode cX4_bake 40 = .ok (.aload_n 0, 1) := by decide +kernel
theorem dX4_bake_41 : decode cX4_bake 41 = .ok (.iload_n 1, 1) := by decide +kernel
theorem dX4_bake_42 : decode cX4_bake 42 = .ok (.iload_n 2, 1) := by decide +kernel
theorem dX4_bake_43 : decode cX4_bake 43 = .ok (.invokevirtual 151, 3) := by decide +kernel
theorem dX4_bake_46 : decode cX4_bake 46 = .ok (.aload_n 0, 1) := by decide +kernel
theorem dX4_bake_47 : decode cX4_bake 47 = .ok (.iload_n 3, 1) := by decide +kernel
theorem dX4_bake_48 : decode cX4_bake 48 = .ok (.ifCond .gt 16, 3) := by decide +kernel
theorem dX4_bake_51 : decode cX4_bake 51 = .ok (.aload_n 0, 1) := by decide +kernel
theorem dX4_bake_52 : decode cX4_bake 52 = .ok (.aload_n 0, 1) := by decide +kernel
theorem dX4_bake_53 : decode cX4_bake 53 = .ok (.getfield 132, 3) := by decide +kernel
theorem dX4_bake_56 : decode cX4_bake 56 = .ok (.iconst 1, 1) := by decide +kernel
theorem dX4_bake_57 : decode cX4_bake 57 = .ok (.iadd, 1) := by decide +kernel
theorem dX4_bake_58 : decode cX4_bake 58 = .ok (.invokevirtual 98, 3) := by decide +kernel
theorem dX4_bake_61 : decode cX4_bake 61 = .ok (.ifCond .eq 7, 3) := by decide +kernel
theorem dX4_bake_64 : decode cX4_bake 64 = .ok (.iconst 2, 1) := by decide +kernel
theorem dX4_bake_65 : decode cX4_bake 65 = .ok (.goto 4, 3) := by decide +kernel
theorem dX4_bake_68 : decode cX4_bake 68 = .ok (.iconst 0, 1) := by decide +kernel
theorem dX4_bake_69 : decode cX4_bake 69 = .ok (.putfield 60, 3) := by decide +kernel
theorem dX4_bake_72 : decode cX4_bake 72 = .ok (.aload_n 0, 1) := by decide +kernel
theorem dX4_bake_73 : decode cX4_bake 73 = .ok (.getfield 60, 3) := by decide +kernel
theorem dX4_bake_76 : decode cX4_bake 76 = .ok (.ifCond .le 5, 3) := by decide +kernel
theorem dX4_bake_79 : decode cX4_bake 79 = .ok (.iconst 0, 1) := by decide +kernel
theorem dX4_bake_80 : decode cX4_bake 80 = .ok (.ireturn, 1) := by decide +kernel
theorem dX4_bake_81 : decode cX4_bake 81 = .ok (.iconst 0, 1) := by decide +kernel
theorem dX4_bake_82 : decode cX4_bake 82 = .ok (.istore 4, 2) := by decide +kernel
theorem dX4_bake_84 : decode cX4_bake 84 = .ok (.iload 4, 2) := by decide +kernel
theorem dX4_bake_86 : decode cX4_bake 86 = .ok (.aload_n 0, 1) := by decide +kernel
theorem dX4_bake_87 : decode cX4_bake 87 = .ok (.getfield 132, 3) := by decide +kernel
theorem dX4_bake_90 : decode cX4_bake 90 = .ok (.if_icmp .ge 25, 3) := by decide +kernel
theorem dX4_bake_93 : decode cX4_bake 93 = .ok (.aload_n 0, 1) := by decide +kernel
theorem dX4_bake_94 : decode cX4_bake 94 = .ok (.iload_n 1, 1) := by decide +kernel
theorem dX4_bake_95 : decode cX4_bake 95 = .ok (.iconst 1, 1) := by decide +kernel
theorem dX4_bake_96 : decode cX4_bake 96 = .ok (.aload_n 0, 1) := by decide +kernel
theorem dX4_bake_97 : decode cX4_bake 97 = .ok (.getfield 53, 3) := by decide +kernel
theorem dX4_bake_100 : decode cX4_bake 100 = .ok (.iload 4, 2) := by decide +kernel
theorem dX4_bake_102 : decode cX4_bake 102 = .ok (.iaload, 1) := by decide +kernel
theorem dX4_bake_103 : decode cX4_bake 103 = .ok (.iload_n 2, 1) := by decide +kernel
theorem dX4_bake_104 : decode cX4_bake 104 = .ok (.invokevirtual 101, 3) := by decide +kernel
theorem dX4_bake_107 : decode cX4_bake 107 = .ok (.istore 5, 2) := by decide +kernel
theorem dX4_bake_109 : decode cX4_bake 109 = .ok (.iinc 4 1, 3) := by decide +kernel
theorem dX4_bake_112 : decode cX4_bake 112 = .ok (.goto (-28), 3) := by decide +kernel
theorem dX4_bake_115 : decode cX4_bake 115 = .ok (.aload_n 0, 1) := by decide +kernel
theorem dX4_bake_116 : decode cX4_bake 116 = .ok (.iload_n 1, 1) := by decide +kernel
theorem dX4_bake_117 : decode cX4_bake 117 = .ok (.bipush 6, 2) := by decide +kernel
theorem dX4_bake_119 : decode cX4_bake 119 = .ok (.iload_n 2, 1) := by decide +kernel
theorem dX4_bake_120 : decode cX4_bake 120 = .ok (.iconst (-1), 1) := by decide +kernel
theorem dX4_bake_121 : decode cX4_bake 121 = .ok (.invokevirtual 101, 3) := by decide +kernel
theorem dX4_bake_124 : decode cX4_bake 124 = .ok (.istore 4, 2) := by decide +kernel
theorem dX4_bake_126 : decode cX4_bake 126 = .ok (.aload_n 0, 1) := by decide +kernel
theorem dX4_bake_127 : decode cX4_bake 127 = .ok (.getfield 132, 3) := by decide +kernel
theorem dX4_bake_130 : decode cX4_bake 130 = .ok (.ireturn, 1) := by decide +kernel
theorem dX4_cakes_0 : decode cX4_cakes 0 = .ok (.aload_n 0, 1) := by decide +kernel
theorem dX4_cakes_1 : decode cX4_cakes 1 = .ok (.iconst 0, 1) := by decide +kernel
theorem dX4_cakes_2 : decode cX4_cakes 2 = .ok (.putfield 60, 3) := by decide +kernel
theorem dX4_cakes_5 : decode cX4_cakes 5 = .ok (.aload_n 0, 1) := by decide +kernel
theorem dX4_cakes_6 : decode cX4_cakes 6 = .ok (.getfield 67, 3) := by decide +kernel
theorem dX4_cakes_9 : decode cX4_cakes 9 = .ok (.ireturn, 1) := by decide +kernel
set_option maxRecDepth 20000 in
theorem ggX4_cake_X4_areCake : GoodIn wsX4_cake wsX4_areCake := goodIn_r _ [5, 6, 7, 8, 4, 9, 10, 11, 12, 13, 14, 15, 16, 17, 31, 32, 33, 34, 35, 36, 37, 38, 39, 40, 41, 42, 43, 44, 45, 46, 47, 48, 49] (by decide +kernel) (by decide +kernel)
set_option maxRecDepth 20000 in
theorem gX4_cake_X4_areCake : GoodIn wsX4_cake (wsV RX4 141 RX4 yX4_areCake wsX4_areCake) := goodIn_app (goodIn_of _ (by decide +kernel)) ggX4_cake_X4_areCake
set_option maxRecDepth 20000 in
theorem ggX4_cake_X4_stateOf : GoodIn wsX4_cake wsX4_stateOf := goodIn_r _ [21, 22, 23, 24, 25, 26, 27, 28, 4, 29, 30, 31, 32, 33, 34, 35, 36, 37, 38, 39, 40, 41, 42, 43, 44, 45, 46, 47, 48, 49] (by decide +kernel) (by decide +kernel)
set_option maxRecDepth 20000 in
theorem gX4_cake_X4_stateOf : GoodIn wsX4_cake (wsV RX4 120 RX4 yX4_stateOf wsX4_stateOf) := goodIn_app (goodIn_of _ (by decide +kernel)) ggX4_cake_X4_stateOf
theorem dX4_cake_0 : decode cX4_cake 0 = .ok (.aload_n 0, 1) := by decide +kernel
theorem dX4_cake_1 : decode cX4_cake 1 = .ok (.iload_n 1, 1) := by decide +kernel
theorem dX4_cake_2 : decode cX4_cake 2 = .ok (.iload_n 2, 1) := by decide +kernel
theorem dX4_cake_3 : decode cX4_cake 3 = .ok (.invokevirtual 141, 3) := by decide +kernel
theorem dX4_cake_6 : decode cX4_cake 6 = .ok (.ifCond .eq 12, 3) := by decide +kernel
theorem dX4_cake_9 : decode cX4_cake 9 = .ok (.aload_n 0, 1) := by decide +kernel
theorem dX4_cake_10 : decode cX4_cake 10 = .ok (.iload_n 1, 1) := by decide +kernel
theorem dX4_cake_11 : decode cX4_cake 11 = .ok (.iload_n 2, 1) := by decide +kernel
theorem dX4_cake_12 : decode cX4_cake 12 = .ok (.invokevirtual 120, 3) := by decide +kernel
theorem dX4_cake_15 : decode cX4_cake 15 = .ok (.goto 4, 3) := by decide +kernel
theorem dX4_cake_18 : decode cX4_cake 18 = .ok (.iconst 0, 1) := by decide +kernel
theorem dX4_cake_19 : decode cX4_cake 19 = .ok (.ireturn, 1) := by decide +kernel
set_option maxRecDepth 20000 in
theorem ggX4_keptFor_X4_areOne : GoodIn wsX4_keptFor wsX4_areOne := goodIn_r _ [5, 6, 7, 8, 4, 9, 10, 11, 12, 13, 14, 15, 67, 68, 69, 70, 71, 72, 73, 74, 75, 76, 77, 78, 79, 80, 81, 82, 83, 84, 85] (by decide +kernel) (by decide +kernel)
set_option maxRecDepth 20000 in
theorem gX4_keptFor_X4_areOne : GoodIn wsX4_keptFor (wsV RX4 91 RX4 yX4_areOne wsX4_areOne) := goodIn_app (goodIn_of _ (by decide +kernel)) ggX4_keptFor_X4_areOne
set_option maxRecDepth 20000 in
theorem ggX4_keptFor_X4_keeper : GoodIn wsX4_keptFor wsX4_keeper := goodIn_r _ [19, 20, 21, 22, 23, 24, 25, 26, 4, 27, 28, 29, 30, 31, 32, 33, 34, 35, 36, 37, 38, 39, 40, 41, 42, 43, 44, 45, 46, 47, 48, 49, 50, 51, 52, 53, 54, 55, 56, 57, 58, 59, 60, 61, 62, 63, 64, 65, 66, 10, 11, 12, 67, 68, 69, 70, 71, 72, 73, 74, 75, 76, 77, 78, 79, 80, 81, 82, 83, 84, 85] (by decide +kernel) (by decide +kernel)
set_option maxRecDepth 20000 in
theorem gX4_keptFor_X4_keeper : GoodIn wsX4_keptFor (wsV RX4 126 RX4 yX4_keeper wsX4_keeper) := goodIn_app (goodIn_of _ (by decide +kernel)) ggX4_keptFor_X4_keeper
theorem dX4_keptFor_0 : decode cX4_keptFor 0 = .ok (.aload_n 0, 1) := by decide +kernel
theorem dX4_keptFor_1 : decode cX4_keptFor 1 = .ok (.iload_n 1, 1) := by decide +kernel
theorem dX4_keptFor_2 : decode cX4_keptFor 2 = .ok (.iload_n 2, 1) := by decide +kernel
theorem dX4_keptFor_3 : decode cX4_keptFor 3 = .ok (.invokevirtual 91, 3) := by decide +kernel
theorem dX4_keptFor_6 : decode cX4_keptFor 6 = .ok (.ifCond .eq 12, 3) := by decide +kernel
theorem dX4_keptFor_9 : decode cX4_keptFor 9 = .ok (.aload_n 0, 1) := by decide +kernel
theorem dX4_keptFor_10 : decode cX4_keptFor 10 = .ok (.iload_n 1, 1) := by decide +kernel
theorem dX4_keptFor_11 : decode cX4_keptFor 11 = .ok (.iload_n 2, 1) := by decide +kernel
theorem dX4_keptFor_12 : decode cX4_keptFor 12 = .ok (.invokevirtual 126, 3) := by decide +kernel
theorem dX4_keptFor_15 : decode cX4_keptFor 15 = .ok (.goto 4, 3) := by decide +kernel
theorem dX4_keptFor_18 : decode cX4_keptFor 18 = .ok (.iconst 0, 1) := by decide +kernel
theorem dX4_keptFor_19 : decode cX4_keptFor 19 = .ok (.ireturn, 1) := by decide +kernel
set_option maxRecDepth 20000 in
theorem ggX4_keptByAll_X4_isThing : GoodIn wsX4_keptByAll wsX4_isThing := goodIn_r _ [5, 6, 7, 4, 8] (by decide +kernel) (by decide +kernel)
set_option maxRecDepth 20000 in
theorem gX4_keptByAll_X4_isThing : GoodIn wsX4_keptByAll (va_wsS RX4 88 yX4_isThing wsX4_isThing) := goodIn_app (goodIn_of _ (by decide +kernel)) ggX4_keptByAll_X4_isThing
set_option maxRecDepth 20000 in
theorem ggX4_keptByAll_X4_keeper : GoodIn wsX4_keptByAll wsX4_keeper := goodIn_r _ [12, 13, 14, 15, 16, 17, 18, 19, 4, 20, 21, 22, 23, 24, 25, 26, 27, 28, 29, 30, 31, 32, 33, 34, 35, 36, 37, 38, 39, 40, 41, 42, 43, 44, 45, 46, 47, 48, 49, 50, 51, 52, 53, 54, 55, 56, 57, 58, 59, 6, 7, 8, 60, 61, 62, 63, 64, 65, 66, 67, 68, 69, 70, 71, 72, 73, 74, 75, 76, 77, 78] (by decide +kernel) (by decide +kernel)
set_option maxRecDepth 20000 in
theorem gX4_keptByAll_X4_keeper : GoodIn wsX4_keptByAll (wsV RX4 126 RX4 yX4_keeper wsX4_keeper) := goodIn_app (goodIn_of _ (by decide +kernel)) ggX4_keptByAll_X4_keeper
theorem dX4_keptByAll_0 : decode cX4_keptByAll 0 = .ok (.aload_n 0, 1) := by decide +kernel
theorem dX4_keptByAll_1 : decode cX4_keptByAll 1 = .ok (.iload_n 1, 1) := by decide +kernel
theorem dX4_keptByAll_2 : decode cX4_keptByAll 2 = .ok (.invokestatic 88, 3) := by decide +kernel
theorem dX4_keptByAll_5 : decode cX4_keptByAll 5 = .ok (.ifCond .eq 7, 3) := by decide +kernel
theorem dX4_keptByAll_8 : decode cX4_keptByAll 8 = .ok (.iconst 0, 1) := by decide +kernel
theorem dX4_keptByAll_9 : decode cX4_keptByAll 9 = .ok (.goto 4, 3) := by decide +kernel
theorem dX4_keptByAll_12 : decode cX4_keptByAll 12 = .ok (.iconst 1, 1) := by decide +kernel
theorem dX4_keptByAll_13 : decode cX4_keptByAll 13 = .ok (.putfield 60, 3) := by decide +kernel
theorem dX4_keptByAll_16 : decode cX4_keptByAll 16 = .ok (.aload_n 0, 1) := by decide +kernel
theorem dX4_keptByAll_17 : decode cX4_keptByAll 17 = .ok (.getfield 60, 3) := by decide +kernel
theorem dX4_keptByAll_20 : decode cX4_keptByAll 20 = .ok (.ifCond .ne 12, 3) := by decide +kernel
theorem dX4_keptByAll_23 : decode cX4_keptByAll 23 = .ok (.aload_n 0, 1) := by decide +kernel
theorem dX4_keptByAll_24 : decode cX4_keptByAll 24 = .ok (.iconst 5, 1) := by decide +kernel
theorem dX4_keptByAll_25 : decode cX4_keptByAll 25 = .ok (.iload_n 1, 1) := by decide +kernel
theorem dX4_keptByAll_26 : decode cX4_keptByAll 26 = .ok (.invokevirtual 126, 3) := by decide +kernel
theorem dX4_keptByAll_29 : decode cX4_keptByAll 29 = .ok (.goto 4, 3) := by decide +kernel
theorem dX4_keptByAll_32 : decode cX4_keptByAll 32 = .ok (.iconst 0, 1) := by decide +kernel
theorem dX4_keptByAll_33 : decode cX4_keptByAll 33 = .ok (.ireturn, 1) := by decide +kernel
set_option maxRecDepth 20000 in
theorem ggX4_lacks_X4_isFridge : GoodIn wsX4_lacks wsX4_isFridge := goodIn_r _ [5, 6, 7, 4, 8] (by decide +kernel) (by decide +kernel)
set_option maxRecDepth 20000 in
theorem gX4_lacks_X4_isFridge : GoodIn wsX4_lacks (va_wsS RX4 84 yX4_isFridge wsX4_isFridge) := goodIn_app (goodIn_of _ (by decide +kernel)) ggX4_lacks_X4_isFridge
set_option maxRecDepth 20000 in
theorem ggX4_lacks_X4_isCake : GoodIn wsX4_lacks wsX4_isCake := goodIn_r _ [12, 13, 6, 7, 4, 8, 78, 79, 80, 81, 82, 83, 84, 85, 86, 87, 88, 89, 90, 91, 92, 93, 94, 95, 96] (by decide +kernel) (by decide +kernel)
set_option maxRecDepth 20000 in
theorem gX4_lacks_X4_isCake : GoodIn wsX4_lacks (wsV RX4 138 RX4 yX4_isCake wsX4_isCake) := goodIn_app (goodIn_of _ (by decide +kernel)) ggX4_lacks_X4_isCake
set_option maxRecDepth 20000 in
theorem ggX4_lacks_X4_isFood : GoodIn wsX4_lacks wsX4_isFood := goodIn_r _ [16, 6, 7, 4, 8] (by decide +kernel) (by decide +kernel)
set_option maxRecDepth 20000 in
theorem gX4_lacks_X4_isFood : GoodIn wsX4_lacks (va_wsS RX4 105 yX4_isFood wsX4_isFood) := goodIn_app (goodIn_of _ (by decide +kernel)) ggX4_lacks_X4_isFood
set_option maxRecDepth 20000 in
theorem ggX4_lacks_X4_stateOf : GoodIn wsX4_lacks wsX4_stateOf := goodIn_r _ [20, 21, 22, 23, 24, 25, 26, 27, 4, 28, 29, 78, 79, 80, 81, 82, 83, 84, 85, 86, 87, 88, 89, 90, 91, 92, 93, 94, 95, 96] (by decide +kernel) (by decide +kernel)
set_option maxRecDepth 20000 in
theorem gX4_lacks_X4_stateOf : GoodIn wsX4_lacks (wsV RX4 120 RX4 yX4_stateOf wsX4_stateOf) := goodIn_app (goodIn_of _ (by decide +kernel)) ggX4_lacks_X4_stateOf
set_option maxRecDepth 20000 in
theorem ggX4_lacks_X4_lackOf : GoodIn wsX4_lacks wsX4_lackOf := goodIn_r _ [33, 34, 35, 36, 37, 38, 4, 39, 40, 41, 42, 43, 22, 24, 23, 44, 45, 46, 47, 48, 49, 50, 51, 52, 53, 25, 26, 27, 28, 29, 54, 55, 56, 57, 58, 59, 60, 61, 62, 17, 18, 19, 20, 21, 63, 64, 65, 66, 67, 68, 69, 70, 71, 72, 73, 74, 75, 76, 77, 6, 7, 8, 78, 79, 80, 81, 82, 83, 84, 85, 86, 87, 88, 89, 90, 91, 92, 93, 94, 95, 96] (by decide +kernel) (by decide +kernel)
set_option maxRecDepth 20000 in
theorem gX4_lacks_X4_lackOf : GoodIn wsX4_lacks (wsV RX4 135 RX4 yX4_lackOf wsX4_lackOf) := goodIn_app (goodIn_of _ (by decide +kernel)) ggX4_lacks_X4_lackOf
theorem dX4_lacks_0 : decode cX4_lacks 0 = .ok (.aload_n 0, 1) := by decide +kernel
theorem dX4_lacks_1 : decode cX4_lacks 1 = .ok (.iload_n 1, 1) := by decide +kernel
theorem dX4_lacks_2 : decode cX4_lacks 2 = .ok (.invokestatic 84, 3) := by decide +kernel
theorem dX4_lacks_5 : decode cX4_lacks 5 = .ok (.ifCond .eq 22, 3) := by decide +kernel
theorem dX4_lacks_8 : decode cX4_lacks 8 = .ok (.aload_n 0, 1) := by decide +kernel
theorem dX4_lacks_9 : decode cX4_lacks 9 = .ok (.iload_n 2, 1) := by decide +kernel
theorem dX4_lacks_10 : decode cX4_lacks 10 = .ok (.invokevirtual 138, 3) := by decide +kernel
theorem dX4_lacks_13 : decode cX4_lacks 13 = .ok (.ifCond .eq 14, 3) := by decide +kernel
theorem dX4_lacks_16 : decode cX4_lacks 16 = .ok (.iload_n 3, 1) := by decide +kernel
theorem dX4_lacks_17 : decode cX4_lacks 17 = .ok (.invokestatic 105, 3) := by decide +kernel
theorem dX4_lacks_20 : decode cX4_lacks 20 = .ok (.ifCond .eq 7, 3) := by decide +kernel
theorem dX4_lacks_23 : decode cX4_lacks 23 = .ok (.iconst 0, 1) := by decide +kernel
theorem dX4_lacks_24 : decode cX4_lacks 24 = .ok (.goto 4, 3) := by decide +kernel
theorem dX4_lacks_27 : decode cX4_lacks 27 = .ok (.iconst 1, 1) := by decide +kernel
theorem dX4_lacks_28 : decode cX4_lacks 28 = .ok (.putfield 60, 3) := by decide +kernel
theorem dX4_lacks_31 : decode cX4_lacks 31 = .ok (.aload_n 0, 1) := by decide +kernel
theorem dX4_lacks_32 : decode cX4_lacks 32 = .ok (.getfield 60, 3) := by decide +kernel
theorem dX4_lacks_35 : decode cX4_lacks 35 = .ok (.ifCond .ne 23, 3) := by decide +kernel
theorem dX4_lacks_38 : decode cX4_lacks 38 = .ok (.aload_n 0, 1) := by decide +kernel
theorem dX4_lacks_39 : decode cX4_lacks 39 = .ok (.iload_n 1, 1) := by decide +kernel
theorem dX4_lacks_40 : decode cX4_lacks 40 = .ok (.iload_n 2, 1) := by decide +kernel
theorem dX4_lacks_41 : decode cX4_lacks 41 = .ok (.invokevirtual 120, 3) := by decide +kernel
theorem dX4_lacks_44 : decode cX4_lacks 44 = .ok (.iconst 1, 1) := by decide +kernel
theorem dX4_lacks_45 : decode cX4_lacks 45 = .ok (.if_icmp .ne 13, 3) := by decide +kernel
theorem dX4_lacks_48 : decode cX4_lacks 48 = .ok (.aload_n 0, 1) := by decide +kernel
theorem dX4_lacks_49 : decode cX4_lacks 49 = .ok (.iload_n 1, 1) := by decide +kernel
theorem dX4_lacks_50 : decode cX4_lacks 50 = .ok (.iload_n 2, 1) := by decide +kernel
theorem dX4_lacks_51 : decode cX4_lacks 51 = .ok (.iload_n 3, 1) := by decide +kernel
theorem dX4_lacks_52 : decode cX4_lacks 52 = .ok (.invokevirtual 135, 3) := by decide +kernel
theorem dX4_lacks_55 : decode cX4_lacks 55 = .ok (.goto 4, 3) := by decide +kernel
theorem dX4_lacks_58 : decode cX4_lacks 58 = .ok (.iconst 0, 1) := by decide +kernel
theorem dX4_lacks_59 : decode cX4_lacks 59 = .ok (.ireturn, 1) := by decide +kernel
set_option maxRecDepth 20000 in
theorem ggX4_isUnfit_X4_areCake : GoodIn wsX4_isUnfit wsX4_areCake := goodIn_r _ [7, 8, 9, 10, 6, 11, 12, 13, 14, 15, 16, 17, 18, 19, 51, 52, 53, 54, 55, 56, 57, 58, 59, 60, 61, 62, 63, 64, 65, 66, 67, 68, 69] (by decide +kernel) (by decide +kernel)
set_option maxRecDepth 20000 in
theorem gX4_isUnfit_X4_areCake : GoodIn wsX4_isUnfit (wsV RX4 141 RX4 yX4_areCake wsX4_areCake) := goodIn_app (goodIn_of _ (by decide +kernel)) ggX4_isUnfit_X4_areCake
set_option maxRecDepth 20000 in
theorem ggX4_isUnfit_X4_stateOf : GoodIn wsX4_isUnfit wsX4_stateOf := goodIn_r _ [23, 24, 25, 26, 27, 28, 29, 30, 6, 31, 32, 51, 52, 53, 54, 55, 56, 57, 58, 59, 60, 61, 62, 63, 64, 65, 66, 67, 68, 69] (by decide +kernel) (by decide +kernel)
set_option maxRecDepth 20000 in
theorem gX4_isUnfit_X4_stateOf : GoodIn wsX4_isUnfit (wsV RX4 120 RX4 yX4_stateOf wsX4_stateOf) := goodIn_app (goodIn_of _ (by decide +kernel)) ggX4_isUnfit_X4_stateOf
set_option maxRecDepth 20000 in
theorem ggX4_isUnfit_X4_isDisliked : GoodIn wsX4_isUnfit wsX4_isDisliked := goodIn_r _ [36, 37, 38, 39, 40, 41, 6, 42, 25, 27, 26, 43, 44, 28, 29, 30, 31, 32, 45, 46, 47, 48, 49, 50, 12, 13, 14, 51, 52, 53, 54, 55, 56, 57, 58, 59, 60, 61, 62, 63, 64, 65, 66, 67, 68, 69] (by decide +kernel) (by decide +kernel)
set_option maxRecDepth 20000 in
theorem gX4_isUnfit_X4_isDisliked : GoodIn wsX4_isUnfit (wsV RX4 114 RX4 yX4_isDisliked wsX4_isDisliked) := goodIn_app (goodIn_of _ (by decide +kernel)) ggX4_isUnfit_X4_isDisliked
theorem dX4_isUnfit_0 : decode cX4_isUnfit 0 = .ok (.aload_n 0, 1) := by decide +kernel
theorem dX4_isUnfit_1 : decode cX4_isUnfit 1 = .ok (.iload_n 1, 1) := by decide +kernel
theorem dX4_isUnfit_2 : decode cX4_isUnfit 2 = .ok (.iload_n 2, 1) := by decide +kernel
theorem dX4_isUnfit_3 : decode cX4_isUnfit 3 = .ok (.invokevirtual 141, 3) := by decide +kernel
theorem dX4_isUnfit_6 : decode cX4_isUnfit 6 = .ok (.ifCond .eq 37, 3) := by decide +kernel
theorem dX4_isUnfit_9 : decode cX4_isUnfit 9 = .ok (.aload_n 0, 1) := by decide +kernel
theorem dX4_isUnfit_10 : decode cX4_isUnfit 10 = .ok (.iload_n 1, 1) := by decide +kernel
theorem dX4_isUnfit_11 : decode cX4_isUnfit 11 = .ok (.iload_n 2, 1) := by decide +kernel
theorem dX4_isUnfit_12 : decode cX4_isUnfit 12 = .ok (.invokevirtual 120, 3) := by decide +kernel
theorem dX4_isUnfit_15 : decode cX4_isUnfit 15 = .ok (.iconst 1, 1) := by decide +kernel
theorem dX4_isUnfit_16 : decode cX4_isUnfit 16 = .ok (.if_icmp .ne 27, 3) := by decide +kernel
theorem dX4_isUnfit_19 : decode cX4_isUnfit 19 = .ok (.aload_n 0, 1) := by decide +kernel
theorem dX4_isUnfit_20 : decode cX4_isUnfit 20 = .ok (.iload_n 1, 1) := by decide +kernel
theorem dX4_isUnfit_21 : decode cX4_isUnfit 21 = .ok (.aload_n 0, 1) := by decide +kernel
theorem dX4_isUnfit_22 : decode cX4_isUnfit 22 = .ok (.getfield 44, 3) := by decide +kernel
theorem dX4_isUnfit_25 : decode cX4_isUnfit 25 = .ok (.iload_n 2, 1) := by decide +kernel
theorem dX4_isUnfit_26 : decode cX4_isUnfit 26 = .ok (.iaload, 1) := by decide +kernel
theorem dX4_isUnfit_27 : decode cX4_isUnfit 27 = .ok (.aload_n 0, 1) := by decide +kernel
theorem dX4_isUnfit_28 : decode cX4_isUnfit 28 = .ok (.getfield 47, 3) := by decide +kernel
theorem dX4_isUnfit_31 : decode cX4_isUnfit 31 = .ok (.iload_n 2, 1) := by decide +kernel
theorem dX4_isUnfit_32 : decode cX4_isUnfit 32 = .ok (.iaload, 1) := by decide +kernel
theorem dX4_isUnfit_33 : decode cX4_isUnfit 33 = .ok (.invokevirtual 114, 3) := by decide +kernel
theorem dX4_isUnfit_36 : decode cX4_isUnfit 36 = .ok (.ifCond .eq 7, 3) := by decide +kernel
theorem dX4_isUnfit_39 : decode cX4_isUnfit 39 = .ok (.iconst 1, 1) := by decide +kernel
theorem dX4_isUnfit_40 : decode cX4_isUnfit 40 = .ok (.goto 4, 3) := by decide +kernel
theorem dX4_isUnfit_43 : decode cX4_isUnfit 43 = .ok (.iconst 0, 1) := by decide +kernel
theorem dX4_isUnfit_44 : decode cX4_isUnfit 44 = .ok (.ireturn, 1) := by decide +kernel
set_option maxRecDepth 20000 in
theorem ggX4_isVain_X4_knows : GoodIn wsX4_isVain wsX4_knows := goodIn_r _ [8, 9, 20, 21, 22, 23, 24, 25, 26, 27, 28, 29, 30, 31, 32, 33, 34, 35, 36, 37, 38] (by decide +kernel) (by decide +kernel)
set_option maxRecDepth 20000 in
theorem gX4_isVain_X4_knows : GoodIn wsX4_isVain (wsV RX4 70 RX4 yX4_knows wsX4_knows) := goodIn_app (goodIn_of _ (by decide +kernel)) ggX4_isVain_X4_knows
set_option maxRecDepth 20000 in
theorem ggX4_isVain_X4_isMove : GoodIn wsX4_isVain wsX4_isMove := goodIn_r _ [13, 3, 2, 20, 21, 22, 23, 24, 25, 26, 27, 28, 29, 30, 31, 32, 33, 34, 35, 36, 37, 38] (by decide +kernel) (by decide +kernel)
set_option maxRecDepth 20000 in
theorem gX4_isVain_X4_isMove : GoodIn wsX4_isVain (wsV RX4 74 RX4 yX4_isMove wsX4_isMove) := goodIn_app (goodIn_of _ (by decide +kernel)) ggX4_isVain_X4_isMove
set_option maxRecDepth 20000 in
theorem ggX4_isVain_X4_isLater : GoodIn wsX4_isVain wsX4_isLater := goodIn_r _ [17, 18, 19, 20, 21, 22, 23, 24, 25, 26, 27, 28, 29, 30, 31, 32, 33, 34, 35, 36, 37, 38] (by decide +kernel) (by decide +kernel)
set_option maxRecDepth 20000 in
theorem gX4_isVain_X4_isLater : GoodIn wsX4_isVain (wsV RX4 77 RX4 yX4_isLater wsX4_isLater) := goodIn_app (goodIn_of _ (by decide +kernel)) ggX4_isVain_X4_isLater
theorem dX4_isVain_0 : decode cX4_isVain 0 = .ok (.iconst (-1), 1) := by decide +kernel
theorem dX4_isVain_1 : decode cX4_isVain 1 = .ok (.istore_n 3, 1) := by decide +kernel
theorem dX4_isVain_2 : decode cX4_isVain 2 = .ok (.iconst 0, 1) := by decide +kernel
theorem dX4_isVain_3 : decode cX4_isVain 3 = .ok (.istore 4, 2) := by decide +kernel
theorem dX4_isVain_5 : decode cX4_isVain 5 = .ok (.iload 4, 2) := by decide +kernel
theorem dX4_isVain_7 : decode cX4_isVain 7 = .ok (.aload_n 0, 1) := by decide +kernel
theorem dX4_isVain_8 : decode cX4_isVain 8 = .ok (.getfield 56, 3) := by decide +kernel
theorem dX4_isVain_11 : decode cX4_isVain 11 = .ok (.if_icmp .ge 78, 3) := by decide +kernel
theorem dX4_isVain_14 : decode cX4_isVain 14 = .ok (.aload_n 0, 1) := by decide +kernel
theorem dX4_isVain_15 : decode cX4_isVain 15 = .ok (.iload_n 1, 1) := by decide +kernel
theorem dX4_isVain_16 : decode cX4_isVain 16 = .ok (.iload 4, 2) := by decide +kernel
theorem dX4_isVain_18 : decode cX4_isVain 18 = .ok (.invokevirtual 70, 3) := by decide +kernel
theorem dX4_isVain_21 : decode cX4_isVain 21 = .ok (.ifCond .eq 32, 3) := by decide +kernel
theorem dX4_isVain_24 : decode cX4_isVain 24 = .ok (.aload_n 0, 1) := by decide +kernel
theorem dX4_isVain_25 : decode cX4_isVain 25 = .ok (.iload 4, 2) := by decide +kernel
theorem dX4_isVain_27 : decode cX4_isVain 27 = .ok (.aload_n 0, 1) := by decide +kernel
theorem dX4_isVain_28 : decode cX4_isVain 28 = .ok (.getfield 19, 3) := by decide +kernel
theorem dX4_isVain_31 : decode cX4_isVain 31 = .ok (.iload_n 2, 1) := by decide +kernel
theorem dX4_isVain_32 : decode cX4_isVain 32 = .ok (.iaload, 1) := by decide +kernel
theorem dX4_isVain_33 : decode cX4_isVain 33 = .ok (.invokevirtual 74, 3) := by decide +kernel
theorem dX4_isVain_36 : decode cX4_isVain 36 = .ok (.ifCond .eq 17, 3) := by decide +kernel
theorem dX4_isVain_39 : decode cX4_isVain 39 = .ok (.aload_n 0, 1) := by decide +kernel
theorem dX4_isVain_40 : decode cX4_isVain 40 = .ok (.iload_n 2, 1) := by decide +kernel
theorem dX4_isVain_41 : decode cX4_isVain 41 = .ok (.iload 4, 2) := by decide +kernel
theorem dX4_isVain_43 : decode cX4_isVain 43 = .ok (.invokevirtual 77, 3) := by decide +kernel
theorem dX4_isVain_46 : decode cX4_isVain 46 = .ok (.ifCond .eq 7, 3) := by decide +kernel
theorem dX4_isVain_49 : decode cX4_isVain 49 = .ok (.iconst 1, 1) := by decide +kernel
theorem dX4_isVain_50 : decode cX4_isVain 50 = .ok (.goto 4, 3) := by decide +kernel
theorem dX4_isVain_53 : decode cX4_isVain 53 = .ok (.iconst 0, 1) := by decide +kernel
theorem dX4_isVain_54 : decode cX4_isVain 54 = .ok (.istore 5, 2) := by decide +kernel
theorem dX4_isVain_56 : decode cX4_isVain 56 = .ok (.iload 5, 2) := by decide +kernel
theorem dX4_isVain_58 : decode cX4_isVain 58 = .ok (.ifCond .eq 23, 3) := by decide +kernel
theorem dX4_isVain_61 : decode cX4_isVain 61 = .ok (.iload_n 3, 1) := by decide +kernel
theorem dX4_isVain_62 : decode cX4_isVain 62 = .ok (.iconst (-1), 1) := by decide +kernel
theorem dX4_isVain_63 : decode cX4_isVain 63 = .ok (.if_icmp .eq 13, 3) := by decide +kernel
theorem dX4_isVain_66 : decode cX4_isVain 66 = .ok (.aload_n 0, 1) := by decide +kernel
theorem dX4_isVain_67 : decode cX4_isVain 67 = .ok (.iload 4, 2) := by decide +kernel
theorem dX4_isVain_69 : decode cX4_isVain 69 = .ok (.iload_n 3, 1) := by decide +kernel
theorem dX4_isVain_70 : decode cX4_isVain 70 = .ok (.invokevirtual 77, 3) := by decide +kernel
theorem dX4_isVain_73 : decode cX4_isVain 73 = .ok (.ifCond .eq 8, 3) := by decide +kernel
theorem dX4_isVain_76 : decode cX4_isVain 76 = .ok (.iload 4, 2) := by decide +kernel
theorem dX4_isVain_78 : decode cX4_isVain 78 = .ok (.goto 4, 3) := by decide +kernel
theorem dX4_isVain_81 : decode cX4_isVain 81 = .ok (.iload_n 3, 1) := by decide +kernel
theorem dX4_isVain_82 : decode cX4_isVain 82 = .ok (.istore_n 3, 1) := by decide +kernel
theorem dX4_isVain_83 : decode cX4_isVain 83 = .ok (.iinc 4 1, 3) := by decide +kernel
theorem dX4_isVain_86 : decode cX4_isVain 86 = .ok (.goto (-81), 3) := by decide +kernel
theorem dX4_isVain_89 : decode cX4_isVain 89 = .ok (.iload_n 3, 1) := by decide +kernel
theorem dX4_isVain_90 : decode cX4_isVain 90 = .ok (.iconst (-1), 1) := by decide +kernel
theorem dX4_isVain_91 : decode cX4_isVain 91 = .ok (.if_icmp .eq 13, 3) := by decide +kernel
theorem dX4_isVain_94 : decode cX4_isVain 94 = .ok (.aload_n 0, 1) := by decide +kernel
theorem dX4_isVain_95 : decode cX4_isVain 95 = .ok (.getfield 7, 3) := by decide +kernel
theorem dX4_isVain_98 : decode cX4_isVain 98 = .ok (.iload_n 3, 1) := by decide +kernel
theorem dX4_isVain_99 : decode cX4_isVain 99 = .ok (.iaload, 1) := by decide +kernel
theorem dX4_isVain_100 : decode cX4_isVain 100 = .ok (.iconst 1, 1) := by decide +kernel
theorem dX4_isVain_101 : decode cX4_isVain 101 = .ok (.if_icmp .ne 7, 3) := by decide +kernel
theorem dX4_isVain_104 : decode cX4_isVain 104 = .ok (.iconst 1, 1) := by decide +kernel
theorem dX4_isVain_105 : decode cX4_isVain 105 = .ok (.goto 4, 3) := by decide +kernel
theorem dX4_isVain_108 : decode cX4_isVain 108 = .ok (.iconst 0, 1) := by decide +kernel
theorem dX4_isVain_109 : decode cX4_isVain 109 = .ok (.ireturn, 1) := by decide +kernel
set_option maxRecDepth 20000 in
theorem ggX4_isSpoilt_X4_areCake : GoodIn wsX4_isSpoilt wsX4_areCake := goodIn_r _ [8, 9, 10, 11, 7, 12, 13, 14, 15, 16, 17, 18, 19, 20, 46, 47, 48, 49, 50, 51, 52, 53, 54, 55, 56, 57, 58, 59, 60, 61, 62, 63, 64] (by decide +kernel) (by decide +kernel)
set_option maxRecDepth 20000 in
theorem gX4_isSpoilt_X4_areCake : GoodIn wsX4_isSpoilt (wsV RX4 141 RX4 yX4_areCake wsX4_areCake) := goodIn_app (goodIn_of _ (by decide +kernel)) ggX4_isSpoilt_X4_areCake
set_option maxRecDepth 20000 in
theorem ggX4_isSpoilt_X4_stateOf : GoodIn wsX4_isSpoilt wsX4_stateOf := goodIn_r _ [24, 25, 1, 26, 2, 27, 28, 29, 7, 30, 31, 46, 47, 48, 49, 50, 51, 52, 53, 54, 55, 56, 57, 58, 59, 60, 61, 62, 63, 64] (by decide +kernel) (by decide +kernel)
set_option maxRecDepth 20000 in
theorem gX4_isSpoilt_X4_stateOf : GoodIn wsX4_isSpoilt (wsV RX4 120 RX4 yX4_stateOf wsX4_stateOf) := goodIn_app (goodIn_of _ (by decide +kernel)) ggX4_isSpoilt_X4_stateOf
set_option maxRecDepth 20000 in
theorem ggX4_isSpoilt_X4_knows : GoodIn wsX4_isSpoilt wsX4_knows := goodIn_r _ [30, 31, 46, 47, 48, 49, 50, 51, 52, 53, 54, 55, 56, 57, 58, 59, 60, 61, 62, 63, 64] (by decide +kernel) (by decide +kernel)
set_option maxRecDepth 20000 in
theorem gX4_isSpoilt_X4_knows : GoodIn wsX4_isSpoilt (wsV RX4 70 RX4 yX4_knows wsX4_knows) := goodIn_app (goodIn_of _ (by decide +kernel)) ggX4_isSpoilt_X4_knows
set_option maxRecDepth 20000 in
theorem ggX4_isSpoilt_X4_isVain : GoodIn wsX4_isSpoilt wsX4_isVain := goodIn_r _ [35, 1, 26, 2, 27, 28, 29, 7, 30, 31, 36, 37, 38, 39, 40, 41, 42, 43, 44, 45, 46, 47, 48, 49, 50, 51, 52, 53, 54, 55, 56, 57, 58, 59, 60, 61, 62, 63, 64] (by decide +kernel) (by decide +kernel)
set_option maxRecDepth 20000 in
theorem gX4_isSpoilt_X4_isVain : GoodIn wsX4_isSpoilt (wsV RX4 154 RX4 yX4_isVain wsX4_isVain) := goodIn_app (goodIn_of _ (by decide +kernel)) ggX4_isSpoilt_X4_isVain
theorem dX4_isSpoilt_0 : decode cX4_isSpoilt 0 = .ok (.iconst 0, 1) := by decide +kernel
theorem dX4_isSpoilt_1 : decode cX4_isSpoilt 1 = .ok (.istore_n 3, 1) := by decide +kernel
theorem dX4_isSpoilt_2 : decode cX4_isSpoilt 2 = .ok (.aload_n 0, 1) := by decide +kernel
theorem dX4_isSpoilt_3 : decode cX4_isSpoilt 3 = .ok (.iload_n 1, 1) := by decide +kernel
theorem dX4_isSpoilt_4 : decode cX4_isSpoilt 4 = .ok (.iload_n 2, 1) := by decide +kernel
theorem dX4_isSpoilt_5 : decode cX4_isSpoilt 5 = .ok (.invokevirtual 141, 3) := by decide +kernel
theorem dX4_isSpoilt_8 : decode cX4_isSpoilt 8 = .ok (.ifCond .eq 83, 3) := by decide +kernel
theorem dX4_isSpoilt_11 : decode cX4_isSpoilt 11 = .ok (.aload_n 0, 1) := by decide +kernel
theorem dX4_isSpoilt_12 : decode cX4_isSpoilt 12 = .ok (.iload_n 1, 1) := by decide +kernel
theorem dX4_isSpoilt_13 : decode cX4_isSpoilt 13 = .ok (.iload_n 2, 1) := by decide +kernel
theorem dX4_isSpoilt_14 : decode cX4_isSpoilt 14 = .ok (.invokevirtual 120, 3) := by decide +kernel
theorem dX4_isSpoilt_17 : decode cX4_isSpoilt 17 = .ok (.iconst 3, 1) := by decide +kernel
theorem dX4_isSpoilt_18 : decode cX4_isSpoilt 18 = .ok (.if_icmp .ne 73, 3) := by decide +kernel
theorem dX4_isSpoilt_21 : decode cX4_isSpoilt 21 = .ok (.iconst 0, 1) := by decide +kernel
theorem dX4_isSpoilt_22 : decode cX4_isSpoilt 22 = .ok (.istore 4, 2) := by decide +kernel
theorem dX4_isSpoilt_24 : decode cX4_isSpoilt 24 = .ok (.iload 4, 2) := by decide +kernel
theorem dX4_isSpoilt_26 : decode cX4_isSpoilt 26 = .ok (.aload_n 0, 1) := by decide +kernel
theorem dX4_isSpoilt_27 : decode cX4_isSpoilt 27 = .ok (.getfield 56, 3) := by decide +kernel
theorem dX4_isSpoilt_30 : decode cX4_isSpoilt 30 = .ok (.if_icmp .ge 61, 3) := by decide +kernel
theorem dX4_isSpoilt_33 : decode cX4_isSpoilt 33 = .ok (.iload_n 3, 1) := by decide +kernel
theorem dX4_isSpoilt_34 : decode cX4_isSpoilt 34 = .ok (.ifCond .ne 45, 3) := by decide +kernel
theorem dX4_isSpoilt_37 : decode cX4_isSpoilt 37 = .ok (.aload_n 0, 1) := by decide +kernel
theorem dX4_isSpoilt_38 : decode cX4_isSpoilt 38 = .ok (.iload_n 1, 1) := by decide +kernel
theorem dX4_isSpoilt_39 : decode cX4_isSpoilt 39 = .ok (.iload 4, 2) := by decide +kernel
theorem dX4_isSpoilt_41 : decode cX4_isSpoilt 41 = .ok (.invokevirtual 70, 3) := by decide +kernel
theorem dX4_isSpoilt_44 : decode cX4_isSpoilt 44 = .ok (.ifCond .eq 39, 3) := by decide +kernel
theorem dX4_isSpoilt_47 : decode cX4_isSpoilt 47 = .ok (.aload_n 0, 1) := by decide +kernel
theorem dX4_isSpoilt_48 : decode cX4_isSpoilt 48 = .ok (.getfield 7, 3) := by decide +kernel
theorem dX4_isSpoilt_51 : decode cX4_isSpoilt 51 = .ok (.iload 4, 2) := by decide +kernel
theorem dX4_isSpoilt_53 : decode cX4_isSpoilt 53 = .ok (.iaload, 1) := by decide +kernel
theorem dX4_isSpoilt_54 : decode cX4_isSpoilt 54 = .ok (.iconst 1, 1) := by decide +kernel
theorem dX4_isSpoilt_55 : decode cX4_isSpoilt 55 = .ok (.if_icmp .ne 28, 3) := by decide +kernel
theorem dX4_isSpoilt_58 : decode cX4_isSpoilt 58 = .ok (.aload_n 0, 1) := by decide +kernel
theorem dX4_isSpoilt_59 : decode cX4_isSpoilt 59 = .ok (.getfield 22, 3) := by decide +kernel
theorem dX4_isSpoilt_62 : decode cX4_isSpoilt 62 = .ok (.iload 4, 2) := by decide +kernel
theorem dX4_isSpoilt_64 : decode cX4_isSpoilt 64 = .ok (.iaload, 1) := by decide +kernel
theorem dX4_isSpoilt_65 : decode cX4_isSpoilt 65 = .ok (.iload_n 2, 1) := by decide +kernel
theorem dX4_isSpoilt_66 : decode cX4_isSpoilt 66 = .ok (.if_icmp .ne 17, 3) := by decide +kernel
theorem dX4_isSpoilt_69 : decode cX4_isSpoilt 69 = .ok (.aload_n 0, 1) := by decide +kernel
theorem dX4_isSpoilt_70 : decode cX4_isSpoilt 70 = .ok (.iload_n 1, 1) := by decide +kernel
theorem dX4_isSpoilt_71 : decode cX4_isSpoilt 71 = .ok (.iload 4, 2) := by decide +kernel
theorem dX4_isSpoilt_73 : decode cX4_isSpoilt 73 = .ok (.invokevirtual 154, 3) := by decide +kernel
theorem dX4_isSpoilt_76 : decode cX4_isSpoilt 76 = .ok (.ifCond .eq 7, 3) := by decide +kernel
theorem dX4_isSpoilt_79 : decode cX4_isSpoilt 79 = .ok (.iconst 1, 1) := by decide +kernel
theorem dX4_isSpoilt_80 : decode cX4_isSpoilt 80 = .ok (.goto 4, 3) := by decide +kernel
theorem dX4_isSpoilt_83 : decode cX4_isSpoilt 83 = .ok (.iconst 0, 1) := by decide +kernel
theorem dX4_isSpoilt_84 : decode cX4_isSpoilt 84 = .ok (.istore_n 3, 1) := by decide +kernel
theorem dX4_isSpoilt_85 : decode cX4_isSpoilt 85 = .ok (.iinc 4 1, 3) := by decide +kernel
theorem dX4_isSpoilt_88 : decode cX4_isSpoilt 88 = .ok (.goto (-64), 3) := by decide +kernel
theorem dX4_isSpoilt_91 : decode cX4_isSpoilt 91 = .ok (.iload_n 3, 1) := by decide +kernel
theorem dX4_isSpoilt_92 : decode cX4_isSpoilt 92 = .ok (.ireturn, 1) := by decide +kernel
set_option maxRecDepth 20000 in
theorem ggX4_missing_X4_isFridge : GoodIn wsX4_missing wsX4_isFridge := goodIn_r _ [8, 9, 10, 7, 11] (by decide +kernel) (by decide +kernel)
set_option maxRecDepth 20000 in
theorem gX4_missing_X4_isFridge : GoodIn wsX4_missing (va_wsS RX4 84 yX4_isFridge wsX4_isFridge) := goodIn_app (goodIn_of _ (by decide +kernel)) ggX4_missing_X4_isFridge
set_option maxRecDepth 20000 in
theorem ggX4_missing_X4_isFood : GoodIn wsX4_missing wsX4_isFood := goodIn_r _ [14, 9, 10, 7, 11] (by decide +kernel) (by decide +kernel)
set_option maxRecDepth 20000 in
theorem gX4_missing_X4_isFood : GoodIn wsX4_missing (va_wsS RX4 105 yX4_isFood wsX4_isFood) := goodIn_app (goodIn_of _ (by decide +kernel)) ggX4_missing_X4_isFood
set_option maxRecDepth 20000 in
theorem ggX4_missing_X4_stateOf : GoodIn wsX4_missing wsX4_stateOf := goodIn_r _ [18, 19, 20, 21, 22, 23, 24, 25, 7, 26, 27, 50, 51, 52, 53, 54, 55, 56, 57, 58, 59, 60, 61, 62, 63, 64, 65, 66, 67, 68] (by decide +kernel) (by decide +kernel)
set_option maxRecDepth 20000 in
theorem gX4_missing_X4_stateOf : GoodIn wsX4_missing (wsV RX4 120 RX4 yX4_stateOf wsX4_stateOf) := goodIn_app (goodIn_of _ (by decide +kernel)) ggX4_missing_X4_stateOf
set_option maxRecDepth 20000 in
theorem ggX4_missing_X4_countOf : GoodIn wsX4_missing wsX4_countOf := goodIn_r _ [31, 32, 33, 34, 7, 35, 22, 36, 37, 38, 39, 40, 20, 23, 24, 25, 26, 27, 41, 42, 43, 44, 21, 45, 46, 47, 48, 49, 50, 51, 52, 53, 54, 55, 56, 57, 58, 59, 60, 61, 62, 63, 64, 65, 66, 67, 68] (by decide +kernel) (by decide +kernel)
set_option maxRecDepth 20000 in
theorem gX4_missing_X4_countOf : GoodIn wsX4_missing (wsV RX4 108 RX4 yX4_countOf wsX4_countOf) := goodIn_app (goodIn_of _ (by decide +kernel)) ggX4_missing_X4_countOf
theorem dX4_missing_0 : decode cX4_missing 0 = .ok (.aload_n 0, 1) := by decide +kernel
theorem dX4_missing_1 : decode cX4_missing 1 = .ok (.iload_n 1, 1) := by decide +kernel
theorem dX4_missing_2 : decode cX4_missing 2 = .ok (.invokestatic 84, 3) := by decide +kernel
theorem dX4_missing_5 : decode cX4_missing 5 = .ok (.ifCond .eq 14, 3) := by decide +kernel
theorem dX4_missing_8 : decode cX4_missing 8 = .ok (.iload_n 2, 1) := by decide +kernel
theorem dX4_missing_9 : decode cX4_missing 9 = .ok (.invokestatic 105, 3) := by decide +kernel
theorem dX4_missing_12 : decode cX4_missing 12 = .ok (.ifCond .eq 7, 3) := by decide +kernel
theorem dX4_missing_15 : decode cX4_missing 15 = .ok (.iconst 0, 1) := by decide +kernel
theorem dX4_missing_16 : decode cX4_missing 16 = .ok (.goto 4, 3) := by decide +kernel
theorem dX4_missing_19 : decode cX4_missing 19 = .ok (.iconst 1, 1) := by decide +kernel
theorem dX4_missing_20 : decode cX4_missing 20 = .ok (.putfield 60, 3) := by decide +kernel
theorem dX4_missing_23 : decode cX4_missing 23 = .ok (.aload_n 0, 1) := by decide +kernel
theorem dX4_missing_24 : decode cX4_missing 24 = .ok (.getfield 60, 3) := by decide +kernel
theorem dX4_missing_27 : decode cX4_missing 27 = .ok (.ifCond .le 5, 3) := by decide +kernel
theorem dX4_missing_30 : decode cX4_missing 30 = .ok (.iconst 0, 1) := by decide +kernel
theorem dX4_missing_31 : decode cX4_missing 31 = .ok (.ireturn, 1) := by decide +kernel
theorem dX4_missing_32 : decode cX4_missing 32 = .ok (.iconst 0, 1) := by decide +kernel
theorem dX4_missing_33 : decode cX4_missing 33 = .ok (.istore_n 3, 1) := by decide +kernel
theorem dX4_missing_34 : decode cX4_missing 34 = .ok (.iconst 0, 1) := by decide +kernel
theorem dX4_missing_35 : decode cX4_missing 35 = .ok (.istore 4, 2) := by decide +kernel
theorem dX4_missing_37 : decode cX4_missing 37 = .ok (.iload 4, 2) := by decide +kernel
theorem dX4_missing_39 : decode cX4_missing 39 = .ok (.aload_n 0, 1) := by decide +kernel
theorem dX4_missing_40 : decode cX4_missing 40 = .ok (.getfield 67, 3) := by decide +kernel
theorem dX4_missing_43 : decode cX4_missing 43 = .ok (.if_icmp .ge 44, 3) := by decide +kernel
theorem dX4_missing_46 : decode cX4_missing 46 = .ok (.iload_n 3, 1) := by decide +kernel
theorem dX4_missing_47 : decode cX4_missing 47 = .ok (.aload_n 0, 1) := by decide +kernel
theorem dX4_missing_48 : decode cX4_missing 48 = .ok (.iload_n 1, 1) := by decide +kernel
theorem dX4_missing_49 : decode cX4_missing 49 = .ok (.iload 4, 2) := by decide +kernel
theorem dX4_missing_51 : decode cX4_missing 51 = .ok (.invokevirtual 120, 3) := by decide +kernel
theorem dX4_missing_54 : decode cX4_missing 54 = .ok (.iconst 1, 1) := by decide +kernel
theorem dX4_missing_55 : decode cX4_missing 55 = .ok (.if_icmp .ne 23, 3) := by decide +kernel
theorem dX4_missing_58 : decode cX4_missing 58 = .ok (.aload_n 0, 1) := by decide +kernel
theorem dX4_missing_59 : decode cX4_missing 59 = .ok (.getfield 41, 3) := by decide +kernel
theorem dX4_missing_62 : decode cX4_missing 62 = .ok (.bipush 8, 2) := by decide +kernel
theorem dX4_missing_64 : decode cX4_missing 64 = .ok (.aload_n 0, 1) := by decide +kernel
theorem dX4_missing_65 : decode cX4_missing 65 = .ok (.getfield 44, 3) := by decide +kernel
theorem dX4_missing_68 : decode cX4_missing 68 = .ok (.iload 4, 2) := by decide +kernel
theorem dX4_missing_70 : decode cX4_missing 70 = .ok (.iaload, 1) := by decide +kernel
theorem dX4_missing_71 : decode cX4_missing 71 = .ok (.imul, 1) := by decide +kernel
theorem dX4_missing_72 : decode cX4_missing 72 = .ok (.iload_n 2, 1) := by decide +kernel
theorem dX4_missing_73 : decode cX4_missing 73 = .ok (.iadd, 1) := by decide +kernel
theorem dX4_missing_74 : decode cX4_missing 74 = .ok (.iaload, 1) := by decide +kernel
theorem dX4_missing_75 : decode cX4_missing 75 = .ok (.goto 4, 3) := by decide +kernel
theorem dX4_missing_78 : decode cX4_missing 78 = .ok (.iconst 0, 1) := by decide +kernel
theorem dX4_missing_79 : decode cX4_missing 79 = .ok (.iadd, 1) := by decide +kernel
theorem dX4_missing_80 : decode cX4_missing 80 = .ok (.istore_n 3, 1) := by decide +kernel
theorem dX4_missing_81 : decode cX4_missing 81 = .ok (.iinc 4 1, 3) := by decide +kernel
theorem dX4_missing_84 : decode cX4_missing 84 = .ok (.goto (-47), 3) := by decide +kernel
theorem dX4_missing_87 : decode cX4_missing 87 = .ok (.iload_n 3, 1) := by decide +kernel
theorem dX4_missing_88 : decode cX4_missing 88 = .ok (.aload_n 0, 1) := by decide +kernel
theorem dX4_missing_89 : decode cX4_missing 89 = .ok (.iload_n 1, 1) := by decide +kernel
theorem dX4_missing_90 : decode cX4_missing 90 = .ok (.iload_n 2, 1) := by decide +kernel
theorem dX4_missing_91 : decode cX4_missing 91 = .ok (.invokevirtual 108, 3) := by decide +kernel
theorem dX4_missing_94 : decode cX4_missing 94 = .ok (.isub, 1) := by decide +kernel
theorem dX4_missing_95 : decode cX4_missing 95 = .ok (.istore_n 3, 1) := by decide +kernel
theorem dX4_missing_96 : decode cX4_missing 96 = .ok (.iload_n 3, 1) := by decide +kernel
theorem dX4_missing_97 : decode cX4_missing 97 = .ok (.ifCond .ge 7, 3) := by decide +kernel
theorem dX4_missing_100 : decode cX4_missing 100 = .ok (.iconst 0, 1) := by decide +kernel
theorem dX4_missing_101 : decode cX4_missing 101 = .ok (.goto 4, 3) := by decide +kernel
theorem dX4_missing_104 : decode cX4_missing 104 = .ok (.iload_n 3, 1) := by decide +kernel
theorem dX4_missing_105 : decode cX4_missing 105 = .ok (.ireturn, 1) := by decide +kernel
end
section
/-! words of our own: booleans as ints, read-only contracts, writing contracts, compares of numbers -/
/-- a boolean as the machine has it -/
def bI (b : Bool) : Int32 := if b then 1 else 0
theorem bI_t : bI true = 1 := rfl
theorem bI_f : bI false = 0 := rfl
theorem bI_0 (b : Bool) : bI b = 0 ↔ b = false := by cases b <;> decide
theorem bI_1 (b : Bool) : bI b = 1 ↔ b = true := by cases b <;> decide
theorem bI_inj (x y : Bool) : bI x = bI y ↔ x = y := by cases x <;> cases y <;> decide
theorem bI_nar (b : Bool) : narrow .boolean (.int (bI b)) = .int (bI b) := by cases b <;> rfl
theorem bI_of (x : Int32) (b : Bool) (h : b = true → x = 1) (h2 : b = false → x = 0) : x = bI b := by cases b <;> simp [bI, h, h2]
/-- an int as a place -/
def jn (x : Int32) : Nat := x.toNatClampNeg
theorem jn_nI {n : Nat} (h : n < 2 ^ 31) : jn (nI n) = n := nI_clamp h
/-- a loop's value behind i rounds -/
def foldU {α : Type} (st : Nat → α → α) (z : α) : Nat → α
  | 0 => z
  | i + 1 => st i (foldU st z i)
theorem foldU_s {α : Type} (st : Nat → α → α) (z : α) (i : Nat) : foldU st z (i + 1) = st i (foldU st z i) := rfl
theorem foldU_0 {α : Type} (st : Nat → α → α) (z : α) : foldU st z 0 = z := rfl
theorem jn_0 : jn 0 = 0 := rfl
theorem nI_m1 (n : Nat) (h : n < 2 ^ 31) : ¬ nI n = -1 := by
  intro q
  have h1 := nI_toInt h
  rw [q] at h1
  have h2 : (-1 : Int32).toInt = -1 := by decide
  omega
section ROW
variable {p : Program} {l : Launch} {e : Env} {R : Room} {s : State} {m : MethodId} {args : Array Value} {below : List Frame} {meth : Method} {c : Code} {H : Heap} {locs : List Loc} {cells slots : Nat} {Q : State → Prop}
variable {cc : ByteArray} {pc : Nat} {ls : Array Slot} {rest : List Value} {off : Int} {tgt : Nat}
theorem lw_ge (hx : p.tables.exec = Jvm.exec) (hb : c.code = cc) (i j : Nat) (hi : i < 2 ^ 31) (hj : j < 2 ^ 31) (hdg : decode cc pc = .ok (.if_icmp .ge off, 3)) (ht : (pc : Int) + off = (tgt : Int))
    (kt : j ≤ i → W p l e R s m args below meth c H locs cells slots Q (F0 m tgt ls rest)) (kf : i < j → W p l e R s m args below meth c H locs cells slots Q (F0 m (pc + 3) ls rest)) : W p l e R s m args below meth c H locs cells slots Q (F0 m pc ls (.int (nI j) :: .int (nI i) :: rest)) :=
  lv_icmp_ge hx hb hdg ht (fun q => kt ((nI_leI hj hi).mp q)) (fun q => kf (Nat.lt_of_not_le (fun z => q ((nI_leI hj hi).mpr z))))
theorem lw_lt (hx : p.tables.exec = Jvm.exec) (hb : c.code = cc) (i j : Nat) (hi : i < 2 ^ 31) (hj : j < 2 ^ 31) (hdg : decode cc pc = .ok (.if_icmp .lt off, 3)) (ht : (pc : Int) + off = (tgt : Int))
    (kt : i < j → W p l e R s m args below meth c H locs cells slots Q (F0 m tgt ls rest)) (kf : j ≤ i → W p l e R s m args below meth c H locs cells slots Q (F0 m (pc + 3) ls rest)) : W p l e R s m args below meth c H locs cells slots Q (F0 m pc ls (.int (nI j) :: .int (nI i) :: rest)) :=
  lv_icmp_lt hx hb hdg ht (fun q => kt ((nI_ltI hi hj).mp q)) (fun q => kf (Nat.le_of_not_lt (fun z => q ((nI_ltI hi hj).mpr z))))
theorem lw_gt (hx : p.tables.exec = Jvm.exec) (hb : c.code = cc) (i j : Nat) (hi : i < 2 ^ 31) (hj : j < 2 ^ 31) (hdg : decode cc pc = .ok (.if_icmp .gt off, 3)) (ht : (pc : Int) + off = (tgt : Int))
    (kt : j < i → W p l e R s m args below meth c H locs cells slots Q (F0 m tgt ls rest)) (kf : i ≤ j → W p l e R s m args below meth c H locs cells slots Q (F0 m (pc + 3) ls rest)) : W p l e R s m args below meth c H locs cells slots Q (F0 m pc ls (.int (nI j) :: .int (nI i) :: rest)) :=
  lv_icmp_gt hx hb hdg ht (fun q => kt ((nI_ltI hj hi).mp q)) (fun q => kf (Nat.le_of_not_lt (fun z => q ((nI_ltI hj hi).mpr z))))
theorem lw_le (hx : p.tables.exec = Jvm.exec) (hb : c.code = cc) (i j : Nat) (hi : i < 2 ^ 31) (hj : j < 2 ^ 31) (hdg : decode cc pc = .ok (.if_icmp .le off, 3)) (ht : (pc : Int) + off = (tgt : Int))
    (kt : i ≤ j → W p l e R s m args below meth c H locs cells slots Q (F0 m tgt ls rest)) (kf : j < i → W p l e R s m args below meth c H locs cells slots Q (F0 m (pc + 3) ls rest)) : W p l e R s m args below meth c H locs cells slots Q (F0 m pc ls (.int (nI j) :: .int (nI i) :: rest)) :=
  lv_icmp_le hx hb hdg ht (fun q => kt ((nI_leI hi hj).mp q)) (fun q => kf (Nat.lt_of_not_le (fun z => q ((nI_leI hi hj).mpr z))))
theorem lw_eq (hx : p.tables.exec = Jvm.exec) (hb : c.code = cc) (i j : Nat) (hi : i < 2 ^ 31) (hj : j < 2 ^ 31) (hdg : decode cc pc = .ok (.if_icmp .eq off, 3)) (ht : (pc : Int) + off = (tgt : Int))
    (kt : i = j → W p l e R s m args below meth c H locs cells slots Q (F0 m tgt ls rest)) (kf : ¬ i = j → W p l e R s m args below meth c H locs cells slots Q (F0 m (pc + 3) ls rest)) : W p l e R s m args below meth c H locs cells slots Q (F0 m pc ls (.int (nI j) :: .int (nI i) :: rest)) :=
  lv_icmp_eq hx hb hdg ht (fun q => kt ((nI_eq hi hj).mp q)) (fun q => kf (fun z => q ((nI_eq hi hj).mpr z)))
theorem lw_ne (hx : p.tables.exec = Jvm.exec) (hb : c.code = cc) (i j : Nat) (hi : i < 2 ^ 31) (hj : j < 2 ^ 31) (hdg : decode cc pc = .ok (.if_icmp .ne off, 3)) (ht : (pc : Int) + off = (tgt : Int))
    (kt : ¬ i = j → W p l e R s m args below meth c H locs cells slots Q (F0 m tgt ls rest)) (kf : i = j → W p l e R s m args below meth c H locs cells slots Q (F0 m (pc + 3) ls rest)) : W p l e R s m args below meth c H locs cells slots Q (F0 m pc ls (.int (nI j) :: .int (nI i) :: rest)) :=
  lv_icmp_ne hx hb hdg ht (fun q => kt (fun z => q ((nI_eq hi hj).mpr z))) (fun q => kf ((nI_eq hi hj).mp q))
theorem lw_beq (hx : p.tables.exec = Jvm.exec) (hb : c.code = cc) {b : Bool} (hdg : decode cc pc = .ok (.ifCond .eq off, 3)) (ht : (pc : Int) + off = (tgt : Int))
    (kt : b = false → W p l e R s m args below meth c H locs cells slots Q (F0 m tgt ls rest)) (kf : b = true → W p l e R s m args below meth c H locs cells slots Q (F0 m (pc + 3) ls rest)) : W p l e R s m args below meth c H locs cells slots Q (F0 m pc ls (.int (bI b) :: rest)) :=
  lv_if_eq hx hb hdg ht (fun q => kt ((bI_0 b).mp q)) (fun q => kf (by cases b; exact absurd rfl q; rfl))
theorem lw_bne (hx : p.tables.exec = Jvm.exec) (hb : c.code = cc) {b : Bool} (hdg : decode cc pc = .ok (.ifCond .ne off, 3)) (ht : (pc : Int) + off = (tgt : Int))
    (kt : b = true → W p l e R s m args below meth c H locs cells slots Q (F0 m tgt ls rest)) (kf : b = false → W p l e R s m args below meth c H locs cells slots Q (F0 m (pc + 3) ls rest)) : W p l e R s m args below meth c H locs cells slots Q (F0 m pc ls (.int (bI b) :: rest)) :=
  lv_if_ne hx hb hdg ht (fun q => kt (by cases b; exact absurd rfl q; rfl)) (fun q => kf ((bI_0 b).mp q))
theorem lw_N {x : Int32} (i : Nat) (h : x = nI i) (k : W p l e R s m args below meth c H locs cells slots Q (F0 m pc ls (.int (nI i) :: rest))) : W p l e R s m args below meth c H locs cells slots Q (F0 m pc ls (.int x :: rest)) := by
  rw [h]; exact k
theorem lw_E {x : Int32} (y : Int32) (h : x = y) (k : W p l e R s m args below meth c H locs cells slots Q (F0 m pc ls (.int y :: rest))) : W p l e R s m args below meth c H locs cells slots Q (F0 m pc ls (.int x :: rest)) := by
  rw [h]; exact k
theorem lw_add (hx : p.tables.exec = Jvm.exec) (hb : c.code = cc) {i j : Nat} (hdg : decode cc pc = .ok (.iadd, 1)) (k : W p l e R s m args below meth c H locs cells slots Q (F0 m (pc + 1) ls (.int (nI (i + j)) :: rest))) : W p l e R s m args below meth c H locs cells slots Q (F0 m pc ls (.int (nI j) :: .int (nI i) :: rest)) :=
  lv_iadd hx hb hdg (by rw [nI_add]; exact k)
theorem lw_mul (hx : p.tables.exec = Jvm.exec) (hb : c.code = cc) {i j : Nat} (hdg : decode cc pc = .ok (.imul, 1)) (k : W p l e R s m args below meth c H locs cells slots Q (F0 m (pc + 1) ls (.int (nI (i * j)) :: rest))) : W p l e R s m args below meth c H locs cells slots Q (F0 m pc ls (.int (nI j) :: .int (nI i) :: rest)) :=
  lv_imul hx hb hdg (by rw [pk_mul]; exact k)
theorem lw_sub (hx : p.tables.exec = Jvm.exec) (hb : c.code = cc) {i j : Nat} (h : j ≤ i) (hdg : decode cc pc = .ok (.isub, 1)) (k : W p l e R s m args below meth c H locs cells slots Q (F0 m (pc + 1) ls (.int (nI (i - j)) :: rest))) : W p l e R s m args below meth c H locs cells slots Q (F0 m pc ls (.int (nI j) :: .int (nI i) :: rest)) :=
  lv_isub hx hb hdg (by rw [pk_sub h]; exact k)
end ROW
/-! read-only methods: the heap stays as it is -/
def ro_P (D : va_G) (tys : List (ClassId × FieldType)) (H : Heap) (av : List Value) : Array Value → State → Prop := va_Pc av (fun U => U.heap = H ∧ va_K D vwCl tys U)
def ro_Q (H : Heap) (r : Int32) : Array Value → State → Outcome → State → Prop := fun _ _ o t => o = .returned (some (.int r)) ∧ t.heap = H
def ro_F : Addr → Prop := fun _ => False
def ro_Met (l : Launch) (y : MethodName) (ws : List Cond) (fr lo : Nat) (D : va_G) (tys : List (ClassId × FieldType)) (H : Heap) (av : List Value) (r : Int32) : Prop :=
  Met l y ws { frames := fr, cells := 0, slots := 0, locals := lo } (ro_P D tys H av) (ro_Q H r) 0 0 ro_F
abbrev roW (p : Program) (l : Launch) (e : Env) (fr lo : Nat) (s : State) (m : MethodId) (av : List Value) (below : List Frame) (meth : Method) (c : Code) (H : Heap) (r : Int32) (g : JFrame) : Prop :=
  W p l e { frames := fr, cells := 0, slots := 0, locals := lo } s m av.toArray below meth c H [] 0 0 (MQ below (ro_Q H r) av.toArray s 0 0 ro_F) g
theorem ro_start {l : Launch} {y : MethodName} {ws ws' : List Cond} {fr lo : Nat} {D : va_G} {tys : List (ClassId × FieldType)} {H : Heap} {av : List Value} {r : Int32} {cc : ByteArray} {maxL : Nat} {ret : Option FieldType}
    (hw : ws = Cond.code y cc maxL ret :: ws') (hy : plainName y.cls = true) (hlen : (lg_sl av).length ≤ maxL)
    (body : ∀ (p : Program) (e : Env) (s : State) (m : MethodId) (below : List Frame) (meth : Method) (c : Code), CallFix p m c cc maxL s av.toArray ws y.cls → meth.sig.returnType = ret → meth.locks = false → va_K D vwCl tys s → ∀ ls : Array Slot, lv_has ls maxL (lv_args 0 av) →
      roW p l e fr lo s m av below meth c H r (F0 m 0 ls [])) : ro_Met l y ws fr lo D tys H av r := by
  refine Met.ofW (cc := cc) (maxL := maxL) (ret := ret) hy hw ?_
  intro p e s m args below meth c s₁ B hml hv
  obtain ⟨rfl, hH, hK⟩ := hv
  have hl := lv_entry av (n := maxL) hlen
  rw [lg_entry_eq]
  generalize (lg_sl av ++ List.replicate (maxL - (lg_sl av).length) Slot.unset).toArray = ls at hl ⊢
  have := body p e s m below meth c ⟨B.exec, B.bytes, hml, findClass_of_methodNamed B.named, atoms_spec (ws := ws) B.pre⟩ B.returns B.notSynchronized hK ls hl
  rw [hH]
  exact this
section CALLS
variable {p : Program} {l : Launch} {e : Env} {R : Room} {s : State} {m : MethodId} {args : Array Value} {below : List Frame} {meth : Method} {c : Code} {H : Heap} {locs : List Loc} {cells slots : Nat} {Q : State → Prop}
variable {y : MethodName} {bytes cc : ByteArray} {maxL nL n index pc : Nat} {ret : Option FieldType} {ws : List Cond} {fr lo : Nat} {Ts : List Cond} {own C : String} {b : Addr} {D : va_G} {tys : List (ClassId × FieldType)} {r : Int32} {ls : Array Slot} {st0 : List Value}
theorem ro_blind {av : List Value} : FrameBlind (ro_P D tys H av) := fun a U g mk h => ⟨h.1, h.2.1, va_K.moved (u := U) (U := U.calling g mk a) (Vm.Alike.refl U.vm) h.2.2⟩
theorem ro_run {g : JFrame} {rest : List Value} {a : Array Value} (hr : va_Run p l e R s m args below meth c H locs cells slots 0 0 (F0 m pc ls st0) rest (ro_Q H r a) ro_F)
    (kk : W p l e R s m args below meth c H locs cells slots Q (F0 m (pc + 3) ls (.int r :: rest))) : W p l e R s m args below meth c H locs cells slots Q (F0 m pc ls st0) := by
  intro T hT X
  obtain ⟨v, st₀, t, T', L, h0, X', hL, e1, e2, ⟨hv, ht⟩, st⟩ := hr T hT X
  cases hv
  have hn : L = [] := List.eq_nil_iff_forall_not_mem.mpr (fun q hq => hL q hq)
  subst hn
  rw [List.append_nil] at X'
  obtain ⟨t2, a1, b1⟩ := kk T' (e1.trans ht) X'
  exact ⟨t2, st t2 a1, b1⟩
theorem ro_callV (F : CallFix p m c cc nL s args Ts own) (hK : va_K D vwCl tys s) (As : List Value) {rest : List Value} (hM : ro_Met l y ws fr lo D tys H (.ref b :: As) r) (cw : CallW R s args own C index y bytes maxL ret ws { frames := fr, cells := 0, slots := 0, locals := lo } 0 0 n)
    (hrc : ∃ cellB : Cell, H[b]? = some cellB ∧ cellB.vm.isStatics = false ∧ s.vm.findClass C = some cellB.cls) (hn : As.length = n) (hsize : ls.size = nL) (hst : st0 = As.reverse ++ .ref b :: rest) (hW : 2 * (F0 m pc ls st0).monitorRoom + (rest.map fun v => v.category).sum ≤ 8) (hcs : cells ≤ R.cells ∧ slots ≤ R.slots) (hdg : decode cc pc = .ok (.invokevirtual index, 3))
    (kk : W p l e R s m args below meth c H locs cells slots Q (F0 m (pc + 3) ls (.int r :: rest))) : W p l e R s m args below meth c H locs cells slots Q (F0 m pc ls st0) :=
  ro_run (g := F0 m pc ls st0) (va_runV (g := F0 m pc ls st0) F hM cw ⟨ro_blind, hrc, fun U hU hW => ⟨rfl, hU, va_K.moved hW.alike hK⟩⟩ rfl hn hsize hst hW hdg ⟨hcs.1, hcs.2⟩) kk
theorem ro_callS (F : CallFix p m c cc nL s args Ts own) (hK : va_K D vwCl tys s) (As : List Value) {rest : List Value} (hM : ro_Met l y ws fr lo D tys H As r) (cw : CallB R s args own index y bytes maxL ret ws { frames := fr, cells := 0, slots := 0, locals := lo } 0 0 n ∧ (Cond.static y).before args s = true)
    (hn : As.length = n) (hsize : ls.size = nL) (hst : st0 = As.reverse ++ rest) (hW : 2 * (F0 m pc ls st0).monitorRoom + (rest.map fun v => v.category).sum ≤ 8) (hcs : cells ≤ R.cells ∧ slots ≤ R.slots) (hdg : decode cc pc = .ok (.invokestatic index, 3))
    (kk : W p l e R s m args below meth c H locs cells slots Q (F0 m (pc + 3) ls (.int r :: rest))) : W p l e R s m args below meth c H locs cells slots Q (F0 m pc ls st0) :=
  ro_run (g := F0 m pc ls st0) (va_runS (g := F0 m pc ls st0) F hM cw ⟨ro_blind, fun U hU hW => ⟨rfl, hU, va_K.moved hW.alike hK⟩⟩ rfl hn hsize hst hW hdg ⟨hcs.1, hcs.2⟩) kk
theorem ro_reti {v : Int32} (F : CallFix p m c cc nL s args Ts own) (hr : meth.sig.returnType = some .int) (hlocks : meth.locks = false) (he : v = r) (hdg : decode cc pc = .ok (.ireturn, 1)) :
    W p l e R s m args below meth c H [] 0 0 (MQ below (ro_Q H r) args s 0 0 ro_F) (F0 m pc ls [.int v]) :=
  W.iret F.1 F.2.1 hr (fun t ht hW => ⟨by rw [he], ht⟩) (fun q h => absurd h List.not_mem_nil) hdg hlocks
theorem ro_retz {v : Int32} {bb : Bool} (F : CallFix p m c cc nL s args Ts own) (hr : meth.sig.returnType = some .boolean) (hlocks : meth.locks = false) (he : v = bI bb) (hdg : decode cc pc = .ok (.ireturn, 1)) :
    W p l e R s m args below meth c H [] 0 0 (MQ below (ro_Q H (bI bb)) args s 0 0 ro_F) (F0 m pc ls [.int v]) :=
  W.zret F.1 F.2.1 hr (by rw [he]; exact bI_nar bb) (fun t ht hW => ⟨by rw [he], ht⟩) (fun q h => absurd h List.not_mem_nil) hdg hlocks
end CALLS
section ROWZ
variable {p : Program} {l : Launch} {e : Env} {R : Room} {s : State} {m : MethodId} {args : Array Value} {below : List Frame} {meth : Method} {c : Code} {H : Heap} {locs : List Loc} {cells slots : Nat} {Q : State → Prop}
variable {cc : ByteArray} {pc : Nat} {ls : Array Slot} {rest : List Value} {off : Int} {tgt : Nat}
theorem lw_zgt (hx : p.tables.exec = Jvm.exec) (hb : c.code = cc) (i : Nat) (hi : i < 2 ^ 31) (hdg : decode cc pc = .ok (.ifCond .gt off, 3)) (ht : (pc : Int) + off = (tgt : Int))
    (kt : 0 < i → W p l e R s m args below meth c H locs cells slots Q (F0 m tgt ls rest)) (kf : ¬ 0 < i → W p l e R s m args below meth c H locs cells slots Q (F0 m (pc + 3) ls rest)) : W p l e R s m args below meth c H locs cells slots Q (F0 m pc ls (.int (nI i) :: rest)) :=
  lv_if_gt hx hb hdg ht (fun q => kt ((nI_ltI (a := 0) (by omega) hi).mp q)) (fun q => kf (fun z => q ((nI_ltI (a := 0) (by omega) hi).mpr z)))
theorem lw_zle (hx : p.tables.exec = Jvm.exec) (hb : c.code = cc) (i : Nat) (hi : i < 2 ^ 31) (hdg : decode cc pc = .ok (.ifCond .le off, 3)) (ht : (pc : Int) + off = (tgt : Int))
    (kt : i = 0 → W p l e R s m args below meth c H locs cells slots Q (F0 m tgt ls rest)) (kf : ¬ i = 0 → W p l e R s m args below meth c H locs cells slots Q (F0 m (pc + 3) ls rest)) : W p l e R s m args below meth c H locs cells slots Q (F0 m pc ls (.int (nI i) :: rest)) :=
  lv_if_le hx hb hdg ht (fun q => kt (Nat.le_zero.mp ((nI_leI (b := 0) hi (by omega)).mp q))) (fun q => kf (fun z => q ((nI_leI (b := 0) hi (by omega)).mpr (Nat.le_of_eq z))))
theorem lw_zeq (hx : p.tables.exec = Jvm.exec) (hb : c.code = cc) (i : Nat) (hi : i < 2 ^ 31) (hdg : decode cc pc = .ok (.ifCond .eq off, 3)) (ht : (pc : Int) + off = (tgt : Int))
    (kt : i = 0 → W p l e R s m args below meth c H locs cells slots Q (F0 m tgt ls rest)) (kf : ¬ i = 0 → W p l e R s m args below meth c H locs cells slots Q (F0 m (pc + 3) ls rest)) : W p l e R s m args below meth c H locs cells slots Q (F0 m pc ls (.int (nI i) :: rest)) :=
  lv_if_eq hx hb hdg ht (fun q => kt ((nI_eq (b := 0) hi (by omega)).mp q)) (fun q => kf (fun z => q ((nI_eq (b := 0) hi (by omega)).mpr z)))
theorem lw_zne (hx : p.tables.exec = Jvm.exec) (hb : c.code = cc) (i : Nat) (hi : i < 2 ^ 31) (hdg : decode cc pc = .ok (.ifCond .ne off, 3)) (ht : (pc : Int) + off = (tgt : Int))
    (kt : ¬ i = 0 → W p l e R s m args below meth c H locs cells slots Q (F0 m tgt ls rest)) (kf : i = 0 → W p l e R s m args below meth c H locs cells slots Q (F0 m (pc + 3) ls rest)) : W p l e R s m args below meth c H locs cells slots Q (F0 m pc ls (.int (nI i) :: rest)) :=
  lv_if_ne hx hb hdg ht (fun q => kt (fun z => q ((nI_eq (b := 0) hi (by omega)).mpr z))) (fun q => kf ((nI_eq (b := 0) hi (by omega)).mp q))
theorem lw_bbeq (hx : p.tables.exec = Jvm.exec) (hb : c.code = cc) {x y : Bool} (hdg : decode cc pc = .ok (.if_icmp .eq off, 3)) (ht : (pc : Int) + off = (tgt : Int))
    (kt : x = y → W p l e R s m args below meth c H locs cells slots Q (F0 m tgt ls rest)) (kf : ¬ x = y → W p l e R s m args below meth c H locs cells slots Q (F0 m (pc + 3) ls rest)) : W p l e R s m args below meth c H locs cells slots Q (F0 m pc ls (.int (bI y) :: .int (bI x) :: rest)) :=
  lv_icmp_eq hx hb hdg ht (fun q => kt ((bI_inj x y).mp q)) (fun q => kf (fun z => q ((bI_inj x y).mpr z)))
theorem lw_bbne (hx : p.tables.exec = Jvm.exec) (hb : c.code = cc) {x y : Bool} (hdg : decode cc pc = .ok (.if_icmp .ne off, 3)) (ht : (pc : Int) + off = (tgt : Int))
    (kt : ¬ x = y → W p l e R s m args below meth c H locs cells slots Q (F0 m tgt ls rest)) (kf : x = y → W p l e R s m args below meth c H locs cells slots Q (F0 m (pc + 3) ls rest)) : W p l e R s m args below meth c H locs cells slots Q (F0 m pc ls (.int (bI y) :: .int (bI x) :: rest)) :=
  lv_icmp_ne hx hb hdg ht (fun q => kt (fun z => q ((bI_inj x y).mpr z))) (fun q => kf ((bI_inj x y).mp q))
end ROWZ
end
section
/-! the reference's world: its object h, its arrays q k by the field's number k, n words, cm cakes -/
def mS (q : Nat → Nat) (n cm : Nat) (th : Int32) (lm : Nat) : List Value := [.int (nI n), .ref (q 1), .ref (q 2), .ref (q 3), .ref (q 4), .ref (q 5), .ref (q 6), .ref (q 7), .ref (q 8), .ref (q 9), .ref (q 10), .ref (q 11), .int (nI cm), .ref (q 13), .ref (q 14), .ref (q 15), .int th, .ref (q 17), .int (nI lm)]
def mW (h : Nat) (q : Nat → Nat) (cI cZ : ClassId) (n cm : Nat) (th : Int32) (lm : Nat) (a : Nat → Nat → Int32) (kn : Nat → Bool) : va_W := [(h, .inr (4, mS q n cm th lm)),
  (q 1, .inl (cI, 240, .inl (a 1))), (q 2, .inl (cI, 240, .inl (a 2))), (q 3, .inl (cI, 240, .inl (a 3))), (q 4, .inl (cI, 240, .inl (a 4))), (q 5, .inl (cI, 240, .inl (a 5))), (q 6, .inl (cI, 240, .inl (a 6))), (q 7, .inl (cI, 240, .inl (a 7))), (q 8, .inl (cI, 240, .inl (a 8))),
  (q 9, .inl (cZ, 1440, .inl (fun i => bI (kn i)))), (q 10, .inl (cI, 5, .inl (a 10))), (q 11, .inl (cI, 48, .inl (a 11))), (q 13, .inl (cI, 20, .inl (a 13))), (q 14, .inl (cI, 20, .inl (a 14))), (q 15, .inl (cI, 20, .inl (a 15))), (q 17, .inl (cI, 40, .inl (a 17)))]
def mT (cI cZ : ClassId) : List (ClassId × FieldType) := [(cI, .int), (cZ, .boolean)]
/-- what the reference's state keeps, so that no place is out of its row -/
def mI (n cm : Nat) (a : Nat → Nat → Int32) : Prop := n ≤ 240 ∧ cm ≤ 20 ∧ (∀ k, k < cm → ∃ j, j < n ∧ a 15 k = nI j) ∧ (∀ i, i < n → a 1 i = 4 → ∃ k, k < cm ∧ a 5 i = nI k) ∧ (∀ k, k < cm → ∃ r, r < 6 ∧ a 13 k = nI r)
section MROW
variable {p : Program} {l : Launch} {e : Env} {R : Room} {s : State} {m : MethodId} {args : Array Value} {below : List Frame} {meth : Method} {c : Code} {H : Heap} {locs : List Loc} {cells slots : Nat} {Q : State → Prop}
variable {cc : ByteArray} {pc nL index : Nat} {ls : Array Slot} {rest : List Value} {Ts : List Cond} {own : String} {D : va_G} {tys : List (ClassId × FieldType)}
variable {h : Nat} {q : Nat → Nat} {cI cZ : ClassId} {n cm : Nat} {th : Int32} {lm : Nat} {a : Nat → Nat → Int32} {kn : Nat → Bool}
theorem mg_get {v : Value} (F : CallFix p m c cc nL s args Ts RX4) (hK : va_K D vwCl tys s) (hin : ∀ w ∈ wsX40, w ∈ Ts) (hP : va_P D vwCl (mW h q cI cZ n cm th lm a kn) H) (k : Nat) (hk : k < 19) (hlink : Cond.fieldLink RX4 index (TX4 k).1 (TX4 k).2.1 (TX4 k).2.2.1 ∈ Ts) (hv : (mS q n cm th lm)[k]? = some v) (hdg : decode cc pc = .ok (.getfield index, 3))
    (kk : W p l e R s m args below meth c H locs cells slots Q (F0 m (pc + 3) ls (v :: rest))) : W p l e R s m args below meth c H locs cells slots Q (F0 m pc ls (.ref h :: rest)) :=
  va_get (ref := (TX4 k).1) (C := RX4) (T := TX4) (N := 19) (ci := 4) F.1 F.2.1 F.2.2.2.2 hin F.2.2.2.1 hK hP 0 rfl rfl k hk (F.2.2.2.2 _ hlink) (fun _ x => x) hv hdg kk
theorem mg_ald (F : CallFix p m c cc nL s args Ts own) (hK : va_K D vwCl (mT cI cZ) s) (hP : va_P D vwCl (mW h q cI cZ n cm th lm a kn) H) (k pl len : Nat) (hpl : (mW h q cI cZ n cm th lm a kn)[pl]? = some (q k, .inl (cI, len, .inl (a k)))) {i : Int32} (j : Nat) (hi : i = nI j) (hj : j < len) (hlen : len < 2 ^ 31) (hdg : decode cc pc = .ok (.iaload, 1))
    (kk : W p l e R s m args below meth c H locs cells slots Q (F0 m (pc + 1) ls (.int (a k j) :: rest))) : W p l e R s m args below meth c H locs cells slots Q (F0 m pc ls (.int i :: .ref (q k) :: rest)) := by
  subst hi
  refine va_iald F.1 F.2.1 hK hP pl 0 hpl rfl (vp_in_nI hj hlen) hdg ?_
  rw [nI_clamp (Nat.lt_trans hj hlen)]
  exact kk
theorem mg_zld (F : CallFix p m c cc nL s args Ts own) (hK : va_K D vwCl (mT cI cZ) s) (hP : va_P D vwCl (mW h q cI cZ n cm th lm a kn) H) {i : Int32} (j : Nat) (hi : i = nI j) (hj : j < 1440) (hdg : decode cc pc = .ok (.baload, 1))
    (kk : W p l e R s m args below meth c H locs cells slots Q (F0 m (pc + 1) ls (.int (bI (kn j)) :: rest))) : W p l e R s m args below meth c H locs cells slots Q (F0 m pc ls (.int i :: .ref (q 9) :: rest)) := by
  subst hi
  refine va_zald F.1 F.2.1 hK hP 9 1 rfl rfl (vp_in_nI hj (by omega)) hdg ?_
  rw [nI_clamp (by omega)]
  exact kk
theorem mg_rc {D : va_G} (hK : va_K D vwCl tys s) (hP : va_P D vwCl (mW h q cI cZ n cm th lm a kn) H) : ∃ cellB : Cell, H[h]? = some cellB ∧ cellB.vm.isStatics = false ∧ s.vm.findClass RX4 = some cellB.cls :=
  va_recv hK hP (ci := 4) (q := (RX4, TX4, 19)) (q0 := 0) rfl rfl
end MROW
end
section
/-! the reference's questions, as functions of its rows: v a view (a fridge, or 5 for all) -/
def inB (x lo hi : Int32) : Bool := !decide (x < lo) && !decide (hi < x)
def isLaterB (a : Nat → Nat → Int32) (w t : Nat) : Bool := decide (a 3 t < a 3 w) || (decide (a 3 w = a 3 t) && decide (a 2 t < a 2 w))
def isMoveB (a : Nat → Nat → Int32) (w : Nat) (x : Int32) : Bool := (decide (a 1 w = 0) || decide (a 1 w = 1)) && decide (a 4 w = x)
def lmStep (a : Nat → Nat → Int32) (kn : Nat → Bool) (v : Nat) (x au : Int32) (i : Nat) (f : Int32) : Int32 := if (kn (6 * i + v) && isMoveB a i x && (decide (au = -1) || decide (a 2 i = au))) && (decide (f = -1) || isLaterB a i (jn f)) then nI i else f
def latestB (a : Nat → Nat → Int32) (kn : Nat → Bool) (n v : Nat) (x au : Int32) : Int32 := foldU (lmStep a kn v x au) (-1) n
def placeB (a : Nat → Nat → Int32) (kn : Nat → Bool) (n v : Nat) (x : Int32) : Int32 := if latestB a kn n v x (-1) = -1 then -1 else if a 1 (jn (latestB a kn n v x (-1))) = 0 then a 2 (jn (latestB a kn n v x (-1))) else -1
def coStep (a : Nat → Nat → Int32) (kn : Nat → Bool) (v : Nat) (x : Int32) (i : Nat) (f : Int32) : Int32 := if (kn (6 * i + v) && decide (a 1 i = 2) && decide (a 4 i = x)) && (decide (f = -1) || isLaterB a i (jn f)) then nI i else f
def comF (a : Nat → Nat → Int32) (kn : Nat → Bool) (n v : Nat) (x : Int32) : Int32 := foldU (coStep a kn v x) (-1) n
def comingB (a : Nat → Nat → Int32) (kn : Nat → Bool) (n v : Nat) (x day : Int32) : Int32 := if comF a kn n v x = -1 then -1 else if inB day (a 6 (jn (comF a kn n v x))) (a 7 (jn (comF a kn n v x))) then comF a kn n v x else -1
def gmStep (a : Nat → Nat → Int32) (kn : Nat → Bool) (n v : Nat) (day : Int32) (i : Nat) (x : Nat) : Nat := if comingB a kn n v (nI i) day = -1 then x + 0 else x + 1
def guestManyB (a : Nat → Nat → Int32) (kn : Nat → Bool) (n v : Nat) (day : Int32) : Nat := foldU (gmStep a kn n v day) 0 8
def diStep (a : Nat → Nat → Int32) (r w : Nat) (f : Nat) (b : Bool) : Bool := b || (!decide (a 11 (8 * r + f) ≤ 0) && decide ((a 8 w >>> (nI f &&& 31)) &&& 1 = 1))
def dgStep (a : Nat → Nat → Int32) (kn : Nat → Bool) (n v r : Nat) (day : Int32) (i : Nat) (b : Bool) : Bool := if comingB a kn n v (nI i) day = -1 then b else foldU (diStep a r (jn (comingB a kn n v (nI i) day))) b 8
def dislikedB (a : Nat → Nat → Int32) (kn : Nat → Bool) (n v r : Nat) (day : Int32) : Bool := foldU (dgStep a kn n v r day) false 8
def stStep (a : Nat → Nat → Int32) (kn : Nat → Bool) (v k : Nat) (i : Nat) (x : Int32) : Int32 := if (kn (6 * i + v) && decide (a 4 i = nI k)) && decide (a 1 i = 6) then 3 else if (kn (6 * i + v) && decide (a 4 i = nI k)) && decide (a 1 i = 5) && decide (x = 1) then 2 else x
def stateB (a : Nat → Nat → Int32) (kn : Nat → Bool) (n v k : Nat) : Int32 := if kn (6 * jn (a 15 k) + v) then foldU (stStep a kn v k) 1 n else 0
def aheadB (a : Nat → Nat → Int32) (kn : Nat → Bool) (n v k o : Nat) : Bool := if nI (guestManyB a kn n v (a 14 k)) - nI (guestManyB a kn n v (a 14 o)) = 0 then decide (a 14 k < a 14 o) || (decide (a 14 k = a 14 o) && isLaterB a (jn (a 15 o)) (jn (a 15 k))) else decide (0 < nI (guestManyB a kn n v (a 14 k)) - nI (guestManyB a kn n v (a 14 o)))
def keStep (a : Nat → Nat → Int32) (kn : Nat → Bool) (n v : Nat) (x : Int32) (i : Nat) (f : Int32) : Int32 := if kn (6 * i + v) && decide (a 1 i = 4) && decide (a 4 i = x) && decide (stateB a kn n v (jn (a 5 i)) = 1) then (if decide (f = -1) || (!decide (f = a 5 i) && aheadB a kn n v (jn (a 5 i)) (jn f)) then a 5 i else f) else f
def keeperB (a : Nat → Nat → Int32) (kn : Nat → Bool) (n v : Nat) (x : Int32) : Int32 := if placeB a kn n v x = -1 then -1 else foldU (keStep a kn n v x) (-1) n
def koStep (a : Nat → Nat → Int32) (kn : Nat → Bool) (n v : Nat) (cake : Int32) (fo : Nat) (j : Nat) (x : Nat) : Nat := if keeperB a kn n v (nI (fo + 8 * j)) = cake then x + 1 else x + 0
def keptOfB (a : Nat → Nat → Int32) (kn : Nat → Bool) (n v : Nat) (cake : Int32) (fo : Nat) : Nat := foldU (koStep a kn n v cake fo) 0 5
def lackB (a : Nat → Nat → Int32) (kn : Nat → Bool) (n v k fo : Nat) : Int32 := if 0 ≤ a 11 (8 * jn (a 13 k) + fo) - nI (keptOfB a kn n v (nI k) fo) then a 11 (8 * jn (a 13 k) + fo) - nI (keptOfB a kn n v (nI k) fo) else 0
def vaStep (a : Nat → Nat → Int32) (kn : Nat → Bool) (v t : Nat) (i : Nat) (f : Int32) : Int32 := if (kn (6 * i + v) && isMoveB a i (a 4 t) && isLaterB a t i) && (decide (f = -1) || isLaterB a i (jn f)) then nI i else f
def vainF (a : Nat → Nat → Int32) (kn : Nat → Bool) (n v t : Nat) : Int32 := foldU (vaStep a kn v t) (-1) n
def vainB (a : Nat → Nat → Int32) (kn : Nat → Bool) (n v t : Nat) : Bool := decide (vainF a kn n v t = -1) || decide (a 1 (jn (vainF a kn n v t)) = 1)
def cnStep (a : Nat → Nat → Int32) (kn : Nat → Bool) (n v fo : Nat) (j : Nat) (x : Nat) : Nat := if placeB a kn n v (nI (fo + 8 * j)) = -1 then x + 0 else x + 1
def countB (a : Nat → Nat → Int32) (kn : Nat → Bool) (n v fo : Nat) : Nat := foldU (cnStep a kn n v fo) 0 5
def fullB (n k : Nat) : Bool := decide (240 < n + k)
theorem foldU_range (st : Nat → Int32 → Int32) (h : ∀ i f, st i f = nI i ∨ st i f = f) : ∀ i, foldU st (-1) i = -1 ∨ ∃ j, j < i ∧ foldU st (-1) i = nI j
  | 0 => Or.inl rfl
  | i + 1 => by
    rw [foldU_s]
    rcases h i (foldU st (-1) i) with q | q
    · exact Or.inr ⟨i, Nat.lt_succ_self i, q⟩
    · rw [q]
      rcases foldU_range st h i with z | ⟨j, hj, z⟩
      · exact Or.inl z
      · exact Or.inr ⟨j, Nat.lt_succ_of_lt hj, z⟩
theorem lm_range (a : Nat → Nat → Int32) (kn : Nat → Bool) (v : Nat) (x au : Int32) (i : Nat) : foldU (lmStep a kn v x au) (-1) i = -1 ∨ ∃ j, j < i ∧ foldU (lmStep a kn v x au) (-1) i = nI j :=
  foldU_range _ (fun i f => by unfold lmStep; split; exact Or.inl rfl; exact Or.inr rfl) i
theorem co_range (a : Nat → Nat → Int32) (kn : Nat → Bool) (v : Nat) (x : Int32) (i : Nat) : foldU (coStep a kn v x) (-1) i = -1 ∨ ∃ j, j < i ∧ foldU (coStep a kn v x) (-1) i = nI j :=
  foldU_range _ (fun i f => by unfold coStep; split; exact Or.inl rfl; exact Or.inr rfl) i
theorem va_range (a : Nat → Nat → Int32) (kn : Nat → Bool) (v t : Nat) (i : Nat) : foldU (vaStep a kn v t) (-1) i = -1 ∨ ∃ j, j < i ∧ foldU (vaStep a kn v t) (-1) i = nI j :=
  foldU_range _ (fun i f => by unfold vaStep; split; exact Or.inl rfl; exact Or.inr rfl) i
theorem comingB_range (a : Nat → Nat → Int32) (kn : Nat → Bool) (n v : Nat) (x day : Int32) : comingB a kn n v x day = -1 ∨ ∃ j, j < n ∧ comingB a kn n v x day = nI j := by
  unfold comingB
  rcases co_range a kn v x n with q | ⟨j, hj, q⟩
  · rw [if_pos (show comF a kn n v x = -1 from q)]; exact Or.inl rfl
  · split
    · exact Or.inl rfl
    · split
      · exact Or.inr ⟨j, hj, q⟩
      · exact Or.inl rfl
theorem foldU_le (st : Nat → Nat → Nat) (h : ∀ i x, st i x ≤ x + 1) : ∀ i, foldU st 0 i ≤ i
  | 0 => Nat.le_refl _
  | i + 1 => by
    rw [foldU_s]
    have h1 := h i (foldU st 0 i)
    have h2 := foldU_le st h i
    omega
theorem gm_le (a : Nat → Nat → Int32) (kn : Nat → Bool) (n v : Nat) (day : Int32) (i : Nat) : foldU (gmStep a kn n v day) 0 i ≤ i := foldU_le _ (fun i x => by unfold gmStep; split <;> omega) i
theorem ko_le (a : Nat → Nat → Int32) (kn : Nat → Bool) (n v : Nat) (cake : Int32) (fo : Nat) (i : Nat) : foldU (koStep a kn n v cake fo) 0 i ≤ i := foldU_le _ (fun i x => by unfold koStep; split <;> omega) i
theorem cn_le (a : Nat → Nat → Int32) (kn : Nat → Bool) (n v fo : Nat) (i : Nat) : foldU (cnStep a kn n v fo) 0 i ≤ i := foldU_le _ (fun i x => by unfold cnStep; split <;> omega) i
theorem ke_range {n cm : Nat} {a : Nat → Nat → Int32} (I : mI n cm a) (kn : Nat → Bool) (v : Nat) (x : Int32) : ∀ i, i ≤ n → foldU (keStep a kn n v x) (-1) i = -1 ∨ ∃ k, k < cm ∧ foldU (keStep a kn n v x) (-1) i = nI k
  | 0, _ => Or.inl rfl
  | i + 1, hi => by
    rw [foldU_s]
    have ih := ke_range I kn v x i (by omega)
    generalize foldU (keStep a kn n v x) (-1) i = f at ih ⊢
    unfold keStep
    split
    · rename_i hc
      simp only [Bool.and_eq_true, decide_eq_true_eq] at hc
      obtain ⟨k, hk, ek⟩ := I.2.2.2.1 i (by omega) hc.1.1.2
      split
      · exact Or.inr ⟨k, hk, ek⟩
      · exact ih
    · exact ih
set_option maxHeartbeats 4000000 in
set_option maxRecDepth 100000 in
theorem cm_in {l : Launch} {D : va_G} {cI cZ : ClassId} {H : Heap} (x : Int32) (lo : Int32) (hi : Int32)  : ro_Met l yX4_in wsX4_in 0 0 D (mT cI cZ) H [.int x, .int lo, .int hi] (bI (inB x lo hi)) := by
  refine ro_start rfl (by decide +kernel) (Nat.le_of_ble_eq_true rfl) (fun p e s m below meth c F hr hlocks hK ls hl => ?_)
  have hl : lv_has ls 3 [(0, .int x), (1, .int lo), (2, .int hi)] := hl
  have hx := F.1
  have hb := F.2.1
  refine lv_iload_n hx hb dX4_in_0 rfl (lv_at hl 0 rfl) ?_
  refine lv_iload_n hx hb dX4_in_1 rfl (lv_at hl 1 rfl) ?_
  refine lv_icmp_lt (tgt := 14) hx hb dX4_in_2 (by decide) (fun c_1 => ?_) (fun c_1 => ?_)
  · skip
    refine lv_iconst (v := 0) hx hb dX4_in_14 (by decide) ?_
    exact ro_retz F hr hlocks (by simp [inB, bI, c_1]) dX4_in_15
  · skip
    refine lv_iload_n hx hb dX4_in_5 rfl (lv_at hl 0 rfl) ?_
    refine lv_iload_n hx hb dX4_in_6 rfl (lv_at hl 2 rfl) ?_
    refine lv_icmp_gt (tgt := 14) hx hb dX4_in_7 (by decide) (fun c_2 => ?_) (fun c_2 => ?_)
    · skip
      refine lv_iconst (v := 0) hx hb dX4_in_14 (by decide) ?_
      exact ro_retz F hr hlocks (by simp [inB, bI, c_1, c_2]) dX4_in_15
    · skip
      refine lv_iconst (v := 1) hx hb dX4_in_10 (by decide) ?_
      refine lv_goto (tgt := 15) hx hb dX4_in_11 (by decide) ?_
      exact ro_retz F hr hlocks (by simp [inB, bI, c_1, c_2]) dX4_in_15
set_option maxHeartbeats 4000000 in
set_option maxRecDepth 100000 in
theorem cm_isFridge {l : Launch} {D : va_G} {cI cZ : ClassId} {H : Heap} (x : Int32)  : ro_Met l yX4_isFridge wsX4_isFridge 1 22 D (mT cI cZ) H [.int x] (bI (inB x 0 4)) := by
  refine ro_start rfl (by decide +kernel) (Nat.le_of_ble_eq_true rfl) (fun p e s m below meth c F hr hlocks hK ls hl => ?_)
  have hl : lv_has ls 1 [(0, .int x)] := hl
  have hx := F.1
  have hb := F.2.1
  refine lv_iload_n hx hb dX4_isFridge_0 rfl (lv_at hl 0 rfl) ?_
  refine lv_iconst (v := 0) hx hb dX4_isFridge_1 (by decide) ?_
  refine lv_iconst (v := 4) hx hb dX4_isFridge_2 (by decide) ?_
  refine ro_callS F hK [.int x, .int 0, .int 4] (cm_in x 0 4 ) (va_cwS 3 F.2.2.2.2 gX4_isFridge_X4_in rfl rfl rfl (by decide +kernel) ⟨Nat.le_of_ble_eq_true rfl, Nat.le_of_ble_eq_true rfl⟩) rfl hl.1 rfl (lv_room (Nat.le_of_ble_eq_true rfl)) ⟨Nat.zero_le _, Nat.zero_le _⟩ dX4_isFridge_3 ?_
  exact ro_retz F hr hlocks (rfl) dX4_isFridge_6
set_option maxHeartbeats 4000000 in
set_option maxRecDepth 100000 in
theorem cm_isThing {l : Launch} {D : va_G} {cI cZ : ClassId} {H : Heap} (x : Int32)  : ro_Met l yX4_isThing wsX4_isThing 1 22 D (mT cI cZ) H [.int x] (bI (inB x 0 39)) := by
  refine ro_start rfl (by decide +kernel) (Nat.le_of_ble_eq_true rfl) (fun p e s m below meth c F hr hlocks hK ls hl => ?_)
  have hl : lv_has ls 1 [(0, .int x)] := hl
  have hx := F.1
  have hb := F.2.1
  refine lv_iload_n hx hb dX4_isThing_0 rfl (lv_at hl 0 rfl) ?_
  refine lv_iconst (v := 0) hx hb dX4_isThing_1 (by decide) ?_
  refine lv_bipush (v := 39) hx hb dX4_isThing_2 (by decide) ?_
  refine ro_callS F hK [.int x, .int 0, .int 39] (cm_in x 0 39 ) (va_cwS 3 F.2.2.2.2 gX4_isThing_X4_in rfl rfl rfl (by decide +kernel) ⟨Nat.le_of_ble_eq_true rfl, Nat.le_of_ble_eq_true rfl⟩) rfl hl.1 rfl (lv_room (Nat.le_of_ble_eq_true rfl)) ⟨Nat.zero_le _, Nat.zero_le _⟩ dX4_isThing_4 ?_
  exact ro_retz F hr hlocks (rfl) dX4_isThing_7
set_option maxHeartbeats 4000000 in
set_option maxRecDepth 100000 in
theorem cm_isFood {l : Launch} {D : va_G} {cI cZ : ClassId} {H : Heap} (x : Int32)  : ro_Met l yX4_isFood wsX4_isFood 1 22 D (mT cI cZ) H [.int x] (bI (inB x 0 7)) := by
  refine ro_start rfl (by decide +kernel) (Nat.le_of_ble_eq_true rfl) (fun p e s m below meth c F hr hlocks hK ls hl => ?_)
  have hl : lv_has ls 1 [(0, .int x)] := hl
  have hx := F.1
  have hb := F.2.1
  refine lv_iload_n hx hb dX4_isFood_0 rfl (lv_at hl 0 rfl) ?_
  refine lv_iconst (v := 0) hx hb dX4_isFood_1 (by decide) ?_
  refine lv_bipush (v := 7) hx hb dX4_isFood_2 (by decide) ?_
  refine ro_callS F hK [.int x, .int 0, .int 7] (cm_in x 0 7 ) (va_cwS 3 F.2.2.2.2 gX4_isFood_X4_in rfl rfl rfl (by decide +kernel) ⟨Nat.le_of_ble_eq_true rfl, Nat.le_of_ble_eq_true rfl⟩) rfl hl.1 rfl (lv_room (Nat.le_of_ble_eq_true rfl)) ⟨Nat.zero_le _, Nat.zero_le _⟩ dX4_isFood_4 ?_
  exact ro_retz F hr hlocks (rfl) dX4_isFood_7
set_option maxHeartbeats 4000000 in
set_option maxRecDepth 100000 in
theorem cm_isCake {l : Launch} {D : va_G} {cI cZ : ClassId} {h : Nat} {q : Nat → Nat} {n cm : Nat} {th : Int32} {lm : Nat} {a : Nat → Nat → Int32} {kn : Nat → Bool} {H : Heap} (hP : va_P D vwCl (mW h q cI cZ n cm th lm a kn) H) (x : Int32)  : ro_Met l yX4_isCake wsX4_isCake 1 22 D (mT cI cZ) H [.ref h, .int x] (bI (inB x 0 (nI cm - 1))) := by
  refine ro_start rfl (by decide +kernel) (Nat.le_of_ble_eq_true rfl) (fun p e s m below meth c F hr hlocks hK ls hl => ?_)
  have hl : lv_has ls 2 [(0, .ref h), (1, .int x)] := hl
  have hx := F.1
  have hb := F.2.1
  have hin : ∀ w ∈ wsX40, w ∈ wsX4_isCake := fun _ z => List.mem_cons_of_mem _ (List.mem_append_right _ z)
  refine lv_iload_n hx hb dX4_isCake_0 rfl (lv_at hl 1 rfl) ?_
  refine lv_iconst (v := 0) hx hb dX4_isCake_1 (by decide) ?_
  refine lv_aload_n hx hb dX4_isCake_2 rfl (lv_at hl 0 rfl) ?_
  refine mg_get F hK hin hP 12 (by decide) (by decide +kernel) rfl dX4_isCake_3 ?_
  refine lv_iconst (v := 1) hx hb dX4_isCake_6 (by decide) ?_
  refine lv_isub hx hb dX4_isCake_7 ?_
  refine ro_callS F hK [.int x, .int 0, .int (nI cm - 1)] (cm_in x 0 (nI cm - 1) ) (va_cwS 3 F.2.2.2.2 gX4_isCake_X4_in rfl rfl rfl (by decide +kernel) ⟨Nat.le_of_ble_eq_true rfl, Nat.le_of_ble_eq_true rfl⟩) rfl hl.1 rfl (lv_room (Nat.le_of_ble_eq_true rfl)) ⟨Nat.zero_le _, Nat.zero_le _⟩ dX4_isCake_8 ?_
  exact ro_retz F hr hlocks (rfl) dX4_isCake_11
set_option maxHeartbeats 4000000 in
set_option maxRecDepth 100000 in
theorem cm_knows {l : Launch} {D : va_G} {cI cZ : ClassId} {h : Nat} {q : Nat → Nat} {n cm : Nat} {th : Int32} {lm : Nat} {a : Nat → Nat → Int32} {kn : Nat → Bool} {H : Heap} (hP : va_P D vwCl (mW h q cI cZ n cm th lm a kn) H) (v : Nat) (w : Nat) (hv : v ≤ 5) (hw : w < 240) : ro_Met l yX4_knows wsX4_knows 0 0 D (mT cI cZ) H [.ref h, .int (nI v), .int (nI w)] (bI (kn (6 * w + v))) := by
  refine ro_start rfl (by decide +kernel) (Nat.le_of_ble_eq_true rfl) (fun p e s m below meth c F hr hlocks hK ls hl => ?_)
  have hl : lv_has ls 3 [(0, .ref h), (1, .int (nI v)), (2, .int (nI w))] := hl
  have hx := F.1
  have hb := F.2.1
  have hin : ∀ w ∈ wsX40, w ∈ wsX4_knows := fun _ z => List.mem_cons_of_mem _ (List.mem_append_right _ z)
  refine lv_aload_n hx hb dX4_knows_0 rfl (lv_at hl 0 rfl) ?_
  refine mg_get F hK hin hP 9 (by decide) (by decide +kernel) rfl dX4_knows_1 ?_
  refine lv_bipush (v := 6) hx hb dX4_knows_4 (by decide) ?_
  refine lv_iload_n hx hb dX4_knows_6 rfl (lv_at hl 2 rfl) ?_
  refine lw_mul hx hb (i := 6) (j := w) dX4_knows_7 ?_
  refine lv_iload_n hx hb dX4_knows_8 rfl (lv_at hl 1 rfl) ?_
  refine lw_add hx hb (i := (6 * w)) (j := v) dX4_knows_9 ?_
  refine mg_zld F hK hP ((6 * w) + v) rfl (by omega) dX4_knows_10 ?_
  exact ro_retz F hr hlocks (rfl) dX4_knows_11
set_option maxHeartbeats 4000000 in
set_option maxRecDepth 100000 in
theorem cm_isLater {l : Launch} {D : va_G} {cI cZ : ClassId} {h : Nat} {q : Nat → Nat} {n cm : Nat} {th : Int32} {lm : Nat} {a : Nat → Nat → Int32} {kn : Nat → Bool} {H : Heap} (hP : va_P D vwCl (mW h q cI cZ n cm th lm a kn) H) (w : Nat) (t : Nat) (hw : w < 240) (ht : t < 240) : ro_Met l yX4_isLater wsX4_isLater 0 0 D (mT cI cZ) H [.ref h, .int (nI w), .int (nI t)] (bI (isLaterB a w t)) := by
  refine ro_start rfl (by decide +kernel) (Nat.le_of_ble_eq_true rfl) (fun p e s m below meth c F hr hlocks hK ls hl => ?_)
  have hl : lv_has ls 3 [(0, .ref h), (1, .int (nI w)), (2, .int (nI t))] := hl
  have hx := F.1
  have hb := F.2.1
  have hin : ∀ w ∈ wsX40, w ∈ wsX4_isLater := fun _ z => List.mem_cons_of_mem _ (List.mem_append_right _ z)
  refine lv_aload_n hx hb dX4_isLater_0 rfl (lv_at hl 0 rfl) ?_
  refine mg_get F hK hin hP 3 (by decide) (by decide +kernel) rfl dX4_isLater_1 ?_
  refine lv_iload_n hx hb dX4_isLater_4 rfl (lv_at hl 1 rfl) ?_
  refine mg_ald F hK hP 3 3 240 rfl w rfl (by omega) (by decide) dX4_isLater_5 ?_
  refine lv_aload_n hx hb dX4_isLater_6 rfl (lv_at hl 0 rfl) ?_
  refine mg_get F hK hin hP 3 (by decide) (by decide +kernel) rfl dX4_isLater_7 ?_
  refine lv_iload_n hx hb dX4_isLater_10 rfl (lv_at hl 2 rfl) ?_
  refine mg_ald F hK hP 3 3 240 rfl t rfl (by omega) (by decide) dX4_isLater_11 ?_
  refine lv_icmp_gt (tgt := 45) hx hb dX4_isLater_12 (by decide) (fun c_1 => ?_) (fun c_1 => ?_)
  · skip
    refine lv_iconst (v := 1) hx hb dX4_isLater_45 (by decide) ?_
    refine lv_goto (tgt := 50) hx hb dX4_isLater_46 (by decide) ?_
    exact ro_retz F hr hlocks (by simp [isLaterB, bI, c_1]) dX4_isLater_50
  · skip
    refine lv_aload_n hx hb dX4_isLater_15 rfl (lv_at hl 0 rfl) ?_
    refine mg_get F hK hin hP 3 (by decide) (by decide +kernel) rfl dX4_isLater_16 ?_
    refine lv_iload_n hx hb dX4_isLater_19 rfl (lv_at hl 1 rfl) ?_
    refine mg_ald F hK hP 3 3 240 rfl w rfl (by omega) (by decide) dX4_isLater_20 ?_
    refine lv_aload_n hx hb dX4_isLater_21 rfl (lv_at hl 0 rfl) ?_
    refine mg_get F hK hin hP 3 (by decide) (by decide +kernel) rfl dX4_isLater_22 ?_
    refine lv_iload_n hx hb dX4_isLater_25 rfl (lv_at hl 2 rfl) ?_
    refine mg_ald F hK hP 3 3 240 rfl t rfl (by omega) (by decide) dX4_isLater_26 ?_
    refine lv_icmp_ne (tgt := 49) hx hb dX4_isLater_27 (by decide) (fun c_2 => ?_) (fun c_2 => ?_)
    · skip
      refine lv_iconst (v := 0) hx hb dX4_isLater_49 (by decide) ?_
      exact ro_retz F hr hlocks (by simp [isLaterB, bI, c_1, c_2]) dX4_isLater_50
    · skip
      refine lv_aload_n hx hb dX4_isLater_30 rfl (lv_at hl 0 rfl) ?_
      refine mg_get F hK hin hP 2 (by decide) (by decide +kernel) rfl dX4_isLater_31 ?_
      refine lv_iload_n hx hb dX4_isLater_34 rfl (lv_at hl 1 rfl) ?_
      refine mg_ald F hK hP 2 2 240 rfl w rfl (by omega) (by decide) dX4_isLater_35 ?_
      refine lv_aload_n hx hb dX4_isLater_36 rfl (lv_at hl 0 rfl) ?_
      refine mg_get F hK hin hP 2 (by decide) (by decide +kernel) rfl dX4_isLater_37 ?_
      refine lv_iload_n hx hb dX4_isLater_40 rfl (lv_at hl 2 rfl) ?_
      refine mg_ald F hK hP 2 2 240 rfl t rfl (by omega) (by decide) dX4_isLater_41 ?_
      refine lv_icmp_le (tgt := 49) hx hb dX4_isLater_42 (by decide) (fun c_3 => ?_) (fun c_3 => ?_)
      · skip
        refine lv_iconst (v := 0) hx hb dX4_isLater_49 (by decide) ?_
        exact ro_retz F hr hlocks (by simp [isLaterB, bI, c_1, c_2, c_3]) dX4_isLater_50
      · skip
        refine lv_iconst (v := 1) hx hb dX4_isLater_45 (by decide) ?_
        refine lv_goto (tgt := 50) hx hb dX4_isLater_46 (by decide) ?_
        exact ro_retz F hr hlocks (by simp [isLaterB, bI, c_1, c_2, c_3]) dX4_isLater_50
set_option maxHeartbeats 4000000 in
set_option maxRecDepth 100000 in
theorem cm_isMove {l : Launch} {D : va_G} {cI cZ : ClassId} {h : Nat} {q : Nat → Nat} {n cm : Nat} {th : Int32} {lm : Nat} {a : Nat → Nat → Int32} {kn : Nat → Bool} {H : Heap} (hP : va_P D vwCl (mW h q cI cZ n cm th lm a kn) H) (w : Nat) (x : Int32) (hw : w < 240) : ro_Met l yX4_isMove wsX4_isMove 0 0 D (mT cI cZ) H [.ref h, .int (nI w), .int x] (bI (isMoveB a w x)) := by
  refine ro_start rfl (by decide +kernel) (Nat.le_of_ble_eq_true rfl) (fun p e s m below meth c F hr hlocks hK ls hl => ?_)
  have hl : lv_has ls 3 [(0, .ref h), (1, .int (nI w)), (2, .int x)] := hl
  have hx := F.1
  have hb := F.2.1
  have hin : ∀ w ∈ wsX40, w ∈ wsX4_isMove := fun _ z => List.mem_cons_of_mem _ (List.mem_append_right _ z)
  refine lv_aload_n hx hb dX4_isMove_0 rfl (lv_at hl 0 rfl) ?_
  refine mg_get F hK hin hP 1 (by decide) (by decide +kernel) rfl dX4_isMove_1 ?_
  refine lv_iload_n hx hb dX4_isMove_4 rfl (lv_at hl 1 rfl) ?_
  refine mg_ald F hK hP 1 1 240 rfl w rfl (by omega) (by decide) dX4_isMove_5 ?_
  refine lv_if_eq (tgt := 19) hx hb dX4_isMove_6 (by decide) (fun c_1 => ?_) (fun c_1 => ?_)
  · skip
    refine lv_aload_n hx hb dX4_isMove_19 rfl (lv_at hl 0 rfl) ?_
    refine mg_get F hK hin hP 4 (by decide) (by decide +kernel) rfl dX4_isMove_20 ?_
    refine lv_iload_n hx hb dX4_isMove_23 rfl (lv_at hl 1 rfl) ?_
    refine mg_ald F hK hP 4 4 240 rfl w rfl (by omega) (by decide) dX4_isMove_24 ?_
    refine lv_iload_n hx hb dX4_isMove_25 rfl (lv_at hl 2 rfl) ?_
    refine lv_icmp_ne (tgt := 33) hx hb dX4_isMove_26 (by decide) (fun c_2 => ?_) (fun c_2 => ?_)
    · skip
      refine lv_iconst (v := 0) hx hb dX4_isMove_33 (by decide) ?_
      exact ro_retz F hr hlocks (by simp [isMoveB, bI, c_1, c_2]) dX4_isMove_34
    · skip
      refine lv_iconst (v := 1) hx hb dX4_isMove_29 (by decide) ?_
      refine lv_goto (tgt := 34) hx hb dX4_isMove_30 (by decide) ?_
      exact ro_retz F hr hlocks (by simp [isMoveB, bI, c_1, c_2]) dX4_isMove_34
  · skip
    refine lv_aload_n hx hb dX4_isMove_9 rfl (lv_at hl 0 rfl) ?_
    refine mg_get F hK hin hP 1 (by decide) (by decide +kernel) rfl dX4_isMove_10 ?_
    refine lv_iload_n hx hb dX4_isMove_13 rfl (lv_at hl 1 rfl) ?_
    refine mg_ald F hK hP 1 1 240 rfl w rfl (by omega) (by decide) dX4_isMove_14 ?_
    refine lv_iconst (v := 1) hx hb dX4_isMove_15 (by decide) ?_
    refine lv_icmp_ne (tgt := 33) hx hb dX4_isMove_16 (by decide) (fun c_3 => ?_) (fun c_3 => ?_)
    · skip
      refine lv_iconst (v := 0) hx hb dX4_isMove_33 (by decide) ?_
      exact ro_retz F hr hlocks (by simp [isMoveB, bI, c_1, c_3]) dX4_isMove_34
    · skip
      refine lv_aload_n hx hb dX4_isMove_19 rfl (lv_at hl 0 rfl) ?_
      refine mg_get F hK hin hP 4 (by decide) (by decide +kernel) rfl dX4_isMove_20 ?_
      refine lv_iload_n hx hb dX4_isMove_23 rfl (lv_at hl 1 rfl) ?_
      refine mg_ald F hK hP 4 4 240 rfl w rfl (by omega) (by decide) dX4_isMove_24 ?_
      refine lv_iload_n hx hb dX4_isMove_25 rfl (lv_at hl 2 rfl) ?_
      refine lv_icmp_ne (tgt := 33) hx hb dX4_isMove_26 (by decide) (fun c_4 => ?_) (fun c_4 => ?_)
      · skip
        refine lv_iconst (v := 0) hx hb dX4_isMove_33 (by decide) ?_
        exact ro_retz F hr hlocks (by simp [isMoveB, bI, c_1, c_3, c_4]) dX4_isMove_34
      · skip
        refine lv_iconst (v := 1) hx hb dX4_isMove_29 (by decide) ?_
        refine lv_goto (tgt := 34) hx hb dX4_isMove_30 (by decide) ?_
        exact ro_retz F hr hlocks (by simp [isMoveB, bI, c_1, c_3, c_4]) dX4_isMove_34
set_option maxHeartbeats 4000000 in
set_option maxRecDepth 100000 in
theorem cm_latestMove {l : Launch} {D : va_G} {cI cZ : ClassId} {h : Nat} {q : Nat → Nat} {n cm : Nat} {th : Int32} {lm : Nat} {a : Nat → Nat → Int32} {kn : Nat → Bool} {H : Heap} (hP : va_P D vwCl (mW h q cI cZ n cm th lm a kn) H) (v : Nat) (x : Int32) (au : Int32) (hv : v ≤ 5) (hn : n ≤ 240) : ro_Met l yX4_latestMove wsX4_latestMove 1 22 D (mT cI cZ) H [.ref h, .int (nI v), .int x, .int au] (latestB a kn n v x au) := by
  refine ro_start rfl (by decide +kernel) (Nat.le_of_ble_eq_true rfl) (fun p e s m below meth c F hr hlocks hK ls hl => ?_)
  have hl : lv_has ls 7 [(0, .ref h), (1, .int (nI v)), (2, .int x), (3, .int au)] := hl
  have hx := F.1
  have hb := F.2.1
  have hin : ∀ w ∈ wsX40, w ∈ wsX4_latestMove := fun _ z => List.mem_cons_of_mem _ (List.mem_append_right _ z)
  refine lv_iconst (v := (-1)) hx hb dX4_latestMove_0 (by decide) ?_
  refine lv_istore (lv' := [(4, .int (-1)), (0, .ref h), (1, .int (nI v)), (2, .int x), (3, .int au)]) hx hb dX4_latestMove_1 hl (by decide) rfl (fun ls hl => ?_)
  refine lv_iconst (v := 0) hx hb dX4_latestMove_3 (by decide) ?_
  refine lv_istore (lv' := [(5, .int 0), (4, .int (-1)), (0, .ref h), (1, .int (nI v)), (2, .int x), (3, .int au)]) hx hb dX4_latestMove_4 hl (by decide) rfl (fun ls hl => ?_)
  have L6_u_1 : ∀ (k9u_1 : Nat) (i : Nat) (f : Int32) (ls : Array Slot), n - i < k9u_1 → i ≤ n → f = foldU (lmStep a kn v x au) (-1) i → lv_has ls 7 [(4, .int f), (5, .int (nI i)), (0, .ref h), (1, .int (nI v)), (2, .int x), (3, .int au)] → roW p l e 1 22 s m [.ref h, .int (nI v), .int x, .int au] below meth c H (latestB a kn n v x au) (F0 m 6 ls []) := by
    intro k9u_1
    induction k9u_1 with
    | zero => intro i f ls hk; exact absurd hk (Nat.not_lt_zero _)
    | succ k9u_1 ihu_1 =>
      intro i f ls hk hi hf  hl
      refine lv_iload hx hb dX4_latestMove_6 (lv_at hl 1 rfl) ?_
      refine lv_aload_n hx hb dX4_latestMove_8 rfl (lv_at hl 2 rfl) ?_
      refine mg_get F hK hin hP 0 (by decide) (by decide +kernel) rfl dX4_latestMove_9 ?_
      refine lw_ge (tgt := 95) hx hb i n (by omega) (by omega) dX4_latestMove_12 (by decide) (fun c_2 => ?_) (fun c_2 => ?_)
      · skip
        refine lv_iload hx hb dX4_latestMove_95 (lv_at hl 0 rfl) ?_
        exact ro_reti F hr hlocks (by rw [hf, show i = n by omega]; rfl) dX4_latestMove_97
      · skip
        refine lv_aload_n hx hb dX4_latestMove_15 rfl (lv_at hl 2 rfl) ?_
        refine lv_iload_n hx hb dX4_latestMove_16 rfl (lv_at hl 3 rfl) ?_
        refine lv_iload hx hb dX4_latestMove_17 (lv_at hl 1 rfl) ?_
        refine ro_callV F hK [.int (nI v), .int (nI i)] (cm_knows hP v i (by first | assumption | omega) (by first | assumption | omega)) (cwV 2 F.2.2.2.2 gX4_latestMove_X4_knows rfl rfl rfl (by decide +kernel) ⟨Nat.le_of_ble_eq_true rfl, Nat.le_of_ble_eq_true rfl⟩) (mg_rc hK hP) rfl hl.1 rfl (lv_room (Nat.le_of_ble_eq_true rfl)) ⟨Nat.zero_le _, Nat.zero_le _⟩ dX4_latestMove_19 ?_
        refine lw_beq (tgt := 55) hx hb dX4_latestMove_22 (by decide) (fun c_3 => ?_) (fun c_3 => ?_)
        · skip
          refine lv_iconst (v := 0) hx hb dX4_latestMove_55 (by decide) ?_
          refine lv_istore (lv' := [(6, .int 0), (4, .int f), (5, .int (nI i)), (0, .ref h), (1, .int (nI v)), (2, .int x), (3, .int au)]) hx hb dX4_latestMove_56 hl (by decide) rfl (fun ls hl => ?_)
          refine lv_iload hx hb dX4_latestMove_58 (lv_at hl 0 rfl) ?_
          refine lv_if_eq (tgt := 85) hx hb dX4_latestMove_60 (by decide) (fun _ => ?_) (fun z9 => absurd (by decide) z9)
          refine lv_iload hx hb dX4_latestMove_85 (lv_at hl 1 rfl) ?_
          refine lv_istore (lv' := [(4, .int f), (6, .int 0), (5, .int (nI i)), (0, .ref h), (1, .int (nI v)), (2, .int x), (3, .int au)]) hx hb dX4_latestMove_87 hl (by decide) rfl (fun ls hl => ?_)
          refine lv_iinc (v := nI (i + 1)) (lv' := [(5, .int (nI (i + 1))), (4, .int f), (6, .int 0), (0, .ref h), (1, .int (nI v)), (2, .int x), (3, .int au)]) hx hb dX4_latestMove_89 hl (k := 2) rfl (show nI i + Int32.ofInt 1 = _ from nI_add i 1) (by decide) rfl (fun ls hl => ?_)
          refine lv_goto (tgt := 6) hx hb dX4_latestMove_92 (by decide) ?_
          exact ihu_1  (i + 1) f  ls (by omega) (by first | omega | assumption) (by rw [foldU_s, ← hf]; simp [lmStep, c_2, c_3])  (lv_sub hl [1, 0, 3, 4, 5, 6] rfl)
        · skip
          refine lv_aload_n hx hb dX4_latestMove_25 rfl (lv_at hl 2 rfl) ?_
          refine lv_iload hx hb dX4_latestMove_26 (lv_at hl 1 rfl) ?_
          refine lv_iload_n hx hb dX4_latestMove_28 rfl (lv_at hl 4 rfl) ?_
          refine ro_callV F hK [.int (nI i), .int x] (cm_isMove hP i x (by first | assumption | omega)) (cwV 2 F.2.2.2.2 gX4_latestMove_X4_isMove rfl rfl rfl (by decide +kernel) ⟨Nat.le_of_ble_eq_true rfl, Nat.le_of_ble_eq_true rfl⟩) (mg_rc hK hP) rfl hl.1 rfl (lv_room (Nat.le_of_ble_eq_true rfl)) ⟨Nat.zero_le _, Nat.zero_le _⟩ dX4_latestMove_29 ?_
          refine lw_beq (tgt := 55) hx hb dX4_latestMove_32 (by decide) (fun c_4 => ?_) (fun c_4 => ?_)
          · skip
            refine lv_iconst (v := 0) hx hb dX4_latestMove_55 (by decide) ?_
            refine lv_istore (lv' := [(6, .int 0), (4, .int f), (5, .int (nI i)), (0, .ref h), (1, .int (nI v)), (2, .int x), (3, .int au)]) hx hb dX4_latestMove_56 hl (by decide) rfl (fun ls hl => ?_)
            refine lv_iload hx hb dX4_latestMove_58 (lv_at hl 0 rfl) ?_
            refine lv_if_eq (tgt := 85) hx hb dX4_latestMove_60 (by decide) (fun _ => ?_) (fun z9 => absurd (by decide) z9)
            refine lv_iload hx hb dX4_latestMove_85 (lv_at hl 1 rfl) ?_
            refine lv_istore (lv' := [(4, .int f), (6, .int 0), (5, .int (nI i)), (0, .ref h), (1, .int (nI v)), (2, .int x), (3, .int au)]) hx hb dX4_latestMove_87 hl (by decide) rfl (fun ls hl => ?_)
            refine lv_iinc (v := nI (i + 1)) (lv' := [(5, .int (nI (i + 1))), (4, .int f), (6, .int 0), (0, .ref h), (1, .int (nI v)), (2, .int x), (3, .int au)]) hx hb dX4_latestMove_89 hl (k := 2) rfl (show nI i + Int32.ofInt 1 = _ from nI_add i 1) (by decide) rfl (fun ls hl => ?_)
            refine lv_goto (tgt := 6) hx hb dX4_latestMove_92 (by decide) ?_
            exact ihu_1  (i + 1) f  ls (by omega) (by first | omega | assumption) (by rw [foldU_s, ← hf]; simp [lmStep, c_2, c_3, c_4])  (lv_sub hl [1, 0, 3, 4, 5, 6] rfl)
          · skip
            refine lv_iload_n hx hb dX4_latestMove_35 rfl (lv_at hl 5 rfl) ?_
            refine lv_iconst (v := (-1)) hx hb dX4_latestMove_36 (by decide) ?_
            refine lv_icmp_eq (tgt := 51) hx hb dX4_latestMove_37 (by decide) (fun c_5 => ?_) (fun c_5 => ?_)
            · skip
              refine lv_iconst (v := 1) hx hb dX4_latestMove_51 (by decide) ?_
              refine lv_goto (tgt := 56) hx hb dX4_latestMove_52 (by decide) ?_
              refine lv_istore (lv' := [(6, .int 1), (4, .int f), (5, .int (nI i)), (0, .ref h), (1, .int (nI v)), (2, .int x), (3, .int au)]) hx hb dX4_latestMove_56 hl (by decide) rfl (fun ls hl => ?_)
              refine lv_iload hx hb dX4_latestMove_58 (lv_at hl 0 rfl) ?_
              refine lv_if_eq (tgt := 85) hx hb dX4_latestMove_60 (by decide) (fun z9 => absurd z9 (by decide)) (fun _ => ?_)
              refine lv_iload hx hb dX4_latestMove_63 (lv_at hl 1 rfl) ?_
              refine lv_iconst (v := (-1)) hx hb dX4_latestMove_65 (by decide) ?_
              refine lv_icmp_eq (tgt := 80) hx hb dX4_latestMove_66 (by decide) (fun c_6 => ?_) (fun c_6 => ?_)
              · skip
                refine lv_iload hx hb dX4_latestMove_80 (lv_at hl 2 rfl) ?_
                refine lv_goto (tgt := 87) hx hb dX4_latestMove_82 (by decide) ?_
                refine lv_istore (lv' := [(4, .int (nI i)), (6, .int 1), (5, .int (nI i)), (0, .ref h), (1, .int (nI v)), (2, .int x), (3, .int au)]) hx hb dX4_latestMove_87 hl (by decide) rfl (fun ls hl => ?_)
                refine lv_iinc (v := nI (i + 1)) (lv' := [(5, .int (nI (i + 1))), (4, .int (nI i)), (6, .int 1), (0, .ref h), (1, .int (nI v)), (2, .int x), (3, .int au)]) hx hb dX4_latestMove_89 hl (k := 2) rfl (show nI i + Int32.ofInt 1 = _ from nI_add i 1) (by decide) rfl (fun ls hl => ?_)
                refine lv_goto (tgt := 6) hx hb dX4_latestMove_92 (by decide) ?_
                exact ihu_1  (i + 1) (nI i)  ls (by omega) (by first | omega | assumption) (by rw [foldU_s, ← hf]; simp [lmStep, c_2, c_3, c_4, c_5, c_6])  (lv_sub hl [1, 0, 3, 4, 5, 6] rfl)
              · skip
                obtain ⟨j_7, hj_7, ej_7⟩ := (show f = -1 ∨ ∃ j, j < i ∧ f = nI j from by rw [hf]; exact lm_range a kn v x au i).resolve_left (by first | assumption | exact c_6)
                have nj_7 : jn f = j_7 := by rw [ej_7]; exact jn_nI (by omega)
                refine lv_aload_n hx hb dX4_latestMove_69 rfl (lv_at hl 3 rfl) ?_
                refine lv_iload hx hb dX4_latestMove_70 (lv_at hl 2 rfl) ?_
                refine lv_iload hx hb dX4_latestMove_72 (lv_at hl 1 rfl) ?_
                refine ro_callV F hK [.int (nI i), .int (nI j_7)] (cm_isLater hP i j_7 (by first | assumption | omega) (by first | assumption | omega)) (cwV 2 F.2.2.2.2 gX4_latestMove_X4_isLater rfl rfl rfl (by decide +kernel) ⟨Nat.le_of_ble_eq_true rfl, Nat.le_of_ble_eq_true rfl⟩) (mg_rc hK hP) rfl hl.1 (by first | (rw [ej_7]; done) | (rw [ej_7]; rfl)) (lv_room (Nat.le_of_ble_eq_true rfl)) ⟨Nat.zero_le _, Nat.zero_le _⟩ dX4_latestMove_74 ?_
                refine lw_beq (tgt := 85) hx hb dX4_latestMove_77 (by decide) (fun c_8 => ?_) (fun c_8 => ?_)
                · skip
                  refine lv_iload hx hb dX4_latestMove_85 (lv_at hl 1 rfl) ?_
                  refine lv_istore (lv' := [(4, .int f), (6, .int 1), (5, .int (nI i)), (0, .ref h), (1, .int (nI v)), (2, .int x), (3, .int au)]) hx hb dX4_latestMove_87 hl (by decide) rfl (fun ls hl => ?_)
                  refine lv_iinc (v := nI (i + 1)) (lv' := [(5, .int (nI (i + 1))), (4, .int f), (6, .int 1), (0, .ref h), (1, .int (nI v)), (2, .int x), (3, .int au)]) hx hb dX4_latestMove_89 hl (k := 2) rfl (show nI i + Int32.ofInt 1 = _ from nI_add i 1) (by decide) rfl (fun ls hl => ?_)
                  refine lv_goto (tgt := 6) hx hb dX4_latestMove_92 (by decide) ?_
                  exact ihu_1  (i + 1) f  ls (by omega) (by first | omega | assumption) (by rw [foldU_s, ← hf]; simp [lmStep, c_2, c_3, c_4, c_5, c_6, nj_7, c_8])  (lv_sub hl [1, 0, 3, 4, 5, 6] rfl)
                · skip
                  refine lv_iload hx hb dX4_latestMove_80 (lv_at hl 2 rfl) ?_
                  refine lv_goto (tgt := 87) hx hb dX4_latestMove_82 (by decide) ?_
                  refine lv_istore (lv' := [(4, .int (nI i)), (6, .int 1), (5, .int (nI i)), (0, .ref h), (1, .int (nI v)), (2, .int x), (3, .int au)]) hx hb dX4_latestMove_87 hl (by decide) rfl (fun ls hl => ?_)
                  refine lv_iinc (v := nI (i + 1)) (lv' := [(5, .int (nI (i + 1))), (4, .int (nI i)), (6, .int 1), (0, .ref h), (1, .int (nI v)), (2, .int x), (3, .int au)]) hx hb dX4_latestMove_89 hl (k := 2) rfl (show nI i + Int32.ofInt 1 = _ from nI_add i 1) (by decide) rfl (fun ls hl => ?_)
                  refine lv_goto (tgt := 6) hx hb dX4_latestMove_92 (by decide) ?_
                  exact ihu_1  (i + 1) (nI i)  ls (by omega) (by first | omega | assumption) (by rw [foldU_s, ← hf]; simp [lmStep, c_2, c_3, c_4, c_5, c_6, nj_7, c_8])  (lv_sub hl [1, 0, 3, 4, 5, 6] rfl)
            · skip
              refine lv_aload_n hx hb dX4_latestMove_40 rfl (lv_at hl 2 rfl) ?_
              refine mg_get F hK hin hP 2 (by decide) (by decide +kernel) rfl dX4_latestMove_41 ?_
              refine lv_iload hx hb dX4_latestMove_44 (lv_at hl 1 rfl) ?_
              refine mg_ald F hK hP 2 2 240 rfl i rfl (by omega) (by decide) dX4_latestMove_46 ?_
              refine lv_iload_n hx hb dX4_latestMove_47 rfl (lv_at hl 5 rfl) ?_
              refine lv_icmp_ne (tgt := 55) hx hb dX4_latestMove_48 (by decide) (fun c_9 => ?_) (fun c_9 => ?_)
              · skip
                refine lv_iconst (v := 0) hx hb dX4_latestMove_55 (by decide) ?_
                refine lv_istore (lv' := [(6, .int 0), (4, .int f), (5, .int (nI i)), (0, .ref h), (1, .int (nI v)), (2, .int x), (3, .int au)]) hx hb dX4_latestMove_56 hl (by decide) rfl (fun ls hl => ?_)
                refine lv_iload hx hb dX4_latestMove_58 (lv_at hl 0 rfl) ?_
                refine lv_if_eq (tgt := 85) hx hb dX4_latestMove_60 (by decide) (fun _ => ?_) (fun z9 => absurd (by decide) z9)
                refine lv_iload hx hb dX4_latestMove_85 (lv_at hl 1 rfl) ?_
                refine lv_istore (lv' := [(4, .int f), (6, .int 0), (5, .int (nI i)), (0, .ref h), (1, .int (nI v)), (2, .int x), (3, .int au)]) hx hb dX4_latestMove_87 hl (by decide) rfl (fun ls hl => ?_)
                refine lv_iinc (v := nI (i + 1)) (lv' := [(5, .int (nI (i + 1))), (4, .int f), (6, .int 0), (0, .ref h), (1, .int (nI v)), (2, .int x), (3, .int au)]) hx hb dX4_latestMove_89 hl (k := 2) rfl (show nI i + Int32.ofInt 1 = _ from nI_add i 1) (by decide) rfl (fun ls hl => ?_)
                refine lv_goto (tgt := 6) hx hb dX4_latestMove_92 (by decide) ?_
                exact ihu_1  (i + 1) f  ls (by omega) (by first | omega | assumption) (by rw [foldU_s, ← hf]; simp [lmStep, c_2, c_3, c_4, c_5, c_9])  (lv_sub hl [1, 0, 3, 4, 5, 6] rfl)
              · skip
                refine lv_iconst (v := 1) hx hb dX4_latestMove_51 (by decide) ?_
                refine lv_goto (tgt := 56) hx hb dX4_latestMove_52 (by decide) ?_
                refine lv_istore (lv' := [(6, .int 1), (4, .int f), (5, .int (nI i)), (0, .ref h), (1, .int (nI v)), (2, .int x), (3, .int au)]) hx hb dX4_latestMove_56 hl (by decide) rfl (fun ls hl => ?_)
                refine lv_iload hx hb dX4_latestMove_58 (lv_at hl 0 rfl) ?_
                refine lv_if_eq (tgt := 85) hx hb dX4_latestMove_60 (by decide) (fun z9 => absurd z9 (by decide)) (fun _ => ?_)
                refine lv_iload hx hb dX4_latestMove_63 (lv_at hl 1 rfl) ?_
                refine lv_iconst (v := (-1)) hx hb dX4_latestMove_65 (by decide) ?_
                refine lv_icmp_eq (tgt := 80) hx hb dX4_latestMove_66 (by decide) (fun c_10 => ?_) (fun c_10 => ?_)
                · skip
                  refine lv_iload hx hb dX4_latestMove_80 (lv_at hl 2 rfl) ?_
                  refine lv_goto (tgt := 87) hx hb dX4_latestMove_82 (by decide) ?_
                  refine lv_istore (lv' := [(4, .int (nI i)), (6, .int 1), (5, .int (nI i)), (0, .ref h), (1, .int (nI v)), (2, .int x), (3, .int au)]) hx hb dX4_latestMove_87 hl (by decide) rfl (fun ls hl => ?_)
                  refine lv_iinc (v := nI (i + 1)) (lv' := [(5, .int (nI (i + 1))), (4, .int (nI i)), (6, .int 1), (0, .ref h), (1, .int (nI v)), (2, .int x), (3, .int au)]) hx hb dX4_latestMove_89 hl (k := 2) rfl (show nI i + Int32.ofInt 1 = _ from nI_add i 1) (by decide) rfl (fun ls hl => ?_)
                  refine lv_goto (tgt := 6) hx hb dX4_latestMove_92 (by decide) ?_
                  exact ihu_1  (i + 1) (nI i)  ls (by omega) (by first | omega | assumption) (by rw [foldU_s, ← hf]; simp [lmStep, c_2, c_3, c_4, c_5, c_9, c_10])  (lv_sub hl [1, 0, 3, 4, 5, 6] rfl)
                · skip
                  obtain ⟨j_11, hj_11, ej_11⟩ := (show f = -1 ∨ ∃ j, j < i ∧ f = nI j from by rw [hf]; exact lm_range a kn v x au i).resolve_left (by first | assumption | exact c_10)
                  have nj_11 : jn f = j_11 := by rw [ej_11]; exact jn_nI (by omega)
                  refine lv_aload_n hx hb dX4_latestMove_69 rfl (lv_at hl 3 rfl) ?_
                  refine lv_iload hx hb dX4_latestMove_70 (lv_at hl 2 rfl) ?_
                  refine lv_iload hx hb dX4_latestMove_72 (lv_at hl 1 rfl) ?_
                  refine ro_callV F hK [.int (nI i), .int (nI j_11)] (cm_isLater hP i j_11 (by first | assumption | omega) (by first | assumption | omega)) (cwV 2 F.2.2.2.2 gX4_latestMove_X4_isLater rfl rfl rfl (by decide +kernel) ⟨Nat.le_of_ble_eq_true rfl, Nat.le_of_ble_eq_true rfl⟩) (mg_rc hK hP) rfl hl.1 (by first | (rw [ej_11]; done) | (rw [ej_11]; rfl)) (lv_room (Nat.le_of_ble_eq_true rfl)) ⟨Nat.zero_le _, Nat.zero_le _⟩ dX4_latestMove_74 ?_
                  refine lw_beq (tgt := 85) hx hb dX4_latestMove_77 (by decide) (fun c_12 => ?_) (fun c_12 => ?_)
                  · skip
                    refine lv_iload hx hb dX4_latestMove_85 (lv_at hl 1 rfl) ?_
                    refine lv_istore (lv' := [(4, .int f), (6, .int 1), (5, .int (nI i)), (0, .ref h), (1, .int (nI v)), (2, .int x), (3, .int au)]) hx hb dX4_latestMove_87 hl (by decide) rfl (fun ls hl => ?_)
                    refine lv_iinc (v := nI (i + 1)) (lv' := [(5, .int (nI (i + 1))), (4, .int f), (6, .int 1), (0, .ref h), (1, .int (nI v)), (2, .int x), (3, .int au)]) hx hb dX4_latestMove_89 hl (k := 2) rfl (show nI i + Int32.ofInt 1 = _ from nI_add i 1) (by decide) rfl (fun ls hl => ?_)
                    refine lv_goto (tgt := 6) hx hb dX4_latestMove_92 (by decide) ?_
                    exact ihu_1  (i + 1) f  ls (by omega) (by first | omega | assumption) (by rw [foldU_s, ← hf]; simp [lmStep, c_2, c_3, c_4, c_5, c_9, c_10, nj_11, c_12])  (lv_sub hl [1, 0, 3, 4, 5, 6] rfl)
                  · skip
                    refine lv_iload hx hb dX4_latestMove_80 (lv_at hl 2 rfl) ?_
                    refine lv_goto (tgt := 87) hx hb dX4_latestMove_82 (by decide) ?_
                    refine lv_istore (lv' := [(4, .int (nI i)), (6, .int 1), (5, .int (nI i)), (0, .ref h), (1, .int (nI v)), (2, .int x), (3, .int au)]) hx hb dX4_latestMove_87 hl (by decide) rfl (fun ls hl => ?_)
                    refine lv_iinc (v := nI (i + 1)) (lv' := [(5, .int (nI (i + 1))), (4, .int (nI i)), (6, .int 1), (0, .ref h), (1, .int (nI v)), (2, .int x), (3, .int au)]) hx hb dX4_latestMove_89 hl (k := 2) rfl (show nI i + Int32.ofInt 1 = _ from nI_add i 1) (by decide) rfl (fun ls hl => ?_)
                    refine lv_goto (tgt := 6) hx hb dX4_latestMove_92 (by decide) ?_
                    exact ihu_1  (i + 1) (nI i)  ls (by omega) (by first | omega | assumption) (by rw [foldU_s, ← hf]; simp [lmStep, c_2, c_3, c_4, c_5, c_9, c_10, nj_11, c_12])  (lv_sub hl [1, 0, 3, 4, 5, 6] rfl)
  exact L6_u_1 _ 0 (-1)  ls (Nat.lt_succ_self _) (by first | omega | assumption) (rfl)  (lv_sub hl [1, 0, 2, 3, 4, 5] rfl)
set_option maxHeartbeats 4000000 in
set_option maxRecDepth 100000 in
theorem cm_placeOf {l : Launch} {D : va_G} {cI cZ : ClassId} {h : Nat} {q : Nat → Nat} {n cm : Nat} {th : Int32} {lm : Nat} {a : Nat → Nat → Int32} {kn : Nat → Bool} {H : Heap} (hP : va_P D vwCl (mW h q cI cZ n cm th lm a kn) H) (v : Nat) (x : Int32) (hv : v ≤ 5) (hn : n ≤ 240) : ro_Met l yX4_placeOf wsX4_placeOf 2 48 D (mT cI cZ) H [.ref h, .int (nI v), .int x] (placeB a kn n v x) := by
  refine ro_start rfl (by decide +kernel) (Nat.le_of_ble_eq_true rfl) (fun p e s m below meth c F hr hlocks hK ls hl => ?_)
  have hl : lv_has ls 4 [(0, .ref h), (1, .int (nI v)), (2, .int x)] := hl
  have hx := F.1
  have hb := F.2.1
  have hin : ∀ w ∈ wsX40, w ∈ wsX4_placeOf := fun _ z => List.mem_cons_of_mem _ (List.mem_append_right _ z)
  refine lv_aload_n hx hb dX4_placeOf_0 rfl (lv_at hl 0 rfl) ?_
  refine lv_iload_n hx hb dX4_placeOf_1 rfl (lv_at hl 1 rfl) ?_
  refine lv_iload_n hx hb dX4_placeOf_2 rfl (lv_at hl 2 rfl) ?_
  refine lv_iconst (v := (-1)) hx hb dX4_placeOf_3 (by decide) ?_
  refine ro_callV F hK [.int (nI v), .int x, .int (-1)] (cm_latestMove hP v x (-1) (by first | assumption | omega) (by first | assumption | omega)) (cwV 3 F.2.2.2.2 gX4_placeOf_X4_latestMove rfl rfl rfl (by decide +kernel) ⟨Nat.le_of_ble_eq_true rfl, Nat.le_of_ble_eq_true rfl⟩) (mg_rc hK hP) rfl hl.1 rfl (lv_room (Nat.le_of_ble_eq_true rfl)) ⟨Nat.zero_le _, Nat.zero_le _⟩ dX4_placeOf_4 ?_
  refine lv_istore_n (lv' := [(3, .int (latestB a kn n v x (-1))), (0, .ref h), (1, .int (nI v)), (2, .int x)]) hx hb dX4_placeOf_7 rfl hl (by decide) rfl (fun ls hl => ?_)
  refine lv_iload_n hx hb dX4_placeOf_8 rfl (lv_at hl 0 rfl) ?_
  refine lv_iconst (v := (-1)) hx hb dX4_placeOf_9 (by decide) ?_
  refine lv_icmp_eq (tgt := 31) hx hb dX4_placeOf_10 (by decide) (fun c_1 => ?_) (fun c_1 => ?_)
  · skip
    refine lv_iconst (v := (-1)) hx hb dX4_placeOf_31 (by decide) ?_
    exact ro_reti F hr hlocks (by simp [placeB, c_1]) dX4_placeOf_32
  · skip
    obtain ⟨j_2, hj_2, ej_2⟩ := (show latestB a kn n v x (-1) = -1 ∨ ∃ j, j < n ∧ latestB a kn n v x (-1) = nI j from lm_range a kn v x (-1) n).resolve_left (by first | assumption | exact c_1)
    have nj_2 : jn (latestB a kn n v x (-1)) = j_2 := by rw [ej_2]; exact jn_nI (by omega)
    refine lv_aload_n hx hb dX4_placeOf_13 rfl (lv_at hl 1 rfl) ?_
    refine mg_get F hK hin hP 1 (by decide) (by decide +kernel) rfl dX4_placeOf_14 ?_
    refine lv_iload_n hx hb dX4_placeOf_17 rfl (lv_at hl 0 rfl) ?_
    refine mg_ald F hK hP 1 1 240 rfl j_2 ej_2 (by omega) (by decide) dX4_placeOf_18 ?_
    refine lv_if_ne (tgt := 31) hx hb dX4_placeOf_19 (by decide) (fun c_3 => ?_) (fun c_3 => ?_)
    · skip
      refine lv_iconst (v := (-1)) hx hb dX4_placeOf_31 (by decide) ?_
      exact ro_reti F hr hlocks (by simp [placeB, c_1, nj_2, c_3]) dX4_placeOf_32
    · skip
      refine lv_aload_n hx hb dX4_placeOf_22 rfl (lv_at hl 1 rfl) ?_
      refine mg_get F hK hin hP 2 (by decide) (by decide +kernel) rfl dX4_placeOf_23 ?_
      refine lv_iload_n hx hb dX4_placeOf_26 rfl (lv_at hl 0 rfl) ?_
      refine mg_ald F hK hP 2 2 240 rfl j_2 ej_2 (by omega) (by decide) dX4_placeOf_27 ?_
      refine lv_goto (tgt := 32) hx hb dX4_placeOf_28 (by decide) ?_
      exact ro_reti F hr hlocks (by simp [placeB, c_1, nj_2, c_3]) dX4_placeOf_32
set_option maxHeartbeats 4000000 in
set_option maxRecDepth 100000 in
theorem cm_coming {l : Launch} {D : va_G} {cI cZ : ClassId} {h : Nat} {q : Nat → Nat} {n cm : Nat} {th : Int32} {lm : Nat} {a : Nat → Nat → Int32} {kn : Nat → Bool} {H : Heap} (hP : va_P D vwCl (mW h q cI cZ n cm th lm a kn) H) (v : Nat) (x : Int32) (day : Int32) (hv : v ≤ 5) (hn : n ≤ 240) : ro_Met l yX4_coming wsX4_coming 1 22 D (mT cI cZ) H [.ref h, .int (nI v), .int x, .int day] (comingB a kn n v x day) := by
  refine ro_start rfl (by decide +kernel) (Nat.le_of_ble_eq_true rfl) (fun p e s m below meth c F hr hlocks hK ls hl => ?_)
  have hl : lv_has ls 7 [(0, .ref h), (1, .int (nI v)), (2, .int x), (3, .int day)] := hl
  have hx := F.1
  have hb := F.2.1
  have hin : ∀ w ∈ wsX40, w ∈ wsX4_coming := fun _ z => List.mem_cons_of_mem _ (List.mem_append_right _ z)
  refine lv_iconst (v := (-1)) hx hb dX4_coming_0 (by decide) ?_
  refine lv_istore (lv' := [(4, .int (-1)), (0, .ref h), (1, .int (nI v)), (2, .int x), (3, .int day)]) hx hb dX4_coming_1 hl (by decide) rfl (fun ls hl => ?_)
  refine lv_iconst (v := 0) hx hb dX4_coming_3 (by decide) ?_
  refine lv_istore (lv' := [(5, .int 0), (4, .int (-1)), (0, .ref h), (1, .int (nI v)), (2, .int x), (3, .int day)]) hx hb dX4_coming_4 hl (by decide) rfl (fun ls hl => ?_)
  have L6_u_1 : ∀ (k9u_1 : Nat) (i : Nat) (f : Int32) (ls : Array Slot), n - i < k9u_1 → i ≤ n → f = foldU (coStep a kn v x) (-1) i → lv_has ls 7 [(4, .int f), (5, .int (nI i)), (0, .ref h), (1, .int (nI v)), (2, .int x), (3, .int day)] → roW p l e 1 22 s m [.ref h, .int (nI v), .int x, .int day] below meth c H (comingB a kn n v x day) (F0 m 6 ls []) := by
    intro k9u_1
    induction k9u_1 with
    | zero => intro i f ls hk; exact absurd hk (Nat.not_lt_zero _)
    | succ k9u_1 ihu_1 =>
      intro i f ls hk hi hf  hl
      refine lv_iload hx hb dX4_coming_6 (lv_at hl 1 rfl) ?_
      refine lv_aload_n hx hb dX4_coming_8 rfl (lv_at hl 2 rfl) ?_
      refine mg_get F hK hin hP 0 (by decide) (by decide +kernel) rfl dX4_coming_9 ?_
      refine lw_ge (tgt := 91) hx hb i n (by omega) (by omega) dX4_coming_12 (by decide) (fun c_2 => ?_) (fun c_2 => ?_)
      · skip
        have hF : comF a kn n v x = f := by rw [hf, show i = n by omega]; rfl
        refine lv_iload hx hb dX4_coming_91 (lv_at hl 0 rfl) ?_
        refine lv_iconst (v := (-1)) hx hb dX4_coming_93 (by decide) ?_
        refine lv_icmp_eq (tgt := 123) hx hb dX4_coming_94 (by decide) (fun c_3 => ?_) (fun c_3 => ?_)
        · skip
          refine lv_iconst (v := (-1)) hx hb dX4_coming_123 (by decide) ?_
          exact ro_reti F hr hlocks (by simp [comingB, c_2, hF, c_3]) dX4_coming_124
        · skip
          obtain ⟨j_4, hj_4, ej_4⟩ := (show f = -1 ∨ ∃ j, j < i ∧ f = nI j from by rw [hf]; exact co_range a kn v x i).resolve_left (by first | assumption | exact c_3)
          have nj_4 : jn f = j_4 := by rw [ej_4]; exact jn_nI (by omega)
          refine lv_iload_n hx hb dX4_coming_97 rfl (lv_at hl 5 rfl) ?_
          refine lv_aload_n hx hb dX4_coming_98 rfl (lv_at hl 2 rfl) ?_
          refine mg_get F hK hin hP 6 (by decide) (by decide +kernel) rfl dX4_coming_99 ?_
          refine lv_iload hx hb dX4_coming_102 (lv_at hl 0 rfl) ?_
          refine mg_ald F hK hP 6 6 240 rfl j_4 ej_4 (by omega) (by decide) dX4_coming_104 ?_
          refine lv_aload_n hx hb dX4_coming_105 rfl (lv_at hl 2 rfl) ?_
          refine mg_get F hK hin hP 7 (by decide) (by decide +kernel) rfl dX4_coming_106 ?_
          refine lv_iload hx hb dX4_coming_109 (lv_at hl 0 rfl) ?_
          refine mg_ald F hK hP 7 7 240 rfl j_4 ej_4 (by omega) (by decide) dX4_coming_111 ?_
          refine ro_callS F hK [.int day, .int (a 6 j_4), .int (a 7 j_4)] (cm_in day (a 6 j_4) (a 7 j_4) ) (va_cwS 3 F.2.2.2.2 gX4_coming_X4_in rfl rfl rfl (by decide +kernel) ⟨Nat.le_of_ble_eq_true rfl, Nat.le_of_ble_eq_true rfl⟩) rfl hl.1 rfl (lv_room (Nat.le_of_ble_eq_true rfl)) ⟨Nat.zero_le _, Nat.zero_le _⟩ dX4_coming_112 ?_
          refine lw_beq (tgt := 123) hx hb dX4_coming_115 (by decide) (fun c_5 => ?_) (fun c_5 => ?_)
          · skip
            refine lv_iconst (v := (-1)) hx hb dX4_coming_123 (by decide) ?_
            exact ro_reti F hr hlocks (by simp [comingB, c_2, hF, c_3, nj_4, c_5]) dX4_coming_124
          · skip
            refine lv_iload hx hb dX4_coming_118 (lv_at hl 0 rfl) ?_
            refine lv_goto (tgt := 124) hx hb dX4_coming_120 (by decide) ?_
            exact ro_reti F hr hlocks (by simp [comingB, c_2, hF, c_3, nj_4, c_5]) dX4_coming_124
      · skip
        refine lv_aload_n hx hb dX4_coming_15 rfl (lv_at hl 2 rfl) ?_
        refine lv_iload_n hx hb dX4_coming_16 rfl (lv_at hl 3 rfl) ?_
        refine lv_iload hx hb dX4_coming_17 (lv_at hl 1 rfl) ?_
        refine ro_callV F hK [.int (nI v), .int (nI i)] (cm_knows hP v i (by first | assumption | omega) (by first | assumption | omega)) (cwV 2 F.2.2.2.2 gX4_coming_X4_knows rfl rfl rfl (by decide +kernel) ⟨Nat.le_of_ble_eq_true rfl, Nat.le_of_ble_eq_true rfl⟩) (mg_rc hK hP) rfl hl.1 rfl (lv_room (Nat.le_of_ble_eq_true rfl)) ⟨Nat.zero_le _, Nat.zero_le _⟩ dX4_coming_19 ?_
        refine lw_beq (tgt := 51) hx hb dX4_coming_22 (by decide) (fun c_6 => ?_) (fun c_6 => ?_)
        · skip
          refine lv_iconst (v := 0) hx hb dX4_coming_51 (by decide) ?_
          refine lv_istore (lv' := [(6, .int 0), (4, .int f), (5, .int (nI i)), (0, .ref h), (1, .int (nI v)), (2, .int x), (3, .int day)]) hx hb dX4_coming_52 hl (by decide) rfl (fun ls hl => ?_)
          refine lv_iload hx hb dX4_coming_54 (lv_at hl 0 rfl) ?_
          refine lv_if_eq (tgt := 81) hx hb dX4_coming_56 (by decide) (fun _ => ?_) (fun z9 => absurd (by decide) z9)
          refine lv_iload hx hb dX4_coming_81 (lv_at hl 1 rfl) ?_
          refine lv_istore (lv' := [(4, .int f), (6, .int 0), (5, .int (nI i)), (0, .ref h), (1, .int (nI v)), (2, .int x), (3, .int day)]) hx hb dX4_coming_83 hl (by decide) rfl (fun ls hl => ?_)
          refine lv_iinc (v := nI (i + 1)) (lv' := [(5, .int (nI (i + 1))), (4, .int f), (6, .int 0), (0, .ref h), (1, .int (nI v)), (2, .int x), (3, .int day)]) hx hb dX4_coming_85 hl (k := 2) rfl (show nI i + Int32.ofInt 1 = _ from nI_add i 1) (by decide) rfl (fun ls hl => ?_)
          refine lv_goto (tgt := 6) hx hb dX4_coming_88 (by decide) ?_
          exact ihu_1  (i + 1) f  ls (by omega) (by first | omega | assumption) (by rw [foldU_s, ← hf]; simp [coStep, c_2, c_6])  (lv_sub hl [1, 0, 3, 4, 5, 6] rfl)
        · skip
          refine lv_aload_n hx hb dX4_coming_25 rfl (lv_at hl 2 rfl) ?_
          refine mg_get F hK hin hP 1 (by decide) (by decide +kernel) rfl dX4_coming_26 ?_
          refine lv_iload hx hb dX4_coming_29 (lv_at hl 1 rfl) ?_
          refine mg_ald F hK hP 1 1 240 rfl i rfl (by omega) (by decide) dX4_coming_31 ?_
          refine lv_iconst (v := 2) hx hb dX4_coming_32 (by decide) ?_
          refine lv_icmp_ne (tgt := 51) hx hb dX4_coming_33 (by decide) (fun c_7 => ?_) (fun c_7 => ?_)
          · skip
            refine lv_iconst (v := 0) hx hb dX4_coming_51 (by decide) ?_
            refine lv_istore (lv' := [(6, .int 0), (4, .int f), (5, .int (nI i)), (0, .ref h), (1, .int (nI v)), (2, .int x), (3, .int day)]) hx hb dX4_coming_52 hl (by decide) rfl (fun ls hl => ?_)
            refine lv_iload hx hb dX4_coming_54 (lv_at hl 0 rfl) ?_
            refine lv_if_eq (tgt := 81) hx hb dX4_coming_56 (by decide) (fun _ => ?_) (fun z9 => absurd (by decide) z9)
            refine lv_iload hx hb dX4_coming_81 (lv_at hl 1 rfl) ?_
            refine lv_istore (lv' := [(4, .int f), (6, .int 0), (5, .int (nI i)), (0, .ref h), (1, .int (nI v)), (2, .int x), (3, .int day)]) hx hb dX4_coming_83 hl (by decide) rfl (fun ls hl => ?_)
            refine lv_iinc (v := nI (i + 1)) (lv' := [(5, .int (nI (i + 1))), (4, .int f), (6, .int 0), (0, .ref h), (1, .int (nI v)), (2, .int x), (3, .int day)]) hx hb dX4_coming_85 hl (k := 2) rfl (show nI i + Int32.ofInt 1 = _ from nI_add i 1) (by decide) rfl (fun ls hl => ?_)
            refine lv_goto (tgt := 6) hx hb dX4_coming_88 (by decide) ?_
            exact ihu_1  (i + 1) f  ls (by omega) (by first | omega | assumption) (by rw [foldU_s, ← hf]; simp [coStep, c_2, c_6, c_7])  (lv_sub hl [1, 0, 3, 4, 5, 6] rfl)
          · skip
            refine lv_aload_n hx hb dX4_coming_36 rfl (lv_at hl 2 rfl) ?_
            refine mg_get F hK hin hP 4 (by decide) (by decide +kernel) rfl dX4_coming_37 ?_
            refine lv_iload hx hb dX4_coming_40 (lv_at hl 1 rfl) ?_
            refine mg_ald F hK hP 4 4 240 rfl i rfl (by omega) (by decide) dX4_coming_42 ?_
            refine lv_iload_n hx hb dX4_coming_43 rfl (lv_at hl 4 rfl) ?_
            refine lv_icmp_ne (tgt := 51) hx hb dX4_coming_44 (by decide) (fun c_8 => ?_) (fun c_8 => ?_)
            · skip
              refine lv_iconst (v := 0) hx hb dX4_coming_51 (by decide) ?_
              refine lv_istore (lv' := [(6, .int 0), (4, .int f), (5, .int (nI i)), (0, .ref h), (1, .int (nI v)), (2, .int x), (3, .int day)]) hx hb dX4_coming_52 hl (by decide) rfl (fun ls hl => ?_)
              refine lv_iload hx hb dX4_coming_54 (lv_at hl 0 rfl) ?_
              refine lv_if_eq (tgt := 81) hx hb dX4_coming_56 (by decide) (fun _ => ?_) (fun z9 => absurd (by decide) z9)
              refine lv_iload hx hb dX4_coming_81 (lv_at hl 1 rfl) ?_
              refine lv_istore (lv' := [(4, .int f), (6, .int 0), (5, .int (nI i)), (0, .ref h), (1, .int (nI v)), (2, .int x), (3, .int day)]) hx hb dX4_coming_83 hl (by decide) rfl (fun ls hl => ?_)
              refine lv_iinc (v := nI (i + 1)) (lv' := [(5, .int (nI (i + 1))), (4, .int f), (6, .int 0), (0, .ref h), (1, .int (nI v)), (2, .int x), (3, .int day)]) hx hb dX4_coming_85 hl (k := 2) rfl (show nI i + Int32.ofInt 1 = _ from nI_add i 1) (by decide) rfl (fun ls hl => ?_)
              refine lv_goto (tgt := 6) hx hb dX4_coming_88 (by decide) ?_
              exact ihu_1  (i + 1) f  ls (by omega) (by first | omega | assumption) (by rw [foldU_s, ← hf]; simp [coStep, c_2, c_6, c_7, c_8])  (lv_sub hl [1, 0, 3, 4, 5, 6] rfl)
            · skip
              refine lv_iconst (v := 1) hx hb dX4_coming_47 (by decide) ?_
              refine lv_goto (tgt := 52) hx hb dX4_coming_48 (by decide) ?_
              refine lv_istore (lv' := [(6, .int 1), (4, .int f), (5, .int (nI i)), (0, .ref h), (1, .int (nI v)), (2, .int x), (3, .int day)]) hx hb dX4_coming_52 hl (by decide) rfl (fun ls hl => ?_)
              refine lv_iload hx hb dX4_coming_54 (lv_at hl 0 rfl) ?_
              refine lv_if_eq (tgt := 81) hx hb dX4_coming_56 (by decide) (fun z9 => absurd z9 (by decide)) (fun _ => ?_)
              refine lv_iload hx hb dX4_coming_59 (lv_at hl 1 rfl) ?_
              refine lv_iconst (v := (-1)) hx hb dX4_coming_61 (by decide) ?_
              refine lv_icmp_eq (tgt := 76) hx hb dX4_coming_62 (by decide) (fun c_9 => ?_) (fun c_9 => ?_)
              · skip
                refine lv_iload hx hb dX4_coming_76 (lv_at hl 2 rfl) ?_
                refine lv_goto (tgt := 83) hx hb dX4_coming_78 (by decide) ?_
                refine lv_istore (lv' := [(4, .int (nI i)), (6, .int 1), (5, .int (nI i)), (0, .ref h), (1, .int (nI v)), (2, .int x), (3, .int day)]) hx hb dX4_coming_83 hl (by decide) rfl (fun ls hl => ?_)
                refine lv_iinc (v := nI (i + 1)) (lv' := [(5, .int (nI (i + 1))), (4, .int (nI i)), (6, .int 1), (0, .ref h), (1, .int (nI v)), (2, .int x), (3, .int day)]) hx hb dX4_coming_85 hl (k := 2) rfl (show nI i + Int32.ofInt 1 = _ from nI_add i 1) (by decide) rfl (fun ls hl => ?_)
                refine lv_goto (tgt := 6) hx hb dX4_coming_88 (by decide) ?_
                exact ihu_1  (i + 1) (nI i)  ls (by omega) (by first | omega | assumption) (by rw [foldU_s, ← hf]; simp [coStep, c_2, c_6, c_7, c_8, c_9])  (lv_sub hl [1, 0, 3, 4, 5, 6] rfl)
              · skip
                obtain ⟨j_10, hj_10, ej_10⟩ := (show f = -1 ∨ ∃ j, j < i ∧ f = nI j from by rw [hf]; exact co_range a kn v x i).resolve_left (by first | assumption | exact c_9)
                have nj_10 : jn f = j_10 := by rw [ej_10]; exact jn_nI (by omega)
                refine lv_aload_n hx hb dX4_coming_65 rfl (lv_at hl 3 rfl) ?_
                refine lv_iload hx hb dX4_coming_66 (lv_at hl 2 rfl) ?_
                refine lv_iload hx hb dX4_coming_68 (lv_at hl 1 rfl) ?_
                refine ro_callV F hK [.int (nI i), .int (nI j_10)] (cm_isLater hP i j_10 (by first | assumption | omega) (by first | assumption | omega)) (cwV 2 F.2.2.2.2 gX4_coming_X4_isLater rfl rfl rfl (by decide +kernel) ⟨Nat.le_of_ble_eq_true rfl, Nat.le_of_ble_eq_true rfl⟩) (mg_rc hK hP) rfl hl.1 (by first | (rw [ej_10]; done) | (rw [ej_10]; rfl)) (lv_room (Nat.le_of_ble_eq_true rfl)) ⟨Nat.zero_le _, Nat.zero_le _⟩ dX4_coming_70 ?_
                refine lw_beq (tgt := 81) hx hb dX4_coming_73 (by decide) (fun c_11 => ?_) (fun c_11 => ?_)
                · skip
                  refine lv_iload hx hb dX4_coming_81 (lv_at hl 1 rfl) ?_
                  refine lv_istore (lv' := [(4, .int f), (6, .int 1), (5, .int (nI i)), (0, .ref h), (1, .int (nI v)), (2, .int x), (3, .int day)]) hx hb dX4_coming_83 hl (by decide) rfl (fun ls hl => ?_)
                  refine lv_iinc (v := nI (i + 1)) (lv' := [(5, .int (nI (i + 1))), (4, .int f), (6, .int 1), (0, .ref h), (1, .int (nI v)), (2, .int x), (3, .int day)]) hx hb dX4_coming_85 hl (k := 2) rfl (show nI i + Int32.ofInt 1 = _ from nI_add i 1) (by decide) rfl (fun ls hl => ?_)
                  refine lv_goto (tgt := 6) hx hb dX4_coming_88 (by decide) ?_
                  exact ihu_1  (i + 1) f  ls (by omega) (by first | omega | assumption) (by rw [foldU_s, ← hf]; simp [coStep, c_2, c_6, c_7, c_8, c_9, nj_10, c_11])  (lv_sub hl [1, 0, 3, 4, 5, 6] rfl)
                · skip
                  refine lv_iload hx hb dX4_coming_76 (lv_at hl 2 rfl) ?_
                  refine lv_goto (tgt := 83) hx hb dX4_coming_78 (by decide) ?_
                  refine lv_istore (lv' := [(4, .int (nI i)), (6, .int 1), (5, .int (nI i)), (0, .ref h), (1, .int (nI v)), (2, .int x), (3, .int day)]) hx hb dX4_coming_83 hl (by decide) rfl (fun ls hl => ?_)
                  refine lv_iinc (v := nI (i + 1)) (lv' := [(5, .int (nI (i + 1))), (4, .int (nI i)), (6, .int 1), (0, .ref h), (1, .int (nI v)), (2, .int x), (3, .int day)]) hx hb dX4_coming_85 hl (k := 2) rfl (show nI i + Int32.ofInt 1 = _ from nI_add i 1) (by decide) rfl (fun ls hl => ?_)
                  refine lv_goto (tgt := 6) hx hb dX4_coming_88 (by decide) ?_
                  exact ihu_1  (i + 1) (nI i)  ls (by omega) (by first | omega | assumption) (by rw [foldU_s, ← hf]; simp [coStep, c_2, c_6, c_7, c_8, c_9, nj_10, c_11])  (lv_sub hl [1, 0, 3, 4, 5, 6] rfl)
  exact L6_u_1 _ 0 (-1)  ls (Nat.lt_succ_self _) (by first | omega | assumption) (rfl)  (lv_sub hl [1, 0, 2, 3, 4, 5] rfl)
set_option maxHeartbeats 4000000 in
set_option maxRecDepth 100000 in
theorem cm_guestMany {l : Launch} {D : va_G} {cI cZ : ClassId} {h : Nat} {q : Nat → Nat} {n cm : Nat} {th : Int32} {lm : Nat} {a : Nat → Nat → Int32} {kn : Nat → Bool} {H : Heap} (hP : va_P D vwCl (mW h q cI cZ n cm th lm a kn) H) (v : Nat) (day : Int32) (hv : v ≤ 5) (hn : n ≤ 240) : ro_Met l yX4_guestMany wsX4_guestMany 2 48 D (mT cI cZ) H [.ref h, .int (nI v), .int day] (nI (guestManyB a kn n v day)) := by
  refine ro_start rfl (by decide +kernel) (Nat.le_of_ble_eq_true rfl) (fun p e s m below meth c F hr hlocks hK ls hl => ?_)
  have hl : lv_has ls 5 [(0, .ref h), (1, .int (nI v)), (2, .int day)] := hl
  have hx := F.1
  have hb := F.2.1
  have hin : ∀ w ∈ wsX40, w ∈ wsX4_guestMany := fun _ z => List.mem_cons_of_mem _ (List.mem_append_right _ z)
  refine lv_iconst (v := 0) hx hb dX4_guestMany_0 (by decide) ?_
  refine lv_istore_n (lv' := [(3, .int 0), (0, .ref h), (1, .int (nI v)), (2, .int day)]) hx hb dX4_guestMany_1 rfl hl (by decide) rfl (fun ls hl => ?_)
  refine lv_iconst (v := 0) hx hb dX4_guestMany_2 (by decide) ?_
  refine lv_istore (lv' := [(4, .int 0), (3, .int 0), (0, .ref h), (1, .int (nI v)), (2, .int day)]) hx hb dX4_guestMany_3 hl (by decide) rfl (fun ls hl => ?_)
  have L5_u_1 : ∀ (k9u_1 : Nat) (i : Nat) (y : Nat) (ls : Array Slot), 8 - i < k9u_1 → i ≤ 8 → y = foldU (gmStep a kn n v day) 0 i → lv_has ls 5 [(3, .int (nI y)), (4, .int (nI i)), (0, .ref h), (1, .int (nI v)), (2, .int day)] → roW p l e 2 48 s m [.ref h, .int (nI v), .int day] below meth c H (nI (guestManyB a kn n v day)) (F0 m 5 ls []) := by
    intro k9u_1
    induction k9u_1 with
    | zero => intro i y ls hk; exact absurd hk (Nat.not_lt_zero _)
    | succ k9u_1 ihu_1 =>
      intro i y ls hk hi hf  hl
      refine lv_iload hx hb dX4_guestMany_5 (lv_at hl 1 rfl) ?_
      refine lv_bipush (v := 8) hx hb dX4_guestMany_7 (by decide) ?_
      refine lw_ge (tgt := 38) hx hb i 8 (by omega) (by omega) dX4_guestMany_9 (by decide) (fun c_2 => ?_) (fun c_2 => ?_)
      · skip
        refine lv_iload_n hx hb dX4_guestMany_38 rfl (lv_at hl 0 rfl) ?_
        exact ro_reti F hr hlocks (by rw [hf, show i = 8 by omega]; rfl) dX4_guestMany_39
      · skip
        refine lv_iload_n hx hb dX4_guestMany_12 rfl (lv_at hl 0 rfl) ?_
        refine lv_aload_n hx hb dX4_guestMany_13 rfl (lv_at hl 2 rfl) ?_
        refine lv_iload_n hx hb dX4_guestMany_14 rfl (lv_at hl 3 rfl) ?_
        refine lv_iload hx hb dX4_guestMany_15 (lv_at hl 1 rfl) ?_
        refine lv_iload_n hx hb dX4_guestMany_17 rfl (lv_at hl 4 rfl) ?_
        refine ro_callV F hK [.int (nI v), .int (nI i), .int day] (cm_coming hP v (nI i) day (by first | assumption | omega) (by first | assumption | omega)) (cwV 3 F.2.2.2.2 gX4_guestMany_X4_coming rfl rfl rfl (by decide +kernel) ⟨Nat.le_of_ble_eq_true rfl, Nat.le_of_ble_eq_true rfl⟩) (mg_rc hK hP) rfl hl.1 rfl (lv_room (Nat.le_of_ble_eq_true rfl)) ⟨Nat.zero_le _, Nat.zero_le _⟩ dX4_guestMany_18 ?_
        refine lv_iconst (v := (-1)) hx hb dX4_guestMany_21 (by decide) ?_
        refine lv_icmp_eq (tgt := 29) hx hb dX4_guestMany_22 (by decide) (fun c_3 => ?_) (fun c_3 => ?_)
        · skip
          refine lv_iconst (v := 0) hx hb dX4_guestMany_29 (by decide) ?_
          refine lw_add hx hb (i := y) (j := 0) dX4_guestMany_30 ?_
          refine lv_istore_n (lv' := [(3, .int (nI (y + 0))), (4, .int (nI i)), (0, .ref h), (1, .int (nI v)), (2, .int day)]) hx hb dX4_guestMany_31 rfl hl (by decide) rfl (fun ls hl => ?_)
          refine lv_iinc (v := nI (i + 1)) (lv' := [(4, .int (nI (i + 1))), (3, .int (nI (y + 0))), (0, .ref h), (1, .int (nI v)), (2, .int day)]) hx hb dX4_guestMany_32 hl (k := 1) rfl (show nI i + Int32.ofInt 1 = _ from nI_add i 1) (by decide) rfl (fun ls hl => ?_)
          refine lv_goto (tgt := 5) hx hb dX4_guestMany_35 (by decide) ?_
          exact ihu_1  (i + 1) (y + 0)  ls (by omega) (by first | omega | assumption) (by rw [foldU_s, ← hf]; simp [gmStep, c_2, c_3])  (lv_sub hl [1, 0, 2, 3, 4] rfl)
        · skip
          refine lv_iconst (v := 1) hx hb dX4_guestMany_25 (by decide) ?_
          refine lv_goto (tgt := 30) hx hb dX4_guestMany_26 (by decide) ?_
          refine lw_add hx hb (i := y) (j := 1) dX4_guestMany_30 ?_
          refine lv_istore_n (lv' := [(3, .int (nI (y + 1))), (4, .int (nI i)), (0, .ref h), (1, .int (nI v)), (2, .int day)]) hx hb dX4_guestMany_31 rfl hl (by decide) rfl (fun ls hl => ?_)
          refine lv_iinc (v := nI (i + 1)) (lv' := [(4, .int (nI (i + 1))), (3, .int (nI (y + 1))), (0, .ref h), (1, .int (nI v)), (2, .int day)]) hx hb dX4_guestMany_32 hl (k := 1) rfl (show nI i + Int32.ofInt 1 = _ from nI_add i 1) (by decide) rfl (fun ls hl => ?_)
          refine lv_goto (tgt := 5) hx hb dX4_guestMany_35 (by decide) ?_
          exact ihu_1  (i + 1) (y + 1)  ls (by omega) (by first | omega | assumption) (by rw [foldU_s, ← hf]; simp [gmStep, c_2, c_3])  (lv_sub hl [1, 0, 2, 3, 4] rfl)
  exact L5_u_1 _ 0 0  ls (Nat.lt_succ_self _) (by first | omega | assumption) (rfl)  (lv_sub hl [1, 0, 2, 3, 4] rfl)
set_option maxHeartbeats 4000000 in
set_option maxRecDepth 100000 in
theorem cm_isDisliked {l : Launch} {D : va_G} {cI cZ : ClassId} {h : Nat} {q : Nat → Nat} {n cm : Nat} {th : Int32} {lm : Nat} {a : Nat → Nat → Int32} {kn : Nat → Bool} {H : Heap} (hP : va_P D vwCl (mW h q cI cZ n cm th lm a kn) H) (v : Nat) (r : Nat) (day : Int32) (hv : v ≤ 5) (hn : n ≤ 240) (hr6 : r < 6) : ro_Met l yX4_isDisliked wsX4_isDisliked 2 48 D (mT cI cZ) H [.ref h, .int (nI v), .int (nI r), .int day] (bI (dislikedB a kn n v r day)) := by
  refine ro_start rfl (by decide +kernel) (Nat.le_of_ble_eq_true rfl) (fun p e s m below meth c F hr hlocks hK ls hl => ?_)
  have hl : lv_has ls 8 [(0, .ref h), (1, .int (nI v)), (2, .int (nI r)), (3, .int day)] := hl
  have hx := F.1
  have hb := F.2.1
  have hin : ∀ w ∈ wsX40, w ∈ wsX4_isDisliked := fun _ z => List.mem_cons_of_mem _ (List.mem_append_right _ z)
  refine lv_iconst (v := 0) hx hb dX4_isDisliked_0 (by decide) ?_
  refine lv_istore (lv' := [(4, .int 0), (0, .ref h), (1, .int (nI v)), (2, .int (nI r)), (3, .int day)]) hx hb dX4_isDisliked_1 hl (by decide) rfl (fun ls hl => ?_)
  refine lv_iconst (v := 0) hx hb dX4_isDisliked_3 (by decide) ?_
  refine lv_istore (lv' := [(5, .int 0), (4, .int 0), (0, .ref h), (1, .int (nI v)), (2, .int (nI r)), (3, .int day)]) hx hb dX4_isDisliked_4 hl (by decide) rfl (fun ls hl => ?_)
  have L6_u_1 : ∀ (k9u_1 : Nat) (i : Nat) (b : Bool) (ls : Array Slot), 8 - i < k9u_1 → i ≤ 8 → b = foldU (dgStep a kn n v r day) false i → lv_has ls 8 [(4, .int (bI b)), (5, .int (nI i)), (0, .ref h), (1, .int (nI v)), (2, .int (nI r)), (3, .int day)] → roW p l e 2 48 s m [.ref h, .int (nI v), .int (nI r), .int day] below meth c H (bI (dislikedB a kn n v r day)) (F0 m 6 ls []) := by
    intro k9u_1
    induction k9u_1 with
    | zero => intro i b ls hk; exact absurd hk (Nat.not_lt_zero _)
    | succ k9u_1 ihu_1 =>
      intro i b ls hk hi hf  hl
      refine lv_iload hx hb dX4_isDisliked_6 (lv_at hl 1 rfl) ?_
      refine lv_bipush (v := 8) hx hb dX4_isDisliked_8 (by decide) ?_
      refine lw_ge (tgt := 94) hx hb i 8 (by omega) (by omega) dX4_isDisliked_10 (by decide) (fun c_2 => ?_) (fun c_2 => ?_)
      · skip
        refine lv_iload hx hb dX4_isDisliked_94 (lv_at hl 0 rfl) ?_
        exact ro_retz F hr hlocks (by rw [hf, show i = 8 by omega]; rfl) dX4_isDisliked_96
      · skip
        refine lv_aload_n hx hb dX4_isDisliked_13 rfl (lv_at hl 2 rfl) ?_
        refine lv_iload_n hx hb dX4_isDisliked_14 rfl (lv_at hl 3 rfl) ?_
        refine lv_iload hx hb dX4_isDisliked_15 (lv_at hl 1 rfl) ?_
        refine lv_iload_n hx hb dX4_isDisliked_17 rfl (lv_at hl 5 rfl) ?_
        refine ro_callV F hK [.int (nI v), .int (nI i), .int day] (cm_coming hP v (nI i) day (by first | assumption | omega) (by first | assumption | omega)) (cwV 3 F.2.2.2.2 gX4_isDisliked_X4_coming rfl rfl rfl (by decide +kernel) ⟨Nat.le_of_ble_eq_true rfl, Nat.le_of_ble_eq_true rfl⟩) (mg_rc hK hP) rfl hl.1 rfl (lv_room (Nat.le_of_ble_eq_true rfl)) ⟨Nat.zero_le _, Nat.zero_le _⟩ dX4_isDisliked_18 ?_
        refine lv_istore (lv' := [(6, .int (comingB a kn n v (nI i) day)), (4, .int (bI b)), (5, .int (nI i)), (0, .ref h), (1, .int (nI v)), (2, .int (nI r)), (3, .int day)]) hx hb dX4_isDisliked_21 hl (by decide) rfl (fun ls hl => ?_)
        refine lv_iconst (v := 0) hx hb dX4_isDisliked_23 (by decide) ?_
        refine lv_istore (lv' := [(7, .int 0), (6, .int (comingB a kn n v (nI i) day)), (4, .int (bI b)), (5, .int (nI i)), (0, .ref h), (1, .int (nI v)), (2, .int (nI r)), (3, .int day)]) hx hb dX4_isDisliked_24 hl (by decide) rfl (fun ls hl => ?_)
        have L26_u_3 : ∀ (k9u_3 : Nat) (k : Nat) (b2 : Bool) (ls : Array Slot), 8 - k < k9u_3 → k ≤ 8 → (comingB a kn n v (nI i) day = -1 → b2 = b) → (¬ comingB a kn n v (nI i) day = -1 → b2 = foldU (diStep a r (jn (comingB a kn n v (nI i) day))) b k) → lv_has ls 8 [(4, .int (bI b2)), (7, .int (nI k)), (6, .int (comingB a kn n v (nI i) day)), (5, .int (nI i)), (0, .ref h), (1, .int (nI v)), (2, .int (nI r)), (3, .int day)] → roW p l e 2 48 s m [.ref h, .int (nI v), .int (nI r), .int day] below meth c H (bI (dislikedB a kn n v r day)) (F0 m 26 ls []) := by
          intro k9u_3
          induction k9u_3 with
          | zero => intro k b2 ls hk; exact absurd hk (Nat.not_lt_zero _)
          | succ k9u_3 ihu_3 =>
            intro k b2 ls hk hk8 hg1 hg2  hl
            refine lv_iload hx hb dX4_isDisliked_26 (lv_at hl 1 rfl) ?_
            refine lv_bipush (v := 8) hx hb dX4_isDisliked_28 (by decide) ?_
            refine lw_ge (tgt := 88) hx hb k 8 (by omega) (by omega) dX4_isDisliked_30 (by decide) (fun c_4 => ?_) (fun c_4 => ?_)
            · skip
              refine lv_iinc (v := nI (i + 1)) (lv' := [(5, .int (nI (i + 1))), (4, .int (bI b2)), (7, .int (nI k)), (6, .int (comingB a kn n v (nI i) day)), (0, .ref h), (1, .int (nI v)), (2, .int (nI r)), (3, .int day)]) hx hb dX4_isDisliked_88 hl (k := 3) rfl (show nI i + Int32.ofInt 1 = _ from nI_add i 1) (by decide) rfl (fun ls hl => ?_)
              refine lv_goto (tgt := 6) hx hb dX4_isDisliked_91 (by decide) ?_
              exact ihu_1  (i + 1) b2  ls (by omega) (by first | omega | assumption) (by rw [foldU_s, ← hf]; unfold dgStep; split <;> rename_i z; exact hg1 z; first | (rw [hg2 z, show k = 8 by omega]) | (exact absurd (by assumption) z))  (lv_sub hl [1, 0, 4, 5, 6, 7] rfl)
            · skip
              refine lv_iload hx hb dX4_isDisliked_33 (lv_at hl 2 rfl) ?_
              refine lv_iconst (v := (-1)) hx hb dX4_isDisliked_35 (by decide) ?_
              refine lv_icmp_eq (tgt := 88) hx hb dX4_isDisliked_36 (by decide) (fun c_5 => ?_) (fun c_5 => ?_)
              · skip
                refine lv_iinc (v := nI (i + 1)) (lv' := [(5, .int (nI (i + 1))), (4, .int (bI b2)), (7, .int (nI k)), (6, .int (comingB a kn n v (nI i) day)), (0, .ref h), (1, .int (nI v)), (2, .int (nI r)), (3, .int day)]) hx hb dX4_isDisliked_88 hl (k := 3) rfl (show nI i + Int32.ofInt 1 = _ from nI_add i 1) (by decide) rfl (fun ls hl => ?_)
                refine lv_goto (tgt := 6) hx hb dX4_isDisliked_91 (by decide) ?_
                exact ihu_1  (i + 1) b2  ls (by omega) (by first | omega | assumption) (by rw [foldU_s, ← hf]; unfold dgStep; split <;> rename_i z; exact hg1 z; first | (rw [hg2 z, show k = 8 by omega]) | (exact absurd (by assumption) z))  (lv_sub hl [1, 0, 4, 5, 6, 7] rfl)
              · skip
                obtain ⟨j_6, hj_6, ej_6⟩ := (show comingB a kn n v (nI i) day = -1 ∨ ∃ j, j < n ∧ comingB a kn n v (nI i) day = nI j from comingB_range a kn n v (nI i) day).resolve_left (by first | assumption | exact c_5)
                have nj_6 : jn (comingB a kn n v (nI i) day) = j_6 := by rw [ej_6]; exact jn_nI (by omega)
                refine lv_iload hx hb dX4_isDisliked_39 (lv_at hl 0 rfl) ?_
                refine lw_bne (tgt := 75) hx hb dX4_isDisliked_41 (by decide) (fun c_7 => ?_) (fun c_7 => ?_)
                · skip
                  refine lv_iconst (v := 1) hx hb dX4_isDisliked_75 (by decide) ?_
                  refine lv_goto (tgt := 80) hx hb dX4_isDisliked_76 (by decide) ?_
                  refine lv_istore (lv' := [(4, .int 1), (7, .int (nI k)), (6, .int (comingB a kn n v (nI i) day)), (5, .int (nI i)), (0, .ref h), (1, .int (nI v)), (2, .int (nI r)), (3, .int day)]) hx hb dX4_isDisliked_80 hl (by decide) rfl (fun ls hl => ?_)
                  refine lv_iinc (v := nI (k + 1)) (lv' := [(7, .int (nI (k + 1))), (4, .int 1), (6, .int (comingB a kn n v (nI i) day)), (5, .int (nI i)), (0, .ref h), (1, .int (nI v)), (2, .int (nI r)), (3, .int day)]) hx hb dX4_isDisliked_82 hl (k := 1) rfl (show nI k + Int32.ofInt 1 = _ from nI_add k 1) (by decide) rfl (fun ls hl => ?_)
                  refine lv_goto (tgt := 26) hx hb dX4_isDisliked_85 (by decide) ?_
                  exact ihu_3  (k + 1) true  ls (by omega) (by first | omega | assumption) (fun z => absurd z c_5) (fun z => by rw [foldU_s, ← hg2 z]; simp [diStep, c_2, c_4, c_5, nj_6, c_7])  (lv_sub hl [1, 0, 2, 3, 4, 5, 6, 7] rfl)
                · skip
                  refine lv_aload_n hx hb dX4_isDisliked_44 rfl (lv_at hl 4 rfl) ?_
                  refine mg_get F hK hin hP 11 (by decide) (by decide +kernel) rfl dX4_isDisliked_45 ?_
                  refine lv_bipush (v := 8) hx hb dX4_isDisliked_48 (by decide) ?_
                  refine lv_iload_n hx hb dX4_isDisliked_50 rfl (lv_at hl 6 rfl) ?_
                  refine lw_mul hx hb (i := 8) (j := r) dX4_isDisliked_51 ?_
                  refine lv_iload hx hb dX4_isDisliked_52 (lv_at hl 1 rfl) ?_
                  refine lw_add hx hb (i := (8 * r)) (j := k) dX4_isDisliked_54 ?_
                  refine mg_ald F hK hP 11 11 48 rfl ((8 * r) + k) rfl (by omega) (by decide) dX4_isDisliked_55 ?_
                  refine lv_if_le (tgt := 79) hx hb dX4_isDisliked_56 (by decide) (fun c_8 => ?_) (fun c_8 => ?_)
                  · skip
                    refine lv_iconst (v := 0) hx hb dX4_isDisliked_79 (by decide) ?_
                    refine lv_istore (lv' := [(4, .int 0), (7, .int (nI k)), (6, .int (comingB a kn n v (nI i) day)), (5, .int (nI i)), (0, .ref h), (1, .int (nI v)), (2, .int (nI r)), (3, .int day)]) hx hb dX4_isDisliked_80 hl (by decide) rfl (fun ls hl => ?_)
                    refine lv_iinc (v := nI (k + 1)) (lv' := [(7, .int (nI (k + 1))), (4, .int 0), (6, .int (comingB a kn n v (nI i) day)), (5, .int (nI i)), (0, .ref h), (1, .int (nI v)), (2, .int (nI r)), (3, .int day)]) hx hb dX4_isDisliked_82 hl (k := 1) rfl (show nI k + Int32.ofInt 1 = _ from nI_add k 1) (by decide) rfl (fun ls hl => ?_)
                    refine lv_goto (tgt := 26) hx hb dX4_isDisliked_85 (by decide) ?_
                    exact ihu_3  (k + 1) false  ls (by omega) (by first | omega | assumption) (fun z => absurd z c_5) (fun z => by rw [foldU_s, ← hg2 z]; simp [diStep, c_2, c_4, c_5, nj_6, c_7, c_8])  (lv_sub hl [1, 0, 2, 3, 4, 5, 6, 7] rfl)
                  · skip
                    refine lv_aload_n hx hb dX4_isDisliked_59 rfl (lv_at hl 4 rfl) ?_
                    refine mg_get F hK hin hP 8 (by decide) (by decide +kernel) rfl dX4_isDisliked_60 ?_
                    refine lv_iload hx hb dX4_isDisliked_63 (lv_at hl 2 rfl) ?_
                    refine mg_ald F hK hP 8 8 240 rfl j_6 ej_6 (by omega) (by decide) dX4_isDisliked_65 ?_
                    refine lv_iload hx hb dX4_isDisliked_66 (lv_at hl 1 rfl) ?_
                    refine lv_ishr hx hb dX4_isDisliked_68 ?_
                    refine lv_iconst (v := 1) hx hb dX4_isDisliked_69 (by decide) ?_
                    refine lv_iand hx hb dX4_isDisliked_70 ?_
                    refine lv_iconst (v := 1) hx hb dX4_isDisliked_71 (by decide) ?_
                    refine lv_icmp_ne (tgt := 79) hx hb dX4_isDisliked_72 (by decide) (fun c_9 => ?_) (fun c_9 => ?_)
                    · skip
                      refine lv_iconst (v := 0) hx hb dX4_isDisliked_79 (by decide) ?_
                      refine lv_istore (lv' := [(4, .int 0), (7, .int (nI k)), (6, .int (comingB a kn n v (nI i) day)), (5, .int (nI i)), (0, .ref h), (1, .int (nI v)), (2, .int (nI r)), (3, .int day)]) hx hb dX4_isDisliked_80 hl (by decide) rfl (fun ls hl => ?_)
                      refine lv_iinc (v := nI (k + 1)) (lv' := [(7, .int (nI (k + 1))), (4, .int 0), (6, .int (comingB a kn n v (nI i) day)), (5, .int (nI i)), (0, .ref h), (1, .int (nI v)), (2, .int (nI r)), (3, .int day)]) hx hb dX4_isDisliked_82 hl (k := 1) rfl (show nI k + Int32.ofInt 1 = _ from nI_add k 1) (by decide) rfl (fun ls hl => ?_)
                      refine lv_goto (tgt := 26) hx hb dX4_isDisliked_85 (by decide) ?_
                      exact ihu_3  (k + 1) false  ls (by omega) (by first | omega | assumption) (fun z => absurd z c_5) (fun z => by rw [foldU_s, ← hg2 z]; simp [diStep, c_2, c_4, c_5, nj_6, c_7, c_8, c_9])  (lv_sub hl [1, 0, 2, 3, 4, 5, 6, 7] rfl)
                    · skip
                      refine lv_iconst (v := 1) hx hb dX4_isDisliked_75 (by decide) ?_
                      refine lv_goto (tgt := 80) hx hb dX4_isDisliked_76 (by decide) ?_
                      refine lv_istore (lv' := [(4, .int 1), (7, .int (nI k)), (6, .int (comingB a kn n v (nI i) day)), (5, .int (nI i)), (0, .ref h), (1, .int (nI v)), (2, .int (nI r)), (3, .int day)]) hx hb dX4_isDisliked_80 hl (by decide) rfl (fun ls hl => ?_)
                      refine lv_iinc (v := nI (k + 1)) (lv' := [(7, .int (nI (k + 1))), (4, .int 1), (6, .int (comingB a kn n v (nI i) day)), (5, .int (nI i)), (0, .ref h), (1, .int (nI v)), (2, .int (nI r)), (3, .int day)]) hx hb dX4_isDisliked_82 hl (k := 1) rfl (show nI k + Int32.ofInt 1 = _ from nI_add k 1) (by decide) rfl (fun ls hl => ?_)
                      refine lv_goto (tgt := 26) hx hb dX4_isDisliked_85 (by decide) ?_
                      exact ihu_3  (k + 1) true  ls (by omega) (by first | omega | assumption) (fun z => absurd z c_5) (fun z => by rw [foldU_s, ← hg2 z]; simp [diStep, c_2, c_4, c_5, nj_6, c_7, c_8, c_9])  (lv_sub hl [1, 0, 2, 3, 4, 5, 6, 7] rfl)
        exact L26_u_3 _ 0 b  ls (Nat.lt_succ_self _) (by first | omega | assumption) (fun _ => rfl) (fun _ => rfl)  (lv_sub hl [2, 0, 1, 3, 4, 5, 6, 7] rfl)
  exact L6_u_1 _ 0 false  ls (Nat.lt_succ_self _) (by first | omega | assumption) (rfl)  (lv_sub hl [1, 0, 2, 3, 4, 5] rfl)
set_option maxHeartbeats 4000000 in
set_option maxRecDepth 100000 in
theorem cm_stateOf {l : Launch} {D : va_G} {cI cZ : ClassId} {h : Nat} {q : Nat → Nat} {n cm : Nat} {th : Int32} {lm : Nat} {a : Nat → Nat → Int32} {kn : Nat → Bool} {H : Heap} (hP : va_P D vwCl (mW h q cI cZ n cm th lm a kn) H) (v : Nat) (k : Nat) (hv : v ≤ 5) (I : mI n cm a) (hk : k < cm) : ro_Met l yX4_stateOf wsX4_stateOf 1 22 D (mT cI cZ) H [.ref h, .int (nI v), .int (nI k)] (stateB a kn n v k) := by
  refine ro_start rfl (by decide +kernel) (Nat.le_of_ble_eq_true rfl) (fun p e s m below meth c F hr hlocks hK ls hl => ?_)
  have hl : lv_has ls 6 [(0, .ref h), (1, .int (nI v)), (2, .int (nI k))] := hl
  have hx := F.1
  have hb := F.2.1
  have hin : ∀ w ∈ wsX40, w ∈ wsX4_stateOf := fun _ z => List.mem_cons_of_mem _ (List.mem_append_right _ z)
  have hn := I.1
  have hcm := I.2.1
  refine lv_aload_n hx hb dX4_stateOf_0 rfl (lv_at hl 0 rfl) ?_
  refine lv_iload_n hx hb dX4_stateOf_1 rfl (lv_at hl 1 rfl) ?_
  refine lv_aload_n hx hb dX4_stateOf_2 rfl (lv_at hl 0 rfl) ?_
  refine mg_get F hK hin hP 15 (by decide) (by decide +kernel) rfl dX4_stateOf_3 ?_
  refine lv_iload_n hx hb dX4_stateOf_6 rfl (lv_at hl 2 rfl) ?_
  refine mg_ald F hK hP 15 14 20 rfl k rfl (by omega) (by decide) dX4_stateOf_7 ?_
  obtain ⟨j_1, hj_1, ej_1⟩ := I.2.2.1 k hk
  refine lw_N j_1 ej_1 ?_
  have nj_1 : jn (a 15 k) = j_1 := by rw [ej_1]; exact jn_nI (by have := I.1; have := I.2.1; omega)
  refine ro_callV F hK [.int (nI v), .int (nI j_1)] (cm_knows hP v j_1 (by first | assumption | omega) (by omega)) (cwV 2 F.2.2.2.2 gX4_stateOf_X4_knows rfl rfl rfl (by decide +kernel) ⟨Nat.le_of_ble_eq_true rfl, Nat.le_of_ble_eq_true rfl⟩) (mg_rc hK hP) rfl hl.1 rfl (lv_room (Nat.le_of_ble_eq_true rfl)) ⟨Nat.zero_le _, Nat.zero_le _⟩ dX4_stateOf_8 ?_
  refine lw_bne (tgt := 16) hx hb dX4_stateOf_11 (by decide) (fun c_2 => ?_) (fun c_2 => ?_)
  · skip
    refine lv_iconst (v := 1) hx hb dX4_stateOf_16 (by decide) ?_
    refine lv_istore_n (lv' := [(3, .int 1), (0, .ref h), (1, .int (nI v)), (2, .int (nI k))]) hx hb dX4_stateOf_17 rfl hl (by decide) rfl (fun ls hl => ?_)
    refine lv_iconst (v := 0) hx hb dX4_stateOf_18 (by decide) ?_
    refine lv_istore (lv' := [(4, .int 0), (3, .int 1), (0, .ref h), (1, .int (nI v)), (2, .int (nI k))]) hx hb dX4_stateOf_19 hl (by decide) rfl (fun ls hl => ?_)
    have L21_u_3 : ∀ (k9u_3 : Nat) (i : Nat) (f : Int32) (ls : Array Slot), n - i < k9u_3 → i ≤ n → f = foldU (stStep a kn v k) 1 i → lv_has ls 6 [(3, .int f), (4, .int (nI i)), (0, .ref h), (1, .int (nI v)), (2, .int (nI k))] → roW p l e 1 22 s m [.ref h, .int (nI v), .int (nI k)] below meth c H (stateB a kn n v k) (F0 m 21 ls []) := by
      intro k9u_3
      induction k9u_3 with
      | zero => intro i f ls hk; exact absurd hk (Nat.not_lt_zero _)
      | succ k9u_3 ihu_3 =>
        intro i f ls hk hi hf  hl
        refine lv_iload hx hb dX4_stateOf_21 (lv_at hl 1 rfl) ?_
        refine lv_aload_n hx hb dX4_stateOf_23 rfl (lv_at hl 2 rfl) ?_
        refine mg_get F hK hin hP 0 (by decide) (by decide +kernel) rfl dX4_stateOf_24 ?_
        refine lw_ge (tgt := 112) hx hb i n (by omega) (by omega) dX4_stateOf_27 (by decide) (fun c_4 => ?_) (fun c_4 => ?_)
        · skip
          refine lv_iload_n hx hb dX4_stateOf_112 rfl (lv_at hl 0 rfl) ?_
          exact ro_reti F hr hlocks (by rw [hf, show i = n by omega]; simp [stateB, nj_1, c_2, c_4]) dX4_stateOf_113
        · skip
          refine lv_aload_n hx hb dX4_stateOf_30 rfl (lv_at hl 2 rfl) ?_
          refine lv_iload_n hx hb dX4_stateOf_31 rfl (lv_at hl 3 rfl) ?_
          refine lv_iload hx hb dX4_stateOf_32 (lv_at hl 1 rfl) ?_
          refine ro_callV F hK [.int (nI v), .int (nI i)] (cm_knows hP v i (by first | assumption | omega) (by omega)) (cwV 2 F.2.2.2.2 gX4_stateOf_X4_knows rfl rfl rfl (by decide +kernel) ⟨Nat.le_of_ble_eq_true rfl, Nat.le_of_ble_eq_true rfl⟩) (mg_rc hK hP) rfl hl.1 rfl (lv_room (Nat.le_of_ble_eq_true rfl)) ⟨Nat.zero_le _, Nat.zero_le _⟩ dX4_stateOf_34 ?_
          refine lw_beq (tgt := 55) hx hb dX4_stateOf_37 (by decide) (fun c_5 => ?_) (fun c_5 => ?_)
          · skip
            refine lv_iconst (v := 0) hx hb dX4_stateOf_55 (by decide) ?_
            refine lv_istore (lv' := [(5, .int 0), (3, .int f), (4, .int (nI i)), (0, .ref h), (1, .int (nI v)), (2, .int (nI k))]) hx hb dX4_stateOf_56 hl (by decide) rfl (fun ls hl => ?_)
            refine lv_iload hx hb dX4_stateOf_58 (lv_at hl 0 rfl) ?_
            refine lv_if_eq (tgt := 79) hx hb dX4_stateOf_60 (by decide) (fun _ => ?_) (fun z9 => absurd (by decide) z9)
            refine lv_iload hx hb dX4_stateOf_79 (lv_at hl 0 rfl) ?_
            refine lv_if_eq (tgt := 104) hx hb dX4_stateOf_81 (by decide) (fun _ => ?_) (fun z9 => absurd (by decide) z9)
            refine lv_iload_n hx hb dX4_stateOf_104 rfl (lv_at hl 1 rfl) ?_
            refine lv_istore_n (lv' := [(3, .int f), (5, .int 0), (4, .int (nI i)), (0, .ref h), (1, .int (nI v)), (2, .int (nI k))]) hx hb dX4_stateOf_105 rfl hl (by decide) rfl (fun ls hl => ?_)
            refine lv_iinc (v := nI (i + 1)) (lv' := [(4, .int (nI (i + 1))), (3, .int f), (5, .int 0), (0, .ref h), (1, .int (nI v)), (2, .int (nI k))]) hx hb dX4_stateOf_106 hl (k := 2) rfl (show nI i + Int32.ofInt 1 = _ from nI_add i 1) (by decide) rfl (fun ls hl => ?_)
            refine lv_goto (tgt := 21) hx hb dX4_stateOf_109 (by decide) ?_
            exact ihu_3  (i + 1) f  ls (by omega) (by first | omega | assumption) (by rw [foldU_s, ← hf]; simp [stStep, nj_1, c_2, c_4, c_5])  (lv_sub hl [1, 0, 3, 4, 5] rfl)
          · skip
            refine lv_aload_n hx hb dX4_stateOf_40 rfl (lv_at hl 2 rfl) ?_
            refine mg_get F hK hin hP 4 (by decide) (by decide +kernel) rfl dX4_stateOf_41 ?_
            refine lv_iload hx hb dX4_stateOf_44 (lv_at hl 1 rfl) ?_
            refine mg_ald F hK hP 4 4 240 rfl i rfl (by omega) (by decide) dX4_stateOf_46 ?_
            refine lv_iload_n hx hb dX4_stateOf_47 rfl (lv_at hl 4 rfl) ?_
            refine lv_icmp_ne (tgt := 55) hx hb dX4_stateOf_48 (by decide) (fun c_6 => ?_) (fun c_6 => ?_)
            · skip
              refine lv_iconst (v := 0) hx hb dX4_stateOf_55 (by decide) ?_
              refine lv_istore (lv' := [(5, .int 0), (3, .int f), (4, .int (nI i)), (0, .ref h), (1, .int (nI v)), (2, .int (nI k))]) hx hb dX4_stateOf_56 hl (by decide) rfl (fun ls hl => ?_)
              refine lv_iload hx hb dX4_stateOf_58 (lv_at hl 0 rfl) ?_
              refine lv_if_eq (tgt := 79) hx hb dX4_stateOf_60 (by decide) (fun _ => ?_) (fun z9 => absurd (by decide) z9)
              refine lv_iload hx hb dX4_stateOf_79 (lv_at hl 0 rfl) ?_
              refine lv_if_eq (tgt := 104) hx hb dX4_stateOf_81 (by decide) (fun _ => ?_) (fun z9 => absurd (by decide) z9)
              refine lv_iload_n hx hb dX4_stateOf_104 rfl (lv_at hl 1 rfl) ?_
              refine lv_istore_n (lv' := [(3, .int f), (5, .int 0), (4, .int (nI i)), (0, .ref h), (1, .int (nI v)), (2, .int (nI k))]) hx hb dX4_stateOf_105 rfl hl (by decide) rfl (fun ls hl => ?_)
              refine lv_iinc (v := nI (i + 1)) (lv' := [(4, .int (nI (i + 1))), (3, .int f), (5, .int 0), (0, .ref h), (1, .int (nI v)), (2, .int (nI k))]) hx hb dX4_stateOf_106 hl (k := 2) rfl (show nI i + Int32.ofInt 1 = _ from nI_add i 1) (by decide) rfl (fun ls hl => ?_)
              refine lv_goto (tgt := 21) hx hb dX4_stateOf_109 (by decide) ?_
              exact ihu_3  (i + 1) f  ls (by omega) (by first | omega | assumption) (by rw [foldU_s, ← hf]; simp [stStep, nj_1, c_2, c_4, c_5, c_6])  (lv_sub hl [1, 0, 3, 4, 5] rfl)
            · skip
              refine lv_iconst (v := 1) hx hb dX4_stateOf_51 (by decide) ?_
              refine lv_goto (tgt := 56) hx hb dX4_stateOf_52 (by decide) ?_
              refine lv_istore (lv' := [(5, .int 1), (3, .int f), (4, .int (nI i)), (0, .ref h), (1, .int (nI v)), (2, .int (nI k))]) hx hb dX4_stateOf_56 hl (by decide) rfl (fun ls hl => ?_)
              refine lv_iload hx hb dX4_stateOf_58 (lv_at hl 0 rfl) ?_
              refine lv_if_eq (tgt := 79) hx hb dX4_stateOf_60 (by decide) (fun z9 => absurd z9 (by decide)) (fun _ => ?_)
              refine lv_aload_n hx hb dX4_stateOf_63 rfl (lv_at hl 3 rfl) ?_
              refine mg_get F hK hin hP 1 (by decide) (by decide +kernel) rfl dX4_stateOf_64 ?_
              refine lv_iload hx hb dX4_stateOf_67 (lv_at hl 2 rfl) ?_
              refine mg_ald F hK hP 1 1 240 rfl i rfl (by omega) (by decide) dX4_stateOf_69 ?_
              refine lv_bipush (v := 6) hx hb dX4_stateOf_70 (by decide) ?_
              refine lv_icmp_ne (tgt := 79) hx hb dX4_stateOf_72 (by decide) (fun c_7 => ?_) (fun c_7 => ?_)
              · skip
                refine lv_iload hx hb dX4_stateOf_79 (lv_at hl 0 rfl) ?_
                refine lv_if_eq (tgt := 104) hx hb dX4_stateOf_81 (by decide) (fun z9 => absurd z9 (by decide)) (fun _ => ?_)
                refine lv_aload_n hx hb dX4_stateOf_84 rfl (lv_at hl 3 rfl) ?_
                refine mg_get F hK hin hP 1 (by decide) (by decide +kernel) rfl dX4_stateOf_85 ?_
                refine lv_iload hx hb dX4_stateOf_88 (lv_at hl 2 rfl) ?_
                refine mg_ald F hK hP 1 1 240 rfl i rfl (by omega) (by decide) dX4_stateOf_90 ?_
                refine lv_iconst (v := 5) hx hb dX4_stateOf_91 (by decide) ?_
                refine lv_icmp_ne (tgt := 104) hx hb dX4_stateOf_92 (by decide) (fun c_8 => ?_) (fun c_8 => ?_)
                · skip
                  refine lv_iload_n hx hb dX4_stateOf_104 rfl (lv_at hl 1 rfl) ?_
                  refine lv_istore_n (lv' := [(3, .int f), (5, .int 1), (4, .int (nI i)), (0, .ref h), (1, .int (nI v)), (2, .int (nI k))]) hx hb dX4_stateOf_105 rfl hl (by decide) rfl (fun ls hl => ?_)
                  refine lv_iinc (v := nI (i + 1)) (lv' := [(4, .int (nI (i + 1))), (3, .int f), (5, .int 1), (0, .ref h), (1, .int (nI v)), (2, .int (nI k))]) hx hb dX4_stateOf_106 hl (k := 2) rfl (show nI i + Int32.ofInt 1 = _ from nI_add i 1) (by decide) rfl (fun ls hl => ?_)
                  refine lv_goto (tgt := 21) hx hb dX4_stateOf_109 (by decide) ?_
                  exact ihu_3  (i + 1) f  ls (by omega) (by first | omega | assumption) (by rw [foldU_s, ← hf]; simp [stStep, nj_1, c_2, c_4, c_5, c_6, c_7, c_8])  (lv_sub hl [1, 0, 3, 4, 5] rfl)
                · skip
                  refine lv_iload_n hx hb dX4_stateOf_95 rfl (lv_at hl 1 rfl) ?_
                  refine lv_iconst (v := 1) hx hb dX4_stateOf_96 (by decide) ?_
                  refine lv_icmp_ne (tgt := 104) hx hb dX4_stateOf_97 (by decide) (fun c_9 => ?_) (fun c_9 => ?_)
                  · skip
                    refine lv_iload_n hx hb dX4_stateOf_104 rfl (lv_at hl 1 rfl) ?_
                    refine lv_istore_n (lv' := [(3, .int f), (5, .int 1), (4, .int (nI i)), (0, .ref h), (1, .int (nI v)), (2, .int (nI k))]) hx hb dX4_stateOf_105 rfl hl (by decide) rfl (fun ls hl => ?_)
                    refine lv_iinc (v := nI (i + 1)) (lv' := [(4, .int (nI (i + 1))), (3, .int f), (5, .int 1), (0, .ref h), (1, .int (nI v)), (2, .int (nI k))]) hx hb dX4_stateOf_106 hl (k := 2) rfl (show nI i + Int32.ofInt 1 = _ from nI_add i 1) (by decide) rfl (fun ls hl => ?_)
                    refine lv_goto (tgt := 21) hx hb dX4_stateOf_109 (by decide) ?_
                    exact ihu_3  (i + 1) f  ls (by omega) (by first | omega | assumption) (by rw [foldU_s, ← hf]; simp [stStep, nj_1, c_2, c_4, c_5, c_6, c_7, c_8, c_9])  (lv_sub hl [1, 0, 3, 4, 5] rfl)
                  · skip
                    refine lv_iconst (v := 2) hx hb dX4_stateOf_100 (by decide) ?_
                    refine lv_goto (tgt := 105) hx hb dX4_stateOf_101 (by decide) ?_
                    refine lv_istore_n (lv' := [(3, .int 2), (5, .int 1), (4, .int (nI i)), (0, .ref h), (1, .int (nI v)), (2, .int (nI k))]) hx hb dX4_stateOf_105 rfl hl (by decide) rfl (fun ls hl => ?_)
                    refine lv_iinc (v := nI (i + 1)) (lv' := [(4, .int (nI (i + 1))), (3, .int 2), (5, .int 1), (0, .ref h), (1, .int (nI v)), (2, .int (nI k))]) hx hb dX4_stateOf_106 hl (k := 2) rfl (show nI i + Int32.ofInt 1 = _ from nI_add i 1) (by decide) rfl (fun ls hl => ?_)
                    refine lv_goto (tgt := 21) hx hb dX4_stateOf_109 (by decide) ?_
                    exact ihu_3  (i + 1) 2  ls (by omega) (by first | omega | assumption) (by rw [foldU_s, ← hf]; simp [stStep, nj_1, c_2, c_4, c_5, c_6, c_7, c_8, c_9])  (lv_sub hl [1, 0, 3, 4, 5] rfl)
              · skip
                refine lv_iconst (v := 3) hx hb dX4_stateOf_75 (by decide) ?_
                refine lv_goto (tgt := 105) hx hb dX4_stateOf_76 (by decide) ?_
                refine lv_istore_n (lv' := [(3, .int 3), (5, .int 1), (4, .int (nI i)), (0, .ref h), (1, .int (nI v)), (2, .int (nI k))]) hx hb dX4_stateOf_105 rfl hl (by decide) rfl (fun ls hl => ?_)
                refine lv_iinc (v := nI (i + 1)) (lv' := [(4, .int (nI (i + 1))), (3, .int 3), (5, .int 1), (0, .ref h), (1, .int (nI v)), (2, .int (nI k))]) hx hb dX4_stateOf_106 hl (k := 2) rfl (show nI i + Int32.ofInt 1 = _ from nI_add i 1) (by decide) rfl (fun ls hl => ?_)
                refine lv_goto (tgt := 21) hx hb dX4_stateOf_109 (by decide) ?_
                exact ihu_3  (i + 1) 3  ls (by omega) (by first | omega | assumption) (by rw [foldU_s, ← hf]; simp [stStep, nj_1, c_2, c_4, c_5, c_6, c_7])  (lv_sub hl [1, 0, 3, 4, 5] rfl)
    exact L21_u_3 _ 0 1  ls (Nat.lt_succ_self _) (by first | omega | assumption) (rfl)  (lv_sub hl [1, 0, 2, 3, 4] rfl)
  · skip
    refine lv_iconst (v := 0) hx hb dX4_stateOf_14 (by decide) ?_
    exact ro_reti F hr hlocks (by simp [stateB, nj_1, c_2]) dX4_stateOf_15
set_option maxHeartbeats 4000000 in
set_option maxRecDepth 100000 in
theorem cm_isAhead {l : Launch} {D : va_G} {cI cZ : ClassId} {h : Nat} {q : Nat → Nat} {n cm : Nat} {th : Int32} {lm : Nat} {a : Nat → Nat → Int32} {kn : Nat → Bool} {H : Heap} (hP : va_P D vwCl (mW h q cI cZ n cm th lm a kn) H) (v : Nat) (k : Nat) (o : Nat) (hv : v ≤ 5) (I : mI n cm a) (hk : k < cm) (ho : o < cm) : ro_Met l yX4_isAhead wsX4_isAhead 3 72 D (mT cI cZ) H [.ref h, .int (nI v), .int (nI k), .int (nI o)] (bI (aheadB a kn n v k o)) := by
  refine ro_start rfl (by decide +kernel) (Nat.le_of_ble_eq_true rfl) (fun p e s m below meth c F hr hlocks hK ls hl => ?_)
  have hl : lv_has ls 5 [(0, .ref h), (1, .int (nI v)), (2, .int (nI k)), (3, .int (nI o))] := hl
  have hx := F.1
  have hb := F.2.1
  have hin : ∀ w ∈ wsX40, w ∈ wsX4_isAhead := fun _ z => List.mem_cons_of_mem _ (List.mem_append_right _ z)
  have hn := I.1
  have hcm := I.2.1
  refine lv_aload_n hx hb dX4_isAhead_0 rfl (lv_at hl 0 rfl) ?_
  refine lv_iload_n hx hb dX4_isAhead_1 rfl (lv_at hl 1 rfl) ?_
  refine lv_aload_n hx hb dX4_isAhead_2 rfl (lv_at hl 0 rfl) ?_
  refine mg_get F hK hin hP 14 (by decide) (by decide +kernel) rfl dX4_isAhead_3 ?_
  refine lv_iload_n hx hb dX4_isAhead_6 rfl (lv_at hl 2 rfl) ?_
  refine mg_ald F hK hP 14 13 20 rfl k rfl (by omega) (by decide) dX4_isAhead_7 ?_
  refine ro_callV F hK [.int (nI v), .int (a 14 k)] (cm_guestMany hP v (a 14 k) (by first | assumption | omega) (by first | assumption | omega)) (cwV 2 F.2.2.2.2 gX4_isAhead_X4_guestMany rfl rfl rfl (by decide +kernel) ⟨Nat.le_of_ble_eq_true rfl, Nat.le_of_ble_eq_true rfl⟩) (mg_rc hK hP) rfl hl.1 rfl (lv_room (Nat.le_of_ble_eq_true rfl)) ⟨Nat.zero_le _, Nat.zero_le _⟩ dX4_isAhead_8 ?_
  refine lv_aload_n hx hb dX4_isAhead_11 rfl (lv_at hl 0 rfl) ?_
  refine lv_iload_n hx hb dX4_isAhead_12 rfl (lv_at hl 1 rfl) ?_
  refine lv_aload_n hx hb dX4_isAhead_13 rfl (lv_at hl 0 rfl) ?_
  refine mg_get F hK hin hP 14 (by decide) (by decide +kernel) rfl dX4_isAhead_14 ?_
  refine lv_iload_n hx hb dX4_isAhead_17 rfl (lv_at hl 3 rfl) ?_
  refine mg_ald F hK hP 14 13 20 rfl o rfl (by omega) (by decide) dX4_isAhead_18 ?_
  refine ro_callV F hK [.int (nI v), .int (a 14 o)] (cm_guestMany hP v (a 14 o) (by first | assumption | omega) (by first | assumption | omega)) (cwV 2 F.2.2.2.2 gX4_isAhead_X4_guestMany rfl rfl rfl (by decide +kernel) ⟨Nat.le_of_ble_eq_true rfl, Nat.le_of_ble_eq_true rfl⟩) (mg_rc hK hP) rfl hl.1 rfl (lv_room (Nat.le_of_ble_eq_true rfl)) ⟨Nat.zero_le _, Nat.zero_le _⟩ dX4_isAhead_19 ?_
  refine lv_isub hx hb dX4_isAhead_22 ?_
  refine lv_istore (lv' := [(4, .int (nI (guestManyB a kn n v (a 14 k)) - nI (guestManyB a kn n v (a 14 o)))), (0, .ref h), (1, .int (nI v)), (2, .int (nI k)), (3, .int (nI o))]) hx hb dX4_isAhead_23 hl (by decide) rfl (fun ls hl => ?_)
  refine lv_iload hx hb dX4_isAhead_25 (lv_at hl 0 rfl) ?_
  refine lv_if_eq (tgt := 41) hx hb dX4_isAhead_27 (by decide) (fun c_1 => ?_) (fun c_1 => ?_)
  · skip
    refine lv_aload_n hx hb dX4_isAhead_41 rfl (lv_at hl 1 rfl) ?_
    refine mg_get F hK hin hP 14 (by decide) (by decide +kernel) rfl dX4_isAhead_42 ?_
    refine lv_iload_n hx hb dX4_isAhead_45 rfl (lv_at hl 3 rfl) ?_
    refine mg_ald F hK hP 14 13 20 rfl k rfl (by omega) (by decide) dX4_isAhead_46 ?_
    refine lv_aload_n hx hb dX4_isAhead_47 rfl (lv_at hl 1 rfl) ?_
    refine mg_get F hK hin hP 14 (by decide) (by decide +kernel) rfl dX4_isAhead_48 ?_
    refine lv_iload_n hx hb dX4_isAhead_51 rfl (lv_at hl 4 rfl) ?_
    refine mg_ald F hK hP 14 13 20 rfl o rfl (by omega) (by decide) dX4_isAhead_52 ?_
    refine lv_icmp_lt (tgt := 90) hx hb dX4_isAhead_53 (by decide) (fun c_2 => ?_) (fun c_2 => ?_)
    · skip
      refine lv_iconst (v := 1) hx hb dX4_isAhead_90 (by decide) ?_
      refine lv_goto (tgt := 95) hx hb dX4_isAhead_91 (by decide) ?_
      exact ro_retz F hr hlocks (by simp [aheadB, bI, c_1, c_2]) dX4_isAhead_95
    · skip
      refine lv_aload_n hx hb dX4_isAhead_56 rfl (lv_at hl 1 rfl) ?_
      refine mg_get F hK hin hP 14 (by decide) (by decide +kernel) rfl dX4_isAhead_57 ?_
      refine lv_iload_n hx hb dX4_isAhead_60 rfl (lv_at hl 3 rfl) ?_
      refine mg_ald F hK hP 14 13 20 rfl k rfl (by omega) (by decide) dX4_isAhead_61 ?_
      refine lv_aload_n hx hb dX4_isAhead_62 rfl (lv_at hl 1 rfl) ?_
      refine mg_get F hK hin hP 14 (by decide) (by decide +kernel) rfl dX4_isAhead_63 ?_
      refine lv_iload_n hx hb dX4_isAhead_66 rfl (lv_at hl 4 rfl) ?_
      refine mg_ald F hK hP 14 13 20 rfl o rfl (by omega) (by decide) dX4_isAhead_67 ?_
      refine lv_icmp_ne (tgt := 94) hx hb dX4_isAhead_68 (by decide) (fun c_3 => ?_) (fun c_3 => ?_)
      · skip
        refine lv_iconst (v := 0) hx hb dX4_isAhead_94 (by decide) ?_
        exact ro_retz F hr hlocks (by simp [aheadB, bI, c_1, c_2, c_3]) dX4_isAhead_95
      · skip
        refine lv_aload_n hx hb dX4_isAhead_71 rfl (lv_at hl 1 rfl) ?_
        refine lv_aload_n hx hb dX4_isAhead_72 rfl (lv_at hl 1 rfl) ?_
        refine mg_get F hK hin hP 15 (by decide) (by decide +kernel) rfl dX4_isAhead_73 ?_
        refine lv_iload_n hx hb dX4_isAhead_76 rfl (lv_at hl 4 rfl) ?_
        refine mg_ald F hK hP 15 14 20 rfl o rfl (by omega) (by decide) dX4_isAhead_77 ?_
        obtain ⟨j_4, hj_4, ej_4⟩ := I.2.2.1 o ho
        refine lw_N j_4 ej_4 ?_
        have nj_4 : jn (a 15 o) = j_4 := by rw [ej_4]; exact jn_nI (by have := I.1; have := I.2.1; omega)
        refine lv_aload_n hx hb dX4_isAhead_78 rfl (lv_at hl 1 rfl) ?_
        refine mg_get F hK hin hP 15 (by decide) (by decide +kernel) rfl dX4_isAhead_79 ?_
        refine lv_iload_n hx hb dX4_isAhead_82 rfl (lv_at hl 3 rfl) ?_
        refine mg_ald F hK hP 15 14 20 rfl k rfl (by omega) (by decide) dX4_isAhead_83 ?_
        obtain ⟨j_5, hj_5, ej_5⟩ := I.2.2.1 k hk
        refine lw_N j_5 ej_5 ?_
        have nj_5 : jn (a 15 k) = j_5 := by rw [ej_5]; exact jn_nI (by have := I.1; have := I.2.1; omega)
        refine ro_callV F hK [.int (nI j_4), .int (nI j_5)] (cm_isLater hP j_4 j_5 (by first | assumption | omega) (by first | assumption | omega)) (cwV 2 F.2.2.2.2 gX4_isAhead_X4_isLater rfl rfl rfl (by decide +kernel) ⟨Nat.le_of_ble_eq_true rfl, Nat.le_of_ble_eq_true rfl⟩) (mg_rc hK hP) rfl hl.1 rfl (lv_room (Nat.le_of_ble_eq_true rfl)) ⟨Nat.zero_le _, Nat.zero_le _⟩ dX4_isAhead_84 ?_
        refine lw_beq (tgt := 94) hx hb dX4_isAhead_87 (by decide) (fun c_6 => ?_) (fun c_6 => ?_)
        · skip
          refine lv_iconst (v := 0) hx hb dX4_isAhead_94 (by decide) ?_
          exact ro_retz F hr hlocks (by simp [aheadB, bI, c_1, c_2, c_3, nj_4, nj_5, c_6]) dX4_isAhead_95
        · skip
          refine lv_iconst (v := 1) hx hb dX4_isAhead_90 (by decide) ?_
          refine lv_goto (tgt := 95) hx hb dX4_isAhead_91 (by decide) ?_
          exact ro_retz F hr hlocks (by simp [aheadB, bI, c_1, c_2, c_3, nj_4, nj_5, c_6]) dX4_isAhead_95
  · skip
    refine lv_iload hx hb dX4_isAhead_30 (lv_at hl 0 rfl) ?_
    refine lv_if_le (tgt := 39) hx hb dX4_isAhead_32 (by decide) (fun c_7 => ?_) (fun c_7 => ?_)
    · skip
      refine lv_iconst (v := 0) hx hb dX4_isAhead_39 (by decide) ?_
      exact ro_retz F hr hlocks (by simp [aheadB, bI, c_1, c_7]) dX4_isAhead_40
    · skip
      refine lv_iconst (v := 1) hx hb dX4_isAhead_35 (by decide) ?_
      refine lv_goto (tgt := 40) hx hb dX4_isAhead_36 (by decide) ?_
      exact ro_retz F hr hlocks (by simp [aheadB, bI, c_1, c_7]) dX4_isAhead_40
set_option maxHeartbeats 4000000 in
set_option maxRecDepth 100000 in
theorem cm_keeper {l : Launch} {D : va_G} {cI cZ : ClassId} {h : Nat} {q : Nat → Nat} {n cm : Nat} {th : Int32} {lm : Nat} {a : Nat → Nat → Int32} {kn : Nat → Bool} {H : Heap} (hP : va_P D vwCl (mW h q cI cZ n cm th lm a kn) H) (v : Nat) (x : Int32) (hv : v ≤ 5) (I : mI n cm a) : ro_Met l yX4_keeper wsX4_keeper 4 96 D (mT cI cZ) H [.ref h, .int (nI v), .int x] (keeperB a kn n v x) := by
  refine ro_start rfl (by decide +kernel) (Nat.le_of_ble_eq_true rfl) (fun p e s m below meth c F hr hlocks hK ls hl => ?_)
  have hl : lv_has ls 5 [(0, .ref h), (1, .int (nI v)), (2, .int x)] := hl
  have hx := F.1
  have hb := F.2.1
  have hin : ∀ w ∈ wsX40, w ∈ wsX4_keeper := fun _ z => List.mem_cons_of_mem _ (List.mem_append_right _ z)
  have hn := I.1
  have hcm := I.2.1
  refine lv_iconst (v := (-1)) hx hb dX4_keeper_0 (by decide) ?_
  refine lv_istore_n (lv' := [(3, .int (-1)), (0, .ref h), (1, .int (nI v)), (2, .int x)]) hx hb dX4_keeper_1 rfl hl (by decide) rfl (fun ls hl => ?_)
  refine lv_aload_n hx hb dX4_keeper_2 rfl (lv_at hl 1 rfl) ?_
  refine lv_iload_n hx hb dX4_keeper_3 rfl (lv_at hl 2 rfl) ?_
  refine lv_iload_n hx hb dX4_keeper_4 rfl (lv_at hl 3 rfl) ?_
  refine ro_callV F hK [.int (nI v), .int x] (cm_placeOf hP v x (by first | assumption | omega) (by first | assumption | omega)) (cwV 2 F.2.2.2.2 gX4_keeper_X4_placeOf rfl rfl rfl (by decide +kernel) ⟨Nat.le_of_ble_eq_true rfl, Nat.le_of_ble_eq_true rfl⟩) (mg_rc hK hP) rfl hl.1 rfl (lv_room (Nat.le_of_ble_eq_true rfl)) ⟨Nat.zero_le _, Nat.zero_le _⟩ dX4_keeper_5 ?_
  refine lv_iconst (v := (-1)) hx hb dX4_keeper_8 (by decide) ?_
  refine lv_icmp_ne (tgt := 14) hx hb dX4_keeper_9 (by decide) (fun c_1 => ?_) (fun c_1 => ?_)
  · skip
    refine lv_iconst (v := 0) hx hb dX4_keeper_14 (by decide) ?_
    refine lv_istore (lv' := [(4, .int 0), (3, .int (-1)), (0, .ref h), (1, .int (nI v)), (2, .int x)]) hx hb dX4_keeper_15 hl (by decide) rfl (fun ls hl => ?_)
    have L17_u_2 : ∀ (k9u_2 : Nat) (i : Nat) (f : Int32) (ls : Array Slot), n - i < k9u_2 → i ≤ n → f = foldU (keStep a kn n v x) (-1) i → lv_has ls 5 [(3, .int f), (4, .int (nI i)), (0, .ref h), (1, .int (nI v)), (2, .int x)] → roW p l e 4 96 s m [.ref h, .int (nI v), .int x] below meth c H (keeperB a kn n v x) (F0 m 17 ls []) := by
      intro k9u_2
      induction k9u_2 with
      | zero => intro i f ls hk; exact absurd hk (Nat.not_lt_zero _)
      | succ k9u_2 ihu_2 =>
        intro i f ls hk hi hf  hl
        refine lv_iload hx hb dX4_keeper_17 (lv_at hl 1 rfl) ?_
        refine lv_aload_n hx hb dX4_keeper_19 rfl (lv_at hl 2 rfl) ?_
        refine mg_get F hK hin hP 0 (by decide) (by decide +kernel) rfl dX4_keeper_20 ?_
        refine lw_ge (tgt := 124) hx hb i n (by omega) (by omega) dX4_keeper_23 (by decide) (fun c_3 => ?_) (fun c_3 => ?_)
        · skip
          refine lv_iload_n hx hb dX4_keeper_124 rfl (lv_at hl 0 rfl) ?_
          exact ro_reti F hr hlocks (by rw [hf, show i = n by omega]; simp [keeperB, c_1, c_3]) dX4_keeper_125
        · skip
          refine lv_aload_n hx hb dX4_keeper_26 rfl (lv_at hl 2 rfl) ?_
          refine lv_iload_n hx hb dX4_keeper_27 rfl (lv_at hl 3 rfl) ?_
          refine lv_iload hx hb dX4_keeper_28 (lv_at hl 1 rfl) ?_
          refine ro_callV F hK [.int (nI v), .int (nI i)] (cm_knows hP v i (by first | assumption | omega) (by first | assumption | omega)) (cwV 2 F.2.2.2.2 gX4_keeper_X4_knows rfl rfl rfl (by decide +kernel) ⟨Nat.le_of_ble_eq_true rfl, Nat.le_of_ble_eq_true rfl⟩) (mg_rc hK hP) rfl hl.1 rfl (lv_room (Nat.le_of_ble_eq_true rfl)) ⟨Nat.zero_le _, Nat.zero_le _⟩ dX4_keeper_30 ?_
          refine lw_beq (tgt := 118) hx hb dX4_keeper_33 (by decide) (fun c_4 => ?_) (fun c_4 => ?_)
          · skip
            refine lv_iinc (v := nI (i + 1)) (lv' := [(4, .int (nI (i + 1))), (3, .int f), (0, .ref h), (1, .int (nI v)), (2, .int x)]) hx hb dX4_keeper_118 hl (k := 1) rfl (show nI i + Int32.ofInt 1 = _ from nI_add i 1) (by decide) rfl (fun ls hl => ?_)
            refine lv_goto (tgt := 17) hx hb dX4_keeper_121 (by decide) ?_
            exact ihu_2  (i + 1) f  ls (by omega) (by first | omega | assumption) (by rw [foldU_s, ← hf]; simp [keStep, c_1, c_3, c_4])  (lv_sub hl [1, 0, 2, 3, 4] rfl)
          · skip
            refine lv_aload_n hx hb dX4_keeper_36 rfl (lv_at hl 2 rfl) ?_
            refine mg_get F hK hin hP 1 (by decide) (by decide +kernel) rfl dX4_keeper_37 ?_
            refine lv_iload hx hb dX4_keeper_40 (lv_at hl 1 rfl) ?_
            refine mg_ald F hK hP 1 1 240 rfl i rfl (by omega) (by decide) dX4_keeper_42 ?_
            refine lv_iconst (v := 4) hx hb dX4_keeper_43 (by decide) ?_
            refine lv_icmp_ne (tgt := 118) hx hb dX4_keeper_44 (by decide) (fun c_5 => ?_) (fun c_5 => ?_)
            · skip
              refine lv_iinc (v := nI (i + 1)) (lv' := [(4, .int (nI (i + 1))), (3, .int f), (0, .ref h), (1, .int (nI v)), (2, .int x)]) hx hb dX4_keeper_118 hl (k := 1) rfl (show nI i + Int32.ofInt 1 = _ from nI_add i 1) (by decide) rfl (fun ls hl => ?_)
              refine lv_goto (tgt := 17) hx hb dX4_keeper_121 (by decide) ?_
              exact ihu_2  (i + 1) f  ls (by omega) (by first | omega | assumption) (by rw [foldU_s, ← hf]; simp [keStep, c_1, c_3, c_4, c_5])  (lv_sub hl [1, 0, 2, 3, 4] rfl)
            · skip
              refine lv_aload_n hx hb dX4_keeper_47 rfl (lv_at hl 2 rfl) ?_
              refine mg_get F hK hin hP 4 (by decide) (by decide +kernel) rfl dX4_keeper_48 ?_
              refine lv_iload hx hb dX4_keeper_51 (lv_at hl 1 rfl) ?_
              refine mg_ald F hK hP 4 4 240 rfl i rfl (by omega) (by decide) dX4_keeper_53 ?_
              refine lv_iload_n hx hb dX4_keeper_54 rfl (lv_at hl 4 rfl) ?_
              refine lv_icmp_ne (tgt := 118) hx hb dX4_keeper_55 (by decide) (fun c_6 => ?_) (fun c_6 => ?_)
              · skip
                refine lv_iinc (v := nI (i + 1)) (lv' := [(4, .int (nI (i + 1))), (3, .int f), (0, .ref h), (1, .int (nI v)), (2, .int x)]) hx hb dX4_keeper_118 hl (k := 1) rfl (show nI i + Int32.ofInt 1 = _ from nI_add i 1) (by decide) rfl (fun ls hl => ?_)
                refine lv_goto (tgt := 17) hx hb dX4_keeper_121 (by decide) ?_
                exact ihu_2  (i + 1) f  ls (by omega) (by first | omega | assumption) (by rw [foldU_s, ← hf]; simp [keStep, c_1, c_3, c_4, c_5, c_6])  (lv_sub hl [1, 0, 2, 3, 4] rfl)
              · skip
                refine lv_aload_n hx hb dX4_keeper_58 rfl (lv_at hl 2 rfl) ?_
                refine lv_iload_n hx hb dX4_keeper_59 rfl (lv_at hl 3 rfl) ?_
                refine lv_aload_n hx hb dX4_keeper_60 rfl (lv_at hl 2 rfl) ?_
                refine mg_get F hK hin hP 5 (by decide) (by decide +kernel) rfl dX4_keeper_61 ?_
                refine lv_iload hx hb dX4_keeper_64 (lv_at hl 1 rfl) ?_
                refine mg_ald F hK hP 5 5 240 rfl i rfl (by omega) (by decide) dX4_keeper_66 ?_
                obtain ⟨j_7, hj_7, ej_7⟩ := I.2.2.2.1 i (by omega) c_5
                refine lw_N j_7 ej_7 ?_
                have nj_7 : jn (a 5 i) = j_7 := by rw [ej_7]; exact jn_nI (by have := I.1; have := I.2.1; omega)
                refine ro_callV F hK [.int (nI v), .int (nI j_7)] (cm_stateOf hP v j_7 (by first | assumption | omega) (by first | assumption | omega) (by first | assumption | omega)) (cwV 2 F.2.2.2.2 gX4_keeper_X4_stateOf rfl rfl rfl (by decide +kernel) ⟨Nat.le_of_ble_eq_true rfl, Nat.le_of_ble_eq_true rfl⟩) (mg_rc hK hP) rfl hl.1 rfl (lv_room (Nat.le_of_ble_eq_true rfl)) ⟨Nat.zero_le _, Nat.zero_le _⟩ dX4_keeper_67 ?_
                refine lv_iconst (v := 1) hx hb dX4_keeper_70 (by decide) ?_
                refine lv_icmp_ne (tgt := 118) hx hb dX4_keeper_71 (by decide) (fun c_8 => ?_) (fun c_8 => ?_)
                · skip
                  refine lv_iinc (v := nI (i + 1)) (lv' := [(4, .int (nI (i + 1))), (3, .int f), (0, .ref h), (1, .int (nI v)), (2, .int x)]) hx hb dX4_keeper_118 hl (k := 1) rfl (show nI i + Int32.ofInt 1 = _ from nI_add i 1) (by decide) rfl (fun ls hl => ?_)
                  refine lv_goto (tgt := 17) hx hb dX4_keeper_121 (by decide) ?_
                  exact ihu_2  (i + 1) f  ls (by omega) (by first | omega | assumption) (by rw [foldU_s, ← hf]; simp [keStep, c_1, c_3, c_4, c_5, c_6, nj_7, c_8])  (lv_sub hl [1, 0, 2, 3, 4] rfl)
                · skip
                  refine lv_iload_n hx hb dX4_keeper_74 rfl (lv_at hl 0 rfl) ?_
                  refine lv_iconst (v := (-1)) hx hb dX4_keeper_75 (by decide) ?_
                  refine lv_icmp_eq (tgt := 106) hx hb dX4_keeper_76 (by decide) (fun c_9 => ?_) (fun c_9 => ?_)
                  · skip
                    refine lv_aload_n hx hb dX4_keeper_106 rfl (lv_at hl 2 rfl) ?_
                    refine mg_get F hK hin hP 5 (by decide) (by decide +kernel) rfl dX4_keeper_107 ?_
                    refine lv_iload hx hb dX4_keeper_110 (lv_at hl 1 rfl) ?_
                    refine mg_ald F hK hP 5 5 240 rfl i rfl (by omega) (by decide) dX4_keeper_112 ?_
                    refine lv_goto (tgt := 117) hx hb dX4_keeper_113 (by decide) ?_
                    refine lv_istore_n (lv' := [(3, .int (a 5 i)), (4, .int (nI i)), (0, .ref h), (1, .int (nI v)), (2, .int x)]) hx hb dX4_keeper_117 rfl hl (by decide) rfl (fun ls hl => ?_)
                    refine lv_iinc (v := nI (i + 1)) (lv' := [(4, .int (nI (i + 1))), (3, .int (a 5 i)), (0, .ref h), (1, .int (nI v)), (2, .int x)]) hx hb dX4_keeper_118 hl (k := 1) rfl (show nI i + Int32.ofInt 1 = _ from nI_add i 1) (by decide) rfl (fun ls hl => ?_)
                    refine lv_goto (tgt := 17) hx hb dX4_keeper_121 (by decide) ?_
                    exact ihu_2  (i + 1) (a 5 i)  ls (by omega) (by first | omega | assumption) (by rw [foldU_s, ← hf]; simp [keStep, c_1, c_3, c_4, c_5, c_6, nj_7, c_8, c_9])  (lv_sub hl [1, 0, 2, 3, 4] rfl)
                  · skip
                    refine lv_iload_n hx hb dX4_keeper_79 rfl (lv_at hl 0 rfl) ?_
                    refine lv_aload_n hx hb dX4_keeper_80 rfl (lv_at hl 2 rfl) ?_
                    refine mg_get F hK hin hP 5 (by decide) (by decide +kernel) rfl dX4_keeper_81 ?_
                    refine lv_iload hx hb dX4_keeper_84 (lv_at hl 1 rfl) ?_
                    refine mg_ald F hK hP 5 5 240 rfl i rfl (by omega) (by decide) dX4_keeper_86 ?_
                    refine lv_icmp_eq (tgt := 116) hx hb dX4_keeper_87 (by decide) (fun c_10 => ?_) (fun c_10 => ?_)
                    · skip
                      refine lv_iload_n hx hb dX4_keeper_116 rfl (lv_at hl 0 rfl) ?_
                      refine lv_istore_n (lv' := [(3, .int f), (4, .int (nI i)), (0, .ref h), (1, .int (nI v)), (2, .int x)]) hx hb dX4_keeper_117 rfl hl (by decide) rfl (fun ls hl => ?_)
                      refine lv_iinc (v := nI (i + 1)) (lv' := [(4, .int (nI (i + 1))), (3, .int f), (0, .ref h), (1, .int (nI v)), (2, .int x)]) hx hb dX4_keeper_118 hl (k := 1) rfl (show nI i + Int32.ofInt 1 = _ from nI_add i 1) (by decide) rfl (fun ls hl => ?_)
                      refine lv_goto (tgt := 17) hx hb dX4_keeper_121 (by decide) ?_
                      exact ihu_2  (i + 1) f  ls (by omega) (by first | omega | assumption) (by rw [foldU_s, ← hf]; simp [keStep, c_1, c_3, c_4, c_5, c_6, nj_7, c_8, c_9, c_10])  (lv_sub hl [1, 0, 2, 3, 4] rfl)
                    · skip
                      obtain ⟨j_11, hj_11, ej_11⟩ := (show f = -1 ∨ ∃ j, j < cm ∧ f = nI j from by rw [hf]; exact ke_range I kn v x i (by omega)).resolve_left (by first | assumption | exact c_10)
                      have nj_11 : jn f = j_11 := by rw [ej_11]; exact jn_nI (by omega)
                      refine lv_aload_n hx hb dX4_keeper_90 rfl (lv_at hl 2 rfl) ?_
                      refine lv_iload_n hx hb dX4_keeper_91 rfl (lv_at hl 3 rfl) ?_
                      refine lv_aload_n hx hb dX4_keeper_92 rfl (lv_at hl 2 rfl) ?_
                      refine mg_get F hK hin hP 5 (by decide) (by decide +kernel) rfl dX4_keeper_93 ?_
                      refine lv_iload hx hb dX4_keeper_96 (lv_at hl 1 rfl) ?_
                      refine mg_ald F hK hP 5 5 240 rfl i rfl (by omega) (by decide) dX4_keeper_98 ?_
                      refine lw_N j_7 ej_7 ?_
                      refine lv_iload_n hx hb dX4_keeper_99 rfl (lv_at hl 0 rfl) ?_
                      refine ro_callV F hK [.int (nI v), .int (nI j_7), .int (nI j_11)] (cm_isAhead hP v j_7 j_11 (by first | assumption | omega) (by first | assumption | omega) (by first | assumption | omega) (by first | assumption | omega)) (cwV 3 F.2.2.2.2 gX4_keeper_X4_isAhead rfl rfl rfl (by decide +kernel) ⟨Nat.le_of_ble_eq_true rfl, Nat.le_of_ble_eq_true rfl⟩) (mg_rc hK hP) rfl hl.1 (by first | (rw [ej_11]; done) | (rw [ej_11]; rfl)) (lv_room (Nat.le_of_ble_eq_true rfl)) ⟨Nat.zero_le _, Nat.zero_le _⟩ dX4_keeper_100 ?_
                      refine lw_beq (tgt := 116) hx hb dX4_keeper_103 (by decide) (fun c_13 => ?_) (fun c_13 => ?_)
                      · skip
                        refine lv_iload_n hx hb dX4_keeper_116 rfl (lv_at hl 0 rfl) ?_
                        refine lv_istore_n (lv' := [(3, .int f), (4, .int (nI i)), (0, .ref h), (1, .int (nI v)), (2, .int x)]) hx hb dX4_keeper_117 rfl hl (by decide) rfl (fun ls hl => ?_)
                        refine lv_iinc (v := nI (i + 1)) (lv' := [(4, .int (nI (i + 1))), (3, .int f), (0, .ref h), (1, .int (nI v)), (2, .int x)]) hx hb dX4_keeper_118 hl (k := 1) rfl (show nI i + Int32.ofInt 1 = _ from nI_add i 1) (by decide) rfl (fun ls hl => ?_)
                        refine lv_goto (tgt := 17) hx hb dX4_keeper_121 (by decide) ?_
                        exact ihu_2  (i + 1) f  ls (by omega) (by first | omega | assumption) (by rw [foldU_s, ← hf]; simp [keStep, c_1, c_3, c_4, c_5, c_6, nj_7, c_8, c_9, c_10, nj_11, c_13])  (lv_sub hl [1, 0, 2, 3, 4] rfl)
                      · skip
                        refine lv_aload_n hx hb dX4_keeper_106 rfl (lv_at hl 2 rfl) ?_
                        refine mg_get F hK hin hP 5 (by decide) (by decide +kernel) rfl dX4_keeper_107 ?_
                        refine lv_iload hx hb dX4_keeper_110 (lv_at hl 1 rfl) ?_
                        refine mg_ald F hK hP 5 5 240 rfl i rfl (by omega) (by decide) dX4_keeper_112 ?_
                        refine lv_goto (tgt := 117) hx hb dX4_keeper_113 (by decide) ?_
                        refine lv_istore_n (lv' := [(3, .int (a 5 i)), (4, .int (nI i)), (0, .ref h), (1, .int (nI v)), (2, .int x)]) hx hb dX4_keeper_117 rfl hl (by decide) rfl (fun ls hl => ?_)
                        refine lv_iinc (v := nI (i + 1)) (lv' := [(4, .int (nI (i + 1))), (3, .int (a 5 i)), (0, .ref h), (1, .int (nI v)), (2, .int x)]) hx hb dX4_keeper_118 hl (k := 1) rfl (show nI i + Int32.ofInt 1 = _ from nI_add i 1) (by decide) rfl (fun ls hl => ?_)
                        refine lv_goto (tgt := 17) hx hb dX4_keeper_121 (by decide) ?_
                        exact ihu_2  (i + 1) (a 5 i)  ls (by omega) (by first | omega | assumption) (by rw [foldU_s, ← hf]; simp [keStep, c_1, c_3, c_4, c_5, c_6, nj_7, c_8, c_9, c_10, nj_11, c_13])  (lv_sub hl [1, 0, 2, 3, 4] rfl)
    exact L17_u_2 _ 0 (-1)  ls (Nat.lt_succ_self _) (by first | omega | assumption) (rfl)  (lv_sub hl [1, 0, 2, 3, 4] rfl)
  · skip
    refine lv_iconst (v := (-1)) hx hb dX4_keeper_12 (by decide) ?_
    exact ro_reti F hr hlocks (by simp [keeperB, c_1]) dX4_keeper_13
set_option maxHeartbeats 4000000 in
set_option maxRecDepth 100000 in
theorem cm_keptOf {l : Launch} {D : va_G} {cI cZ : ClassId} {h : Nat} {q : Nat → Nat} {n cm : Nat} {th : Int32} {lm : Nat} {a : Nat → Nat → Int32} {kn : Nat → Bool} {H : Heap} (hP : va_P D vwCl (mW h q cI cZ n cm th lm a kn) H) (v : Nat) (cake : Int32) (fo : Nat) (hv : v ≤ 5) (I : mI n cm a) (hfo : fo < 8) : ro_Met l yX4_keptOf wsX4_keptOf 5 120 D (mT cI cZ) H [.ref h, .int (nI v), .int cake, .int (nI fo)] (nI (keptOfB a kn n v cake fo)) := by
  refine ro_start rfl (by decide +kernel) (Nat.le_of_ble_eq_true rfl) (fun p e s m below meth c F hr hlocks hK ls hl => ?_)
  have hl : lv_has ls 6 [(0, .ref h), (1, .int (nI v)), (2, .int cake), (3, .int (nI fo))] := hl
  have hx := F.1
  have hb := F.2.1
  have hin : ∀ w ∈ wsX40, w ∈ wsX4_keptOf := fun _ z => List.mem_cons_of_mem _ (List.mem_append_right _ z)
  have hn := I.1
  have hcm := I.2.1
  refine lv_iconst (v := 0) hx hb dX4_keptOf_0 (by decide) ?_
  refine lv_istore (lv' := [(4, .int 0), (0, .ref h), (1, .int (nI v)), (2, .int cake), (3, .int (nI fo))]) hx hb dX4_keptOf_1 hl (by decide) rfl (fun ls hl => ?_)
  refine lv_iload_n hx hb dX4_keptOf_3 rfl (lv_at hl 4 rfl) ?_
  refine lv_istore (lv' := [(5, .int (nI fo)), (4, .int 0), (0, .ref h), (1, .int (nI v)), (2, .int cake), (3, .int (nI fo))]) hx hb dX4_keptOf_4 hl (by decide) rfl (fun ls hl => ?_)
  have L6_u_1 : ∀ (k9u_1 : Nat) (t : Nat) (y : Nat) (i : Nat) (ls : Array Slot), 5 - i < k9u_1 → i ≤ 5 → t = fo + 8 * i → y = foldU (koStep a kn n v cake fo) 0 i → lv_has ls 6 [(4, .int (nI y)), (5, .int (nI t)), (0, .ref h), (1, .int (nI v)), (2, .int cake), (3, .int (nI fo))] → roW p l e 5 120 s m [.ref h, .int (nI v), .int cake, .int (nI fo)] below meth c H (nI (keptOfB a kn n v cake fo)) (F0 m 6 ls []) := by
    intro k9u_1
    induction k9u_1 with
    | zero => intro t y i ls hk; exact absurd hk (Nat.not_lt_zero _)
    | succ k9u_1 ihu_1 =>
      intro t y i ls hk hi ht hf  hl
      refine lv_iload hx hb dX4_keptOf_6 (lv_at hl 1 rfl) ?_
      refine lv_bipush (v := 40) hx hb dX4_keptOf_8 (by decide) ?_
      refine lw_ge (tgt := 40) hx hb t 40 (by omega) (by omega) dX4_keptOf_10 (by decide) (fun c_2 => ?_) (fun c_2 => ?_)
      · skip
        refine lv_iload hx hb dX4_keptOf_40 (lv_at hl 0 rfl) ?_
        exact ro_reti F hr hlocks (by rw [hf, show i = 5 by omega]; rfl) dX4_keptOf_42
      · skip
        refine lv_iload hx hb dX4_keptOf_13 (lv_at hl 0 rfl) ?_
        refine lv_aload_n hx hb dX4_keptOf_15 rfl (lv_at hl 2 rfl) ?_
        refine lv_iload_n hx hb dX4_keptOf_16 rfl (lv_at hl 3 rfl) ?_
        refine lv_iload hx hb dX4_keptOf_17 (lv_at hl 1 rfl) ?_
        refine ro_callV F hK [.int (nI v), .int (nI t)] (cm_keeper hP v (nI t) (by first | assumption | omega) (by first | assumption | omega)) (cwV 2 F.2.2.2.2 gX4_keptOf_X4_keeper rfl rfl rfl (by decide +kernel) ⟨Nat.le_of_ble_eq_true rfl, Nat.le_of_ble_eq_true rfl⟩) (mg_rc hK hP) rfl hl.1 rfl (lv_room (Nat.le_of_ble_eq_true rfl)) ⟨Nat.zero_le _, Nat.zero_le _⟩ dX4_keptOf_19 ?_
        refine lv_iload_n hx hb dX4_keptOf_22 rfl (lv_at hl 4 rfl) ?_
        refine lv_icmp_ne (tgt := 30) hx hb dX4_keptOf_23 (by decide) (fun c_3 => ?_) (fun c_3 => ?_)
        · skip
          refine lv_iconst (v := 0) hx hb dX4_keptOf_30 (by decide) ?_
          refine lw_add hx hb (i := y) (j := 0) dX4_keptOf_31 ?_
          refine lv_istore (lv' := [(4, .int (nI (y + 0))), (5, .int (nI t)), (0, .ref h), (1, .int (nI v)), (2, .int cake), (3, .int (nI fo))]) hx hb dX4_keptOf_32 hl (by decide) rfl (fun ls hl => ?_)
          refine lv_iinc (v := nI (t + 8)) (lv' := [(5, .int (nI (t + 8))), (4, .int (nI (y + 0))), (0, .ref h), (1, .int (nI v)), (2, .int cake), (3, .int (nI fo))]) hx hb dX4_keptOf_34 hl (k := 1) rfl (show nI t + Int32.ofInt 8 = _ from nI_add t 8) (by decide) rfl (fun ls hl => ?_)
          refine lv_goto (tgt := 6) hx hb dX4_keptOf_37 (by decide) ?_
          exact ihu_1  (t + 8) (y + 0) (i + 1)  ls (by omega) (by first | omega | assumption) (by first | omega | assumption) (by rw [foldU_s, ← hf]; subst ht; simp [koStep, c_2, c_3])  (lv_sub hl [1, 0, 2, 3, 4, 5] rfl)
        · skip
          refine lv_iconst (v := 1) hx hb dX4_keptOf_26 (by decide) ?_
          refine lv_goto (tgt := 31) hx hb dX4_keptOf_27 (by decide) ?_
          refine lw_add hx hb (i := y) (j := 1) dX4_keptOf_31 ?_
          refine lv_istore (lv' := [(4, .int (nI (y + 1))), (5, .int (nI t)), (0, .ref h), (1, .int (nI v)), (2, .int cake), (3, .int (nI fo))]) hx hb dX4_keptOf_32 hl (by decide) rfl (fun ls hl => ?_)
          refine lv_iinc (v := nI (t + 8)) (lv' := [(5, .int (nI (t + 8))), (4, .int (nI (y + 1))), (0, .ref h), (1, .int (nI v)), (2, .int cake), (3, .int (nI fo))]) hx hb dX4_keptOf_34 hl (k := 1) rfl (show nI t + Int32.ofInt 8 = _ from nI_add t 8) (by decide) rfl (fun ls hl => ?_)
          refine lv_goto (tgt := 6) hx hb dX4_keptOf_37 (by decide) ?_
          exact ihu_1  (t + 8) (y + 1) (i + 1)  ls (by omega) (by first | omega | assumption) (by first | omega | assumption) (by rw [foldU_s, ← hf]; subst ht; simp [koStep, c_2, c_3])  (lv_sub hl [1, 0, 2, 3, 4, 5] rfl)
  exact L6_u_1 _ fo 0 0  ls (Nat.lt_succ_self _) (by first | omega | assumption) (by first | omega | assumption) (rfl)  (lv_sub hl [1, 0, 2, 3, 4, 5] rfl)
set_option maxHeartbeats 4000000 in
set_option maxRecDepth 100000 in
theorem cm_lackOf {l : Launch} {D : va_G} {cI cZ : ClassId} {h : Nat} {q : Nat → Nat} {n cm : Nat} {th : Int32} {lm : Nat} {a : Nat → Nat → Int32} {kn : Nat → Bool} {H : Heap} (hP : va_P D vwCl (mW h q cI cZ n cm th lm a kn) H) (v : Nat) (k : Nat) (fo : Nat) (hv : v ≤ 5) (I : mI n cm a) (hk : k < cm) (hfo : fo < 8) : ro_Met l yX4_lackOf wsX4_lackOf 6 145 D (mT cI cZ) H [.ref h, .int (nI v), .int (nI k), .int (nI fo)] (lackB a kn n v k fo) := by
  refine ro_start rfl (by decide +kernel) (Nat.le_of_ble_eq_true rfl) (fun p e s m below meth c F hr hlocks hK ls hl => ?_)
  have hl : lv_has ls 5 [(0, .ref h), (1, .int (nI v)), (2, .int (nI k)), (3, .int (nI fo))] := hl
  have hx := F.1
  have hb := F.2.1
  have hin : ∀ w ∈ wsX40, w ∈ wsX4_lackOf := fun _ z => List.mem_cons_of_mem _ (List.mem_append_right _ z)
  have hn := I.1
  have hcm := I.2.1
  refine lv_aload_n hx hb dX4_lackOf_0 rfl (lv_at hl 0 rfl) ?_
  refine mg_get F hK hin hP 11 (by decide) (by decide +kernel) rfl dX4_lackOf_1 ?_
  refine lv_bipush (v := 8) hx hb dX4_lackOf_4 (by decide) ?_
  refine lv_aload_n hx hb dX4_lackOf_6 rfl (lv_at hl 0 rfl) ?_
  refine mg_get F hK hin hP 13 (by decide) (by decide +kernel) rfl dX4_lackOf_7 ?_
  refine lv_iload_n hx hb dX4_lackOf_10 rfl (lv_at hl 2 rfl) ?_
  refine mg_ald F hK hP 13 12 20 rfl k rfl (by omega) (by decide) dX4_lackOf_11 ?_
  obtain ⟨j_1, hj_1, ej_1⟩ := I.2.2.2.2 k hk
  refine lw_N j_1 ej_1 ?_
  have nj_1 : jn (a 13 k) = j_1 := by rw [ej_1]; exact jn_nI (by have := I.1; have := I.2.1; omega)
  refine lw_mul hx hb (i := 8) (j := j_1) dX4_lackOf_12 ?_
  refine lv_iload_n hx hb dX4_lackOf_13 rfl (lv_at hl 3 rfl) ?_
  refine lw_add hx hb (i := (8 * j_1)) (j := fo) dX4_lackOf_14 ?_
  refine mg_ald F hK hP 11 11 48 rfl ((8 * j_1) + fo) rfl (by omega) (by decide) dX4_lackOf_15 ?_
  refine lv_aload_n hx hb dX4_lackOf_16 rfl (lv_at hl 0 rfl) ?_
  refine lv_iload_n hx hb dX4_lackOf_17 rfl (lv_at hl 1 rfl) ?_
  refine lv_iload_n hx hb dX4_lackOf_18 rfl (lv_at hl 2 rfl) ?_
  refine lv_iload_n hx hb dX4_lackOf_19 rfl (lv_at hl 3 rfl) ?_
  refine ro_callV F hK [.int (nI v), .int (nI k), .int (nI fo)] (cm_keptOf hP v (nI k) fo (by first | assumption | omega) (by first | assumption | omega) (by first | assumption | omega)) (cwV 3 F.2.2.2.2 gX4_lackOf_X4_keptOf rfl rfl rfl (by decide +kernel) ⟨Nat.le_of_ble_eq_true rfl, Nat.le_of_ble_eq_true rfl⟩) (mg_rc hK hP) rfl hl.1 rfl (lv_room (Nat.le_of_ble_eq_true rfl)) ⟨Nat.zero_le _, Nat.zero_le _⟩ dX4_lackOf_20 ?_
  refine lv_isub hx hb dX4_lackOf_23 ?_
  refine lv_istore (lv' := [(4, .int (a 11 ((8 * j_1) + fo) - nI (keptOfB a kn n v (nI k) fo))), (0, .ref h), (1, .int (nI v)), (2, .int (nI k)), (3, .int (nI fo))]) hx hb dX4_lackOf_24 hl (by decide) rfl (fun ls hl => ?_)
  refine lv_iload hx hb dX4_lackOf_26 (lv_at hl 0 rfl) ?_
  refine lv_if_ge (tgt := 35) hx hb dX4_lackOf_28 (by decide) (fun c_2 => ?_) (fun c_2 => ?_)
  · skip
    refine lv_iload hx hb dX4_lackOf_35 (lv_at hl 0 rfl) ?_
    exact ro_reti F hr hlocks (by simp [lackB, nj_1, c_2]) dX4_lackOf_37
  · skip
    refine lv_iconst (v := 0) hx hb dX4_lackOf_31 (by decide) ?_
    refine lv_goto (tgt := 37) hx hb dX4_lackOf_32 (by decide) ?_
    exact ro_reti F hr hlocks (by simp [lackB, nj_1, c_2]) dX4_lackOf_37
set_option maxHeartbeats 4000000 in
set_option maxRecDepth 100000 in
theorem cm_isVain {l : Launch} {D : va_G} {cI cZ : ClassId} {h : Nat} {q : Nat → Nat} {n cm : Nat} {th : Int32} {lm : Nat} {a : Nat → Nat → Int32} {kn : Nat → Bool} {H : Heap} (hP : va_P D vwCl (mW h q cI cZ n cm th lm a kn) H) (v : Nat) (t : Nat) (hv : v ≤ 5) (hn : n ≤ 240) (ht : t < 240) : ro_Met l yX4_isVain wsX4_isVain 1 22 D (mT cI cZ) H [.ref h, .int (nI v), .int (nI t)] (bI (vainB a kn n v t)) := by
  refine ro_start rfl (by decide +kernel) (Nat.le_of_ble_eq_true rfl) (fun p e s m below meth c F hr hlocks hK ls hl => ?_)
  have hl : lv_has ls 6 [(0, .ref h), (1, .int (nI v)), (2, .int (nI t))] := hl
  have hx := F.1
  have hb := F.2.1
  have hin : ∀ w ∈ wsX40, w ∈ wsX4_isVain := fun _ z => List.mem_cons_of_mem _ (List.mem_append_right _ z)
  refine lv_iconst (v := (-1)) hx hb dX4_isVain_0 (by decide) ?_
  refine lv_istore_n (lv' := [(3, .int (-1)), (0, .ref h), (1, .int (nI v)), (2, .int (nI t))]) hx hb dX4_isVain_1 rfl hl (by decide) rfl (fun ls hl => ?_)
  refine lv_iconst (v := 0) hx hb dX4_isVain_2 (by decide) ?_
  refine lv_istore (lv' := [(4, .int 0), (3, .int (-1)), (0, .ref h), (1, .int (nI v)), (2, .int (nI t))]) hx hb dX4_isVain_3 hl (by decide) rfl (fun ls hl => ?_)
  have L5_u_1 : ∀ (k9u_1 : Nat) (i : Nat) (f : Int32) (ls : Array Slot), n - i < k9u_1 → i ≤ n → f = foldU (vaStep a kn v t) (-1) i → lv_has ls 6 [(3, .int f), (4, .int (nI i)), (0, .ref h), (1, .int (nI v)), (2, .int (nI t))] → roW p l e 1 22 s m [.ref h, .int (nI v), .int (nI t)] below meth c H (bI (vainB a kn n v t)) (F0 m 5 ls []) := by
    intro k9u_1
    induction k9u_1 with
    | zero => intro i f ls hk; exact absurd hk (Nat.not_lt_zero _)
    | succ k9u_1 ihu_1 =>
      intro i f ls hk hi hf  hl
      refine lv_iload hx hb dX4_isVain_5 (lv_at hl 1 rfl) ?_
      refine lv_aload_n hx hb dX4_isVain_7 rfl (lv_at hl 2 rfl) ?_
      refine mg_get F hK hin hP 0 (by decide) (by decide +kernel) rfl dX4_isVain_8 ?_
      refine lw_ge (tgt := 89) hx hb i n (by omega) (by omega) dX4_isVain_11 (by decide) (fun c_2 => ?_) (fun c_2 => ?_)
      · skip
        have hF : vainF a kn n v t = f := by rw [hf, show i = n by omega]; rfl
        refine lv_iload_n hx hb dX4_isVain_89 rfl (lv_at hl 0 rfl) ?_
        refine lv_iconst (v := (-1)) hx hb dX4_isVain_90 (by decide) ?_
        refine lv_icmp_eq (tgt := 104) hx hb dX4_isVain_91 (by decide) (fun c_3 => ?_) (fun c_3 => ?_)
        · skip
          refine lv_iconst (v := 1) hx hb dX4_isVain_104 (by decide) ?_
          refine lv_goto (tgt := 109) hx hb dX4_isVain_105 (by decide) ?_
          exact ro_retz F hr hlocks (by simp [vainB, bI, c_2, hF, c_3]) dX4_isVain_109
        · skip
          obtain ⟨j_4, hj_4, ej_4⟩ := (show f = -1 ∨ ∃ j, j < i ∧ f = nI j from by rw [hf]; exact va_range a kn v t i).resolve_left (by first | assumption | exact c_3)
          have nj_4 : jn f = j_4 := by rw [ej_4]; exact jn_nI (by omega)
          refine lv_aload_n hx hb dX4_isVain_94 rfl (lv_at hl 2 rfl) ?_
          refine mg_get F hK hin hP 1 (by decide) (by decide +kernel) rfl dX4_isVain_95 ?_
          refine lv_iload_n hx hb dX4_isVain_98 rfl (lv_at hl 0 rfl) ?_
          refine mg_ald F hK hP 1 1 240 rfl j_4 ej_4 (by omega) (by decide) dX4_isVain_99 ?_
          refine lv_iconst (v := 1) hx hb dX4_isVain_100 (by decide) ?_
          refine lv_icmp_ne (tgt := 108) hx hb dX4_isVain_101 (by decide) (fun c_5 => ?_) (fun c_5 => ?_)
          · skip
            refine lv_iconst (v := 0) hx hb dX4_isVain_108 (by decide) ?_
            exact ro_retz F hr hlocks (by simp [vainB, bI, c_2, hF, c_3, nj_4, c_5]) dX4_isVain_109
          · skip
            refine lv_iconst (v := 1) hx hb dX4_isVain_104 (by decide) ?_
            refine lv_goto (tgt := 109) hx hb dX4_isVain_105 (by decide) ?_
            exact ro_retz F hr hlocks (by simp [vainB, bI, c_2, hF, c_3, nj_4, c_5]) dX4_isVain_109
      · skip
        refine lv_aload_n hx hb dX4_isVain_14 rfl (lv_at hl 2 rfl) ?_
        refine lv_iload_n hx hb dX4_isVain_15 rfl (lv_at hl 3 rfl) ?_
        refine lv_iload hx hb dX4_isVain_16 (lv_at hl 1 rfl) ?_
        refine ro_callV F hK [.int (nI v), .int (nI i)] (cm_knows hP v i (by first | assumption | omega) (by first | assumption | omega)) (cwV 2 F.2.2.2.2 gX4_isVain_X4_knows rfl rfl rfl (by decide +kernel) ⟨Nat.le_of_ble_eq_true rfl, Nat.le_of_ble_eq_true rfl⟩) (mg_rc hK hP) rfl hl.1 rfl (lv_room (Nat.le_of_ble_eq_true rfl)) ⟨Nat.zero_le _, Nat.zero_le _⟩ dX4_isVain_18 ?_
        refine lw_beq (tgt := 53) hx hb dX4_isVain_21 (by decide) (fun c_6 => ?_) (fun c_6 => ?_)
        · skip
          refine lv_iconst (v := 0) hx hb dX4_isVain_53 (by decide) ?_
          refine lv_istore (lv' := [(5, .int 0), (3, .int f), (4, .int (nI i)), (0, .ref h), (1, .int (nI v)), (2, .int (nI t))]) hx hb dX4_isVain_54 hl (by decide) rfl (fun ls hl => ?_)
          refine lv_iload hx hb dX4_isVain_56 (lv_at hl 0 rfl) ?_
          refine lv_if_eq (tgt := 81) hx hb dX4_isVain_58 (by decide) (fun _ => ?_) (fun z9 => absurd (by decide) z9)
          refine lv_iload_n hx hb dX4_isVain_81 rfl (lv_at hl 1 rfl) ?_
          refine lv_istore_n (lv' := [(3, .int f), (5, .int 0), (4, .int (nI i)), (0, .ref h), (1, .int (nI v)), (2, .int (nI t))]) hx hb dX4_isVain_82 rfl hl (by decide) rfl (fun ls hl => ?_)
          refine lv_iinc (v := nI (i + 1)) (lv' := [(4, .int (nI (i + 1))), (3, .int f), (5, .int 0), (0, .ref h), (1, .int (nI v)), (2, .int (nI t))]) hx hb dX4_isVain_83 hl (k := 2) rfl (show nI i + Int32.ofInt 1 = _ from nI_add i 1) (by decide) rfl (fun ls hl => ?_)
          refine lv_goto (tgt := 5) hx hb dX4_isVain_86 (by decide) ?_
          exact ihu_1  (i + 1) f  ls (by omega) (by first | omega | assumption) (by rw [foldU_s, ← hf]; simp [vaStep, c_2, c_6])  (lv_sub hl [1, 0, 3, 4, 5] rfl)
        · skip
          refine lv_aload_n hx hb dX4_isVain_24 rfl (lv_at hl 2 rfl) ?_
          refine lv_iload hx hb dX4_isVain_25 (lv_at hl 1 rfl) ?_
          refine lv_aload_n hx hb dX4_isVain_27 rfl (lv_at hl 2 rfl) ?_
          refine mg_get F hK hin hP 4 (by decide) (by decide +kernel) rfl dX4_isVain_28 ?_
          refine lv_iload_n hx hb dX4_isVain_31 rfl (lv_at hl 4 rfl) ?_
          refine mg_ald F hK hP 4 4 240 rfl t rfl (by omega) (by decide) dX4_isVain_32 ?_
          refine ro_callV F hK [.int (nI i), .int (a 4 t)] (cm_isMove hP i (a 4 t) (by first | assumption | omega)) (cwV 2 F.2.2.2.2 gX4_isVain_X4_isMove rfl rfl rfl (by decide +kernel) ⟨Nat.le_of_ble_eq_true rfl, Nat.le_of_ble_eq_true rfl⟩) (mg_rc hK hP) rfl hl.1 rfl (lv_room (Nat.le_of_ble_eq_true rfl)) ⟨Nat.zero_le _, Nat.zero_le _⟩ dX4_isVain_33 ?_
          refine lw_beq (tgt := 53) hx hb dX4_isVain_36 (by decide) (fun c_7 => ?_) (fun c_7 => ?_)
          · skip
            refine lv_iconst (v := 0) hx hb dX4_isVain_53 (by decide) ?_
            refine lv_istore (lv' := [(5, .int 0), (3, .int f), (4, .int (nI i)), (0, .ref h), (1, .int (nI v)), (2, .int (nI t))]) hx hb dX4_isVain_54 hl (by decide) rfl (fun ls hl => ?_)
            refine lv_iload hx hb dX4_isVain_56 (lv_at hl 0 rfl) ?_
            refine lv_if_eq (tgt := 81) hx hb dX4_isVain_58 (by decide) (fun _ => ?_) (fun z9 => absurd (by decide) z9)
            refine lv_iload_n hx hb dX4_isVain_81 rfl (lv_at hl 1 rfl) ?_
            refine lv_istore_n (lv' := [(3, .int f), (5, .int 0), (4, .int (nI i)), (0, .ref h), (1, .int (nI v)), (2, .int (nI t))]) hx hb dX4_isVain_82 rfl hl (by decide) rfl (fun ls hl => ?_)
            refine lv_iinc (v := nI (i + 1)) (lv' := [(4, .int (nI (i + 1))), (3, .int f), (5, .int 0), (0, .ref h), (1, .int (nI v)), (2, .int (nI t))]) hx hb dX4_isVain_83 hl (k := 2) rfl (show nI i + Int32.ofInt 1 = _ from nI_add i 1) (by decide) rfl (fun ls hl => ?_)
            refine lv_goto (tgt := 5) hx hb dX4_isVain_86 (by decide) ?_
            exact ihu_1  (i + 1) f  ls (by omega) (by first | omega | assumption) (by rw [foldU_s, ← hf]; simp [vaStep, c_2, c_6, c_7])  (lv_sub hl [1, 0, 3, 4, 5] rfl)
          · skip
            refine lv_aload_n hx hb dX4_isVain_39 rfl (lv_at hl 2 rfl) ?_
            refine lv_iload_n hx hb dX4_isVain_40 rfl (lv_at hl 4 rfl) ?_
            refine lv_iload hx hb dX4_isVain_41 (lv_at hl 1 rfl) ?_
            refine ro_callV F hK [.int (nI t), .int (nI i)] (cm_isLater hP t i (by first | assumption | omega) (by first | assumption | omega)) (cwV 2 F.2.2.2.2 gX4_isVain_X4_isLater rfl rfl rfl (by decide +kernel) ⟨Nat.le_of_ble_eq_true rfl, Nat.le_of_ble_eq_true rfl⟩) (mg_rc hK hP) rfl hl.1 rfl (lv_room (Nat.le_of_ble_eq_true rfl)) ⟨Nat.zero_le _, Nat.zero_le _⟩ dX4_isVain_43 ?_
            refine lw_beq (tgt := 53) hx hb dX4_isVain_46 (by decide) (fun c_8 => ?_) (fun c_8 => ?_)
            · skip
              refine lv_iconst (v := 0) hx hb dX4_isVain_53 (by decide) ?_
              refine lv_istore (lv' := [(5, .int 0), (3, .int f), (4, .int (nI i)), (0, .ref h), (1, .int (nI v)), (2, .int (nI t))]) hx hb dX4_isVain_54 hl (by decide) rfl (fun ls hl => ?_)
              refine lv_iload hx hb dX4_isVain_56 (lv_at hl 0 rfl) ?_
              refine lv_if_eq (tgt := 81) hx hb dX4_isVain_58 (by decide) (fun _ => ?_) (fun z9 => absurd (by decide) z9)
              refine lv_iload_n hx hb dX4_isVain_81 rfl (lv_at hl 1 rfl) ?_
              refine lv_istore_n (lv' := [(3, .int f), (5, .int 0), (4, .int (nI i)), (0, .ref h), (1, .int (nI v)), (2, .int (nI t))]) hx hb dX4_isVain_82 rfl hl (by decide) rfl (fun ls hl => ?_)
              refine lv_iinc (v := nI (i + 1)) (lv' := [(4, .int (nI (i + 1))), (3, .int f), (5, .int 0), (0, .ref h), (1, .int (nI v)), (2, .int (nI t))]) hx hb dX4_isVain_83 hl (k := 2) rfl (show nI i + Int32.ofInt 1 = _ from nI_add i 1) (by decide) rfl (fun ls hl => ?_)
              refine lv_goto (tgt := 5) hx hb dX4_isVain_86 (by decide) ?_
              exact ihu_1  (i + 1) f  ls (by omega) (by first | omega | assumption) (by rw [foldU_s, ← hf]; simp [vaStep, c_2, c_6, c_7, c_8])  (lv_sub hl [1, 0, 3, 4, 5] rfl)
            · skip
              refine lv_iconst (v := 1) hx hb dX4_isVain_49 (by decide) ?_
              refine lv_goto (tgt := 54) hx hb dX4_isVain_50 (by decide) ?_
              refine lv_istore (lv' := [(5, .int 1), (3, .int f), (4, .int (nI i)), (0, .ref h), (1, .int (nI v)), (2, .int (nI t))]) hx hb dX4_isVain_54 hl (by decide) rfl (fun ls hl => ?_)
              refine lv_iload hx hb dX4_isVain_56 (lv_at hl 0 rfl) ?_
              refine lv_if_eq (tgt := 81) hx hb dX4_isVain_58 (by decide) (fun z9 => absurd z9 (by decide)) (fun _ => ?_)
              refine lv_iload_n hx hb dX4_isVain_61 rfl (lv_at hl 1 rfl) ?_
              refine lv_iconst (v := (-1)) hx hb dX4_isVain_62 (by decide) ?_
              refine lv_icmp_eq (tgt := 76) hx hb dX4_isVain_63 (by decide) (fun c_9 => ?_) (fun c_9 => ?_)
              · skip
                refine lv_iload hx hb dX4_isVain_76 (lv_at hl 2 rfl) ?_
                refine lv_goto (tgt := 82) hx hb dX4_isVain_78 (by decide) ?_
                refine lv_istore_n (lv' := [(3, .int (nI i)), (5, .int 1), (4, .int (nI i)), (0, .ref h), (1, .int (nI v)), (2, .int (nI t))]) hx hb dX4_isVain_82 rfl hl (by decide) rfl (fun ls hl => ?_)
                refine lv_iinc (v := nI (i + 1)) (lv' := [(4, .int (nI (i + 1))), (3, .int (nI i)), (5, .int 1), (0, .ref h), (1, .int (nI v)), (2, .int (nI t))]) hx hb dX4_isVain_83 hl (k := 2) rfl (show nI i + Int32.ofInt 1 = _ from nI_add i 1) (by decide) rfl (fun ls hl => ?_)
                refine lv_goto (tgt := 5) hx hb dX4_isVain_86 (by decide) ?_
                exact ihu_1  (i + 1) (nI i)  ls (by omega) (by first | omega | assumption) (by rw [foldU_s, ← hf]; simp [vaStep, c_2, c_6, c_7, c_8, c_9])  (lv_sub hl [1, 0, 3, 4, 5] rfl)
              · skip
                obtain ⟨j_10, hj_10, ej_10⟩ := (show f = -1 ∨ ∃ j, j < i ∧ f = nI j from by rw [hf]; exact va_range a kn v t i).resolve_left (by first | assumption | exact c_9)
                have nj_10 : jn f = j_10 := by rw [ej_10]; exact jn_nI (by omega)
                refine lv_aload_n hx hb dX4_isVain_66 rfl (lv_at hl 3 rfl) ?_
                refine lv_iload hx hb dX4_isVain_67 (lv_at hl 2 rfl) ?_
                refine lv_iload_n hx hb dX4_isVain_69 rfl (lv_at hl 1 rfl) ?_
                refine ro_callV F hK [.int (nI i), .int (nI j_10)] (cm_isLater hP i j_10 (by first | assumption | omega) (by first | assumption | omega)) (cwV 2 F.2.2.2.2 gX4_isVain_X4_isLater rfl rfl rfl (by decide +kernel) ⟨Nat.le_of_ble_eq_true rfl, Nat.le_of_ble_eq_true rfl⟩) (mg_rc hK hP) rfl hl.1 (by first | (rw [ej_10]; done) | (rw [ej_10]; rfl)) (lv_room (Nat.le_of_ble_eq_true rfl)) ⟨Nat.zero_le _, Nat.zero_le _⟩ dX4_isVain_70 ?_
                refine lw_beq (tgt := 81) hx hb dX4_isVain_73 (by decide) (fun c_11 => ?_) (fun c_11 => ?_)
                · skip
                  refine lv_iload_n hx hb dX4_isVain_81 rfl (lv_at hl 1 rfl) ?_
                  refine lv_istore_n (lv' := [(3, .int f), (5, .int 1), (4, .int (nI i)), (0, .ref h), (1, .int (nI v)), (2, .int (nI t))]) hx hb dX4_isVain_82 rfl hl (by decide) rfl (fun ls hl => ?_)
                  refine lv_iinc (v := nI (i + 1)) (lv' := [(4, .int (nI (i + 1))), (3, .int f), (5, .int 1), (0, .ref h), (1, .int (nI v)), (2, .int (nI t))]) hx hb dX4_isVain_83 hl (k := 2) rfl (show nI i + Int32.ofInt 1 = _ from nI_add i 1) (by decide) rfl (fun ls hl => ?_)
                  refine lv_goto (tgt := 5) hx hb dX4_isVain_86 (by decide) ?_
                  exact ihu_1  (i + 1) f  ls (by omega) (by first | omega | assumption) (by rw [foldU_s, ← hf]; simp [vaStep, c_2, c_6, c_7, c_8, c_9, nj_10, c_11])  (lv_sub hl [1, 0, 3, 4, 5] rfl)
                · skip
                  refine lv_iload hx hb dX4_isVain_76 (lv_at hl 2 rfl) ?_
                  refine lv_goto (tgt := 82) hx hb dX4_isVain_78 (by decide) ?_
                  refine lv_istore_n (lv' := [(3, .int (nI i)), (5, .int 1), (4, .int (nI i)), (0, .ref h), (1, .int (nI v)), (2, .int (nI t))]) hx hb dX4_isVain_82 rfl hl (by decide) rfl (fun ls hl => ?_)
                  refine lv_iinc (v := nI (i + 1)) (lv' := [(4, .int (nI (i + 1))), (3, .int (nI i)), (5, .int 1), (0, .ref h), (1, .int (nI v)), (2, .int (nI t))]) hx hb dX4_isVain_83 hl (k := 2) rfl (show nI i + Int32.ofInt 1 = _ from nI_add i 1) (by decide) rfl (fun ls hl => ?_)
                  refine lv_goto (tgt := 5) hx hb dX4_isVain_86 (by decide) ?_
                  exact ihu_1  (i + 1) (nI i)  ls (by omega) (by first | omega | assumption) (by rw [foldU_s, ← hf]; simp [vaStep, c_2, c_6, c_7, c_8, c_9, nj_10, c_11])  (lv_sub hl [1, 0, 3, 4, 5] rfl)
  exact L5_u_1 _ 0 (-1)  ls (Nat.lt_succ_self _) (by first | omega | assumption) (rfl)  (lv_sub hl [1, 0, 2, 3, 4] rfl)
set_option maxHeartbeats 4000000 in
set_option maxRecDepth 100000 in
theorem cm_countOf {l : Launch} {D : va_G} {cI cZ : ClassId} {h : Nat} {q : Nat → Nat} {n cm : Nat} {th : Int32} {lm : Nat} {a : Nat → Nat → Int32} {kn : Nat → Bool} {H : Heap} (hP : va_P D vwCl (mW h q cI cZ n cm th lm a kn) H) (v : Nat) (fo : Nat) (hv : v ≤ 5) (hn : n ≤ 240) (hfo : fo < 8) : ro_Met l yX4_countOf wsX4_countOf 3 71 D (mT cI cZ) H [.ref h, .int (nI v), .int (nI fo)] (nI (countB a kn n v fo)) := by
  refine ro_start rfl (by decide +kernel) (Nat.le_of_ble_eq_true rfl) (fun p e s m below meth c F hr hlocks hK ls hl => ?_)
  have hl : lv_has ls 5 [(0, .ref h), (1, .int (nI v)), (2, .int (nI fo))] := hl
  have hx := F.1
  have hb := F.2.1
  have hin : ∀ w ∈ wsX40, w ∈ wsX4_countOf := fun _ z => List.mem_cons_of_mem _ (List.mem_append_right _ z)
  refine lv_iconst (v := 0) hx hb dX4_countOf_0 (by decide) ?_
  refine lv_istore_n (lv' := [(3, .int 0), (0, .ref h), (1, .int (nI v)), (2, .int (nI fo))]) hx hb dX4_countOf_1 rfl hl (by decide) rfl (fun ls hl => ?_)
  refine lv_iload_n hx hb dX4_countOf_2 rfl (lv_at hl 3 rfl) ?_
  refine lv_istore (lv' := [(4, .int (nI fo)), (3, .int 0), (0, .ref h), (1, .int (nI v)), (2, .int (nI fo))]) hx hb dX4_countOf_3 hl (by decide) rfl (fun ls hl => ?_)
  have L5_u_1 : ∀ (k9u_1 : Nat) (t : Nat) (y : Nat) (i : Nat) (ls : Array Slot), 5 - i < k9u_1 → i ≤ 5 → t = fo + 8 * i → y = foldU (cnStep a kn n v fo) 0 i → lv_has ls 5 [(3, .int (nI y)), (4, .int (nI t)), (0, .ref h), (1, .int (nI v)), (2, .int (nI fo))] → roW p l e 3 71 s m [.ref h, .int (nI v), .int (nI fo)] below meth c H (nI (countB a kn n v fo)) (F0 m 5 ls []) := by
    intro k9u_1
    induction k9u_1 with
    | zero => intro t y i ls hk; exact absurd hk (Nat.not_lt_zero _)
    | succ k9u_1 ihu_1 =>
      intro t y i ls hk hi ht hf  hl
      refine lv_iload hx hb dX4_countOf_5 (lv_at hl 1 rfl) ?_
      refine lv_bipush (v := 40) hx hb dX4_countOf_7 (by decide) ?_
      refine lw_ge (tgt := 37) hx hb t 40 (by omega) (by omega) dX4_countOf_9 (by decide) (fun c_2 => ?_) (fun c_2 => ?_)
      · skip
        refine lv_iload_n hx hb dX4_countOf_37 rfl (lv_at hl 0 rfl) ?_
        exact ro_reti F hr hlocks (by rw [hf, show i = 5 by omega]; rfl) dX4_countOf_38
      · skip
        refine lv_iload_n hx hb dX4_countOf_12 rfl (lv_at hl 0 rfl) ?_
        refine lv_aload_n hx hb dX4_countOf_13 rfl (lv_at hl 2 rfl) ?_
        refine lv_iload_n hx hb dX4_countOf_14 rfl (lv_at hl 3 rfl) ?_
        refine lv_iload hx hb dX4_countOf_15 (lv_at hl 1 rfl) ?_
        refine ro_callV F hK [.int (nI v), .int (nI t)] (cm_placeOf hP v (nI t) (by first | assumption | omega) (by first | assumption | omega)) (cwV 2 F.2.2.2.2 gX4_countOf_X4_placeOf rfl rfl rfl (by decide +kernel) ⟨Nat.le_of_ble_eq_true rfl, Nat.le_of_ble_eq_true rfl⟩) (mg_rc hK hP) rfl hl.1 rfl (lv_room (Nat.le_of_ble_eq_true rfl)) ⟨Nat.zero_le _, Nat.zero_le _⟩ dX4_countOf_17 ?_
        refine lv_iconst (v := (-1)) hx hb dX4_countOf_20 (by decide) ?_
        refine lv_icmp_eq (tgt := 28) hx hb dX4_countOf_21 (by decide) (fun c_3 => ?_) (fun c_3 => ?_)
        · skip
          refine lv_iconst (v := 0) hx hb dX4_countOf_28 (by decide) ?_
          refine lw_add hx hb (i := y) (j := 0) dX4_countOf_29 ?_
          refine lv_istore_n (lv' := [(3, .int (nI (y + 0))), (4, .int (nI t)), (0, .ref h), (1, .int (nI v)), (2, .int (nI fo))]) hx hb dX4_countOf_30 rfl hl (by decide) rfl (fun ls hl => ?_)
          refine lv_iinc (v := nI (t + 8)) (lv' := [(4, .int (nI (t + 8))), (3, .int (nI (y + 0))), (0, .ref h), (1, .int (nI v)), (2, .int (nI fo))]) hx hb dX4_countOf_31 hl (k := 1) rfl (show nI t + Int32.ofInt 8 = _ from nI_add t 8) (by decide) rfl (fun ls hl => ?_)
          refine lv_goto (tgt := 5) hx hb dX4_countOf_34 (by decide) ?_
          exact ihu_1  (t + 8) (y + 0) (i + 1)  ls (by omega) (by first | omega | assumption) (by first | omega | assumption) (by rw [foldU_s, ← hf]; subst ht; simp [cnStep, c_2, c_3])  (lv_sub hl [1, 0, 2, 3, 4] rfl)
        · skip
          refine lv_iconst (v := 1) hx hb dX4_countOf_24 (by decide) ?_
          refine lv_goto (tgt := 29) hx hb dX4_countOf_25 (by decide) ?_
          refine lw_add hx hb (i := y) (j := 1) dX4_countOf_29 ?_
          refine lv_istore_n (lv' := [(3, .int (nI (y + 1))), (4, .int (nI t)), (0, .ref h), (1, .int (nI v)), (2, .int (nI fo))]) hx hb dX4_countOf_30 rfl hl (by decide) rfl (fun ls hl => ?_)
          refine lv_iinc (v := nI (t + 8)) (lv' := [(4, .int (nI (t + 8))), (3, .int (nI (y + 1))), (0, .ref h), (1, .int (nI v)), (2, .int (nI fo))]) hx hb dX4_countOf_31 hl (k := 1) rfl (show nI t + Int32.ofInt 8 = _ from nI_add t 8) (by decide) rfl (fun ls hl => ?_)
          refine lv_goto (tgt := 5) hx hb dX4_countOf_34 (by decide) ?_
          exact ihu_1  (t + 8) (y + 1) (i + 1)  ls (by omega) (by first | omega | assumption) (by first | omega | assumption) (by rw [foldU_s, ← hf]; subst ht; simp [cnStep, c_2, c_3])  (lv_sub hl [1, 0, 2, 3, 4] rfl)
  exact L5_u_1 _ fo 0 0  ls (Nat.lt_succ_self _) (by first | omega | assumption) (by first | omega | assumption) (rfl)  (lv_sub hl [1, 0, 2, 3, 4] rfl)
set_option maxHeartbeats 4000000 in
set_option maxRecDepth 100000 in
theorem cm_isFull {l : Launch} {D : va_G} {cI cZ : ClassId} {h : Nat} {q : Nat → Nat} {n cm : Nat} {th : Int32} {lm : Nat} {a : Nat → Nat → Int32} {kn : Nat → Bool} {H : Heap} (hP : va_P D vwCl (mW h q cI cZ n cm th lm a kn) H) (k : Nat) (hn : n ≤ 240) (hk : k ≤ 1000) : ro_Met l yX4_isFull wsX4_isFull 0 0 D (mT cI cZ) H [.ref h, .int (nI k)] (bI (fullB n k)) := by
  refine ro_start rfl (by decide +kernel) (Nat.le_of_ble_eq_true rfl) (fun p e s m below meth c F hr hlocks hK ls hl => ?_)
  have hl : lv_has ls 2 [(0, .ref h), (1, .int (nI k))] := hl
  have hx := F.1
  have hb := F.2.1
  have hin : ∀ w ∈ wsX40, w ∈ wsX4_isFull := fun _ z => List.mem_cons_of_mem _ (List.mem_append_right _ z)
  refine lv_aload_n hx hb dX4_isFull_0 rfl (lv_at hl 0 rfl) ?_
  refine mg_get F hK hin hP 0 (by decide) (by decide +kernel) rfl dX4_isFull_1 ?_
  refine lv_iload_n hx hb dX4_isFull_4 rfl (lv_at hl 1 rfl) ?_
  refine lw_add hx hb (i := n) (j := k) dX4_isFull_5 ?_
  refine lv_sipush (v := 240) hx hb dX4_isFull_6 (by decide) ?_
  refine lw_le (tgt := 16) hx hb (n + k) 240 (by omega) (by omega) dX4_isFull_9 (by decide) (fun c_1 => ?_) (fun c_1 => ?_)
  · skip
    refine lv_iconst (v := 0) hx hb dX4_isFull_16 (by decide) ?_
    exact ro_retz F hr hlocks (by simp [fullB, bI]; omega) dX4_isFull_17
  · skip
    refine lv_iconst (v := 1) hx hb dX4_isFull_12 (by decide) ?_
    refine lv_goto (tgt := 17) hx hb dX4_isFull_13 (by decide) ?_
    exact ro_retz F hr hlocks (by simp [fullB, bI]; omega) dX4_isFull_17
end
