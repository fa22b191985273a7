section
-- ===== PART A: goes FIRST, ahead of the names: the tables' words, and 'selects' of the private methods out of them =====
/-- a private method of a class that the tables say can be made, by its rows of tables_1 -/
def lw_okq (q : MethodName × Nat) : Prop := (q.1.cls ≠ "java/lang/invoke/MethodHandle" ∧ q.1.cls ≠ "java/lang/invoke/VarHandle") ∧ Cond.instantiable q.1.cls q.2 ∈ tables_1 ∧ Cond.privateMethod q.1 ∈ tables_1 ∧ Cond.instanceMethod q.1 ∈ tables_1
theorem lw_p0 : lw_okq (⟨"PurseOfNineBowls", "refuse", "(I)I"⟩, 12) := ⟨⟨by decide +kernel, by decide +kernel⟩, List.mem_of_getElem? (i := 12) (by decide +kernel), List.mem_of_getElem? (i := 201) (by decide +kernel), List.mem_of_getElem? (i := 202) (by decide +kernel)⟩
theorem lw_p1 : lw_okq (⟨"PurseOfNineBowls$Letters", "stuckAt", "()I"⟩, 2) := ⟨⟨by decide +kernel, by decide +kernel⟩, List.mem_of_getElem? (i := 81) (by decide +kernel), List.mem_of_getElem? (i := 224) (by decide +kernel), List.mem_of_getElem? (i := 225) (by decide +kernel)⟩
theorem lw_p2 : lw_okq (⟨"PurseOfNineBowls$Letters", "stuckIn", "(I)I"⟩, 2) := ⟨⟨by decide +kernel, by decide +kernel⟩, List.mem_of_getElem? (i := 81) (by decide +kernel), List.mem_of_getElem? (i := 228) (by decide +kernel), List.mem_of_getElem? (i := 229) (by decide +kernel)⟩
theorem lw_p3 : lw_okq (⟨"PurseOfNineBowls$Letters", "letterAt", "(I)I"⟩, 2) := ⟨⟨by decide +kernel, by decide +kernel⟩, List.mem_of_getElem? (i := 81) (by decide +kernel), List.mem_of_getElem? (i := 232) (by decide +kernel), List.mem_of_getElem? (i := 233) (by decide +kernel)⟩
theorem lw_p4 : lw_okq (⟨"PurseOfNineBowls$Letters", "digitsFrom", "(II)I"⟩, 2) := ⟨⟨by decide +kernel, by decide +kernel⟩, List.mem_of_getElem? (i := 81) (by decide +kernel), List.mem_of_getElem? (i := 242) (by decide +kernel), List.mem_of_getElem? (i := 243) (by decide +kernel)⟩
theorem lw_p5 : lw_okq (⟨"PurseOfNineBowls$Letters", "digitAt", "(I)I"⟩, 2) := ⟨⟨by decide +kernel, by decide +kernel⟩, List.mem_of_getElem? (i := 81) (by decide +kernel), List.mem_of_getElem? (i := 246) (by decide +kernel), List.mem_of_getElem? (i := 247) (by decide +kernel)⟩
theorem lw_p6 : lw_okq (⟨"PurseOfNineBowls$Letters", "behindStatement", "(I)I"⟩, 2) := ⟨⟨by decide +kernel, by decide +kernel⟩, List.mem_of_getElem? (i := 81) (by decide +kernel), List.mem_of_getElem? (i := 253) (by decide +kernel), List.mem_of_getElem? (i := 254) (by decide +kernel)⟩
theorem lw_p7 : lw_okq (⟨"PurseOfNineBowls$Letters", "apply", "(ILPurseOfNineBowls$Table;)Z"⟩, 2) := ⟨⟨by decide +kernel, by decide +kernel⟩, List.mem_of_getElem? (i := 81) (by decide +kernel), List.mem_of_getElem? (i := 257) (by decide +kernel), List.mem_of_getElem? (i := 258) (by decide +kernel)⟩
theorem lw_p8 : lw_okq (⟨"PurseOfNineBowls$Letters", "addBowl", "(ILPurseOfNineBowls$Table;)Z"⟩, 2) := ⟨⟨by decide +kernel, by decide +kernel⟩, List.mem_of_getElem? (i := 81) (by decide +kernel), List.mem_of_getElem? (i := 261) (by decide +kernel), List.mem_of_getElem? (i := 262) (by decide +kernel)⟩
theorem lw_p9 : lw_okq (⟨"PurseOfNineBowls$Letters", "makeMoves", "(ILPurseOfNineBowls$Table;)Z"⟩, 2) := ⟨⟨by decide +kernel, by decide +kernel⟩, List.mem_of_getElem? (i := 81) (by decide +kernel), List.mem_of_getElem? (i := 286) (by decide +kernel), List.mem_of_getElem? (i := 287) (by decide +kernel)⟩
theorem lw_p10 : lw_okq (⟨"PurseOfNineBowls$Table", "sowHand", "(I)Z"⟩, 12) := ⟨⟨by decide +kernel, by decide +kernel⟩, List.mem_of_getElem? (i := 20) (by decide +kernel), List.mem_of_getElem? (i := 299) (by decide +kernel), List.mem_of_getElem? (i := 300) (by decide +kernel)⟩
theorem lw_p11 : lw_okq (⟨"PurseOfNineBowls$Table", "rightOrLeftOf", "(I)I"⟩, 12) := ⟨⟨by decide +kernel, by decide +kernel⟩, List.mem_of_getElem? (i := 20) (by decide +kernel), List.mem_of_getElem? (i := 303) (by decide +kernel), List.mem_of_getElem? (i := 304) (by decide +kernel)⟩
theorem lw_p12 : lw_okq (⟨"PurseOfNineBowls$Table", "takeSingle", "()Z"⟩, 12) := ⟨⟨by decide +kernel, by decide +kernel⟩, List.mem_of_getElem? (i := 20) (by decide +kernel), List.mem_of_getElem? (i := 319) (by decide +kernel), List.mem_of_getElem? (i := 320) (by decide +kernel)⟩
theorem lw_p13 : lw_okq (⟨"PurseOfNineBowls", "tryMove", "(I)Z"⟩, 12) := ⟨⟨by decide +kernel, by decide +kernel⟩, List.mem_of_getElem? (i := 12) (by decide +kernel), List.mem_of_getElem? (i := 358) (by decide +kernel), List.mem_of_getElem? (i := 359) (by decide +kernel)⟩
theorem lw_p14 : lw_okq (⟨"PurseOfNineBowls", "refuseFar", "(I)I"⟩, 12) := ⟨⟨by decide +kernel, by decide +kernel⟩, List.mem_of_getElem? (i := 12) (by decide +kernel), List.mem_of_getElem? (i := 403) (by decide +kernel), List.mem_of_getElem? (i := 404) (by decide +kernel)⟩
theorem lw_p15 : lw_okq (⟨"PurseOfNineBowls", "roundOf", "(I)I"⟩, 12) := ⟨⟨by decide +kernel, by decide +kernel⟩, List.mem_of_getElem? (i := 12) (by decide +kernel), List.mem_of_getElem? (i := 425) (by decide +kernel), List.mem_of_getElem? (i := 426) (by decide +kernel)⟩
def lw_privs_1 : List (MethodName × Nat) := [(⟨"PurseOfNineBowls", "refuse", "(I)I"⟩, 12), (⟨"PurseOfNineBowls$Letters", "stuckAt", "()I"⟩, 2), (⟨"PurseOfNineBowls$Letters", "stuckIn", "(I)I"⟩, 2), (⟨"PurseOfNineBowls$Letters", "letterAt", "(I)I"⟩, 2), (⟨"PurseOfNineBowls$Letters", "digitsFrom", "(II)I"⟩, 2), (⟨"PurseOfNineBowls$Letters", "digitAt", "(I)I"⟩, 2), (⟨"PurseOfNineBowls$Letters", "behindStatement", "(I)I"⟩, 2), (⟨"PurseOfNineBowls$Letters", "apply", "(ILPurseOfNineBowls$Table;)Z"⟩, 2), (⟨"PurseOfNineBowls$Letters", "addBowl", "(ILPurseOfNineBowls$Table;)Z"⟩, 2), (⟨"PurseOfNineBowls$Letters", "makeMoves", "(ILPurseOfNineBowls$Table;)Z"⟩, 2), (⟨"PurseOfNineBowls$Table", "sowHand", "(I)Z"⟩, 12), (⟨"PurseOfNineBowls$Table", "rightOrLeftOf", "(I)I"⟩, 12), (⟨"PurseOfNineBowls$Table", "takeSingle", "()Z"⟩, 12), (⟨"PurseOfNineBowls", "tryMove", "(I)Z"⟩, 12), (⟨"PurseOfNineBowls", "refuseFar", "(I)I"⟩, 12), (⟨"PurseOfNineBowls", "roundOf", "(I)I"⟩, 12)]
theorem lw_r1 : ∀ q ∈ lw_privs_1, lw_okq q := List.forall_mem_cons.mpr ⟨lw_p0, List.forall_mem_cons.mpr ⟨lw_p1, List.forall_mem_cons.mpr ⟨lw_p2, List.forall_mem_cons.mpr ⟨lw_p3, List.forall_mem_cons.mpr ⟨lw_p4, List.forall_mem_cons.mpr ⟨lw_p5, List.forall_mem_cons.mpr ⟨lw_p6, List.forall_mem_cons.mpr ⟨lw_p7, List.forall_mem_cons.mpr ⟨lw_p8, List.forall_mem_cons.mpr ⟨lw_p9, List.forall_mem_cons.mpr ⟨lw_p10, List.forall_mem_cons.mpr ⟨lw_p11, List.forall_mem_cons.mpr ⟨lw_p12, List.forall_mem_cons.mpr ⟨lw_p13, List.forall_mem_cons.mpr ⟨lw_p14, List.forall_mem_cons.mpr ⟨lw_p15, fun _ h => absurd h List.not_mem_nil⟩⟩⟩⟩⟩⟩⟩⟩⟩⟩⟩⟩⟩⟩⟩⟩
theorem lw_p16 : lw_okq (⟨"PurseOfNineBowls", "entryOf", "(II)I"⟩, 12) := ⟨⟨by decide +kernel, by decide +kernel⟩, List.mem_of_getElem? (i := 12) (by decide +kernel), List.mem_of_getElem? (i := 430) (by decide +kernel), List.mem_of_getElem? (i := 431) (by decide +kernel)⟩
theorem lw_p17 : lw_okq (⟨"PurseOfNineBowls$Emptying", "keep", "(JI)V"⟩, 8) := ⟨⟨by decide +kernel, by decide +kernel⟩, List.mem_of_getElem? (i := 111) (by decide +kernel), List.mem_of_getElem? (i := 451) (by decide +kernel), List.mem_of_getElem? (i := 452) (by decide +kernel)⟩
theorem lw_p18 : lw_okq (⟨"PurseOfNineBowls$Emptying", "goOnFrom", "(III)V"⟩, 8) := ⟨⟨by decide +kernel, by decide +kernel⟩, List.mem_of_getElem? (i := 111) (by decide +kernel), List.mem_of_getElem? (i := 456) (by decide +kernel), List.mem_of_getElem? (i := 457) (by decide +kernel)⟩
theorem lw_p19 : lw_okq (⟨"PurseOfNineBowls", "worthChange", "(II)I"⟩, 12) := ⟨⟨by decide +kernel, by decide +kernel⟩, List.mem_of_getElem? (i := 12) (by decide +kernel), List.mem_of_getElem? (i := 471) (by decide +kernel), List.mem_of_getElem? (i := 472) (by decide +kernel)⟩
theorem lw_p20 : lw_okq (⟨"PurseOfNineBowls", "refusalToLay", "(I)I"⟩, 12) := ⟨⟨by decide +kernel, by decide +kernel⟩, List.mem_of_getElem? (i := 12) (by decide +kernel), List.mem_of_getElem? (i := 492) (by decide +kernel), List.mem_of_getElem? (i := 493) (by decide +kernel)⟩
theorem lw_p21 : lw_okq (⟨"PurseOfNineBowls$Ways", "layOneMore", "(II)V"⟩, 2) := ⟨⟨by decide +kernel, by decide +kernel⟩, List.mem_of_getElem? (i := 147) (by decide +kernel), List.mem_of_getElem? (i := 505) (by decide +kernel), List.mem_of_getElem? (i := 506) (by decide +kernel)⟩
theorem lw_p22 : lw_okq (⟨"PurseOfNineBowls", "playRow", "()I"⟩, 12) := ⟨⟨by decide +kernel, by decide +kernel⟩, List.mem_of_getElem? (i := 12) (by decide +kernel), List.mem_of_getElem? (i := 532) (by decide +kernel), List.mem_of_getElem? (i := 533) (by decide +kernel)⟩
theorem lw_p23 : lw_okq (⟨"PurseOfNineBowls", "playLot", "(I)I"⟩, 12) := ⟨⟨by decide +kernel, by decide +kernel⟩, List.mem_of_getElem? (i := 12) (by decide +kernel), List.mem_of_getElem? (i := 552) (by decide +kernel), List.mem_of_getElem? (i := 553) (by decide +kernel)⟩
theorem lw_p24 : lw_okq (⟨"PurseOfNineBowlsModel", "refuse", "(I)I"⟩, 32) := ⟨⟨by decide +kernel, by decide +kernel⟩, List.mem_of_getElem? (i := 571) (by decide +kernel), List.mem_of_getElem? (i := 677) (by decide +kernel), List.mem_of_getElem? (i := 678) (by decide +kernel)⟩
theorem lw_p25 : lw_okq (⟨"PurseOfNineBowlsModel", "passes", "(I)I"⟩, 32) := ⟨⟨by decide +kernel, by decide +kernel⟩, List.mem_of_getElem? (i := 571) (by decide +kernel), List.mem_of_getElem? (i := 685) (by decide +kernel), List.mem_of_getElem? (i := 686) (by decide +kernel)⟩
theorem lw_p26 : lw_okq (⟨"PurseOfNineBowlsModel", "letterAt", "(I)I"⟩, 32) := ⟨⟨by decide +kernel, by decide +kernel⟩, List.mem_of_getElem? (i := 571) (by decide +kernel), List.mem_of_getElem? (i := 689) (by decide +kernel), List.mem_of_getElem? (i := 690) (by decide +kernel)⟩
theorem lw_p27 : lw_okq (⟨"PurseOfNineBowlsModel", "digitsFrom", "(II)I"⟩, 32) := ⟨⟨by decide +kernel, by decide +kernel⟩, List.mem_of_getElem? (i := 571) (by decide +kernel), List.mem_of_getElem? (i := 696) (by decide +kernel), List.mem_of_getElem? (i := 697) (by decide +kernel)⟩
theorem lw_p28 : lw_okq (⟨"PurseOfNineBowlsModel", "keeps", "(I)V"⟩, 32) := ⟨⟨by decide +kernel, by decide +kernel⟩, List.mem_of_getElem? (i := 571) (by decide +kernel), List.mem_of_getElem? (i := 703) (by decide +kernel), List.mem_of_getElem? (i := 704) (by decide +kernel)⟩
theorem lw_p29 : lw_okq (⟨"PurseOfNineBowlsModel", "does", "(I)Z"⟩, 32) := ⟨⟨by decide +kernel, by decide +kernel⟩, List.mem_of_getElem? (i := 571) (by decide +kernel), List.mem_of_getElem? (i := 707) (by decide +kernel), List.mem_of_getElem? (i := 708) (by decide +kernel)⟩
theorem lw_p30 : lw_okq (⟨"PurseOfNineBowlsModel", "digit", "(I)I"⟩, 32) := ⟨⟨by decide +kernel, by decide +kernel⟩, List.mem_of_getElem? (i := 571) (by decide +kernel), List.mem_of_getElem? (i := 711) (by decide +kernel), List.mem_of_getElem? (i := 712) (by decide +kernel)⟩
theorem lw_p31 : lw_okq (⟨"PurseOfNineBowlsModel", "doesSowings", "(I)Z"⟩, 32) := ⟨⟨by decide +kernel, by decide +kernel⟩, List.mem_of_getElem? (i := 571) (by decide +kernel), List.mem_of_getElem? (i := 715) (by decide +kernel), List.mem_of_getElem? (i := 716) (by decide +kernel)⟩
def lw_privs_2 : List (MethodName × Nat) := [(⟨"PurseOfNineBowls", "entryOf", "(II)I"⟩, 12), (⟨"PurseOfNineBowls$Emptying", "keep", "(JI)V"⟩, 8), (⟨"PurseOfNineBowls$Emptying", "goOnFrom", "(III)V"⟩, 8), (⟨"PurseOfNineBowls", "worthChange", "(II)I"⟩, 12), (⟨"PurseOfNineBowls", "refusalToLay", "(I)I"⟩, 12), (⟨"PurseOfNineBowls$Ways", "layOneMore", "(II)V"⟩, 2), (⟨"PurseOfNineBowls", "playRow", "()I"⟩, 12), (⟨"PurseOfNineBowls", "playLot", "(I)I"⟩, 12), (⟨"PurseOfNineBowlsModel", "refuse", "(I)I"⟩, 32), (⟨"PurseOfNineBowlsModel", "passes", "(I)I"⟩, 32), (⟨"PurseOfNineBowlsModel", "letterAt", "(I)I"⟩, 32), (⟨"PurseOfNineBowlsModel", "digitsFrom", "(II)I"⟩, 32), (⟨"PurseOfNineBowlsModel", "keeps", "(I)V"⟩, 32), (⟨"PurseOfNineBowlsModel", "does", "(I)Z"⟩, 32), (⟨"PurseOfNineBowlsModel", "digit", "(I)I"⟩, 32), (⟨"PurseOfNineBowlsModel", "doesSowings", "(I)Z"⟩, 32)]
theorem lw_r2 : ∀ q ∈ lw_privs_2, lw_okq q := List.forall_mem_cons.mpr ⟨lw_p16, List.forall_mem_cons.mpr ⟨lw_p17, List.forall_mem_cons.mpr ⟨lw_p18, List.forall_mem_cons.mpr ⟨lw_p19, List.forall_mem_cons.mpr ⟨lw_p20, List.forall_mem_cons.mpr ⟨lw_p21, List.forall_mem_cons.mpr ⟨lw_p22, List.forall_mem_cons.mpr ⟨lw_p23, List.forall_mem_cons.mpr ⟨lw_p24, List.forall_mem_cons.mpr ⟨lw_p25, List.forall_mem_cons.mpr ⟨lw_p26, List.forall_mem_cons.mpr ⟨lw_p27, List.forall_mem_cons.mpr ⟨lw_p28, List.forall_mem_cons.mpr ⟨lw_p29, List.forall_mem_cons.mpr ⟨lw_p30, List.forall_mem_cons.mpr ⟨lw_p31, fun _ h => absurd h List.not_mem_nil⟩⟩⟩⟩⟩⟩⟩⟩⟩⟩⟩⟩⟩⟩⟩⟩
theorem lw_p32 : lw_okq (⟨"PurseOfNineBowlsModel", "canMove", "(I)Z"⟩, 32) := ⟨⟨by decide +kernel, by decide +kernel⟩, List.mem_of_getElem? (i := 571) (by decide +kernel), List.mem_of_getElem? (i := 719) (by decide +kernel), List.mem_of_getElem? (i := 720) (by decide +kernel)⟩
theorem lw_p33 : lw_okq (⟨"PurseOfNineBowlsModel", "isBowl", "(I)Z"⟩, 32) := ⟨⟨by decide +kernel, by decide +kernel⟩, List.mem_of_getElem? (i := 571) (by decide +kernel), List.mem_of_getElem? (i := 723) (by decide +kernel), List.mem_of_getElem? (i := 724) (by decide +kernel)⟩
theorem lw_p34 : lw_okq (⟨"PurseOfNineBowlsModel", "moves", "(I)V"⟩, 32) := ⟨⟨by decide +kernel, by decide +kernel⟩, List.mem_of_getElem? (i := 571) (by decide +kernel), List.mem_of_getElem? (i := 730) (by decide +kernel), List.mem_of_getElem? (i := 731) (by decide +kernel)⟩
theorem lw_p35 : lw_okq (⟨"PurseOfNineBowlsModel", "sows", "(I)V"⟩, 32) := ⟨⟨by decide +kernel, by decide +kernel⟩, List.mem_of_getElem? (i := 571) (by decide +kernel), List.mem_of_getElem? (i := 734) (by decide +kernel), List.mem_of_getElem? (i := 735) (by decide +kernel)⟩
theorem lw_p36 : lw_okq (⟨"PurseOfNineBowlsModel", "sowsHand", "(I)I"⟩, 32) := ⟨⟨by decide +kernel, by decide +kernel⟩, List.mem_of_getElem? (i := 571) (by decide +kernel), List.mem_of_getElem? (i := 738) (by decide +kernel), List.mem_of_getElem? (i := 739) (by decide +kernel)⟩
theorem lw_p37 : lw_okq (⟨"PurseOfNineBowlsModel", "beside", "(I)I"⟩, 32) := ⟨⟨by decide +kernel, by decide +kernel⟩, List.mem_of_getElem? (i := 571) (by decide +kernel), List.mem_of_getElem? (i := 742) (by decide +kernel), List.mem_of_getElem? (i := 743) (by decide +kernel)⟩
theorem lw_p38 : lw_okq (⟨"PurseOfNineBowlsModel", "takes", "(I)Z"⟩, 32) := ⟨⟨by decide +kernel, by decide +kernel⟩, List.mem_of_getElem? (i := 571) (by decide +kernel), List.mem_of_getElem? (i := 746) (by decide +kernel), List.mem_of_getElem? (i := 747) (by decide +kernel)⟩
theorem lw_p39 : lw_okq (⟨"PurseOfNineBowlsModel", "soundsFrom", "(I)I"⟩, 32) := ⟨⟨by decide +kernel, by decide +kernel⟩, List.mem_of_getElem? (i := 571) (by decide +kernel), List.mem_of_getElem? (i := 750) (by decide +kernel), List.mem_of_getElem? (i := 751) (by decide +kernel)⟩
theorem lw_p40 : lw_okq (⟨"PurseOfNineBowlsModel", "exchanges", "(II)V"⟩, 32) := ⟨⟨by decide +kernel, by decide +kernel⟩, List.mem_of_getElem? (i := 571) (by decide +kernel), List.mem_of_getElem? (i := 754) (by decide +kernel), List.mem_of_getElem? (i := 755) (by decide +kernel)⟩
theorem lw_p41 : lw_okq (⟨"PurseOfNineBowlsModel", "lays", "(I)V"⟩, 32) := ⟨⟨by decide +kernel, by decide +kernel⟩, List.mem_of_getElem? (i := 571) (by decide +kernel), List.mem_of_getElem? (i := 758) (by decide +kernel), List.mem_of_getElem? (i := 759) (by decide +kernel)⟩
theorem lw_p42 : lw_okq (⟨"PurseOfNineBowlsModel", "all", "()I"⟩, 32) := ⟨⟨by decide +kernel, by decide +kernel⟩, List.mem_of_getElem? (i := 571) (by decide +kernel), List.mem_of_getElem? (i := 785) (by decide +kernel), List.mem_of_getElem? (i := 786) (by decide +kernel)⟩
theorem lw_p43 : lw_okq (⟨"PurseOfNineBowlsModel", "seeks", "(II)I"⟩, 32) := ⟨⟨by decide +kernel, by decide +kernel⟩, List.mem_of_getElem? (i := 571) (by decide +kernel), List.mem_of_getElem? (i := 805) (by decide +kernel), List.mem_of_getElem? (i := 806) (by decide +kernel)⟩
theorem lw_p44 : lw_okq (⟨"PurseOfNineBowlsModel", "told", "(I)I"⟩, 32) := ⟨⟨by decide +kernel, by decide +kernel⟩, List.mem_of_getElem? (i := 571) (by decide +kernel), List.mem_of_getElem? (i := 813) (by decide +kernel), List.mem_of_getElem? (i := 814) (by decide +kernel)⟩
theorem lw_p45 : lw_okq (⟨"PurseOfNineBowlsModel", "worthOf", "(I)I"⟩, 32) := ⟨⟨by decide +kernel, by decide +kernel⟩, List.mem_of_getElem? (i := 571) (by decide +kernel), List.mem_of_getElem? (i := 818) (by decide +kernel), List.mem_of_getElem? (i := 819) (by decide +kernel)⟩
theorem lw_p46 : lw_okq (⟨"PurseOfNineBowlsModel", "records200", "(I)I"⟩, 32) := ⟨⟨by decide +kernel, by decide +kernel⟩, List.mem_of_getElem? (i := 571) (by decide +kernel), List.mem_of_getElem? (i := 830) (by decide +kernel), List.mem_of_getElem? (i := 831) (by decide +kernel)⟩
theorem lw_p47 : lw_okq (⟨"PurseOfNineBowlsModel", "records", "(I)V"⟩, 32) := ⟨⟨by decide +kernel, by decide +kernel⟩, List.mem_of_getElem? (i := 571) (by decide +kernel), List.mem_of_getElem? (i := 834) (by decide +kernel), List.mem_of_getElem? (i := 835) (by decide +kernel)⟩
def lw_privs_3 : List (MethodName × Nat) := [(⟨"PurseOfNineBowlsModel", "canMove", "(I)Z"⟩, 32), (⟨"PurseOfNineBowlsModel", "isBowl", "(I)Z"⟩, 32), (⟨"PurseOfNineBowlsModel", "moves", "(I)V"⟩, 32), (⟨"PurseOfNineBowlsModel", "sows", "(I)V"⟩, 32), (⟨"PurseOfNineBowlsModel", "sowsHand", "(I)I"⟩, 32), (⟨"PurseOfNineBowlsModel", "beside", "(I)I"⟩, 32), (⟨"PurseOfNineBowlsModel", "takes", "(I)Z"⟩, 32), (⟨"PurseOfNineBowlsModel", "soundsFrom", "(I)I"⟩, 32), (⟨"PurseOfNineBowlsModel", "exchanges", "(II)V"⟩, 32), (⟨"PurseOfNineBowlsModel", "lays", "(I)V"⟩, 32), (⟨"PurseOfNineBowlsModel", "all", "()I"⟩, 32), (⟨"PurseOfNineBowlsModel", "seeks", "(II)I"⟩, 32), (⟨"PurseOfNineBowlsModel", "told", "(I)I"⟩, 32), (⟨"PurseOfNineBowlsModel", "worthOf", "(I)I"⟩, 32), (⟨"PurseOfNineBowlsModel", "records200", "(I)I"⟩, 32), (⟨"PurseOfNineBowlsModel", "records", "(I)V"⟩, 32)]
theorem lw_r3 : ∀ q ∈ lw_privs_3, lw_okq q := List.forall_mem_cons.mpr ⟨lw_p32, List.forall_mem_cons.mpr ⟨lw_p33, List.forall_mem_cons.mpr ⟨lw_p34, List.forall_mem_cons.mpr ⟨lw_p35, List.forall_mem_cons.mpr ⟨lw_p36, List.forall_mem_cons.mpr ⟨lw_p37, List.forall_mem_cons.mpr ⟨lw_p38, List.forall_mem_cons.mpr ⟨lw_p39, List.forall_mem_cons.mpr ⟨lw_p40, List.forall_mem_cons.mpr ⟨lw_p41, List.forall_mem_cons.mpr ⟨lw_p42, List.forall_mem_cons.mpr ⟨lw_p43, List.forall_mem_cons.mpr ⟨lw_p44, List.forall_mem_cons.mpr ⟨lw_p45, List.forall_mem_cons.mpr ⟨lw_p46, List.forall_mem_cons.mpr ⟨lw_p47, fun _ h => absurd h List.not_mem_nil⟩⟩⟩⟩⟩⟩⟩⟩⟩⟩⟩⟩⟩⟩⟩⟩
theorem lw_p48 : lw_okq (⟨"PurseOfNineBowlsModel", "isLike", "(II)Z"⟩, 32) := ⟨⟨by decide +kernel, by decide +kernel⟩, List.mem_of_getElem? (i := 571) (by decide +kernel), List.mem_of_getElem? (i := 838) (by decide +kernel), List.mem_of_getElem? (i := 839) (by decide +kernel)⟩
theorem lw_p49 : lw_okq (⟨"PurseOfNineBowlsModel", "isEmptied", "(III)Z"⟩, 32) := ⟨⟨by decide +kernel, by decide +kernel⟩, List.mem_of_getElem? (i := 571) (by decide +kernel), List.mem_of_getElem? (i := 850) (by decide +kernel), List.mem_of_getElem? (i := 851) (by decide +kernel)⟩
theorem lw_p50 : lw_okq (⟨"PurseOfNineBowlsModel", "worthBy", "(II)I"⟩, 32) := ⟨⟨by decide +kernel, by decide +kernel⟩, List.mem_of_getElem? (i := 571) (by decide +kernel), List.mem_of_getElem? (i := 858) (by decide +kernel), List.mem_of_getElem? (i := 859) (by decide +kernel)⟩
theorem lw_p51 : lw_okq (⟨"PurseOfNineBowlsModel", "isRow", "()Z"⟩, 32) := ⟨⟨by decide +kernel, by decide +kernel⟩, List.mem_of_getElem? (i := 571) (by decide +kernel), List.mem_of_getElem? (i := 878) (by decide +kernel), List.mem_of_getElem? (i := 879) (by decide +kernel)⟩
theorem lw_p52 : lw_okq (⟨"PurseOfNineBowlsModel", "waysOf", "(I)I"⟩, 32) := ⟨⟨by decide +kernel, by decide +kernel⟩, List.mem_of_getElem? (i := 571) (by decide +kernel), List.mem_of_getElem? (i := 882) (by decide +kernel), List.mem_of_getElem? (i := 883) (by decide +kernel)⟩
theorem lw_p53 : lw_okq (⟨"PurseOfNineBowlsModel", "plays", "()I"⟩, 32) := ⟨⟨by decide +kernel, by decide +kernel⟩, List.mem_of_getElem? (i := 571) (by decide +kernel), List.mem_of_getElem? (i := 899) (by decide +kernel), List.mem_of_getElem? (i := 900) (by decide +kernel)⟩
def lw_privs_4 : List (MethodName × Nat) := [(⟨"PurseOfNineBowlsModel", "isLike", "(II)Z"⟩, 32), (⟨"PurseOfNineBowlsModel", "isEmptied", "(III)Z"⟩, 32), (⟨"PurseOfNineBowlsModel", "worthBy", "(II)I"⟩, 32), (⟨"PurseOfNineBowlsModel", "isRow", "()Z"⟩, 32), (⟨"PurseOfNineBowlsModel", "waysOf", "(I)I"⟩, 32), (⟨"PurseOfNineBowlsModel", "plays", "()I"⟩, 32)]
theorem lw_r4 : ∀ q ∈ lw_privs_4, lw_okq q := List.forall_mem_cons.mpr ⟨lw_p48, List.forall_mem_cons.mpr ⟨lw_p49, List.forall_mem_cons.mpr ⟨lw_p50, List.forall_mem_cons.mpr ⟨lw_p51, List.forall_mem_cons.mpr ⟨lw_p52, List.forall_mem_cons.mpr ⟨lw_p53, fun _ h => absurd h List.not_mem_nil⟩⟩⟩⟩⟩⟩
def lw_privs : List (MethodName × Nat) := lw_privs_1 ++ (lw_privs_2 ++ (lw_privs_3 ++ (lw_privs_4)))
def lw_tbl : List Cond := k2_sels lw_privs ++ tables_1
theorem lw_privs_ok : ∀ q ∈ lw_privs, lw_okq q := by
  show ∀ q ∈ lw_privs_1 ++ (lw_privs_2 ++ (lw_privs_3 ++ (lw_privs_4))), lw_okq q
  exact List.forall_mem_append.mpr ⟨lw_r1, List.forall_mem_append.mpr ⟨lw_r2, List.forall_mem_append.mpr ⟨lw_r3, lw_r4⟩⟩⟩
-- the tables' words
end
section
def RX0 : String := "PurseOfNineBowls$Ahead"
def TX0 : u_T := fun k => match k with
  | 0 => ("PurseOfNineBowls$Ahead", "line", "[LPurseOfNineBowls$Table;", true)
  | _ => ("PurseOfNineBowls$Ahead", "chosen", "[I", true)
def tyX0 : Nat → FieldType := fun k => match k with
  | 0 => .array (.object "PurseOfNineBowls$Table")
  | _ => .array (.int)
theorem nmX0 : ∀ a, a < 2 → ∀ b, b < 2 → a ≠ b → (TX0 a).2.1 ≠ (TX0 b).2.1 := by decide +kernel
theorem tyX0_ok : ∀ k, k < 2 → parseFieldDescriptor (TX0 k).2.2.1 = some (tyX0 k) := by decide +kernel
def RX1 : String := "PurseOfNineBowls$Emptying"
def TX1 : u_T := fun k => match k with
  | 0 => ("PurseOfNineBowls$Emptying", "rings", "[J", true)
  | 1 => ("PurseOfNineBowls$Emptying", "firsts", "[I", true)
  | 2 => ("PurseOfNineBowls$Emptying", "slots", "[I", true)
  | 3 => ("PurseOfNineBowls$Emptying", "from", "LPurseOfNineBowls$Table;", true)
  | 4 => ("PurseOfNineBowls$Emptying", "to", "LPurseOfNineBowls$Table;", true)
  | 5 => ("PurseOfNineBowls$Emptying", "held", "I", false)
  | 6 => ("PurseOfNineBowls$Emptying", "moves", "I", false)
  | _ => ("PurseOfNineBowls$Emptying", "first", "I", false)
def tyX1 : Nat → FieldType := fun k => match k with
  | 0 => .array (.long)
  | 1 => .array (.int)
  | 2 => .array (.int)
  | 3 => .object "PurseOfNineBowls$Table"
  | 4 => .object "PurseOfNineBowls$Table"
  | 5 => .int
  | 6 => .int
  | _ => .int
theorem nmX1 : ∀ a, a < 8 → ∀ b, b < 8 → a ≠ b → (TX1 a).2.1 ≠ (TX1 b).2.1 := by decide +kernel
theorem tyX1_ok : ∀ k, k < 8 → parseFieldDescriptor (TX1 k).2.2.1 = some (tyX1 k) := by decide +kernel
def RX2 : String := "PurseOfNineBowls$Letters"
def TX2 : u_T := fun k => match k with
  | 0 => ("PurseOfNineBowls$Letters", "letters", "[I", true)
  | _ => ("PurseOfNineBowls$Letters", "held", "I", false)
def tyX2 : Nat → FieldType := fun k => match k with
  | 0 => .array (.int)
  | _ => .int
theorem nmX2 : ∀ a, a < 2 → ∀ b, b < 2 → a ≠ b → (TX2 a).2.1 ≠ (TX2 b).2.1 := by decide +kernel
theorem tyX2_ok : ∀ k, k < 2 → parseFieldDescriptor (TX2 k).2.2.1 = some (tyX2 k) := by decide +kernel
def RX3 : String := "PurseOfNineBowls$Table"
def TX3 : u_T := fun k => match k with
  | 0 => ("PurseOfNineBowls$Table", "kinds", "[I", true)
  | 1 => ("PurseOfNineBowls$Table", "beans", "[I", true)
  | 2 => ("PurseOfNineBowls$Table", "purses", "[I", true)
  | 3 => ("PurseOfNineBowls$Table", "held", "I", false)
  | 4 => ("PurseOfNineBowls$Table", "fullness", "I", false)
  | 5 => ("PurseOfNineBowls$Table", "lent", "I", false)
  | 6 => ("PurseOfNineBowls$Table", "turn", "I", false)
  | 7 => ("PurseOfNineBowls$Table", "moves", "I", false)
  | 8 => ("PurseOfNineBowls$Table", "hands", "I", false)
  | 9 => ("PurseOfNineBowls$Table", "last", "I", false)
  | 10 => ("PurseOfNineBowls$Table", "sown", "I", false)
  | _ => ("PurseOfNineBowls$Table", "taken", "I", false)
def tyX3 : Nat → FieldType := fun k => match k with
  | 0 => .array (.int)
  | 1 => .array (.int)
  | 2 => .array (.int)
  | 3 => .int
  | 4 => .int
  | 5 => .int
  | 6 => .int
  | 7 => .int
  | 8 => .int
  | 9 => .int
  | 10 => .int
  | _ => .int
theorem nmX3 : ∀ a, a < 12 → ∀ b, b < 12 → a ≠ b → (TX3 a).2.1 ≠ (TX3 b).2.1 := by decide +kernel
theorem tyX3_ok : ∀ k, k < 12 → parseFieldDescriptor (TX3 k).2.2.1 = some (tyX3 k) := by decide +kernel
def RX4 : String := "PurseOfNineBowls$Ways"
def TX4 : u_T := fun k => match k with
  | 0 => ("PurseOfNineBowls$Ways", "ways", "[J", true)
  | _ => ("PurseOfNineBowls$Ways", "asked", "[I", true)
def tyX4 : Nat → FieldType := fun k => match k with
  | 0 => .array (.long)
  | _ => .array (.int)
theorem nmX4 : ∀ a, a < 2 → ∀ b, b < 2 → a ≠ b → (TX4 a).2.1 ≠ (TX4 b).2.1 := by decide +kernel
theorem tyX4_ok : ∀ k, k < 2 → parseFieldDescriptor (TX4 k).2.2.1 = some (tyX4 k) := by decide +kernel
def RX5 : String := "PurseOfNineBowls"
def TX5 : u_T := fun k => match k with
  | 0 => ("PurseOfNineBowls", "now", "LPurseOfNineBowls$Table;", true)
  | 1 => ("PurseOfNineBowls", "pictured", "LPurseOfNineBowls$Table;", true)
  | 2 => ("PurseOfNineBowls", "hasPicture", "Z", false)
  | 3 => ("PurseOfNineBowls", "trial", "LPurseOfNineBowls$Table;", true)
  | 4 => ("PurseOfNineBowls", "second", "LPurseOfNineBowls$Table;", true)
  | 5 => ("PurseOfNineBowls", "text", "LPurseOfNineBowls$Letters;", true)
  | 6 => ("PurseOfNineBowls", "ahead", "LPurseOfNineBowls$Ahead;", true)
  | 7 => ("PurseOfNineBowls", "emptying", "LPurseOfNineBowls$Emptying;", true)
  | 8 => ("PurseOfNineBowls", "ways", "LPurseOfNineBowls$Ways;", true)
  | 9 => ("PurseOfNineBowls", "told", "[I", true)
  | 10 => ("PurseOfNineBowls", "toldHeld", "I", false)
  | _ => ("PurseOfNineBowls", "refused", "[I", true)
def tyX5 : Nat → FieldType := fun k => match k with
  | 0 => .object "PurseOfNineBowls$Table"
  | 1 => .object "PurseOfNineBowls$Table"
  | 2 => .boolean
  | 3 => .object "PurseOfNineBowls$Table"
  | 4 => .object "PurseOfNineBowls$Table"
  | 5 => .object "PurseOfNineBowls$Letters"
  | 6 => .object "PurseOfNineBowls$Ahead"
  | 7 => .object "PurseOfNineBowls$Emptying"
  | 8 => .object "PurseOfNineBowls$Ways"
  | 9 => .array (.int)
  | 10 => .int
  | _ => .array (.int)
theorem nmX5 : ∀ a, a < 12 → ∀ b, b < 12 → a ≠ b → (TX5 a).2.1 ≠ (TX5 b).2.1 := by decide +kernel
theorem tyX5_ok : ∀ k, k < 12 → parseFieldDescriptor (TX5 k).2.2.1 = some (tyX5 k) := by decide +kernel
def RX6 : String := "PurseOfNineBowlsModel"
def TX6 : u_T := fun k => match k with
  | 0 => ("PurseOfNineBowlsModel", "thrown", "I", false)
  | 1 => ("PurseOfNineBowlsModel", "kinds", "[I", true)
  | 2 => ("PurseOfNineBowlsModel", "beans", "[I", true)
  | 3 => ("PurseOfNineBowlsModel", "bowlMany", "I", false)
  | 4 => ("PurseOfNineBowlsModel", "fullness", "I", false)
  | 5 => ("PurseOfNineBowlsModel", "lent", "I", false)
  | 6 => ("PurseOfNineBowlsModel", "purses", "[I", true)
  | 7 => ("PurseOfNineBowlsModel", "turn", "I", false)
  | 8 => ("PurseOfNineBowlsModel", "moveMany", "I", false)
  | 9 => ("PurseOfNineBowlsModel", "refused", "[I", true)
  | 10 => ("PurseOfNineBowlsModel", "letters", "[I", true)
  | 11 => ("PurseOfNineBowlsModel", "letterMany", "I", false)
  | 12 => ("PurseOfNineBowlsModel", "rowNow", "[I", true)
  | 13 => ("PurseOfNineBowlsModel", "rowMany", "I", false)
  | 14 => ("PurseOfNineBowlsModel", "handMany", "I", false)
  | 15 => ("PurseOfNineBowlsModel", "lastGot", "I", false)
  | 16 => ("PurseOfNineBowlsModel", "sownMany", "I", false)
  | 17 => ("PurseOfNineBowlsModel", "won", "I", false)
  | 18 => ("PurseOfNineBowlsModel", "isAside", "Z", false)
  | 19 => ("PurseOfNineBowlsModel", "frames", "[I", true)
  | 20 => ("PurseOfNineBowlsModel", "badAt", "I", false)
  | 21 => ("PurseOfNineBowlsModel", "kindsAside", "[I", true)
  | 22 => ("PurseOfNineBowlsModel", "found", "I", false)
  | 23 => ("PurseOfNineBowlsModel", "been", "[I", true)
  | 24 => ("PurseOfNineBowlsModel", "ways", "[J", true)
  | 25 => ("PurseOfNineBowlsModel", "waysThen", "[J", true)
  | 26 => ("PurseOfNineBowlsModel", "framesKept", "[I", true)
  | 27 => ("PurseOfNineBowlsModel", "kindsKept", "[I", true)
  | 28 => ("PurseOfNineBowlsModel", "manyKept", "I", false)
  | 29 => ("PurseOfNineBowlsModel", "fullKept", "I", false)
  | 30 => ("PurseOfNineBowlsModel", "lentKept", "I", false)
  | _ => ("PurseOfNineBowlsModel", "movesKept", "I", false)
def tyX6 : Nat → FieldType := fun k => match k with
  | 0 => .int
  | 1 => .array (.int)
  | 2 => .array (.int)
  | 3 => .int
  | 4 => .int
  | 5 => .int
  | 6 => .array (.int)
  | 7 => .int
  | 8 => .int
  | 9 => .array (.int)
  | 10 => .array (.int)
  | 11 => .int
  | 12 => .array (.int)
  | 13 => .int
  | 14 => .int
  | 15 => .int
  | 16 => .int
  | 17 => .int
  | 18 => .boolean
  | 19 => .array (.int)
  | 20 => .int
  | 21 => .array (.int)
  | 22 => .int
  | 23 => .array (.int)
  | 24 => .array (.long)
  | 25 => .array (.long)
  | 26 => .array (.int)
  | 27 => .array (.int)
  | 28 => .int
  | 29 => .int
  | 30 => .int
  | _ => .int
theorem nmX6 : ∀ a, a < 32 → ∀ b, b < 32 → a ≠ b → (TX6 a).2.1 ≠ (TX6 b).2.1 := by decide +kernel
theorem tyX6_ok : ∀ k, k < 32 → parseFieldDescriptor (TX6 k).2.2.1 = some (tyX6 k) := by decide +kernel
def RJ9 : String := "java/lang/Math"
def RJ10 : String := "java/lang/System"
def RJ7 : String := "java/util/Arrays"
def yX0_init : MethodName := ⟨RX0, "<init>", "()V"⟩
def yX0_gainFor : MethodName := ⟨RX0, "gainFor", "(LPurseOfNineBowls$Table;I)I"⟩
def yX0_bowlFor : MethodName := ⟨RX0, "bowlFor", "(LPurseOfNineBowls$Table;I)I"⟩
def yX0_gainOf : MethodName := ⟨RX0, "gainOf", "([LPurseOfNineBowls$Table;[IIIII)I"⟩
def yX1_init : MethodName := ⟨RX1, "<init>", "()V"⟩
def yX1_seek : MethodName := ⟨RX1, "seek", "(LPurseOfNineBowls$Table;I)V"⟩
def yX1_goOnFrom : MethodName := ⟨RX1, "goOnFrom", "(III)V"⟩
def yX1_keep : MethodName := ⟨RX1, "keep", "(JI)V"⟩
def yX2_init : MethodName := ⟨RX2, "<init>", "()V"⟩
def yX2_add : MethodName := ⟨RX2, "add", "(I)Z"⟩
def yX2_clear : MethodName := ⟨RX2, "clear", "()V"⟩
def yX2_playOn : MethodName := ⟨RX2, "playOn", "(LPurseOfNineBowls$Table;)I"⟩
def yX2_stuckAt : MethodName := ⟨RX2, "stuckAt", "()I"⟩
def yX2_stuckIn : MethodName := ⟨RX2, "stuckIn", "(I)I"⟩
def yX2_letterAt : MethodName := ⟨RX2, "letterAt", "(I)I"⟩
def yX2_digitAt : MethodName := ⟨RX2, "digitAt", "(I)I"⟩
def yX2_digitsFrom : MethodName := ⟨RX2, "digitsFrom", "(II)I"⟩
def yX2_behindStatement : MethodName := ⟨RX2, "behindStatement", "(I)I"⟩
def yX2_mostDigits : MethodName := ⟨RX2, "mostDigits", "(I)I"⟩
def yX2_leastDigits : MethodName := ⟨RX2, "leastDigits", "(I)I"⟩
def yX2_kindFor : MethodName := ⟨RX2, "kindFor", "(I)I"⟩
def yX2_apply : MethodName := ⟨RX2, "apply", "(ILPurseOfNineBowls$Table;)Z"⟩
def yX2_addBowl : MethodName := ⟨RX2, "addBowl", "(ILPurseOfNineBowls$Table;)Z"⟩
def yX2_makeMoves : MethodName := ⟨RX2, "makeMoves", "(ILPurseOfNineBowls$Table;)Z"⟩
def yX3_init : MethodName := ⟨RX3, "<init>", "()V"⟩
def yX3_copyFrom : MethodName := ⟨RX3, "copyFrom", "(LPurseOfNineBowls$Table;)V"⟩
def yX3_has : MethodName := ⟨RX3, "has", "(I)Z"⟩
def yX3_addBowl : MethodName := ⟨RX3, "addBowl", "(II)Z"⟩
def yX3_kindOf : MethodName := ⟨RX3, "kindOf", "(I)I"⟩
def yX3_beansOf : MethodName := ⟨RX3, "beansOf", "(I)I"⟩
def yX3_purseOf : MethodName := ⟨RX3, "purseOf", "(I)I"⟩
def yX3_lay : MethodName := ⟨RX3, "lay", "(II)V"⟩
def yX3_swapBeans : MethodName := ⟨RX3, "swapBeans", "(II)V"⟩
def yX3_allBeans : MethodName := ⟨RX3, "allBeans", "()I"⟩
def yX3_sameBeans : MethodName := ⟨RX3, "sameBeans", "(LPurseOfNineBowls$Table;)Z"⟩
def yX3_soundsFrom : MethodName := ⟨RX3, "soundsFrom", "(I)I"⟩
def yX3_isFull : MethodName := ⟨RX3, "isFull", "(I)Z"⟩
def yX3_takes : MethodName := ⟨RX3, "takes", "(I)Z"⟩
def yX3_canMove : MethodName := ⟨RX3, "canMove", "(I)Z"⟩
def yX3_makeMove : MethodName := ⟨RX3, "makeMove", "(I)V"⟩
def yX3_sowHand : MethodName := ⟨RX3, "sowHand", "(I)Z"⟩
def yX3_rightOrLeftOf : MethodName := ⟨RX3, "rightOrLeftOf", "(I)I"⟩
def yX3_takeSingle : MethodName := ⟨RX3, "takeSingle", "()Z"⟩
def yX3_beansInOne : MethodName := ⟨RX3, "beansInOne", "()J"⟩
def yX3_layFrom : MethodName := ⟨RX3, "layFrom", "(J)V"⟩
def yX4_init : MethodName := ⟨RX4, "<init>", "()V"⟩
def yX4_toLay : MethodName := ⟨RX4, "toLay", "(LPurseOfNineBowls$Table;[II)J"⟩
def yX4_layOneMore : MethodName := ⟨RX4, "layOneMore", "(II)V"⟩
def yX4_bowlToAsk : MethodName := ⟨RX4, "bowlToAsk", "(LPurseOfNineBowls$Table;[II)I"⟩
def yX5_init : MethodName := ⟨RX5, "<init>", "()V"⟩
def yX5_letter : MethodName := ⟨RX5, "letter", "(I)I"⟩
def yX5_game : MethodName := ⟨RX5, "game", "()I"⟩
def yX5_bowl : MethodName := ⟨RX5, "bowl", "(II)I"⟩
def yX5_put : MethodName := ⟨RX5, "put", "(II)I"⟩
def yX5_set : MethodName := ⟨RX5, "set", "(II)I"⟩
def yX5_move : MethodName := ⟨RX5, "move", "(I)I"⟩
def yX5_by : MethodName := ⟨RX5, "by", "(II)I"⟩
def yX5_behind : MethodName := ⟨RX5, "behind", "(II)I"⟩
def yX5_empties : MethodName := ⟨RX5, "empties", "(I)I"⟩
def yX5_longest : MethodName := ⟨RX5, "longest", "()I"⟩
def yX5_best : MethodName := ⟨RX5, "best", "(I)I"⟩
def yX5_worth : MethodName := ⟨RX5, "worth", "(I)I"⟩
def yX5_lost : MethodName := ⟨RX5, "lost", "()I"⟩
def yX5_back : MethodName := ⟨RX5, "back", "(I)I"⟩
def yX5_loop : MethodName := ⟨RX5, "loop", "(II)I"⟩
def yX5_toEmpty : MethodName := ⟨RX5, "toEmpty", "(II)I"⟩
def yX5_price : MethodName := ⟨RX5, "price", "(I)I"⟩
def yX5_sold : MethodName := ⟨RX5, "sold", "(I)I"⟩
def yX5_change : MethodName := ⟨RX5, "change", "()I"⟩
def yX5_fair : MethodName := ⟨RX5, "fair", "()I"⟩
def yX5_sounds : MethodName := ⟨RX5, "sounds", "(I)I"⟩
def yX5_next : MethodName := ⟨RX5, "next", "(I)I"⟩
def yX5_played : MethodName := ⟨RX5, "played", "(I)I"⟩
def yX5_row : MethodName := ⟨RX5, "row", "(I)I"⟩
def yX5_judge : MethodName := ⟨RX5, "judge", "()I"⟩
def yX5_lots : MethodName := ⟨RX5, "lots", "(II)I"⟩
def yX5_image : MethodName := ⟨RX5, "image", "()I"⟩
def yX5_on : MethodName := ⟨RX5, "on", "()I"⟩
def yX5_count : MethodName := ⟨RX5, "count", "(I)I"⟩
def yX5_refuse : MethodName := ⟨RX5, "refuse", "(I)I"⟩
def yX5_refuseFar : MethodName := ⟨RX5, "refuseFar", "(I)I"⟩
def yX5_tryMove : MethodName := ⟨RX5, "tryMove", "(I)Z"⟩
def yX5_roundOf : MethodName := ⟨RX5, "roundOf", "(I)I"⟩
def yX5_entryOf : MethodName := ⟨RX5, "entryOf", "(II)I"⟩
def yX5_worthChange : MethodName := ⟨RX5, "worthChange", "(II)I"⟩
def yX5_refusalToLay : MethodName := ⟨RX5, "refusalToLay", "(I)I"⟩
def yX5_playRow : MethodName := ⟨RX5, "playRow", "()I"⟩
def yX5_playLot : MethodName := ⟨RX5, "playLot", "(I)I"⟩
def yX6_in : MethodName := ⟨RX6, "in", "(JJJ)Z"⟩
def yX6_init : MethodName := ⟨RX6, "<init>", "()V"⟩
def yX6_refuse : MethodName := ⟨RX6, "refuse", "(I)I"⟩
def yX6_isBowl : MethodName := ⟨RX6, "isBowl", "(I)Z"⟩
def yX6_soundsFrom : MethodName := ⟨RX6, "soundsFrom", "(I)I"⟩
def yX6_takes : MethodName := ⟨RX6, "takes", "(I)Z"⟩
def yX6_beside : MethodName := ⟨RX6, "beside", "(I)I"⟩
def yX6_sowsHand : MethodName := ⟨RX6, "sowsHand", "(I)I"⟩
def yX6_sows : MethodName := ⟨RX6, "sows", "(I)V"⟩
def yX6_canMove : MethodName := ⟨RX6, "canMove", "(I)Z"⟩
def yX6_moves : MethodName := ⟨RX6, "moves", "(I)V"⟩
def yX6_keeps : MethodName := ⟨RX6, "keeps", "(I)V"⟩
def yX6_lays : MethodName := ⟨RX6, "lays", "(I)V"⟩
def yX6_letter : MethodName := ⟨RX6, "letter", "(I)I"⟩
def yX6_letterAt : MethodName := ⟨RX6, "letterAt", "(I)I"⟩
def yX6_isDigit : MethodName := ⟨RX6, "isDigit", "(I)Z"⟩
def yX6_kindOf : MethodName := ⟨RX6, "kindOf", "(I)I"⟩
def yX6_digitsFrom : MethodName := ⟨RX6, "digitsFrom", "(II)I"⟩
def yX6_passes : MethodName := ⟨RX6, "passes", "(I)I"⟩
def yX6_digit : MethodName := ⟨RX6, "digit", "(I)I"⟩
def yX6_doesSowings : MethodName := ⟨RX6, "doesSowings", "(I)Z"⟩
def yX6_does : MethodName := ⟨RX6, "does", "(I)Z"⟩
def yX6_exchanges : MethodName := ⟨RX6, "exchanges", "(II)V"⟩
def yX6_game : MethodName := ⟨RX6, "game", "()I"⟩
def yX6_bowl : MethodName := ⟨RX6, "bowl", "(II)I"⟩
def yX6_put : MethodName := ⟨RX6, "put", "(II)I"⟩
def yX6_set : MethodName := ⟨RX6, "set", "(II)I"⟩
def yX6_move : MethodName := ⟨RX6, "move", "(I)I"⟩
def yX6_all : MethodName := ⟨RX6, "all", "()I"⟩
def yX6_by : MethodName := ⟨RX6, "by", "(II)I"⟩
def yX6_behind : MethodName := ⟨RX6, "behind", "(II)I"⟩
def yX6_empties : MethodName := ⟨RX6, "empties", "(I)I"⟩
def yX6_longest : MethodName := ⟨RX6, "longest", "()I"⟩
def yX6_seeks : MethodName := ⟨RX6, "seeks", "(II)I"⟩
def yX6_best : MethodName := ⟨RX6, "best", "(I)I"⟩
def yX6_worthOf : MethodName := ⟨RX6, "worthOf", "(I)I"⟩
def yX6_told : MethodName := ⟨RX6, "told", "(I)I"⟩
def yX6_worth : MethodName := ⟨RX6, "worth", "(I)I"⟩
def yX6_lost : MethodName := ⟨RX6, "lost", "()I"⟩
def yX6_records : MethodName := ⟨RX6, "records", "(I)V"⟩
def yX6_isLike : MethodName := ⟨RX6, "isLike", "(II)Z"⟩
def yX6_records200 : MethodName := ⟨RX6, "records200", "(I)I"⟩
def yX6_back : MethodName := ⟨RX6, "back", "(I)I"⟩
def yX6_loop : MethodName := ⟨RX6, "loop", "(II)I"⟩
def yX6_isEmptied : MethodName := ⟨RX6, "isEmptied", "(III)Z"⟩
def yX6_toEmpty : MethodName := ⟨RX6, "toEmpty", "(II)I"⟩
def yX6_worthBy : MethodName := ⟨RX6, "worthBy", "(II)I"⟩
def yX6_price : MethodName := ⟨RX6, "price", "(I)I"⟩
def yX6_sold : MethodName := ⟨RX6, "sold", "(I)I"⟩
def yX6_change : MethodName := ⟨RX6, "change", "()I"⟩
def yX6_fair : MethodName := ⟨RX6, "fair", "()I"⟩
def yX6_isRow : MethodName := ⟨RX6, "isRow", "()Z"⟩
def yX6_waysOf : MethodName := ⟨RX6, "waysOf", "(I)I"⟩
def yX6_sounds : MethodName := ⟨RX6, "sounds", "(I)I"⟩
def yX6_next : MethodName := ⟨RX6, "next", "(I)I"⟩
def yX6_row : MethodName := ⟨RX6, "row", "(I)I"⟩
def yX6_plays : MethodName := ⟨RX6, "plays", "()I"⟩
def yX6_played : MethodName := ⟨RX6, "played", "(I)I"⟩
def yX6_judge : MethodName := ⟨RX6, "judge", "()I"⟩
def yX6_lots : MethodName := ⟨RX6, "lots", "(II)I"⟩
def yX6_image : MethodName := ⟨RX6, "image", "()I"⟩
def yX6_on : MethodName := ⟨RX6, "on", "()I"⟩
def yX6_count : MethodName := ⟨RX6, "count", "(I)I"⟩
def yJ9_max_7cf53 : MethodName := ⟨RJ9, "max", "(II)I"⟩
def yJ9_min_7cf53 : MethodName := ⟨RJ9, "min", "(II)I"⟩
def yJ9_min_f86c9 : MethodName := ⟨RJ9, "min", "(JJ)J"⟩
def yJ7_fill_d0a16 : MethodName := ⟨RJ7, "fill", "([JJ)V"⟩
def yJ7_fill_53178 : MethodName := ⟨RJ7, "fill", "([II)V"⟩
def yL_law : MethodName := ⟨"PurseOfNineBowlsLaw", "law", "([I)Z"⟩
def x_cl : List vw_C := [(RX0, TX0, 2), (RX1, TX1, 8), (RX2, TX2, 2), (RX3, TX3, 12), (RX4, TX4, 2), (RX5, TX5, 12), (RX6, TX6, 32)]
/-- the types of the fields, by the number of their class -/
def x_ty (ci : Nat) : Nat → FieldType := match ci with
  | 0 => tyX0
  | 1 => tyX1
  | 2 => tyX2
  | 3 => tyX3
  | 4 => tyX4
  | 5 => tyX5
  | _ => tyX6
theorem x_ty_ok : ∀ (ci : Nat) (r : vw_C), x_cl[ci]? = some r → (∀ k, k < r.2.2 → parseFieldDescriptor (r.2.1 k).2.2.1 = some (x_ty ci k)) ∧ (∀ a, a < r.2.2 → ∀ b, b < r.2.2 → a ≠ b → (r.2.1 a).2.1 ≠ (r.2.1 b).2.1) := by
  intro ci r h
  match ci, h with
  | 0, h => cases h; exact ⟨tyX0_ok, nmX0⟩
  | 1, h => cases h; exact ⟨tyX1_ok, nmX1⟩
  | 2, h => cases h; exact ⟨tyX2_ok, nmX2⟩
  | 3, h => cases h; exact ⟨tyX3_ok, nmX3⟩
  | 4, h => cases h; exact ⟨tyX4_ok, nmX4⟩
  | 5, h => cases h; exact ⟨tyX5_ok, nmX5⟩
  | 6, h => cases h; exact ⟨tyX6_ok, nmX6⟩
  | n + 7, h => simp [x_cl] at h
def x_nw : List Cond := [.methodLinkNest "PurseOfNineBowls" (9) ({ cls := "PurseOfNineBowls$Table", name := "<init>", desc := "()V" }) "PurseOfNineBowls", .fieldLinkNest "PurseOfNineBowls$Ways" (25) "PurseOfNineBowls$Table" "held" "I" "PurseOfNineBowls", .fieldLinkNest "PurseOfNineBowls$Emptying" (72) "PurseOfNineBowls$Table" "held" "I" "PurseOfNineBowls", .fieldLinkNest "PurseOfNineBowls$Ahead" (40) "PurseOfNineBowls$Table" "held" "I" "PurseOfNineBowls", .fieldLinkNest "PurseOfNineBowls" (147) "PurseOfNineBowls$Table" "held" "I" "PurseOfNineBowls", .fieldLinkNest "PurseOfNineBowls" (109) "PurseOfNineBowls$Table" "fullness" "I" "PurseOfNineBowls", .fieldLinkNest "PurseOfNineBowls$Letters" (56) "PurseOfNineBowls$Table" "fullness" "I" "PurseOfNineBowls", .fieldLinkNest "PurseOfNineBowls" (112) "PurseOfNineBowls$Table" "lent" "I" "PurseOfNineBowls", .fieldLinkNest "PurseOfNineBowls$Letters" (61) "PurseOfNineBowls$Table" "lent" "I" "PurseOfNineBowls", .fieldLinkNest "PurseOfNineBowls" (115) "PurseOfNineBowls$Table" "turn" "I" "PurseOfNineBowls", .fieldLinkNest "PurseOfNineBowls$Letters" (64) "PurseOfNineBowls$Table" "turn" "I" "PurseOfNineBowls", .fieldLinkNest "PurseOfNineBowls" (121) "PurseOfNineBowls$Table" "moves" "I" "PurseOfNineBowls", .fieldLinkNest "PurseOfNineBowls$Letters" (84) "PurseOfNineBowls$Table" "moves" "I" "PurseOfNineBowls", .fieldLinkNest "PurseOfNineBowls" (134) "PurseOfNineBowls$Table" "hands" "I" "PurseOfNineBowls", .fieldLinkNest "PurseOfNineBowls" (137) "PurseOfNineBowls$Table" "last" "I" "PurseOfNineBowls", .fieldLinkNest "PurseOfNineBowls" (140) "PurseOfNineBowls$Table" "sown" "I" "PurseOfNineBowls", .fieldLinkNest "PurseOfNineBowls$Ahead" (52) "PurseOfNineBowls$Table" "taken" "I" "PurseOfNineBowls", .fieldLinkNest "PurseOfNineBowls" (128) "PurseOfNineBowls$Table" "taken" "I" "PurseOfNineBowls", .methodLinkNest "PurseOfNineBowls" (31) ({ cls := "PurseOfNineBowls$Letters", name := "<init>", desc := "()V" }) "PurseOfNineBowls", .fieldLinkNest "PurseOfNineBowls" (76) "PurseOfNineBowls$Letters" "held" "I" "PurseOfNineBowls", .methodLinkNest "PurseOfNineBowls$Ahead" (21) ({ cls := "PurseOfNineBowls$Table", name := "<init>", desc := "()V" }) "PurseOfNineBowls", .methodLinkNest "PurseOfNineBowls" (45) ({ cls := "PurseOfNineBowls$Emptying", name := "<init>", desc := "()V" }) "PurseOfNineBowls", .methodLinkNest "PurseOfNineBowls$Emptying" (24) ({ cls := "PurseOfNineBowls$Table", name := "<init>", desc := "()V" }) "PurseOfNineBowls", .fieldLinkNest "PurseOfNineBowls" (173) "PurseOfNineBowls$Emptying" "moves" "I" "PurseOfNineBowls", .fieldLinkNest "PurseOfNineBowls" (174) "PurseOfNineBowls$Emptying" "first" "I" "PurseOfNineBowls", .methodLinkNest "PurseOfNineBowls" (52) ({ cls := "PurseOfNineBowls$Ways", name := "<init>", desc := "()V" }) "PurseOfNineBowls"]
theorem x_nw_in : ∀ w ∈ x_nw, w ∈ lw_tbl := by
  have h : x_nw = [75, 83, 84, 85, 86, 88, 89, 91, 92, 94, 95, 97, 98, 100, 102, 104, 106, 107, 136, 142, 156, 166, 171, 179, 181, 202].filterMap (fun i => lw_tbl[i]?) := by decide +kernel
  intro w hw
  rw [h] at hw
  obtain ⟨i, -, hi⟩ := List.mem_filterMap.mp hw
  exact List.mem_of_getElem? hi
/-- the words that a contract may carry -/
def x_tb : List Cond := lw_tbl.filter goodWord
theorem x_tb_in {w : Cond} (h : w ∈ lw_tbl) (g : goodWord w = true) : w ∈ x_tb := List.mem_filter.mpr ⟨h, g⟩
theorem x_tb_good : ∀ w ∈ x_tb, ((w.onTables && w.keeps) = true ∨ ∃ ty, w = .arrayClass ty) := fun w h => good_of_word (List.mem_filter.mp h).2
theorem wsX0_in : ∀ w ∈ u_ws RX0 TX0 2, w ∈ x_tb := by
  have h : u_ws RX0 TX0 2 = [159, 161].filterMap (fun i => lw_tbl[i]?) := by decide +kernel
  have g : (u_ws RX0 TX0 2).all goodWord = true := by decide +kernel
  intro w hw
  have g1 := List.all_eq_true.mp g w hw
  rw [h] at hw
  obtain ⟨i, -, hi⟩ := List.mem_filterMap.mp hw
  exact x_tb_in (List.mem_of_getElem? hi) g1
theorem wsX1_in : ∀ w ∈ u_ws RX1 TX1 8, w ∈ x_tb := by
  have h : u_ws RX1 TX1 8 = [182, 184, 186, 188, 190, 192, 194, 196].filterMap (fun i => lw_tbl[i]?) := by decide +kernel
  have g : (u_ws RX1 TX1 8).all goodWord = true := by decide +kernel
  intro w hw
  have g1 := List.all_eq_true.mp g w hw
  rw [h] at hw
  obtain ⟨i, -, hi⟩ := List.mem_filterMap.mp hw
  exact x_tb_in (List.mem_of_getElem? hi) g1
theorem wsX2_in : ∀ w ∈ u_ws RX2 TX2 2, w ∈ x_tb := by
  have h : u_ws RX2 TX2 2 = [143, 145].filterMap (fun i => lw_tbl[i]?) := by decide +kernel
  have g : (u_ws RX2 TX2 2).all goodWord = true := by decide +kernel
  intro w hw
  have g1 := List.all_eq_true.mp g w hw
  rw [h] at hw
  obtain ⟨i, -, hi⟩ := List.mem_filterMap.mp hw
  exact x_tb_in (List.mem_of_getElem? hi) g1
theorem wsX3_in : ∀ w ∈ u_ws RX3 TX3 12, w ∈ x_tb := by
  have h : u_ws RX3 TX3 12 = [108, 110, 112, 114, 116, 118, 120, 122, 124, 126, 128, 130].filterMap (fun i => lw_tbl[i]?) := by decide +kernel
  have g : (u_ws RX3 TX3 12).all goodWord = true := by decide +kernel
  intro w hw
  have g1 := List.all_eq_true.mp g w hw
  rw [h] at hw
  obtain ⟨i, -, hi⟩ := List.mem_filterMap.mp hw
  exact x_tb_in (List.mem_of_getElem? hi) g1
theorem wsX4_in : ∀ w ∈ u_ws RX4 TX4 2, w ∈ x_tb := by
  have h : u_ws RX4 TX4 2 = [208, 210].filterMap (fun i => lw_tbl[i]?) := by decide +kernel
  have g : (u_ws RX4 TX4 2).all goodWord = true := by decide +kernel
  intro w hw
  have g1 := List.all_eq_true.mp g w hw
  rw [h] at hw
  obtain ⟨i, -, hi⟩ := List.mem_filterMap.mp hw
  exact x_tb_in (List.mem_of_getElem? hi) g1
theorem wsX5_in : ∀ w ∈ u_ws RX5 TX5 12, w ∈ x_tb := by
  have h : u_ws RX5 TX5 12 = [225, 227, 229, 231, 233, 235, 237, 239, 241, 243, 245, 247].filterMap (fun i => lw_tbl[i]?) := by decide +kernel
  have g : (u_ws RX5 TX5 12).all goodWord = true := by decide +kernel
  intro w hw
  have g1 := List.all_eq_true.mp g w hw
  rw [h] at hw
  obtain ⟨i, -, hi⟩ := List.mem_filterMap.mp hw
  exact x_tb_in (List.mem_of_getElem? hi) g1
theorem wsX6_in : ∀ w ∈ u_ws RX6 TX6 32, w ∈ x_tb := by
  have h : u_ws RX6 TX6 32 = [661, 663, 665, 667, 669, 671, 673, 675, 677, 679, 681, 683, 685, 687, 689, 691, 693, 695, 697, 699, 701, 703, 705, 707, 709, 711, 713, 715, 717, 719, 721, 723].filterMap (fun i => lw_tbl[i]?) := by decide +kernel
  have g : (u_ws RX6 TX6 32).all goodWord = true := by decide +kernel
  intro w hw
  have g1 := List.all_eq_true.mp g w hw
  rw [h] at hw
  obtain ⟨i, -, hi⟩ := List.mem_filterMap.mp hw
  exact x_tb_in (List.mem_of_getElem? hi) g1
theorem x_ws_in : ∀ (ci : Nat) (r : vw_C), x_cl[ci]? = some r → ∀ w ∈ u_ws r.1 r.2.1 r.2.2, w ∈ x_tb := by
  intro ci r h
  match ci, h with
  | 0, h => cases h; exact wsX0_in
  | 1, h => cases h; exact wsX1_in
  | 2, h => cases h; exact wsX2_in
  | 3, h => cases h; exact wsX3_in
  | 4, h => cases h; exact wsX4_in
  | 5, h => cases h; exact wsX5_in
  | 6, h => cases h; exact wsX6_in
  | n + 7, h => simp [x_cl] at h
theorem insX0 : Cond.instantiable RX0 2 ∈ x_tb := x_tb_in (List.mem_of_getElem? (i := 149) (by decide +kernel)) rfl
theorem iniX0 : Cond.initialized RX0 ∈ x_tb := x_tb_in (List.mem_of_getElem? (i := 58) (by decide +kernel)) rfl
theorem insX1 : Cond.instantiable RX1 8 ∈ x_tb := x_tb_in (List.mem_of_getElem? (i := 165) (by decide +kernel)) rfl
theorem iniX1 : Cond.initialized RX1 ∈ x_tb := x_tb_in (List.mem_of_getElem? (i := 59) (by decide +kernel)) rfl
theorem insX2 : Cond.instantiable RX2 2 ∈ x_tb := x_tb_in (List.mem_of_getElem? (i := 135) (by decide +kernel)) rfl
theorem iniX2 : Cond.initialized RX2 ∈ x_tb := x_tb_in (List.mem_of_getElem? (i := 57) (by decide +kernel)) rfl
theorem insX3 : Cond.instantiable RX3 12 ∈ x_tb := x_tb_in (List.mem_of_getElem? (i := 74) (by decide +kernel)) rfl
theorem iniX3 : Cond.initialized RX3 ∈ x_tb := x_tb_in (List.mem_of_getElem? (i := 56) (by decide +kernel)) rfl
theorem insX4 : Cond.instantiable RX4 2 ∈ x_tb := x_tb_in (List.mem_of_getElem? (i := 201) (by decide +kernel)) rfl
theorem iniX4 : Cond.initialized RX4 ∈ x_tb := x_tb_in (List.mem_of_getElem? (i := 60) (by decide +kernel)) rfl
theorem insX5 : Cond.instantiable RX5 12 ∈ x_tb := x_tb_in (List.mem_of_getElem? (i := 66) (by decide +kernel)) rfl
theorem iniX5 : Cond.initialized RX5 ∈ x_tb := x_tb_in (List.mem_of_getElem? (i := 55) (by decide +kernel)) rfl
theorem insX6 : Cond.instantiable RX6 32 ∈ x_tb := x_tb_in (List.mem_of_getElem? (i := 625) (by decide +kernel)) rfl
theorem iniX6 : Cond.initialized RX6 ∈ x_tb := x_tb_in (List.mem_of_getElem? (i := 61) (by decide +kernel)) rfl
theorem x_ini : ∀ (ci : Nat) (r : vw_C), x_cl[ci]? = some r → Cond.initialized r.1 ∈ x_tb ∧ Cond.instantiable r.1 r.2.2 ∈ x_tb := by
  intro ci r h
  match ci, h with
  | 0, h => cases h; exact ⟨iniX0, insX0⟩
  | 1, h => cases h; exact ⟨iniX1, insX1⟩
  | 2, h => cases h; exact ⟨iniX2, insX2⟩
  | 3, h => cases h; exact ⟨iniX3, insX3⟩
  | 4, h => cases h; exact ⟨iniX4, insX4⟩
  | 5, h => cases h; exact ⟨iniX5, insX5⟩
  | 6, h => cases h; exact ⟨iniX6, insX6⟩
  | n + 7, h => simp [x_cl] at h
theorem iniJ9 : Cond.initialized RJ9 ∈ x_tb := x_tb_in (List.mem_of_getElem? (i := 63) (by decide +kernel)) rfl
theorem iniJ10 : Cond.initialized RJ10 ∈ x_tb := x_tb_in (List.mem_of_getElem? (i := 62) (by decide +kernel)) rfl
theorem iniJ7 : Cond.initialized RJ7 ∈ x_tb := x_tb_in (List.mem_of_getElem? (i := 64) (by decide +kernel)) rfl
theorem x_acI : Cond.arrayClass .int ∈ x_tb := x_tb_in (List.mem_of_getElem? (i := 133) (by decide +kernel)) rfl
theorem x_acJ : Cond.arrayClass .long ∈ x_tb := x_tb_in (List.mem_of_getElem? (i := 199) (by decide +kernel)) rfl
theorem x_aoT : Cond.arrayOver (.object RX3) ∈ lw_tbl := List.mem_of_getElem? (i := 155) (by decide +kernel)
theorem x_obC : Cond.code objectInit ⟨#[0xb1]⟩ 1 none ∈ x_tb := x_tb_in (List.mem_of_getElem? (i := 72) (by decide +kernel)) rfl
theorem x_obI : Cond.instanceMethod objectInit ∈ x_tb := x_tb_in (List.mem_of_getElem? (i := 71) (by decide +kernel)) rfl
theorem x_cpN : Cond.native arraycopyName ∈ x_tb := x_tb_in (List.mem_of_getElem? (i := 272) (by decide +kernel)) rfl
theorem x_cpS : Cond.static arraycopyName ∈ x_tb := x_tb_in (List.mem_of_getElem? (i := 271) (by decide +kernel)) rfl
end
section
/-! A method's walk over an abstract heap: cells by number, addresses counted from a base. -/
abbrev x_C : Type := vp_A ⊕ (Nat × List Value)
abbrev x_H : Type := Nat → x_C
/-- links of fields (pool entry; number of the type, field, by a nest mate), int and long constants, made types, of one pool -/
abbrev x_I : Type := String × List (Nat × (Nat × Nat × Bool)) × List (Nat × Int32) × List (Nat × Int64) × List (Nat × Nat)
/-- a method: name, bytes, places for variables, answer's type, decoded bytes by sixteens, its pool -/
abbrev x_M : Type := MethodName × ByteArray × Nat × Option FieldType × List (List (Nat × Instr × Nat)) × x_I
def x_lk {α : Type} : List (Nat × α) → Nat → Option α
  | [], _ => none
  | q :: t, n => cond (Nat.beq q.1 n) (some q.2) (x_lk t n)
theorem x_lk_mem {α : Type} : ∀ (l : List (Nat × α)) (n : Nat) (a : α), x_lk l n = some a → (n, a) ∈ l
  | [], _, _, h => by cases h
  | q :: t, n, a, h => by
    unfold x_lk at h
    cases hb : Nat.beq q.1 n with
    | true =>
      rw [hb] at h
      have h1 : q.1 = n := Nat.eq_of_beq_eq_true hb
      have h2 : q.2 = a := Option.some.inj h
      subst h1; subst h2
      exact List.mem_cons_self
    | false =>
      rw [hb] at h
      exact List.mem_cons_of_mem _ (x_lk_mem t n a h)
def x_at (me : x_M) (pc : Nat) : Option (Instr × Nat) := x_lk (me.2.2.2.2.1.getD (pc / 16) []) pc
/-- what is decided of a method's table -/
def x_dec (me : x_M) : Prop := ∀ ch ∈ me.2.2.2.2.1, ∀ e ∈ ch, decode me.2.1 e.1 = .ok e.2
theorem x_dec_at {me : x_M} (h : x_dec me) {pc : Nat} {i : Instr} {n : Nat} (hc : x_at me pc = some (i, n)) : decode me.2.1 pc = .ok (i, n) := by
  unfold x_at at hc
  have h1 := x_lk_mem _ _ _ hc
  by_cases hl : pc / 16 < me.2.2.2.2.1.length
  · have h2 : me.2.2.2.2.1.getD (pc / 16) [] = me.2.2.2.2.1[pc / 16] := by simp [List.getD, hl]
    rw [h2] at h1
    have h3 := h _ (List.getElem_mem hl) (pc, i, n) h1
    dsimp only at h3
    exact h3
  · have h2 : me.2.2.2.2.1.getD (pc / 16) [] = [] := by simp [List.getD, Nat.not_lt.mp hl]
    rw [h2] at h1
    cases h1
/-- what is decided of a pool -/
def x_okI (I : x_I) : Prop :=
  (∀ e ∈ I.2.1, ∃ r : vw_C, x_cl[e.2.1]? = some r ∧ e.2.2.1 < r.2.2 ∧ (e.2.2.2 = false → Cond.fieldLink I.1 e.1 (r.2.1 e.2.2.1).1 (r.2.1 e.2.2.1).2.1 (r.2.1 e.2.2.1).2.2.1 ∈ x_tb) ∧ (e.2.2.2 = true → Cond.fieldLinkNest I.1 e.1 (r.2.1 e.2.2.1).1 (r.2.1 e.2.2.1).2.1 (r.2.1 e.2.2.1).2.2.1 RX5 ∈ x_nw)) ∧
  (∀ e ∈ I.2.2.1, Cond.constant I.1 e.1 e.2 ∈ x_tb) ∧ (∀ e ∈ I.2.2.2.1, Cond.constantLong I.1 e.1 e.2 ∈ x_tb) ∧ (∀ e ∈ I.2.2.2.2, ∃ r : vw_C, x_cl[e.2]? = some r ∧ Cond.classLink I.1 e.1 r.1 ∈ x_tb)
/-- the launch, the numbers of the types, the numbers of the array types, the base, the script's address, length, values -/
abbrev x_E : Type := Launch × va_G × (Nat → ClassId) × Nat × Nat
def x_sh (E : x_E) (v : Value) : Value := match v with
  | .ref k => .ref (E.2.2.2.1 + k)
  | .retAddr _ => .ref E.2.2.2.2
  | v => v
theorem x_sh_cat (E : x_E) (v : Value) : (x_sh E v).category = v.category := by cases v <;> rfl
def x_shA (E : x_E) (a : vp_A) : vp_A := match a with
  | (n, .inr (.inr (.inr (.inr f)))) => (n, .inr (.inr (.inr (.inr (fun j => (f j).map (fun k => E.2.2.2.1 + k))))))
  | a => a
def x_kd (a : vp_A) : Nat := match a.2 with
  | .inl _ => 0
  | .inr (.inl _) => 1
  | _ => 2
def x_ce (E : x_E) (c : x_C) : va_E := match c with
  | .inl a => .inl (E.2.2.1 (x_kd a), x_shA E a)
  | .inr o => .inr (o.1, o.2.map (x_sh E))
def x_w (E : x_E) (z : Nat) (f : x_H) : va_W := (List.range z).map (fun k => (E.2.2.2.1 + k, x_ce E (f k)))
def x_up (f : x_H) (k : Nat) (c : x_C) : x_H := fun j => if j = k then c else f j
theorem x_up_s (f : x_H) (k : Nat) (c : x_C) : x_up f k c k = c := by simp [x_up]
theorem x_up_n (f : x_H) {k j : Nat} (c : x_C) (h : j ≠ k) : x_up f k c j = f j := by simp [x_up, h]
theorem x_w_at {E : x_E} {z : Nat} {f : x_H} {k : Nat} (h : k < z) : (x_w E z f)[k]? = some (E.2.2.2.1 + k, x_ce E (f k)) := by
  simp [x_w, h]
theorem x_w_len (E : x_E) (z : Nat) (f : x_H) : (x_w E z f).length = z := by simp [x_w]
theorem x_w_set {E : x_E} {z : Nat} {f : x_H} {k : Nat} (c : x_C) : (x_w E z f).set k (E.2.2.2.1 + k, x_ce E c) = x_w E z (x_up f k c) := by
  apply List.ext_getElem?
  intro j
  rw [List.getElem?_set]
  by_cases hj : k = j
  · subst hj
    by_cases hz : k < z
    · rw [if_pos rfl, if_pos (by rw [x_w_len]; exact hz), x_w_at hz, x_up_s]
    · rw [if_pos rfl, if_neg (by rw [x_w_len]; exact hz)]
      rw [List.getElem?_eq_none (by rw [x_w_len]; omega)]
  · rw [if_neg hj]
    by_cases hz : j < z
    · rw [x_w_at hz, x_w_at hz, x_up_n f c (Ne.symm hj)]
    · rw [List.getElem?_eq_none (by rw [x_w_len]; omega), List.getElem?_eq_none (by rw [x_w_len]; omega)]
theorem x_w_push {E : x_E} {z : Nat} {f : x_H} (c : x_C) : x_w E z f ++ [(E.2.2.2.1 + z, x_ce E c)] = x_w E (z + 1) (x_up f z c) := by
  apply List.ext_getElem?
  intro j
  rcases Nat.lt_trichotomy j z with h | h | h
  · rw [List.getElem?_append_left (by rw [x_w_len]; exact h), x_w_at h, x_w_at (by omega), x_up_n f c (by omega)]
  · subst h
    rw [List.getElem?_append_right (by rw [x_w_len]; exact Nat.le_refl _), x_w_len, x_w_at (by omega), x_up_s]
    simp
  · rw [List.getElem?_eq_none (by simp [x_w_len]; omega), List.getElem?_eq_none (by rw [x_w_len]; omega)]
def x_A (E : x_E) : Nat → Prop := fun q => E.2.2.2.1 ≤ q
theorem x_w_D (E : x_E) (z : Nat) (f : x_H) : va_D (x_A E) (x_w E z f) := by
  have key : ∀ (i : Nat) (p : Nat × va_E), (x_w E z f)[i]? = some p → p.1 = E.2.2.2.1 + i := by
    intro i p h
    have hi : i < z := by
      have := (List.getElem?_eq_some_iff.mp h).1
      rw [x_w_len] at this
      exact this
    rw [x_w_at hi] at h
    exact (congrArg Prod.fst (Option.some.inj h)).symm
  refine ⟨fun i j p q hp hq e => ?_, fun k q hq => ?_⟩
  · have h1 := key i p hp
    have h2 := key j q hq
    omega
  · show E.2.2.2.1 ≤ q.1
    have h1 := key k q hq
    omega
def x_tys (E : x_E) : List (ClassId × FieldType) := [(E.2.2.1 0, .int), (E.2.2.1 1, .long), (E.2.2.1 2, .object RX3)]
/-- what the machine's tables say, at any state -/
def x_K (E : x_E) (U : State) : Prop := va_K E.2.1 x_cl (x_tys E) U ∧ (∀ w ∈ x_nw, va_Nw w U) ∧ va_AO RX3 U
theorem x_nw_kind : ∀ w ∈ x_nw, (∃ a i b n d h, w = Cond.fieldLinkNest a i b n d h) ∨ (∃ a i x h, w = Cond.methodLinkNest a i x h) := by
  intro w hw
  have h : x_nw.all (fun w => match w with
    | .fieldLinkNest _ _ _ _ _ _ => true
    | .methodLinkNest _ _ _ _ => true
    | _ => false) = true := by decide +kernel
  have h1 := List.all_eq_true.mp h w hw
  cases w <;> first | exact Or.inl ⟨_, _, _, _, _, _, rfl⟩ | exact Or.inr ⟨_, _, _, _, rfl⟩ | cases h1
theorem x_nw_warm {s U : State} (hW : s.WarmedH U.vm) (h : ∀ w ∈ x_nw, va_Nw w s) : ∀ w ∈ x_nw, va_Nw w U := by
  intro w hw
  have h1 := h w hw
  rcases x_nw_kind w hw with ⟨a, i, b, n, d, h2, rfl⟩ | ⟨a, i, x, h2, rfl⟩
  · exact va_Nw.warmF hW h1
  · exact va_Nw.warmM hW h1
theorem x_nw_same {u U : State} (hv : u.vm = U.vm) (h : ∀ w ∈ x_nw, va_Nw w u) : ∀ w ∈ x_nw, va_Nw w U := by
  intro w hw
  have h1 := h w hw
  rcases x_nw_kind w hw with ⟨a, i, b, n, d, h2, rfl⟩ | ⟨a, i, x, h2, rfl⟩
  · exact va_Nw.same rfl hv h1
  · exact va_Nw.same rfl hv h1
theorem x_K.warm {E : x_E} {s U : State} (hW : s.WarmedH U.vm) (h : x_K E s) : x_K E U := ⟨va_K.moved hW.alike h.1, x_nw_warm hW h.2.1, va_AO.moved hW.alike h.2.2⟩
theorem x_K.same {E : x_E} {u U : State} (hv : u.vm = U.vm) (h : x_K E u) : x_K E U := ⟨va_K.moved (hv ▸ Vm.Alike.refl u.vm) h.1, x_nw_same hv h.2.1, va_AO.moved (hv ▸ Vm.Alike.refl u.vm) h.2.2⟩
def x_in (E : x_E) (z : Nat) (f : x_H) (U : State) : Prop := U.heap.size = E.2.2.2.1 + z ∧ va_P E.2.1 x_cl (x_w E z f) U.heap ∧ x_K E U
def x_Q (E : x_E) (z : Nat) (post : Option Value → x_H → Prop) : Array Value → State → Outcome → State → Prop := fun _ st oc t =>
  (∃ (r : Option Value) (f : x_H), oc = .returned (r.map (x_sh E)) ∧ post r f ∧ x_in E z f t) ∧ va_F (x_A E) st t
def x_rm (d mc ms : Nat) : Room := { frames := d, cells := mc, slots := ms, locals := 200 * d }
def x_ws (me : x_M) : List Cond := .code me.1 me.2.1 me.2.2.1 me.2.2.2.1 :: x_tb
/-- A METHOD'S CONTRACT: called on the abstract heap f of z cells it returns, and what is asked ('post') holds of its answer and its heap; mc cells of ms places are new -/
def Y (E : x_E) (d : Nat) (me : x_M) (av : List Value) (z : Nat) (f : x_H) (mc ms : Nat) (post : Option Value → x_H → Prop) : Prop :=
  Met E.1 me.1 (x_ws me) (x_rm d mc ms) (va_Pc (av.map (x_sh E)) (x_in E z f)) (x_Q E (z + mc) post) mc ms (x_A E)
/-- what stays while a method is walked -/
def x_cx (E : x_E) (me : x_M) (p : Program) (s : State) (m : MethodId) (args : Array Value) (meth : Method) (c : Code) : Prop :=
  p.tables.exec = Jvm.exec ∧ c.code = me.2.1 ∧ meth.sig.returnType = me.2.2.2.1 ∧ c.maxLocals = me.2.2.1 ∧ s.vm.findClass me.2.2.2.2.2.1 = some m.cls ∧ (∀ w ∈ x_tb, w.before args s = true) ∧ meth.locks = false ∧ x_K E s ∧ E.2.2.2.1 ≤ s.heap.size ∧ meth.name = me.1.name ∧ x_dec me ∧ x_okI me.2.2.2.2.2
abbrev x_L : Type := List (Nat × Value)
def x_lv (E : x_E) (lv : x_L) : x_L := lv.map (fun q => (q.1, x_sh E q.2))
/-- A WALK: from this pc, with these variables, this stack and this abstract heap, the machine comes to where QQ holds -/
def X (E : x_E) (R : Room) (me : x_M) (QQ : List Frame → Array Value → State → State → Prop) (pc : Nat) (lv : x_L) (st : List Value) (z : Nat) (f : x_H) (cl sl : Nat) : Prop :=
  ∀ (p : Program) (e : Env) (s : State) (m : MethodId) (args : Array Value) (below : List Frame) (meth : Method) (c : Code) (H : Heap) (locs : List Loc) (ls : Array Slot),
    x_cx E me p s m args meth c → s.heap.size + cl = E.2.2.2.1 + z → va_P E.2.1 x_cl (x_w E z f) H → va_S (x_A E) s.heap H locs → lv_has ls me.2.2.1 (x_lv E lv) →
    W p E.1 e R s m args below meth c H locs cl sl (QQ below args s) (F0 m pc ls (st.map (x_sh E)))
theorem x_size {E : x_E} {p : Program} {l : Launch} {e : Env} {R : Room} {s : State} {m : MethodId} {args : Array Value} {below : List Frame} {meth : Method} {c : Code} {T : State} {H : Heap} {locs : List Loc} {cl sl z : Nat} {f : x_H} (hT : T.heap = H) (hX : Stand p l e R s m args below meth c T locs cl sl) (hb : E.2.2.2.1 ≤ s.heap.size) (hz : s.heap.size + cl = E.2.2.2.1 + z) (hP : va_P E.2.1 x_cl (x_w E z f) H) (hS : va_S (x_A E) s.heap H locs) : H.size = E.2.2.2.1 + z := by
  have h1 : T.heap.size ≤ s.heap.size + cl := hX.same.2.2.1
  rw [hT] at h1
  have h2 : s.heap.size ≤ H.size := hS.1
  cases z with
  | zero => omega
  | succ n =>
    have h3 : E.2.2.2.1 + n < H.size := (hP n _ (x_w_at (Nat.lt_succ_self n))).lt
    omega
/-- where a method ends -/
def x_QM (E : x_E) (z mc ms : Nat) (post : Option Value → x_H → Prop) : List Frame → Array Value → State → State → Prop := fun below args s => MQ below (x_Q E z post) args s mc ms (x_A E)
/-- what is decided of a method -/
def x_good (me : x_M) : Prop := plainName me.1.cls = true ∧ x_dec me ∧ x_okI me.2.2.2.2.2 ∧ me.2.2.2.2.2.1 = me.1.cls ∧ Cond.code me.1 me.2.1 me.2.2.1 me.2.2.2.1 ∈ x_tb ∧ Cond.initialized me.1.cls ∈ x_tb ∧ (me.1.cls ≠ "java/lang/invoke/MethodHandle" ∧ me.1.cls ≠ "java/lang/invoke/VarHandle")
theorem Y.intro {E : x_E} {d mc ms : Nat} {me : x_M} {av : List Value} {z : Nat} {f : x_H} {post : Option Value → x_H → Prop} (hg : x_good me) {lv : x_L} (hlv : lv_args 0 av = lv) (hn : (lg_sl av).length ≤ me.2.2.1)
    (k : X E (x_rm d mc ms) me (x_QM E (z + mc) mc ms post) 0 lv [] z f 0 0) : Y E d me av z f mc ms post := by
  have hsl : ∀ (vs : List Value), (lg_sl (vs.map (x_sh E))).length = (lg_sl vs).length := by
    intro vs
    induction vs with
    | nil => rfl
    | cons v t ih =>
      simp only [lg_sl, List.map_cons, List.flatMap_cons, List.length_append, x_sh_cat] at ih ⊢
      rw [ih]
      split <;> rfl
  have harg : ∀ (vs : List Value) (i : Nat), lv_args i (vs.map (x_sh E)) = x_lv E (lv_args i vs) := by
    intro vs
    induction vs with
    | nil => intro i; rfl
    | cons v t ih =>
      intro i
      simp only [lv_args, List.map_cons, x_sh_cat, x_lv] at ih ⊢
      rw [ih]
  refine Met.ofW (cc := me.2.1) (maxL := me.2.2.1) (ret := me.2.2.2.1) hg.1 rfl ?_
  intro p e s m args below meth c s₁ B hml hv
  obtain ⟨rfl, hsz, hP, hK⟩ := hv
  have hts := atoms_spec (ws := x_ws me) B.pre
  rw [lg_entry_eq]
  have hl := lv_entry (av.map (x_sh E)) (n := me.2.2.1) (by rw [hsl]; exact hn)
  rw [harg, hlv] at hl
  exact k p e s m _ below meth c s.heap [] _ ⟨B.exec, B.bytes, B.returns, hml, by rw [hg.2.2.2.1]; exact findClass_of_methodNamed B.named, fun w hw => hts w (List.mem_cons_of_mem _ hw), B.notSynchronized, hK, by rw [hsz]; exact Nat.le_add_right _ _, (name_of_methodNamed B.named B.method).1, hg.2.1, hg.2.2.1⟩ hsz hP va_S.rf hl
end
section
section STEPS
variable {E : x_E} {R : Room} {me : x_M} {QQ : List Frame → Array Value → State → State → Prop} {pc : Nat} {lv : x_L} {st : List Value} {z : Nat} {f : x_H} {cl sl : Nat}
theorem x_iconst {n : Int} (hc : x_at me pc = some (.iconst n, 1))  (k : X E R me QQ (pc + 1) lv (.int (Int32.ofInt n) :: st) z f cl sl) : X E R me QQ pc lv st z f cl sl := by
  intro p e s m args below meth c H locs ls cx hz hP hS hl
  exact lv_iconst cx.1 cx.2.1 (x_dec_at cx.2.2.2.2.2.2.2.2.2.2.1 hc) rfl (k p e s m args below meth c H locs ls cx hz hP hS hl)
theorem x_bipush {n : Int} (hc : x_at me pc = some (.bipush n, 2))  (k : X E R me QQ (pc + 2) lv (.int (Int8.ofInt n).toInt32 :: st) z f cl sl) : X E R me QQ pc lv st z f cl sl := by
  intro p e s m args below meth c H locs ls cx hz hP hS hl
  exact lv_bipush cx.1 cx.2.1 (x_dec_at cx.2.2.2.2.2.2.2.2.2.2.1 hc) rfl (k p e s m args below meth c H locs ls cx hz hP hS hl)
theorem x_sipush {n : Int} (hc : x_at me pc = some (.sipush n, 3))  (k : X E R me QQ (pc + 3) lv (.int (Int16.ofInt n).toInt32 :: st) z f cl sl) : X E R me QQ pc lv st z f cl sl := by
  intro p e s m args below meth c H locs ls cx hz hP hS hl
  exact lv_sipush cx.1 cx.2.1 (x_dec_at cx.2.2.2.2.2.2.2.2.2.2.1 hc) rfl (k p e s m args below meth c H locs ls cx hz hP hS hl)
theorem x_lconst {n : Fin 2} (hc : x_at me pc = some (.lconst n, 1))  (k : X E R me QQ (pc + 1) lv (.long (Int64.ofNat (n : Nat)) :: st) z f cl sl) : X E R me QQ pc lv st z f cl sl := by
  intro p e s m args below meth c H locs ls cx hz hP hS hl
  exact lv_lconst cx.1 cx.2.1 (x_dec_at cx.2.2.2.2.2.2.2.2.2.2.1 hc) rfl (k p e s m args below meth c H locs ls cx hz hP hS hl)
theorem x_iadd {x y : Int32} (hc : x_at me pc = some (.iadd, 1))  (k : X E R me QQ (pc + 1) lv (.int (x + y) :: st) z f cl sl) : X E R me QQ pc lv (.int y :: .int x :: st) z f cl sl := by
  intro p e s m args below meth c H locs ls cx hz hP hS hl
  exact lv_iadd cx.1 cx.2.1 (x_dec_at cx.2.2.2.2.2.2.2.2.2.2.1 hc)  (k p e s m args below meth c H locs ls cx hz hP hS hl)
theorem x_isub {x y : Int32} (hc : x_at me pc = some (.isub, 1))  (k : X E R me QQ (pc + 1) lv (.int (x - y) :: st) z f cl sl) : X E R me QQ pc lv (.int y :: .int x :: st) z f cl sl := by
  intro p e s m args below meth c H locs ls cx hz hP hS hl
  exact lv_isub cx.1 cx.2.1 (x_dec_at cx.2.2.2.2.2.2.2.2.2.2.1 hc)  (k p e s m args below meth c H locs ls cx hz hP hS hl)
theorem x_imul {x y : Int32} (hc : x_at me pc = some (.imul, 1))  (k : X E R me QQ (pc + 1) lv (.int (x * y) :: st) z f cl sl) : X E R me QQ pc lv (.int y :: .int x :: st) z f cl sl := by
  intro p e s m args below meth c H locs ls cx hz hP hS hl
  exact lv_imul cx.1 cx.2.1 (x_dec_at cx.2.2.2.2.2.2.2.2.2.2.1 hc)  (k p e s m args below meth c H locs ls cx hz hP hS hl)
theorem x_iand {x y : Int32} (hc : x_at me pc = some (.iand, 1))  (k : X E R me QQ (pc + 1) lv (.int (x &&& y) :: st) z f cl sl) : X E R me QQ pc lv (.int y :: .int x :: st) z f cl sl := by
  intro p e s m args below meth c H locs ls cx hz hP hS hl
  exact lv_iand cx.1 cx.2.1 (x_dec_at cx.2.2.2.2.2.2.2.2.2.2.1 hc)  (k p e s m args below meth c H locs ls cx hz hP hS hl)
theorem x_ior {x y : Int32} (hc : x_at me pc = some (.ior, 1))  (k : X E R me QQ (pc + 1) lv (.int (x ||| y) :: st) z f cl sl) : X E R me QQ pc lv (.int y :: .int x :: st) z f cl sl := by
  intro p e s m args below meth c H locs ls cx hz hP hS hl
  exact lv_ior cx.1 cx.2.1 (x_dec_at cx.2.2.2.2.2.2.2.2.2.2.1 hc)  (k p e s m args below meth c H locs ls cx hz hP hS hl)
theorem x_ishl {x y : Int32} (hc : x_at me pc = some (.ishl, 1))  (k : X E R me QQ (pc + 1) lv (.int (x <<< (y &&& 31)) :: st) z f cl sl) : X E R me QQ pc lv (.int y :: .int x :: st) z f cl sl := by
  intro p e s m args below meth c H locs ls cx hz hP hS hl
  exact lv_ishl cx.1 cx.2.1 (x_dec_at cx.2.2.2.2.2.2.2.2.2.2.1 hc)  (k p e s m args below meth c H locs ls cx hz hP hS hl)
theorem x_ishr {x y : Int32} (hc : x_at me pc = some (.ishr, 1))  (k : X E R me QQ (pc + 1) lv (.int (x >>> (y &&& 31)) :: st) z f cl sl) : X E R me QQ pc lv (.int y :: .int x :: st) z f cl sl := by
  intro p e s m args below meth c H locs ls cx hz hP hS hl
  exact lv_ishr cx.1 cx.2.1 (x_dec_at cx.2.2.2.2.2.2.2.2.2.2.1 hc)  (k p e s m args below meth c H locs ls cx hz hP hS hl)
theorem x_idiv {x y : Int32} (hc : x_at me pc = some (.idiv, 1)) (hne : ¬ y = 0) (k : X E R me QQ (pc + 1) lv (.int (x / y) :: st) z f cl sl) : X E R me QQ pc lv (.int y :: .int x :: st) z f cl sl := by
  intro p e s m args below meth c H locs ls cx hz hP hS hl
  exact lv_idiv cx.1 cx.2.1 (x_dec_at cx.2.2.2.2.2.2.2.2.2.2.1 hc) hne (k p e s m args below meth c H locs ls cx hz hP hS hl)
theorem x_irem {x y : Int32} (hc : x_at me pc = some (.irem, 1)) (hne : ¬ y = 0) (k : X E R me QQ (pc + 1) lv (.int (x - x / y * y) :: st) z f cl sl) : X E R me QQ pc lv (.int y :: .int x :: st) z f cl sl := by
  intro p e s m args below meth c H locs ls cx hz hP hS hl
  exact lv_irem cx.1 cx.2.1 (x_dec_at cx.2.2.2.2.2.2.2.2.2.2.1 hc) hne (k p e s m args below meth c H locs ls cx hz hP hS hl)
theorem x_ineg {x : Int32} (hc : x_at me pc = some (.ineg, 1))  (k : X E R me QQ (pc + 1) lv (.int (-x) :: st) z f cl sl) : X E R me QQ pc lv (.int x :: st) z f cl sl := by
  intro p e s m args below meth c H locs ls cx hz hP hS hl
  exact lv_ineg cx.1 cx.2.1 (x_dec_at cx.2.2.2.2.2.2.2.2.2.2.1 hc)  (k p e s m args below meth c H locs ls cx hz hP hS hl)
theorem x_ladd {x y : Int64} (hc : x_at me pc = some (.ladd, 1))  (k : X E R me QQ (pc + 1) lv (.long (x + y) :: st) z f cl sl) : X E R me QQ pc lv (.long y :: .long x :: st) z f cl sl := by
  intro p e s m args below meth c H locs ls cx hz hP hS hl
  exact lv_ladd cx.1 cx.2.1 (x_dec_at cx.2.2.2.2.2.2.2.2.2.2.1 hc)  (k p e s m args below meth c H locs ls cx hz hP hS hl)
theorem x_lsub {x y : Int64} (hc : x_at me pc = some (.lsub, 1))  (k : X E R me QQ (pc + 1) lv (.long (x - y) :: st) z f cl sl) : X E R me QQ pc lv (.long y :: .long x :: st) z f cl sl := by
  intro p e s m args below meth c H locs ls cx hz hP hS hl
  exact lv_lsub cx.1 cx.2.1 (x_dec_at cx.2.2.2.2.2.2.2.2.2.2.1 hc)  (k p e s m args below meth c H locs ls cx hz hP hS hl)
theorem x_lmul {x y : Int64} (hc : x_at me pc = some (.lmul, 1))  (k : X E R me QQ (pc + 1) lv (.long (x * y) :: st) z f cl sl) : X E R me QQ pc lv (.long y :: .long x :: st) z f cl sl := by
  intro p e s m args below meth c H locs ls cx hz hP hS hl
  exact lv_lmul cx.1 cx.2.1 (x_dec_at cx.2.2.2.2.2.2.2.2.2.2.1 hc)  (k p e s m args below meth c H locs ls cx hz hP hS hl)
theorem x_land {x y : Int64} (hc : x_at me pc = some (.land, 1))  (k : X E R me QQ (pc + 1) lv (.long (x &&& y) :: st) z f cl sl) : X E R me QQ pc lv (.long y :: .long x :: st) z f cl sl := by
  intro p e s m args below meth c H locs ls cx hz hP hS hl
  exact lv_land cx.1 cx.2.1 (x_dec_at cx.2.2.2.2.2.2.2.2.2.2.1 hc)  (k p e s m args below meth c H locs ls cx hz hP hS hl)
theorem x_lor {x y : Int64} (hc : x_at me pc = some (.lor, 1))  (k : X E R me QQ (pc + 1) lv (.long (x ||| y) :: st) z f cl sl) : X E R me QQ pc lv (.long y :: .long x :: st) z f cl sl := by
  intro p e s m args below meth c H locs ls cx hz hP hS hl
  exact lv_lor cx.1 cx.2.1 (x_dec_at cx.2.2.2.2.2.2.2.2.2.2.1 hc)  (k p e s m args below meth c H locs ls cx hz hP hS hl)
theorem x_lshl {x : Int64} {y : Int32} (hc : x_at me pc = some (.lshl, 1))  (k : X E R me QQ (pc + 1) lv (.long (x <<< (y.toInt64 &&& 63)) :: st) z f cl sl) : X E R me QQ pc lv (.int y :: .long x :: st) z f cl sl := by
  intro p e s m args below meth c H locs ls cx hz hP hS hl
  exact lv_lshl cx.1 cx.2.1 (x_dec_at cx.2.2.2.2.2.2.2.2.2.2.1 hc) rfl (k p e s m args below meth c H locs ls cx hz hP hS hl)
theorem x_lushr {x : Int64} {y : Int32} (hc : x_at me pc = some (.lushr, 1))  (k : X E R me QQ (pc + 1) lv (.long (x.toUInt64 >>> (y.toInt64.toUInt64 &&& Int64.toUInt64 63)).toInt64 :: st) z f cl sl) : X E R me QQ pc lv (.int y :: .long x :: st) z f cl sl := by
  intro p e s m args below meth c H locs ls cx hz hP hS hl
  exact lv_lushr cx.1 cx.2.1 (x_dec_at cx.2.2.2.2.2.2.2.2.2.2.1 hc) rfl (k p e s m args below meth c H locs ls cx hz hP hS hl)
theorem x_i2l {x : Int32} (hc : x_at me pc = some (.i2l, 1))  (k : X E R me QQ (pc + 1) lv (.long x.toInt64 :: st) z f cl sl) : X E R me QQ pc lv (.int x :: st) z f cl sl := by
  intro p e s m args below meth c H locs ls cx hz hP hS hl
  exact lv_i2l cx.1 cx.2.1 (x_dec_at cx.2.2.2.2.2.2.2.2.2.2.1 hc) rfl (k p e s m args below meth c H locs ls cx hz hP hS hl)
theorem x_l2i {x : Int64} (hc : x_at me pc = some (.l2i, 1))  (k : X E R me QQ (pc + 1) lv (.int x.toInt32 :: st) z f cl sl) : X E R me QQ pc lv (.long x :: st) z f cl sl := by
  intro p e s m args below meth c H locs ls cx hz hP hS hl
  exact lv_l2i cx.1 cx.2.1 (x_dec_at cx.2.2.2.2.2.2.2.2.2.2.1 hc) rfl (k p e s m args below meth c H locs ls cx hz hP hS hl)
theorem x_lcmp {x y : Int64} (hc : x_at me pc = some (.lcmp, 1)) (k : X E R me QQ (pc + 1) lv (.int (lg_cmp x y) :: st) z f cl sl) : X E R me QQ pc lv (.long y :: .long x :: st) z f cl sl := by
  intro p e s m args below meth c H locs ls cx hz hP hS hl
  exact W.lcmp cx.1 cx.2.1 (x_dec_at cx.2.2.2.2.2.2.2.2.2.2.1 hc) (k p e s m args below meth c H locs ls cx hz hP hS hl)
theorem x_dup {v : Value} (hc : x_at me pc = some (.dup, 1)) (hv : v.category = 1) (k : X E R me QQ (pc + 1) lv (v :: v :: st) z f cl sl) : X E R me QQ pc lv (v :: st) z f cl sl := by
  intro p e s m args below meth c H locs ls cx hz hP hS hl
  exact lv_dup cx.1 cx.2.1 (x_dec_at cx.2.2.2.2.2.2.2.2.2.2.1 hc) (by rw [x_sh_cat]; exact hv) (k p e s m args below meth c H locs ls cx hz hP hS hl)
theorem x_pop {v : Value} (hc : x_at me pc = some (.pop, 1)) (hv : v.category = 1) (k : X E R me QQ (pc + 1) lv st z f cl sl) : X E R me QQ pc lv (v :: st) z f cl sl := by
  intro p e s m args below meth c H locs ls cx hz hP hS hl
  exact lv_pop cx.1 cx.2.1 (x_dec_at cx.2.2.2.2.2.2.2.2.2.2.1 hc) (by rw [x_sh_cat]; exact hv) (k p e s m args below meth c H locs ls cx hz hP hS hl)
theorem x_dup2 {v w : Value} (hc : x_at me pc = some (.dup2, 1)) (hv : v.category = 1) (hw : w.category = 1) (k : X E R me QQ (pc + 1) lv (v :: w :: v :: w :: st) z f cl sl) : X E R me QQ pc lv (v :: w :: st) z f cl sl := by
  intro p e s m args below meth c H locs ls cx hz hP hS hl
  exact lv_dup2_11 cx.1 cx.2.1 (x_dec_at cx.2.2.2.2.2.2.2.2.2.2.1 hc) (by rw [x_sh_cat]; exact hv) (by rw [x_sh_cat]; exact hw) (k p e s m args below meth c H locs ls cx hz hP hS hl)
theorem x_dup2l {v : Value} (hc : x_at me pc = some (.dup2, 1)) (hv : v.category = 2) (k : X E R me QQ (pc + 1) lv (v :: v :: st) z f cl sl) : X E R me QQ pc lv (v :: st) z f cl sl := by
  intro p e s m args below meth c H locs ls cx hz hP hS hl
  exact lv_dup2_2 cx.1 cx.2.1 (x_dec_at cx.2.2.2.2.2.2.2.2.2.2.1 hc) (by rw [x_sh_cat]; exact hv) (k p e s m args below meth c H locs ls cx hz hP hS hl)
theorem x_dup_x1 {v w : Value} (hc : x_at me pc = some (.dup_x1, 1)) (hv : v.category = 1) (hw : w.category = 1) (k : X E R me QQ (pc + 1) lv (v :: w :: v :: st) z f cl sl) : X E R me QQ pc lv (v :: w :: st) z f cl sl := by
  intro p e s m args below meth c H locs ls cx hz hP hS hl
  exact lv_dup_x1 cx.1 cx.2.1 (x_dec_at cx.2.2.2.2.2.2.2.2.2.2.1 hc) (by rw [x_sh_cat]; exact hv) (by rw [x_sh_cat]; exact hw) (k p e s m args below meth c H locs ls cx hz hP hS hl)
theorem x_goto {off : Int} {tgt : Nat} (hc : x_at me pc = some (.goto off, 3)) (ht : (pc : Int) + off = (tgt : Int)) (k : X E R me QQ tgt lv st z f cl sl) : X E R me QQ pc lv st z f cl sl := by
  intro p e s m args below meth c H locs ls cx hz hP hS hl
  exact lv_goto cx.1 cx.2.1 (x_dec_at cx.2.2.2.2.2.2.2.2.2.2.1 hc) ht (k p e s m args below meth c H locs ls cx hz hP hS hl)
theorem x_lv_at {E : x_E} {lv : x_L} {ls : Array Slot} {nL i : Nat} {v : Value} (hl : lv_has ls nL (x_lv E lv)) (h : x_lk lv i = some v) : ls[i]? = some (.val (x_sh E v)) := by
  have h1 := x_lk_mem _ _ _ h
  have h2 : (i, x_sh E v) ∈ x_lv E lv := List.mem_map.mpr ⟨_, h1, rfl⟩
  exact hl.2.2 _ h2
theorem x_iload {i : Nat} {x : Int32} (hc : x_at me pc = some (.iload i, 2)) (h : x_lk lv i = some (.int x)) (k : X E R me QQ (pc + 2) lv (.int x :: st) z f cl sl) : X E R me QQ pc lv st z f cl sl := by
  intro p e s m args below meth c H locs ls cx hz hP hS hl
  exact lv_iload cx.1 cx.2.1 (x_dec_at cx.2.2.2.2.2.2.2.2.2.2.1 hc) (x_lv_at hl h) (k p e s m args below meth c H locs ls cx hz hP hS hl)
theorem x_iload_n {i : Fin 4} {x : Int32} (hc : x_at me pc = some (.iload_n i, 1)) (h : x_lk lv i.val = some (.int x)) (k : X E R me QQ (pc + 1) lv (.int x :: st) z f cl sl) : X E R me QQ pc lv st z f cl sl := by
  intro p e s m args below meth c H locs ls cx hz hP hS hl
  exact lv_iload_n cx.1 cx.2.1 (x_dec_at cx.2.2.2.2.2.2.2.2.2.2.1 hc) rfl (x_lv_at hl h) (k p e s m args below meth c H locs ls cx hz hP hS hl)
theorem x_lload {i : Nat} {x : Int64} (hc : x_at me pc = some (.lload i, 2)) (h : x_lk lv i = some (.long x)) (k : X E R me QQ (pc + 2) lv (.long x :: st) z f cl sl) : X E R me QQ pc lv st z f cl sl := by
  intro p e s m args below meth c H locs ls cx hz hP hS hl
  exact lv_lload cx.1 cx.2.1 (x_dec_at cx.2.2.2.2.2.2.2.2.2.2.1 hc) (x_lv_at hl h) (k p e s m args below meth c H locs ls cx hz hP hS hl)
theorem x_lload_n {i : Fin 4} {x : Int64} (hc : x_at me pc = some (.lload_n i, 1)) (h : x_lk lv i.val = some (.long x)) (k : X E R me QQ (pc + 1) lv (.long x :: st) z f cl sl) : X E R me QQ pc lv st z f cl sl := by
  intro p e s m args below meth c H locs ls cx hz hP hS hl
  exact lv_lload_n cx.1 cx.2.1 (x_dec_at cx.2.2.2.2.2.2.2.2.2.2.1 hc) rfl (x_lv_at hl h) (k p e s m args below meth c H locs ls cx hz hP hS hl)
theorem x_aload {i x : Nat} (hc : x_at me pc = some (.aload i, 2)) (h : x_lk lv i = some (.ref x)) (k : X E R me QQ (pc + 2) lv (.ref x :: st) z f cl sl) : X E R me QQ pc lv st z f cl sl := by
  intro p e s m args below meth c H locs ls cx hz hP hS hl
  exact lv_aload cx.1 cx.2.1 (x_dec_at cx.2.2.2.2.2.2.2.2.2.2.1 hc) (x_lv_at hl h) (k p e s m args below meth c H locs ls cx hz hP hS hl)
theorem x_aload_n {i : Fin 4} {x : Nat} (hc : x_at me pc = some (.aload_n i, 1)) (h : x_lk lv i.val = some (.ref x)) (k : X E R me QQ (pc + 1) lv (.ref x :: st) z f cl sl) : X E R me QQ pc lv st z f cl sl := by
  intro p e s m args below meth c H locs ls cx hz hP hS hl
  exact lv_aload_n cx.1 cx.2.1 (x_dec_at cx.2.2.2.2.2.2.2.2.2.2.1 hc) rfl (x_lv_at hl h) (k p e s m args below meth c H locs ls cx hz hP hS hl)
theorem x_aload_ns {i : Fin 4} {x : Nat} (hc : x_at me pc = some (.aload_n i, 1)) (h : x_lk lv i.val = some (.retAddr x)) (k : X E R me QQ (pc + 1) lv (.retAddr x :: st) z f cl sl) : X E R me QQ pc lv st z f cl sl := by
  intro p e s m args below meth c H locs ls cx hz hP hS hl
  exact lv_aload_n cx.1 cx.2.1 (x_dec_at cx.2.2.2.2.2.2.2.2.2.2.1 hc) rfl (x_lv_at hl h) (k p e s m args below meth c H locs ls cx hz hP hS hl)
def x_ls1 (lv : x_L) (i : Nat) (v : Value) : x_L := (i, v) :: lv.filter (fun q => !(q.1 == i) && !(q.1 + 1 == i && q.2.category == 2))
def x_ls2 (lv : x_L) (i : Nat) (v : Value) : x_L := (i, v) :: lv.filter (fun q => !(q.1 == i) && (!(q.1 == i + 1) && !(q.1 + 1 == i && q.2.category == 2)))
theorem x_ls1_lv (E : x_E) (lv : x_L) (i : Nat) (v : Value) : (i, x_sh E v) :: (x_lv E lv).filter (fun q => !(q.1 == i) && !(q.1 + 1 == i && q.2.category == 2)) = x_lv E (x_ls1 lv i v) := by
  unfold x_ls1 x_lv
  rw [List.map_cons, List.filter_map]
  congr 2
  congr 1
  funext q
  simp [x_sh_cat]
theorem x_ls2_lv (E : x_E) (lv : x_L) (i : Nat) (v : Value) : (i, x_sh E v) :: (x_lv E lv).filter (fun q => !(q.1 == i) && (!(q.1 == i + 1) && !(q.1 + 1 == i && q.2.category == 2))) = x_lv E (x_ls2 lv i v) := by
  unfold x_ls2 x_lv
  rw [List.map_cons, List.filter_map]
  congr 2
  congr 1
  funext q
  simp [x_sh_cat]
theorem x_istore {i : Nat} {x : Int32} {lv' : x_L} (hc : x_at me pc = some (.istore i, 2)) (hi : i < me.2.2.1) (hv : x_ls1 lv i (.int x) = lv') (k : X E R me QQ (pc + 2) lv' st z f cl sl) : X E R me QQ pc lv (.int x :: st) z f cl sl := by
  intro p e s m args below meth c H locs ls cx hz hP hS hl
  subst hv
  exact lv_istore cx.1 cx.2.1 (x_dec_at cx.2.2.2.2.2.2.2.2.2.2.1 hc)  hl hi (x_ls1_lv E lv i (.int x)) (fun ls' hl' => k p e s m args below meth c H locs ls' cx hz hP hS hl')
theorem x_istore_n {i : Fin 4} {x : Int32} {lv' : x_L} (hc : x_at me pc = some (.istore_n i, 1)) (hi : i.val < me.2.2.1) (hv : x_ls1 lv i.val (.int x) = lv') (k : X E R me QQ (pc + 1) lv' st z f cl sl) : X E R me QQ pc lv (.int x :: st) z f cl sl := by
  intro p e s m args below meth c H locs ls cx hz hP hS hl
  subst hv
  exact lv_istore_n cx.1 cx.2.1 (x_dec_at cx.2.2.2.2.2.2.2.2.2.2.1 hc) rfl hl hi (x_ls1_lv E lv i.val (.int x)) (fun ls' hl' => k p e s m args below meth c H locs ls' cx hz hP hS hl')
theorem x_astore {i : Nat} {x : Nat} {lv' : x_L} (hc : x_at me pc = some (.astore i, 2)) (hi : i < me.2.2.1) (hv : x_ls1 lv i (.ref x) = lv') (k : X E R me QQ (pc + 2) lv' st z f cl sl) : X E R me QQ pc lv (.ref x :: st) z f cl sl := by
  intro p e s m args below meth c H locs ls cx hz hP hS hl
  subst hv
  exact lv_astore cx.1 cx.2.1 (x_dec_at cx.2.2.2.2.2.2.2.2.2.2.1 hc)  hl hi (x_ls1_lv E lv i (.ref x)) (fun ls' hl' => k p e s m args below meth c H locs ls' cx hz hP hS hl')
theorem x_astore_n {i : Fin 4} {x : Nat} {lv' : x_L} (hc : x_at me pc = some (.astore_n i, 1)) (hi : i.val < me.2.2.1) (hv : x_ls1 lv i.val (.ref x) = lv') (k : X E R me QQ (pc + 1) lv' st z f cl sl) : X E R me QQ pc lv (.ref x :: st) z f cl sl := by
  intro p e s m args below meth c H locs ls cx hz hP hS hl
  subst hv
  exact lv_astore_n cx.1 cx.2.1 (x_dec_at cx.2.2.2.2.2.2.2.2.2.2.1 hc) rfl hl hi (x_ls1_lv E lv i.val (.ref x)) (fun ls' hl' => k p e s m args below meth c H locs ls' cx hz hP hS hl')
theorem x_lstore {i : Nat} {x : Int64} {lv' : x_L} (hc : x_at me pc = some (.lstore i, 2)) (hi : i + 1 < me.2.2.1) (hv : x_ls2 lv i (.long x) = lv') (k : X E R me QQ (pc + 2) lv' st z f cl sl) : X E R me QQ pc lv (.long x :: st) z f cl sl := by
  intro p e s m args below meth c H locs ls cx hz hP hS hl
  subst hv
  exact lv_lstore cx.1 cx.2.1 (x_dec_at cx.2.2.2.2.2.2.2.2.2.2.1 hc)  hl hi (x_ls2_lv E lv i (.long x)) (fun ls' hl' => k p e s m args below meth c H locs ls' cx hz hP hS hl')
theorem x_lstore_n {i : Fin 4} {x : Int64} {lv' : x_L} (hc : x_at me pc = some (.lstore_n i, 1)) (hi : i.val + 1 < me.2.2.1) (hv : x_ls2 lv i.val (.long x) = lv') (k : X E R me QQ (pc + 1) lv' st z f cl sl) : X E R me QQ pc lv (.long x :: st) z f cl sl := by
  intro p e s m args below meth c H locs ls cx hz hP hS hl
  subst hv
  exact lv_lstore_n cx.1 cx.2.1 (x_dec_at cx.2.2.2.2.2.2.2.2.2.2.1 hc) rfl hl hi (x_ls2_lv E lv i.val (.long x)) (fun ls' hl' => k p e s m args below meth c H locs ls' cx hz hP hS hl')
theorem x_iinc {i : Nat} {n : Int} {x : Int32} {lv' : x_L} (hc : x_at me pc = some (.iinc i n, 3)) (hi : i < me.2.2.1) (h : x_lk lv i = some (.int x)) (hv : x_ls1 lv i (.int (x + Int32.ofInt n)) = lv') (k : X E R me QQ (pc + 3) lv' st z f cl sl) : X E R me QQ pc lv st z f cl sl := by
  intro p e s m args below meth c H locs ls cx hz hP hS hl
  subst hv
  have h1 : (i, Value.int x) ∈ x_lv E lv := List.mem_map.mpr ⟨_, x_lk_mem _ _ _ h, rfl⟩
  obtain ⟨q, hq⟩ := List.getElem?_of_mem h1
  exact lv_iinc cx.1 cx.2.1 (x_dec_at cx.2.2.2.2.2.2.2.2.2.2.1 hc) hl hq rfl hi (x_ls1_lv E lv i (.int (x + Int32.ofInt n))) (fun ls' hl' => k p e s m args below meth c H locs ls' cx hz hP hS hl')
theorem x_if_eq {x : Int32} {off : Int} {tgt : Nat} (hc : x_at me pc = some (.ifCond .eq off, 3)) (ht : (pc : Int) + off = (tgt : Int)) (kt : x = 0 → X E R me QQ tgt lv st z f cl sl) (kf : ¬ x = 0 → X E R me QQ (pc + 3) lv st z f cl sl) : X E R me QQ pc lv (.int x :: st) z f cl sl := by
  intro p e s m args below meth c H locs ls cx hz hP hS hl
  exact lv_if_eq cx.1 cx.2.1 (x_dec_at cx.2.2.2.2.2.2.2.2.2.2.1 hc) ht (fun h => kt h p e s m args below meth c H locs ls cx hz hP hS hl) (fun h => kf h p e s m args below meth c H locs ls cx hz hP hS hl)
theorem x_icmp_eq {x y : Int32} {off : Int} {tgt : Nat} (hc : x_at me pc = some (.if_icmp .eq off, 3)) (ht : (pc : Int) + off = (tgt : Int)) (kt : x = y → X E R me QQ tgt lv st z f cl sl) (kf : ¬ x = y → X E R me QQ (pc + 3) lv st z f cl sl) : X E R me QQ pc lv (.int y :: .int x :: st) z f cl sl := by
  intro p e s m args below meth c H locs ls cx hz hP hS hl
  exact lv_icmp_eq cx.1 cx.2.1 (x_dec_at cx.2.2.2.2.2.2.2.2.2.2.1 hc) ht (fun h => kt h p e s m args below meth c H locs ls cx hz hP hS hl) (fun h => kf h p e s m args below meth c H locs ls cx hz hP hS hl)
theorem x_if_ne {x : Int32} {off : Int} {tgt : Nat} (hc : x_at me pc = some (.ifCond .ne off, 3)) (ht : (pc : Int) + off = (tgt : Int)) (kt : ¬ x = 0 → X E R me QQ tgt lv st z f cl sl) (kf : x = 0 → X E R me QQ (pc + 3) lv st z f cl sl) : X E R me QQ pc lv (.int x :: st) z f cl sl := by
  intro p e s m args below meth c H locs ls cx hz hP hS hl
  exact lv_if_ne cx.1 cx.2.1 (x_dec_at cx.2.2.2.2.2.2.2.2.2.2.1 hc) ht (fun h => kt h p e s m args below meth c H locs ls cx hz hP hS hl) (fun h => kf h p e s m args below meth c H locs ls cx hz hP hS hl)
theorem x_icmp_ne {x y : Int32} {off : Int} {tgt : Nat} (hc : x_at me pc = some (.if_icmp .ne off, 3)) (ht : (pc : Int) + off = (tgt : Int)) (kt : ¬ x = y → X E R me QQ tgt lv st z f cl sl) (kf : x = y → X E R me QQ (pc + 3) lv st z f cl sl) : X E R me QQ pc lv (.int y :: .int x :: st) z f cl sl := by
  intro p e s m args below meth c H locs ls cx hz hP hS hl
  exact lv_icmp_ne cx.1 cx.2.1 (x_dec_at cx.2.2.2.2.2.2.2.2.2.2.1 hc) ht (fun h => kt h p e s m args below meth c H locs ls cx hz hP hS hl) (fun h => kf h p e s m args below meth c H locs ls cx hz hP hS hl)
theorem x_if_lt {x : Int32} {off : Int} {tgt : Nat} (hc : x_at me pc = some (.ifCond .lt off, 3)) (ht : (pc : Int) + off = (tgt : Int)) (kt : x < 0 → X E R me QQ tgt lv st z f cl sl) (kf : ¬ x < 0 → X E R me QQ (pc + 3) lv st z f cl sl) : X E R me QQ pc lv (.int x :: st) z f cl sl := by
  intro p e s m args below meth c H locs ls cx hz hP hS hl
  exact lv_if_lt cx.1 cx.2.1 (x_dec_at cx.2.2.2.2.2.2.2.2.2.2.1 hc) ht (fun h => kt h p e s m args below meth c H locs ls cx hz hP hS hl) (fun h => kf h p e s m args below meth c H locs ls cx hz hP hS hl)
theorem x_icmp_lt {x y : Int32} {off : Int} {tgt : Nat} (hc : x_at me pc = some (.if_icmp .lt off, 3)) (ht : (pc : Int) + off = (tgt : Int)) (kt : x < y → X E R me QQ tgt lv st z f cl sl) (kf : ¬ x < y → X E R me QQ (pc + 3) lv st z f cl sl) : X E R me QQ pc lv (.int y :: .int x :: st) z f cl sl := by
  intro p e s m args below meth c H locs ls cx hz hP hS hl
  exact lv_icmp_lt cx.1 cx.2.1 (x_dec_at cx.2.2.2.2.2.2.2.2.2.2.1 hc) ht (fun h => kt h p e s m args below meth c H locs ls cx hz hP hS hl) (fun h => kf h p e s m args below meth c H locs ls cx hz hP hS hl)
theorem x_if_ge {x : Int32} {off : Int} {tgt : Nat} (hc : x_at me pc = some (.ifCond .ge off, 3)) (ht : (pc : Int) + off = (tgt : Int)) (kt : 0 ≤ x → X E R me QQ tgt lv st z f cl sl) (kf : ¬ 0 ≤ x → X E R me QQ (pc + 3) lv st z f cl sl) : X E R me QQ pc lv (.int x :: st) z f cl sl := by
  intro p e s m args below meth c H locs ls cx hz hP hS hl
  exact lv_if_ge cx.1 cx.2.1 (x_dec_at cx.2.2.2.2.2.2.2.2.2.2.1 hc) ht (fun h => kt h p e s m args below meth c H locs ls cx hz hP hS hl) (fun h => kf h p e s m args below meth c H locs ls cx hz hP hS hl)
theorem x_icmp_ge {x y : Int32} {off : Int} {tgt : Nat} (hc : x_at me pc = some (.if_icmp .ge off, 3)) (ht : (pc : Int) + off = (tgt : Int)) (kt : y ≤ x → X E R me QQ tgt lv st z f cl sl) (kf : ¬ y ≤ x → X E R me QQ (pc + 3) lv st z f cl sl) : X E R me QQ pc lv (.int y :: .int x :: st) z f cl sl := by
  intro p e s m args below meth c H locs ls cx hz hP hS hl
  exact lv_icmp_ge cx.1 cx.2.1 (x_dec_at cx.2.2.2.2.2.2.2.2.2.2.1 hc) ht (fun h => kt h p e s m args below meth c H locs ls cx hz hP hS hl) (fun h => kf h p e s m args below meth c H locs ls cx hz hP hS hl)
theorem x_if_gt {x : Int32} {off : Int} {tgt : Nat} (hc : x_at me pc = some (.ifCond .gt off, 3)) (ht : (pc : Int) + off = (tgt : Int)) (kt : 0 < x → X E R me QQ tgt lv st z f cl sl) (kf : ¬ 0 < x → X E R me QQ (pc + 3) lv st z f cl sl) : X E R me QQ pc lv (.int x :: st) z f cl sl := by
  intro p e s m args below meth c H locs ls cx hz hP hS hl
  exact lv_if_gt cx.1 cx.2.1 (x_dec_at cx.2.2.2.2.2.2.2.2.2.2.1 hc) ht (fun h => kt h p e s m args below meth c H locs ls cx hz hP hS hl) (fun h => kf h p e s m args below meth c H locs ls cx hz hP hS hl)
theorem x_icmp_gt {x y : Int32} {off : Int} {tgt : Nat} (hc : x_at me pc = some (.if_icmp .gt off, 3)) (ht : (pc : Int) + off = (tgt : Int)) (kt : y < x → X E R me QQ tgt lv st z f cl sl) (kf : ¬ y < x → X E R me QQ (pc + 3) lv st z f cl sl) : X E R me QQ pc lv (.int y :: .int x :: st) z f cl sl := by
  intro p e s m args below meth c H locs ls cx hz hP hS hl
  exact lv_icmp_gt cx.1 cx.2.1 (x_dec_at cx.2.2.2.2.2.2.2.2.2.2.1 hc) ht (fun h => kt h p e s m args below meth c H locs ls cx hz hP hS hl) (fun h => kf h p e s m args below meth c H locs ls cx hz hP hS hl)
theorem x_if_le {x : Int32} {off : Int} {tgt : Nat} (hc : x_at me pc = some (.ifCond .le off, 3)) (ht : (pc : Int) + off = (tgt : Int)) (kt : x ≤ 0 → X E R me QQ tgt lv st z f cl sl) (kf : ¬ x ≤ 0 → X E R me QQ (pc + 3) lv st z f cl sl) : X E R me QQ pc lv (.int x :: st) z f cl sl := by
  intro p e s m args below meth c H locs ls cx hz hP hS hl
  exact lv_if_le cx.1 cx.2.1 (x_dec_at cx.2.2.2.2.2.2.2.2.2.2.1 hc) ht (fun h => kt h p e s m args below meth c H locs ls cx hz hP hS hl) (fun h => kf h p e s m args below meth c H locs ls cx hz hP hS hl)
theorem x_icmp_le {x y : Int32} {off : Int} {tgt : Nat} (hc : x_at me pc = some (.if_icmp .le off, 3)) (ht : (pc : Int) + off = (tgt : Int)) (kt : x ≤ y → X E R me QQ tgt lv st z f cl sl) (kf : ¬ x ≤ y → X E R me QQ (pc + 3) lv st z f cl sl) : X E R me QQ pc lv (.int y :: .int x :: st) z f cl sl := by
  intro p e s m args below meth c H locs ls cx hz hP hS hl
  exact lv_icmp_le cx.1 cx.2.1 (x_dec_at cx.2.2.2.2.2.2.2.2.2.2.1 hc) ht (fun h => kt h p e s m args below meth c H locs ls cx hz hP hS hl) (fun h => kf h p e s m args below meth c H locs ls cx hz hP hS hl)
theorem x_ifnonnull {x : Nat} {off : Int} {tgt : Nat} (hc : x_at me pc = some (.ifnonnull off, 3)) (ht : (pc : Int) + off = (tgt : Int)) (k : X E R me QQ tgt lv st z f cl sl) : X E R me QQ pc lv (.ref x :: st) z f cl sl := by
  intro p e s m args below meth c H locs ls cx hz hP hS hl
  exact lv_ifnonnull cx.1 cx.2.1 (x_dec_at cx.2.2.2.2.2.2.2.2.2.2.1 hc) ht (k p e s m args below meth c H locs ls cx hz hP hS hl)
theorem x_tableIn {dflt lo hi : Int} {offs : Array Int} {len : Nat} {x : Int32} {off : Int} {tgt : Nat} (hc : x_at me pc = some (.tableswitch dflt lo hi offs, len)) (h1 : ¬ x.toInt < lo) (h2 : ¬ hi < x.toInt) (ho : offs[(x.toInt - lo).toNat]? = some off) (ht : (pc : Int) + off = (tgt : Int)) (k : X E R me QQ tgt lv st z f cl sl) : X E R me QQ pc lv (.int x :: st) z f cl sl := by
  intro p e s m args below meth c H locs ls cx hz hP hS hl
  exact lv_tableIn cx.1 cx.2.1 (x_dec_at cx.2.2.2.2.2.2.2.2.2.2.1 hc) h1 h2 ho ht (k p e s m args below meth c H locs ls cx hz hP hS hl)
theorem x_tableOut {dflt lo hi : Int} {offs : Array Int} {len : Nat} {x : Int32} {tgt : Nat} (hc : x_at me pc = some (.tableswitch dflt lo hi offs, len)) (h : x.toInt < lo ∨ hi < x.toInt) (ht : (pc : Int) + dflt = (tgt : Int)) (k : X E R me QQ tgt lv st z f cl sl) : X E R me QQ pc lv (.int x :: st) z f cl sl := by
  intro p e s m args below meth c H locs ls cx hz hP hS hl
  exact lv_tableOut cx.1 cx.2.1 (x_dec_at cx.2.2.2.2.2.2.2.2.2.2.1 hc) h ht (k p e s m args below meth c H locs ls cx hz hP hS hl)
theorem x_lookup {dflt : Int} {ps : Array (Int × Int)} {len : Nat} {x : Int32} {off : Int} {tgt : Nat} (hc : x_at me pc = some (.lookupswitch dflt ps, len)) (hp : (ps.toList.zip (ps.toList.drop 1)).all (fun (a, next) => a.1 < next.1) = true) (ho : Op.lookupswitch.offset ps.toList dflt x.toInt = off) (ht : (pc : Int) + off = (tgt : Int)) (k : X E R me QQ tgt lv st z f cl sl) : X E R me QQ pc lv (.int x :: st) z f cl sl := by
  intro p e s m args below meth c H locs ls cx hz hP hS hl
  exact lv_lookup cx.1 cx.2.1 (x_dec_at cx.2.2.2.2.2.2.2.2.2.2.1 hc) hp ho ht (k p e s m args below meth c H locs ls cx hz hP hS hl)
theorem x_ldc {i : Nat} {v : Int32} (hc : x_at me pc = some (.ldc i, 2)) (h : x_lk me.2.2.2.2.2.2.2.1 i = some v) (k : X E R me QQ (pc + 2) lv (.int v :: st) z f cl sl) : X E R me QQ pc lv st z f cl sl := by
  intro p e s m args below meth c H locs ls cx hz hP hS hl
  obtain ⟨hx, hb, hr, hml, hown, hts, hlk, hK, hbs, hin, hd, hI⟩ := id cx
  exact lv_ldc hx hb hown (hts _ (hI.2.1 _ (x_lk_mem _ _ _ h))) (x_dec_at hd hc) (k p e s m args below meth c H locs ls cx hz hP hS hl)
theorem x_ldc2 {i : Nat} {v : Int64} (hc : x_at me pc = some (.ldc2_w i, 3)) (h : x_lk me.2.2.2.2.2.2.2.2.1 i = some v) (k : X E R me QQ (pc + 3) lv (.long v :: st) z f cl sl) : X E R me QQ pc lv st z f cl sl := by
  intro p e s m args below meth c H locs ls cx hz hP hS hl
  obtain ⟨hx, hb, hr, hml, hown, hts, hlk, hK, hbs, hin, hd, hI⟩ := id cx
  exact lv_ldc2 hx hb hown (hts _ (hI.2.2.1 _ (x_lk_mem _ _ _ h))) (x_dec_at hd hc) (k p e s m args below meth c H locs ls cx hz hP hS hl)
/-- an object, an array, in the abstract heap -/
def x_o (z : Nat) (f : x_H) (r ci : Nat) (fs : List Value) : Prop := r < z ∧ f r = .inr (ci, fs)
def x_a (z : Nat) (f : x_H) (r : Nat) (a : vp_A) : Prop := r < z ∧ f r = .inl a
theorem x_o_at {E : x_E} {z : Nat} {f : x_H} {r ci : Nat} {fs : List Value} (h : x_o z f r ci fs) : (x_w E z f)[r]? = some (E.2.2.2.1 + r, .inr (ci, fs.map (x_sh E))) := by
  rw [x_w_at h.1, h.2]
  rfl
theorem x_a_at {E : x_E} {z : Nat} {f : x_H} {r : Nat} {a : vp_A} (h : x_a z f r a) : (x_w E z f)[r]? = some (E.2.2.2.1 + r, .inl (E.2.2.1 (x_kd a), x_shA E a)) := by
  rw [x_w_at h.1, h.2]
  rfl
theorem x_get {i r ci k0 : Nat} {nest : Bool} {fs : List Value} {v : Value} (hc : x_at me pc = some (.getfield i, 3)) (hL : x_lk me.2.2.2.2.2.2.1 i = some (ci, k0, nest)) (ho : x_o z f r ci fs) (hv : fs[k0]? = some v) (k : X E R me QQ (pc + 3) lv (v :: st) z f cl sl) : X E R me QQ pc lv (.ref r :: st) z f cl sl := by
  intro p e s m args below meth c H locs ls cx hz hP hS hl
  obtain ⟨hx, hb, hr, hml, hown, hts, hlk, hK, hbs, hin, hd, hI⟩ := id cx
  obtain ⟨q, hq, hk, h1, h2⟩ := hI.1 _ (x_lk_mem _ _ _ hL)
  dsimp only at hq hk h1 h2
  cases nest with
  | false => exact va_get hx hb hts (x_ws_in _ _ hq) hown hK.1 hP r (x_o_at ho) hq k0 hk (hts _ (h1 rfl)) (fun _ h => h) (v := x_sh E v) (by rw [List.getElem?_map, hv]; rfl) (x_dec_at hd hc) (k p e s m args below meth c H locs ls cx hz hP hS hl)
  | true => exact va_getN hx hb hts (x_ws_in _ _ hq) hown hK.1 hP r (x_o_at ho) hq k0 hk (va_Nw.use rfl (hK.2.1 _ (h2 rfl))) (fun _ h => h) (v := x_sh E v) (by rw [List.getElem?_map, hv]; rfl) (x_dec_at hd hc) (k p e s m args below meth c H locs ls cx hz hP hS hl)
theorem x_put {i r ci k0 : Nat} {nest : Bool} {fs : List Value} {v : Value} {q : vw_C} (hc : x_at me pc = some (.putfield i, 3)) (hL : x_lk me.2.2.2.2.2.2.1 i = some (ci, k0, nest)) (ho : x_o z f r ci fs) (hl0 : k0 < fs.length) (hq : x_cl[ci]? = some q) (hfin : (q.2.1 k0).2.2.2 = false) (hn : narrow (x_ty ci k0) v = v) (hf : fits (x_ty ci k0) v = true) (k : ∀ f' : x_H, f' = x_up f r (.inr (ci, fs.set k0 v)) → X E R me QQ (pc + 3) lv st z f' cl sl) : X E R me QQ pc lv (v :: .ref r :: st) z f cl sl := by
  intro p e s m args below meth c H locs ls cx hz hP hS hl
  obtain ⟨hx, hb, hr, hml, hown, hts, hlk, hK, hbs, hin, hd, hI⟩ := id cx
  obtain ⟨q', hq', hk, h1, h2⟩ := hI.1 _ (x_lk_mem _ _ _ hL)
  dsimp only at hq' hk h1 h2
  cases hq.symm.trans hq'
  have hn' : narrow (x_ty ci k0) (x_sh E v) = x_sh E v := by
    cases v <;> first | exact hn | (unfold x_sh; cases x_ty ci k0 <;> rfl)
  have hf' : fits (x_ty ci k0) (x_sh E v) = true := by
    cases v <;> first | exact hf | (revert hf; unfold x_sh; cases x_ty ci k0 <;> intro h <;> first | rfl | cases h)
  have hw : (x_w E z f).set r (E.2.2.2.1 + r, .inr (ci, (fs.map (x_sh E)).set k0 (x_sh E v))) = x_w E z (x_up f r (.inr (ci, fs.set k0 v))) := by
    rw [← x_w_set]
    show _ = List.set _ _ (_, Sum.inr (ci, (fs.set k0 v).map (x_sh E)))
    rw [List.map_set]
  cases nest with
  | false =>
    refine va_put hx hb hts (x_ws_in _ _ hq) (x_ty ci) (x_ty_ok ci q hq).1 (x_ty_ok ci q hq).2 hown hK.1 hP (x_w_D E z f) hS r (x_o_at ho) hq k0 hk (hts _ (h1 rfl)) (fun _ h => h) hfin ((x_ty_ok ci q hq).1 k0 hk) hn' hf' (by rw [List.length_map]; exact hl0) (x_dec_at hd hc) (fun H1 locs1 hP1 _ hS1 => ?_)
    rw [hw] at hP1
    exact k _ rfl p e s m args below meth c H1 locs1 ls cx hz hP1 hS1 hl
  | true =>
    refine va_putN hx hb hts (x_ws_in _ _ hq) (x_ty ci) (x_ty_ok ci q hq).1 (x_ty_ok ci q hq).2 hown hK.1 hP (x_w_D E z f) hS r (x_o_at ho) hq k0 hk (va_Nw.use rfl (hK.2.1 _ (h2 rfl))) (fun _ h => h) hfin ((x_ty_ok ci q hq).1 k0 hk) hn' hf' (by rw [List.length_map]; exact hl0) (x_dec_at hd hc) (fun H1 locs1 hP1 _ hS1 => ?_)
    rw [hw] at hP1
    exact k _ rfl p e s m args below meth c H1 locs1 ls cx hz hP1 hS1 hl
theorem x_putF {i r ci k0 : Nat} {fs : List Value} {v : Value} {q : vw_C} (hc : x_at me pc = some (.putfield i, 3)) (hL : x_lk me.2.2.2.2.2.2.1 i = some (ci, k0, false)) (ho : x_o z f r ci fs) (hl0 : k0 < fs.length) (hq : x_cl[ci]? = some q) (hfin : (q.2.1 k0).2.2.2 = true) (hin2 : me.1.name = "<init>") (hdecl : (q.2.1 k0).1 = me.2.2.2.2.2.1) (hn : narrow (x_ty ci k0) v = v) (hf : fits (x_ty ci k0) v = true) (k : ∀ f' : x_H, f' = x_up f r (.inr (ci, fs.set k0 v)) → X E R me QQ (pc + 3) lv st z f' cl sl) : X E R me QQ pc lv (v :: .ref r :: st) z f cl sl := by
  intro p e s m args below meth c H locs ls cx hz hP hS hl
  obtain ⟨hx, hb, hr, hml, hown, hts, hlk, hK, hbs, hin, hd, hI⟩ := id cx
  obtain ⟨q', hq', hk, h1, h2⟩ := hI.1 _ (x_lk_mem _ _ _ hL)
  dsimp only at hq' hk h1 h2
  cases hq.symm.trans hq'
  have hn' : narrow (x_ty ci k0) (x_sh E v) = x_sh E v := by
    cases v <;> first | exact hn | (unfold x_sh; cases x_ty ci k0 <;> rfl)
  have hf' : fits (x_ty ci k0) (x_sh E v) = true := by
    cases v <;> first | exact hf | (revert hf; unfold x_sh; cases x_ty ci k0 <;> intro h <;> first | rfl | cases h)
  have hw : (x_w E z f).set r (E.2.2.2.1 + r, .inr (ci, (fs.map (x_sh E)).set k0 (x_sh E v))) = x_w E z (x_up f r (.inr (ci, fs.set k0 v))) := by
    rw [← x_w_set]
    show _ = List.set _ _ (_, Sum.inr (ci, (fs.set k0 v).map (x_sh E)))
    rw [List.map_set]
  refine va_putF hx hb hts (x_ws_in _ _ hq) (x_ty ci) (x_ty_ok ci q hq).1 (x_ty_ok ci q hq).2 hown hK.1 hP (x_w_D E z f) hS r (x_o_at ho) hq k0 hk (hts _ (h1 rfl)) (fun _ h => h) hfin (by rw [hin]; exact hin2) hdecl ((x_ty_ok ci q hq).1 k0 hk) hn' hf' (by rw [List.length_map]; exact hl0) (x_dec_at hd hc) (fun H1 locs1 hP1 _ hS1 => ?_)
  rw [hw] at hP1
  exact k _ rfl p e s m args below meth c H1 locs1 ls cx hz hP1 hS1 hl
theorem x_iaload {r n : Nat} {g : Nat → Int32} {i : Int32} (hc : x_at me pc = some (.iaload, 1)) (ha : x_a z f r (n, .inl g)) (hi : vp_in i n) (k : X E R me QQ (pc + 1) lv (.int (g i.toNatClampNeg) :: st) z f cl sl) : X E R me QQ pc lv (.int i :: .ref r :: st) z f cl sl := by
  intro p e s m args below meth c H locs ls cx hz hP hS hl
  exact va_iald cx.1 cx.2.1 cx.2.2.2.2.2.2.2.1.1 hP r 0 (x_a_at ha) rfl hi (x_dec_at cx.2.2.2.2.2.2.2.2.2.2.1 hc) (k p e s m args below meth c H locs ls cx hz hP hS hl)
theorem x_laload {r n : Nat} {g : Nat → Int64} {i : Int32} (hc : x_at me pc = some (.laload, 1)) (ha : x_a z f r (n, .inr (.inl g))) (hi : vp_in i n) (k : X E R me QQ (pc + 1) lv (.long (g i.toNatClampNeg) :: st) z f cl sl) : X E R me QQ pc lv (.int i :: .ref r :: st) z f cl sl := by
  intro p e s m args below meth c H locs ls cx hz hP hS hl
  exact va_lald cx.1 cx.2.1 cx.2.2.2.2.2.2.2.1.1 hP r 1 (x_a_at ha) rfl hi (x_dec_at cx.2.2.2.2.2.2.2.2.2.2.1 hc) (k p e s m args below meth c H locs ls cx hz hP hS hl)
theorem x_aaload {r n x : Nat} {g : Nat → Option Nat} {i : Int32} (hc : x_at me pc = some (.aaload, 1)) (ha : x_a z f r (n, .inr (.inr (.inr (.inr g))))) (hi : vp_in i n) (hx0 : g i.toNatClampNeg = some x) (k : X E R me QQ (pc + 1) lv (.ref x :: st) z f cl sl) : X E R me QQ pc lv (.int i :: .ref r :: st) z f cl sl := by
  intro p e s m args below meth c H locs ls cx hz hP hS hl
  refine va_aldq cx.1 cx.2.1 cx.2.2.2.2.2.2.2.1.1 hP r 2 (x_a_at ha) rfl hi (x_dec_at cx.2.2.2.2.2.2.2.2.2.2.1 hc) ?_
  rw [hx0]
  exact k p e s m args below meth c H locs ls cx hz hP hS hl
theorem x_alen {r : Nat} {a : vp_A} (hc : x_at me pc = some (.arraylength, 1)) (ha : x_a z f r a) (k : X E R me QQ (pc + 1) lv (.int (Int32.ofNat a.1) :: st) z f cl sl) : X E R me QQ pc lv (.ref r :: st) z f cl sl := by
  intro p e s m args below meth c H locs ls cx hz hP hS hl
  obtain ⟨n, g | g | g | g | g⟩ := a
  · exact va_alen cx.1 cx.2.1 cx.2.2.2.2.2.2.2.1.1 hP r 0 (x_a_at ha) rfl rfl (x_dec_at cx.2.2.2.2.2.2.2.2.2.2.1 hc) (k p e s m args below meth c H locs ls cx hz hP hS hl)
  · exact va_alen cx.1 cx.2.1 cx.2.2.2.2.2.2.2.1.1 hP r 1 (x_a_at ha) rfl rfl (x_dec_at cx.2.2.2.2.2.2.2.2.2.2.1 hc) (k p e s m args below meth c H locs ls cx hz hP hS hl)
  · exact va_alen cx.1 cx.2.1 cx.2.2.2.2.2.2.2.1.1 hP r 2 (x_a_at ha) rfl rfl (x_dec_at cx.2.2.2.2.2.2.2.2.2.2.1 hc) (k p e s m args below meth c H locs ls cx hz hP hS hl)
  · exact va_alen cx.1 cx.2.1 cx.2.2.2.2.2.2.2.1.1 hP r 2 (x_a_at ha) rfl rfl (x_dec_at cx.2.2.2.2.2.2.2.2.2.2.1 hc) (k p e s m args below meth c H locs ls cx hz hP hS hl)
  · exact va_alen cx.1 cx.2.1 cx.2.2.2.2.2.2.2.1.1 hP r 2 (x_a_at ha) rfl rfl (x_dec_at cx.2.2.2.2.2.2.2.2.2.2.1 hc) (k p e s m args below meth c H locs ls cx hz hP hS hl)
theorem x_iastore {r n : Nat} {g : Nat → Int32} {i : Int32} {x : Int32} (hc : x_at me pc = some (.iastore, 1)) (ha : x_a z f r (n, .inl g)) (hi : vp_in i n) (k : ∀ f' : x_H, f' = x_up f r (.inl (n, .inl (upd g i.toNatClampNeg x))) → X E R me QQ (pc + 1) lv st z f' cl sl) : X E R me QQ pc lv (.int x :: .int i :: .ref r :: st) z f cl sl := by
  intro p e s m args below meth c H locs ls cx hz hP hS hl
  refine va_iast cx.1 cx.2.1 cx.2.2.2.2.2.2.2.1.1 hP (x_w_D E z f) hS r 0 (x_a_at ha) rfl hi (x_dec_at cx.2.2.2.2.2.2.2.2.2.2.1 hc) (fun H1 locs1 hP1 _ hS1 => ?_)
  have hw : (x_w E z f).set r (E.2.2.2.1 + r, .inl (E.2.2.1 0, n, .inl (upd g i.toNatClampNeg x))) = x_w E z (x_up f r (.inl (n, .inl (upd g i.toNatClampNeg x)))) := by
    rw [← x_w_set]
    rfl
  have hP2 : va_P E.2.1 x_cl ((x_w E z f).set r (E.2.2.2.1 + r, .inl (E.2.2.1 0, n, .inl (upd g i.toNatClampNeg x)))) H1 := hP1
  rw [hw] at hP2
  exact k _ rfl p e s m args below meth c H1 locs1 ls cx hz hP2 hS1 hl
theorem x_lastore {r n : Nat} {g : Nat → Int64} {i : Int32} {x : Int64} (hc : x_at me pc = some (.lastore, 1)) (ha : x_a z f r (n, .inr (.inl g))) (hi : vp_in i n) (k : ∀ f' : x_H, f' = x_up f r (.inl (n, .inr (.inl (vp_updL g i.toNatClampNeg x)))) → X E R me QQ (pc + 1) lv st z f' cl sl) : X E R me QQ pc lv (.long x :: .int i :: .ref r :: st) z f cl sl := by
  intro p e s m args below meth c H locs ls cx hz hP hS hl
  refine va_last cx.1 cx.2.1 cx.2.2.2.2.2.2.2.1.1 hP (x_w_D E z f) hS r 1 (x_a_at ha) rfl hi (x_dec_at cx.2.2.2.2.2.2.2.2.2.2.1 hc) (fun H1 locs1 hP1 _ hS1 => ?_)
  have hw : (x_w E z f).set r (E.2.2.2.1 + r, .inl (E.2.2.1 1, n, .inr (.inl (vp_updL g i.toNatClampNeg x)))) = x_w E z (x_up f r (.inl (n, .inr (.inl (vp_updL g i.toNatClampNeg x))))) := by
    rw [← x_w_set]
    rfl
  have hP2 : va_P E.2.1 x_cl ((x_w E z f).set r (E.2.2.2.1 + r, .inl (E.2.2.1 1, n, .inr (.inl (vp_updL g i.toNatClampNeg x))))) H1 := hP1
  rw [hw] at hP2
  exact k _ rfl p e s m args below meth c H1 locs1 ls cx hz hP2 hS1 hl
end STEPS
end
section
section STEPS2
variable {E : x_E} {R : Room} {me : x_M} {QQ : List Frame → Array Value → State → State → Prop} {pc : Nat} {lv : x_L} {st : List Value} {z : Nat} {f : x_H} {cl sl : Nat}
theorem x_ireturn {mc ms : Nat} {post : Option Value → x_H → Prop} (hc : x_at me pc = some (.ireturn, 1)) {v : Int32} {ty : FieldType} (hret : me.2.2.2.1 = some ty) (hn : narrow ty (.int v) = .int v) (h1 : cl ≤ mc) (h2 : sl ≤ ms) (h : post (some (.int v)) f) : X E R me (x_QM E z mc ms post) pc lv [.int v] z f cl sl := by
  intro p e s m args below meth c H locs ls cx hz hP hS hl
  obtain ⟨hx, hb, hr, hml, hown, hts, hlk, hK, hbs, hin, hd, hI⟩ := id cx
  intro T hT hX
  have hsz := x_size hT hX hbs hz hP hS
  exact (W.widen h1 h2 (W.zret hx hb (hr.trans hret) hn (fun t ht hW => ⟨⟨some (.int v), f, rfl, h, by rw [ht]; exact hsz, by rw [ht]; exact hP, x_K.warm hW hK⟩, hS.F ht⟩) hS.2.2 (x_dec_at hd hc) hlk)) T hT hX
theorem x_lreturn {mc ms : Nat} {post : Option Value → x_H → Prop} (hc : x_at me pc = some (.lreturn, 1)) {v : Int64} (hret : me.2.2.2.1 = some .long) (h1 : cl ≤ mc) (h2 : sl ≤ ms) (h : post (some (.long v)) f) : X E R me (x_QM E z mc ms post) pc lv [.long v] z f cl sl := by
  intro p e s m args below meth c H locs ls cx hz hP hS hl
  obtain ⟨hx, hb, hr, hml, hown, hts, hlk, hK, hbs, hin, hd, hI⟩ := id cx
  intro T hT hX
  have hsz := x_size hT hX hbs hz hP hS
  exact (W.widen h1 h2 (W.lret hx hb (hr.trans hret) (fun t ht hW => ⟨⟨some (.long v), f, rfl, h, by rw [ht]; exact hsz, by rw [ht]; exact hP, x_K.warm hW hK⟩, hS.F ht⟩) hS.2.2 (x_dec_at hd hc) hlk)) T hT hX
theorem x_return {mc ms : Nat} {post : Option Value → x_H → Prop} (hc : x_at me pc = some (.return_, 1)) (hret : me.2.2.2.1 = none) (h1 : cl ≤ mc) (h2 : sl ≤ ms) (h : post none f) : X E R me (x_QM E z mc ms post) pc lv [] z f cl sl := by
  intro p e s m args below meth c H locs ls cx hz hP hS hl
  obtain ⟨hx, hb, hr, hml, hown, hts, hlk, hK, hbs, hin, hd, hI⟩ := id cx
  intro T hT hX
  have hsz := x_size hT hX hbs hz hP hS
  exact (W.widen h1 h2 (W.vret hx hb (hr.trans hret) (fun t ht hW => ⟨⟨none, f, rfl, h, by rw [ht]; exact hsz, by rw [ht]; exact hP, x_K.warm hW hK⟩, hS.F ht⟩) hS.2.2 (x_dec_at hd hc) hlk)) T hT hX
/-- a site: an instance's method, a static one, a constructor (by a nest mate or not) -/
def x_sV (own : String) (i : Nat) (ce : x_M) (n ci : Nat) : Prop := Cond.methodLink own i ce.1 ∈ x_tb ∧ Cond.instanceMethod ce.1 ∈ x_tb ∧ Cond.selects ce.1.cls ce.1 ce.1 ∈ x_tb ∧ (parseMethodDescriptor ce.1.desc).map (fun d => d.parameters.length) = some n ∧ ∃ q : vw_C, x_cl[ci]? = some q ∧ q.1 = ce.1.cls
def x_sS (own : String) (i : Nat) (ce : x_M) (n : Nat) : Prop := Cond.methodLink own i ce.1 ∈ x_tb ∧ Cond.static ce.1 ∈ x_tb ∧ (parseMethodDescriptor ce.1.desc).map (fun d => d.parameters.length) = some n
def x_sI (own : String) (i : Nat) (ce : x_M) (n : Nat) (nest : Bool) : Prop := (nest = false → Cond.methodLink own i ce.1 ∈ x_tb) ∧ (nest = true → Cond.methodLinkNest own i ce.1 RX5 ∈ x_nw) ∧ Cond.instanceMethod ce.1 ∈ x_tb ∧ ce.1.name = "<init>" ∧ ce.2.2.2.1 = none ∧ (parseMethodDescriptor ce.1.desc).map (fun d => d.parameters.length) = some n
theorem x_ws_good {ce : x_M} (hg : x_good ce) : GoodIn x_tb (x_ws ce) := by
  intro w hw
  rcases List.mem_cons.mp hw with h | h
  · subst h
    exact ⟨hg.2.2.2.2.1, x_tb_good _ hg.2.2.2.2.1⟩
  · exact ⟨h, x_tb_good _ h⟩
theorem x_blind (E : x_E) (av : List Value) (z : Nat) (f : x_H) : FrameBlind (va_Pc av (x_in E z f)) := by
  intro a U g mk h
  obtain ⟨h1, h2, h3, h4⟩ := h
  exact ⟨h1, h2, h3, x_K.same (u := U) (U := U.calling g mk a) rfl h4⟩
/-- behind a call -/
theorem x_after {E : x_E} {R : Room} {me : x_M} {QQ : List Frame → Array Value → State → State → Prop} {pc : Nat} {lv : x_L} {st : List Value} {z : Nat} {cl sl mc ms : Nat} {p : Program} {e : Env} {s : State} {m : MethodId} {args : Array Value} {below : List Frame} {meth : Method} {c : Code} {H : Heap} {locs : List Loc} {ls : Array Slot} {st0 : List Value} {av : Array Value} {T : State}
    (cx : x_cx E me p s m args meth c) (hz : s.heap.size + cl = E.2.2.2.1 + z) (hS : va_S (x_A E) s.heap H locs) (hl : lv_has ls me.2.2.1 (x_lv E lv)) (hT : T.heap = H) (hX : Stand p E.1 e R s m args below meth c T locs cl sl)
    (hr : va_Run p E.1 e R s m args below meth c H locs cl sl mc ms (F0 m pc ls st0) (st.map (x_sh E)) (x_Q E (z + mc) (fun v f' => X E R me QQ (pc + 3) lv (v.toList ++ st) (z + mc) f' (cl + mc) (sl + ms)) av) (x_A E)) : ∃ t, Steps p.tables e below (T.setTop (F0 m pc ls st0)) t ∧ QQ below args s t := by
  obtain ⟨v, st₀, t, T', L, h0, X', hL, e1, e2, ⟨⟨r, f', hv, hpost, hin'⟩, hF⟩, hgo⟩ := hr T hT hX
  cases hv
  obtain ⟨g1, g2, g3⟩ := hin'
  have hbs := cx.2.2.2.2.2.2.2.2.1
  have hsz0 : H.size ≤ t.heap.size := by
    have := hF.1
    rw [h0] at this
    exact this
  have hSt : va_S (x_A E) s.heap t.heap (locs ++ L) := by
    refine ⟨Nat.le_trans hS.1 hsz0, fun q h1 h2 => ?_, fun q hq => ?_⟩
    · have h3 := hF.2 q (by rw [h0]; exact Nat.lt_of_lt_of_le h1 hS.1) h2
      rw [h3, h0]
      exact hS.2.1 q h1 h2
    · rcases List.mem_append.mp hq with h | h
      · exact hS.2.2 q h
      · exact hL q h
  obtain ⟨t2, a1, b1⟩ := hpost p e s m args below meth c t.heap (locs ++ L) ls cx (by omega) g2 hSt hl T' e1 X'
  refine ⟨t2, hgo t2 ?_, b1⟩
  cases r with
  | none => exact a1
  | some v => exact a1
theorem x_callV {d mc ms i n ci r : Nat} {ce : x_M} {As : List Value} {fs : List Value} {stk : List Value} (hc : x_at me pc = some (.invokevirtual i, 3)) (hs : x_sV me.2.2.2.2.2.1 i ce n ci) (hg : x_good ce) (ho : x_o z f r ci fs)
    (hY : Y E d ce (.ref r :: As) z f mc ms (fun v f' => X E R me QQ (pc + 3) lv (v.toList ++ st) (z + mc) f' (cl + mc) (sl + ms)))
    (hn : As.length = n) (hstk : stk = As.reverse ++ .ref r :: st) (hR : d + 1 ≤ R.frames ∧ 8 + (ce.2.2.1 + 11) + 200 * d ≤ R.locals) (hw : (st.map fun v => v.category).sum ≤ 8) (hf : cl + mc ≤ R.cells ∧ sl + ms ≤ R.slots) : X E R me QQ pc lv stk z f cl sl := by
  subst hstk
  intro p e s m args below meth c H locs ls cx hz hP hS hl
  obtain ⟨hx, hb, hr, hml, hown, hts, hlk, hK, hbs, hin, hd, hI⟩ := id cx
  intro T hT hX
  have hsz := x_size hT hX hbs hz hP hS
  obtain ⟨s1, s2, s3, s4, q, hq, hqn⟩ := hs
  have hG : GoodIn x_tb (wsV me.2.2.2.2.2.1 i ce.1.cls ce.1 (x_ws ce)) := by
    intro w hw
    unfold wsV at hw
    rcases List.mem_append.mp hw with h | h
    · simp only [List.mem_cons, List.not_mem_nil, or_false] at h
      rcases h with h | h | h | h <;> subst h
      · exact ⟨s1, x_tb_good _ s1⟩
      · exact ⟨s2, x_tb_good _ s2⟩
      · exact ⟨s3, x_tb_good _ s3⟩
      · exact ⟨hg.2.2.2.2.2.1, x_tb_good _ hg.2.2.2.2.2.1⟩
    · exact x_ws_good hg w h
  have cw := cwV (rm := x_rm d mc ms) (mc := mc) (ms := ms) (R := R) n hts hG rfl rfl rfl ⟨rfl, hg.2.2.2.2.2.2.1, hg.2.2.2.2.2.2.2, s4⟩ hR
  have hrec := va_recv hK.1 hP hq (x_o_at ho)
  rw [hqn] at hrec
  have hr1 := va_runV (e := e) (below := below) (meth := meth) (locs := locs) (As := As.map (x_sh E)) (rest := st.map (x_sh E)) (g := F0 m pc ls ((As.reverse ++ .ref r :: st).map (x_sh E))) (b := E.2.2.2.1 + r) ⟨hx, hb, hml, hown, hts⟩ hY cw ⟨x_blind E _ z f, hrec, fun U hU hW => ⟨rfl, by rw [hU]; exact hsz, by rw [hU]; exact hP, x_K.warm hW hK⟩⟩ rfl (by rw [List.length_map]; exact hn) hl.1 (by simp [x_sh]) (lv_room (by rw [List.map_map]; simpa [Function.comp_def, x_sh_cat] using hw)) (by rw [← hb, hb]; exact x_dec_at hd hc) hf
  exact x_after cx hz hS hl hT hX hr1
theorem x_callS {d mc ms i n : Nat} {ce : x_M} {As : List Value} {stk : List Value} (hc : x_at me pc = some (.invokestatic i, 3)) (hs : x_sS me.2.2.2.2.2.1 i ce n) (hg : x_good ce)
    (hY : Y E d ce As z f mc ms (fun v f' => X E R me QQ (pc + 3) lv (v.toList ++ st) (z + mc) f' (cl + mc) (sl + ms)))
    (hn : As.length = n) (hstk : stk = As.reverse ++ st) (hR : d + 1 ≤ R.frames ∧ 8 + (ce.2.2.1 + 11) + 200 * d ≤ R.locals) (hw : (st.map fun v => v.category).sum ≤ 8) (hf : cl + mc ≤ R.cells ∧ sl + ms ≤ R.slots) : X E R me QQ pc lv stk z f cl sl := by
  subst hstk
  intro p e s m args below meth c H locs ls cx hz hP hS hl
  obtain ⟨hx, hb, hr, hml, hown, hts, hlk, hK, hbs, hin, hd, hI⟩ := id cx
  intro T hT hX
  have hsz := x_size hT hX hbs hz hP hS
  obtain ⟨s1, s2, s4⟩ := hs
  have cw := callB_of (rm := x_rm d mc ms) (mc := mc) (ms := ms) (R := R) (own := me.2.2.2.2.2.1) (index := i) n hts (x_ws_good hg) rfl rfl rfl (hts _ hg.2.2.2.2.2.1) (hts _ s1) ⟨hg.2.2.2.2.2.2.1, hg.2.2.2.2.2.2.2, s4⟩ hR
  have hr1 := va_runS (e := e) (below := below) (meth := meth) (locs := locs) (As := As.map (x_sh E)) (rest := st.map (x_sh E)) (g := F0 m pc ls ((As.reverse ++ st).map (x_sh E))) ⟨hx, hb, hml, hown, hts⟩ hY ⟨cw, hts _ s2⟩ ⟨x_blind E _ z f, fun U hU hW => ⟨rfl, by rw [hU]; exact hsz, by rw [hU]; exact hP, x_K.warm hW hK⟩⟩ rfl (by rw [List.length_map]; exact hn) hl.1 (by simp) (lv_room (by rw [List.map_map]; simpa [Function.comp_def, x_sh_cat] using hw)) (by rw [← hb, hb]; exact x_dec_at hd hc) hf
  exact x_after cx hz hS hl hT hX hr1
theorem x_callI {d mc ms i n r : Nat} {nest : Bool} {ce : x_M} {As : List Value} {stk : List Value} (hc : x_at me pc = some (.invokespecial i, 3)) (hs : x_sI me.2.2.2.2.2.1 i ce n nest) (hg : x_good ce)
    (hY : Y E d ce (.ref r :: As) z f mc ms (fun v f' => X E R me QQ (pc + 3) lv (v.toList ++ st) (z + mc) f' (cl + mc) (sl + ms)))
    (hn : As.length = n) (hstk : stk = As.reverse ++ .ref r :: st) (hR : d + 1 ≤ R.frames ∧ 8 + (ce.2.2.1 + 11) + 200 * d ≤ R.locals) (hw : (st.map fun v => v.category).sum ≤ 8) (hf : cl + mc ≤ R.cells ∧ sl + ms ≤ R.slots) : X E R me QQ pc lv stk z f cl sl := by
  subst hstk
  intro p e s m args below meth c H locs ls cx hz hP hS hl
  obtain ⟨hx, hb, hr, hml, hown, hts, hlk, hK, hbs, hin, hd, hI⟩ := id cx
  intro T hT hX
  have hsz := x_size hT hX hbs hz hP hS
  obtain ⟨s1, s1', s2, s3, s5, s4⟩ := hs
  have hws : x_ws ce = Cond.code ce.1 ce.2.1 ce.2.2.1 none :: x_tb := by rw [← s5]; rfl
  cases nest with
  | false =>
    have cw := cwI (rm := x_rm d mc ms) (mc := mc) (ms := ms) (R := R) (own := me.2.2.2.2.2.1) (index := i) n hts (x_ws_good hg) hws rfl rfl (hts _ hg.2.2.2.2.2.1) (hts _ (s1 rfl)) (hts _ s2) s3 ⟨hg.2.2.2.2.2.2.1, hg.2.2.2.2.2.2.2, s4⟩ hR
    have hr1 := va_runI (e := e) (below := below) (meth := meth) (locs := locs) (As := As.map (x_sh E)) (rest := st.map (x_sh E)) (g := F0 m pc ls ((As.reverse ++ .ref r :: st).map (x_sh E))) (b := E.2.2.2.1 + r) ⟨hx, hb, hml, hown, hts⟩ hY cw ⟨x_blind E _ z f, fun U hU hW => ⟨rfl, by rw [hU]; exact hsz, by rw [hU]; exact hP, x_K.warm hW hK⟩⟩ rfl (by rw [List.length_map]; exact hn) hl.1 (by simp [x_sh]) (lv_room (by rw [List.map_map]; simpa [Function.comp_def, x_sh_cat] using hw)) (by rw [← hb, hb]; exact x_dec_at hd hc) hf
    exact x_after cx hz hS hl hT hX hr1
  | true =>
    have cw := va_cnB (rm := x_rm d mc ms) (mc := mc) (ms := ms) (R := R) (own := me.2.2.2.2.2.1) (index := i) (host := RX5) n hts (x_ws_good hg) hws rfl rfl (hK.2.1 _ (s1' rfl)) (hts _ hg.2.2.2.2.2.1) ⟨hg.2.2.2.2.2.2.1, hg.2.2.2.2.2.2.2, s4⟩ hR
    have hr1 := va_runIN (e := e) (below := below) (meth := meth) (locs := locs) (As := As.map (x_sh E)) (rest := st.map (x_sh E)) (g := F0 m pc ls ((As.reverse ++ .ref r :: st).map (x_sh E))) (b := E.2.2.2.1 + r) ⟨hx, hb, hml, hown, hts⟩ hY ⟨cw, s3, hts _ s2⟩ ⟨x_blind E _ z f, fun U hU hW => ⟨rfl, by rw [hU]; exact hsz, by rw [hU]; exact hP, x_K.warm hW hK⟩⟩ rfl (by rw [List.length_map]; exact hn) hl.1 (by simp [x_sh]) (lv_room (by rw [List.map_map]; simpa [Function.comp_def, x_sh_cat] using hw)) (by rw [← hb, hb]; exact x_dec_at hd hc) hf
    exact x_after cx hz hS hl hT hX hr1
theorem x_obj {i r : Nat} (hc : x_at me pc = some (.invokespecial i, 3)) (hs : Cond.methodLink me.2.2.2.2.2.1 i objectInit ∈ x_tb) (hR : 1 ≤ R.frames ∧ 20 ≤ R.locals) (hw : (st.map fun v => v.category).sum ≤ 8) (k : X E R me QQ (pc + 3) lv st z f cl sl) : X E R me QQ pc lv (.ref r :: st) z f cl sl := by
  intro p e s m args below meth c H locs ls cx hz hP hS hl
  obtain ⟨hx, hb, hr, hml, hown, hts, hlk, hK, hbs, hin, hd, hI⟩ := id cx
  exact W.objInit hx hb hown (hts _ hs) (hts _ x_obI) (hts _ x_obC) rfl (by rw [hml]; exact hl.1) rfl (x_dec_at hd hc) hR.1 (by have h2 := hR.2; have h3 : ((st.map (x_sh E)).map fun v => v.category).sum = (st.map fun v => v.category).sum := (by rw [List.map_map]; congr 2; funext v; exact x_sh_cat E v); show 2 * 0 + _ + 12 ≤ _; rw [h3]; omega) (k p e s m args below meth c H locs ls cx hz hP hS hl)
theorem x_new {i ci : Nat} {q : vw_C} {fs : List Value} (hc : x_at me pc = some (.new i, 3)) (hL : x_lk me.2.2.2.2.2.2.2.2.2 i = some ci) (hq : x_cl[ci]? = some q) (hfs : ∀ j, j < q.2.2 → defaultValue (x_ty ci j) = vp_V fs j) (hsh : fs.map (x_sh E) = fs) (h1 : cl + 1 ≤ R.cells) (h2 : sl + q.2.2 ≤ R.slots) (k : ∀ f' : x_H, f' = x_up f z (.inr (ci, fs)) → X E R me QQ (pc + 3) lv (.ref z :: st) (z + 1) f' (cl + 1) (sl + q.2.2)) : X E R me QQ pc lv st z f cl sl := by
  intro p e s m args below meth c H locs ls cx hz hP hS hl
  obtain ⟨hx, hb, hr, hml, hown, hts, hlk, hK, hbs, hin, hd, hI⟩ := id cx
  intro T hT hX
  have hsz := x_size hT hX hbs hz hP hS
  obtain ⟨q', hq', hcl⟩ := hI.2.2.2 _ (x_lk_mem _ _ _ hL)
  cases hq.symm.trans hq'
  have hKn := hK.1.1 ci _ hq
  have hi := x_ini ci q hq
  refine (W.newcK hx hb hown (hts _ hcl) (hts _ hi.2) (hts _ hi.1) rfl (x_dec_at hd hc) h1 h2 hKn.2.1 hsz (fun H1 kC hkC e1 z1 o1 => ?_)) T hT hX
  have hk : ∀ (k : Nat) (x : Nat × va_E), (x_w E z f)[k]? = some x → H1[x.1]? = H[x.1]? := fun k x hx => o1 x.1 (by have h9 := (hP k x hx).lt; rw [hsz] at h9; exact h9)
  have hP1 : va_P E.2.1 x_cl (x_w E (z + 1) (x_up f z (.inr (ci, fs)))) H1 := by
    rw [← x_w_push]
    refine (hP.kept hk).app (fun k x hx => ?_)
    have hz : k < 1 := (List.getElem?_eq_some_iff.mp hx).1
    rw [show k = 0 by omega] at hx
    cases hx
    refine ⟨_, hq, (u_born (x_ty ci) hts (x_ws_in _ _ hq) hKn hkC e1 (x_ty_ok ci q hq).1).to ?_⟩
    dsimp only [x_ce]
    rw [hsh]
    exact hfs
  exact k _ rfl p e s m args below meth c H1 locs ls cx (by omega) hP1 ⟨by have := hS.1; omega, fun x g1 g2 => (o1 x (by have := hS.1; omega)).trans (hS.2.1 x g1 g2), hS.2.2⟩ hl
theorem x_newarrayI {n : Int32} {N : Nat} (hc : x_at me pc = some (.newarray .int, 2)) (hn : ¬ n < 0) (hN : n.toNatClampNeg = N) (hby : N * 8 ≤ 536870912) (h1 : cl + 1 ≤ R.cells) (h2 : sl + N ≤ R.slots) (k : ∀ f' : x_H, f' = x_up f z (.inl (N, .inl (fun _ => 0))) → X E R me QQ (pc + 2) lv (.ref z :: st) (z + 1) f' (cl + 1) (sl + N)) : X E R me QQ pc lv (.int n :: st) z f cl sl := by
  intro p e s m args below meth c H locs ls cx hz hP hS hl
  obtain ⟨hx, hb, hr, hml, hown, hts, hlk, hK, hbs, hin, hd, hI⟩ := id cx
  intro T hT hX
  have hsz := x_size hT hX hbs hz hP hS
  refine (va_newaK (atype := .int) hx hb (hts _ x_acI) rfl (x_dec_at hd hc) rfl hn hN (by show N * componentBytes .int ≤ _; simp only [componentBytes]; omega) h1 h2 hsz (fun H1 cA e1 z1 o1 hAr hNm => ?_)) T hT hX
  have hcA : E.2.2.1 0 = cA := by
    have h9 := (hK.1.2 0 (E.2.2.1 0, .int) rfl).2
    exact Option.some.inj (h9.symm.trans hNm)
  have hk : ∀ (k : Nat) (x : Nat × va_E), (x_w E z f)[k]? = some x → H1[x.1]? = H[x.1]? := fun k x hx => o1 x.1 (by have h9 := (hP k x hx).lt; rw [hsz] at h9; exact h9)
  have hP1 : va_P E.2.1 x_cl (x_w E (z + 1) (x_up f z (.inl (N, .inl (fun _ => 0))))) H1 := by
    rw [← x_w_push]
    refine (hP.kept hk).app (fun k x hx => ?_)
    have hz : k < 1 := (List.getElem?_eq_some_iff.mp hx).1
    rw [show k = 0 by omega] at hx
    cases hx
    show H1[E.2.2.2.1 + z]? = some (vp_cell (E.2.2.1 0) (N, .inl (fun _ => 0)))
    rw [hcA]
    exact e1
  exact k _ rfl p e s m args below meth c H1 locs ls cx (by omega) hP1 ⟨by have := hS.1; omega, fun x g1 g2 => (o1 x (by have := hS.1; omega)).trans (hS.2.1 x g1 g2), hS.2.2⟩ hl
theorem x_newarrayL {n : Int32} {N : Nat} (hc : x_at me pc = some (.newarray .long, 2)) (hn : ¬ n < 0) (hN : n.toNatClampNeg = N) (hby : N * 8 ≤ 536870912) (h1 : cl + 1 ≤ R.cells) (h2 : sl + N ≤ R.slots) (k : ∀ f' : x_H, f' = x_up f z (.inl (N, .inr (.inl (fun _ => 0)))) → X E R me QQ (pc + 2) lv (.ref z :: st) (z + 1) f' (cl + 1) (sl + N)) : X E R me QQ pc lv (.int n :: st) z f cl sl := by
  intro p e s m args below meth c H locs ls cx hz hP hS hl
  obtain ⟨hx, hb, hr, hml, hown, hts, hlk, hK, hbs, hin, hd, hI⟩ := id cx
  intro T hT hX
  have hsz := x_size hT hX hbs hz hP hS
  refine (va_newaK (atype := .long) hx hb (hts _ x_acJ) rfl (x_dec_at hd hc) rfl hn hN (by show N * componentBytes .long ≤ _; simp only [componentBytes]; omega) h1 h2 hsz (fun H1 cA e1 z1 o1 hAr hNm => ?_)) T hT hX
  have hcA : E.2.2.1 1 = cA := by
    have h9 := (hK.1.2 1 (E.2.2.1 1, .long) rfl).2
    exact Option.some.inj (h9.symm.trans hNm)
  have hk : ∀ (k : Nat) (x : Nat × va_E), (x_w E z f)[k]? = some x → H1[x.1]? = H[x.1]? := fun k x hx => o1 x.1 (by have h9 := (hP k x hx).lt; rw [hsz] at h9; exact h9)
  have hP1 : va_P E.2.1 x_cl (x_w E (z + 1) (x_up f z (.inl (N, .inr (.inl (fun _ => 0)))))) H1 := by
    rw [← x_w_push]
    refine (hP.kept hk).app (fun k x hx => ?_)
    have hz : k < 1 := (List.getElem?_eq_some_iff.mp hx).1
    rw [show k = 0 by omega] at hx
    cases hx
    show H1[E.2.2.2.1 + z]? = some (vp_cell (E.2.2.1 1) (N, .inr (.inl (fun _ => 0))))
    rw [hcA]
    exact e1
  exact k _ rfl p e s m args below meth c H1 locs ls cx (by omega) hP1 ⟨by have := hS.1; omega, fun x g1 g2 => (o1 x (by have := hS.1; omega)).trans (hS.2.1 x g1 g2), hS.2.2⟩ hl
theorem x_anew {i : Nat} {n : Int32} {N : Nat} (hc : x_at me pc = some (.anewarray i, 3)) (hL : x_lk me.2.2.2.2.2.2.2.2.2 i = some 3) (hn : ¬ n < 0) (hN : n.toNatClampNeg = N) (hby : N * 4 ≤ 536870912) (h1 : cl + 1 ≤ R.cells) (h2 : sl + N ≤ R.slots) (k : ∀ f' : x_H, f' = x_up f z (.inl (N, .inr (.inr (.inr (.inr (fun _ => none)))))) → X E R me QQ (pc + 3) lv (.ref z :: st) (z + 1) f' (cl + 1) (sl + N)) : X E R me QQ pc lv (.int n :: st) z f cl sl := by
  intro p e s m args below meth c H locs ls cx hz hP hS hl
  obtain ⟨hx, hb, hr, hml, hown, hts, hlk, hK, hbs, hin, hd, hI⟩ := id cx
  subst hN
  intro T hT hX
  have hsz := x_size hT hX hbs hz hP hS
  obtain ⟨q', hq', hcl⟩ := hI.2.2.2 _ (x_lk_mem _ _ _ hL)
  cases hq'
  refine (W.anew hx hb hown (hts _ hcl) (va_AO.use hK.2.2) rfl (x_dec_at hd hc) rfl hn hby h1 h2 (fun cA kA comp f1 f2 f3 f4 => ?_)) T hT hX
  have hcA : E.2.2.1 2 = cA := by
    obtain ⟨kA', comp', g1, g2, g3, g4⟩ := (hK.1.2 2 (E.2.2.1 2, .object RX3) rfl).2
    exact Option.some.inj (g4.symm.trans f1)
  subst hcA
  generalize hH1 : H.push ({ cls := E.2.2.1 2, slots := Array.replicate n.toNatClampNeg .null, vm := .none } : Cell) = H1
  have z1 : H1.size = H.size + 1 := by rw [← hH1, Array.size_push]
  have e1 : H1[H.size]? = some (arrV (E.2.2.1 2) n.toNatClampNeg (fun _ => .null)) := by rw [← hH1, Array.getElem?_push_size, ← arrV_new]
  have o1 : ∀ q : Nat, q < H.size → H1[q]? = H[q]? := fun q hq => by rw [← hH1, Array.getElem?_push, if_neg (Nat.ne_of_lt hq)]
  have hk : ∀ (k : Nat) (x : Nat × va_E), (x_w E z f)[k]? = some x → H1[x.1]? = H[x.1]? := fun k x hx => o1 x.1 (hP k x hx).lt
  rw [hsz] at z1 e1 ⊢
  have hP1 : va_P E.2.1 x_cl (x_w E (z + 1) (x_up f z (.inl (n.toNatClampNeg, .inr (.inr (.inr (.inr (fun _ => none)))))))) H1 := by
    rw [← x_w_push]
    refine (hP.kept hk).app (fun k x hx => ?_)
    have hz : k < 1 := (List.getElem?_eq_some_iff.mp hx).1
    rw [show k = 0 by omega] at hx
    cases hx
    show H1[E.2.2.2.1 + z]? = some (vp_cell (E.2.2.1 2) _)
    exact e1
  exact k _ rfl p e s m args below meth c H1 locs ls cx (by omega) hP1 ⟨by have := hS.1; omega, fun x g1 g2 => (o1 x (by have := hS.1; omega)).trans (hS.2.1 x g1 g2), hS.2.2⟩ hl
theorem x_aastore {r n x : Nat} {g : Nat → Option Nat} {i : Int32} {vs : List Value} (hc : x_at me pc = some (.aastore, 1)) (ha : x_a z f r (n, .inr (.inr (.inr (.inr g))))) (ho : x_o z f x 3 vs) (hi : vp_in i n) (k : ∀ f' : x_H, f' = x_up f r (.inl (n, .inr (.inr (.inr (.inr (va_up g i.toNatClampNeg (some x))))))) → X E R me QQ (pc + 1) lv st z f' cl sl) : X E R me QQ pc lv (.ref x :: .int i :: .ref r :: st) z f cl sl := by
  intro p e s m args below meth c H locs ls cx hz hP hS hl
  refine va_astq cx.1 cx.2.1 cx.2.2.2.2.2.2.2.1.1 hP (x_w_D E z f) hS r 2 x 3 (x_a_at ha) rfl (x_o_at ho) rfl hi (x_dec_at cx.2.2.2.2.2.2.2.2.2.2.1 hc) (fun H1 locs1 hP1 _ hS1 => ?_)
  have hg : ∀ j : Nat, va_up (fun j => (g j).map (fun k => E.2.2.2.1 + k)) i.toNatClampNeg (some (E.2.2.2.1 + x)) j = ((va_up g i.toNatClampNeg (some x)) j).map (fun k => E.2.2.2.1 + k) := by
    intro j
    by_cases h : j = i.toNatClampNeg
    · subst h
      simp [va_up]
    · simp [va_up, h]
  have hw : (x_w E z f).set r (E.2.2.2.1 + r, .inl (E.2.2.1 2, n, .inr (.inr (.inr (.inr (va_up (fun j => (g j).map (fun k => E.2.2.2.1 + k)) i.toNatClampNeg (some (E.2.2.2.1 + x)))))))) = x_w E z (x_up f r (.inl (n, .inr (.inr (.inr (.inr (va_up g i.toNatClampNeg (some x)))))))) := by
    rw [← x_w_set, funext hg]
    rfl
  have hP2 : va_P E.2.1 x_cl ((x_w E z f).set r (E.2.2.2.1 + r, .inl (E.2.2.1 2, n, .inr (.inr (.inr (.inr (va_up (fun j => (g j).map (fun k => E.2.2.2.1 + k)) i.toNatClampNeg (some (E.2.2.2.1 + x))))))))) H1 := hP1
  rw [hw] at hP2
  exact k _ rfl p e s m args below meth c H1 locs1 ls cx hz hP2 hS1 hl
theorem x_copy {i r0 r1 n0 n1 : Nat} {g0 g1 : Nat → Int32} {sp dp n : Int32} (hc : x_at me pc = some (.invokestatic i, 3)) (hs : Cond.methodLink me.2.2.2.2.2.1 i arraycopyName ∈ x_tb) (ha0 : x_a z f r0 (n0, .inl g0)) (ha1 : x_a z f r1 (n1, .inl g1)) (h1 : ¬ sp < 0) (h2 : ¬ dp < 0) (h3 : ¬ n < 0) (h4 : sp.toNatClampNeg + n.toNatClampNeg ≤ n0) (h5 : dp.toNatClampNeg + n.toNatClampNeg ≤ n1)
    (hR : 1 ≤ R.frames ∧ 8 + (nativeFrameWords "java/lang/System" "arraycopy" 5 + 11) ≤ R.locals) (hw : (st.map fun v => v.category).sum ≤ 8) (k : ∀ f' : x_H, f' = x_up f r1 (.inl (n1, .inl (va_cpy g0 g1 sp.toNatClampNeg dp.toNatClampNeg n.toNatClampNeg))) → X E R me QQ (pc + 3) lv st z f' cl sl) : X E R me QQ pc lv (.int n :: .int dp :: .ref r1 :: .int sp :: .ref r0 :: st) z f cl sl := by
  intro p e s m args below meth c H locs ls cx hz hP hS hl
  obtain ⟨hx, hb, hr, hml, hown, hts, hlk, hK, hbs, hin, hd, hI⟩ := id cx
  have h9 : ((st.map (x_sh E)).map fun v => v.category).sum = (st.map fun v => v.category).sum := by rw [List.map_map]; congr 2; funext v; exact x_sh_cat E v
  refine va_copyi hx hb (by rw [hml]; exact hl.1.symm) hown (hts _ hs) (hts _ x_cpN) (hts _ x_cpS) (hts _ iniJ10) hK.1 hP (x_w_D E z f) hS r0 r1 0 0 (x_a_at ha0) (x_a_at ha1) rfl rfl rfl h1 h2 h3 h4 h5 (fun _ _ => rfl) hR.1 (by rw [h9]; have := hR.2; omega) (x_dec_at hd hc) (fun H1 locs1 hP1 _ hS1 => ?_)
  have hw : (x_w E z f).set r1 (E.2.2.2.1 + r1, .inl (E.2.2.1 0, n1, .inl (va_cpy g0 g1 sp.toNatClampNeg dp.toNatClampNeg n.toNatClampNeg))) = x_w E z (x_up f r1 (.inl (n1, .inl (va_cpy g0 g1 sp.toNatClampNeg dp.toNatClampNeg n.toNatClampNeg)))) := by
    rw [← x_w_set]
    rfl
  have hP2 : va_P E.2.1 x_cl ((x_w E z f).set r1 (E.2.2.2.1 + r1, .inl (E.2.2.1 0, n1, .inl (va_cpy g0 g1 sp.toNatClampNeg dp.toNatClampNeg n.toNatClampNeg)))) H1 := hP1
  rw [hw] at hP2
  exact k _ rfl p e s m args below meth c H1 locs1 ls cx hz hP2 hS1 hl
end STEPS2
end
