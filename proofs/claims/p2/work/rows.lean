section
-- ===== PART A: goes FIRST, ahead of the names: the tables' words, and 'selects' of the private methods out of them =====
/-- a private method of a class that the tables say can be made, by its rows of tables_1 -/
def lw_okq (q : MethodName × Nat) : Prop := (q.1.cls ≠ "java/lang/invoke/MethodHandle" ∧ q.1.cls ≠ "java/lang/invoke/VarHandle") ∧ Cond.instantiable q.1.cls q.2 ∈ tables_1 ∧ Cond.privateMethod q.1 ∈ tables_1 ∧ Cond.instanceMethod q.1 ∈ tables_1
theorem lw_p0 : lw_okq (⟨"PurseOfNineBowls", "refuse", "(I)I"⟩, 12) := ⟨⟨by decide +kernel, by decide +kernel⟩, List.mem_of_getElem? (i := 12) (by decide +kernel), List.mem_of_getElem? (i := 201) (by decide +kernel), List.mem_of_getElem? (i := 202) (by decide +kernel)⟩
theorem lw_p1 : lw_okq (⟨"PurseOfNineBowls$Letters", "stuckAt", "()I"⟩, 2) := ⟨⟨by decide +kernel, by decide +kernel⟩, List.mem_of_getElem? (i := 81) (by decide +kernel), List.mem_of_getElem? (i := 224) (by decide +kernel), List.mem_of_getElem? (i := 225) (by decide +kernel)⟩
theorem lw_p2 : lw_okq (⟨"PurseOfNineBowls$Letters", "stuckIn", "(I)I"⟩, 2) := ⟨⟨by decide +kernel, by decide +kernel⟩, List.mem_of_getElem? (i := 81) (by decide +kernel), List.mem_of_getElem? (i := 228) (by decide +kernel), List.mem_of_getElem? (i := 229) (by decide +kernel)⟩
theorem lw_p3 : lw_okq (⟨"PurseOfNineBowls$Letters", "letterAt", "(I)I"⟩, 2) := ⟨⟨by decide +kernel, by decide +kernel⟩, List.mem_of_getElem? (i := 81) (by decide +kernel), List.mem_of_getElem? (i := 232) (by decide +kernel), List.mem_of_getElem? (i := 233) (by decide +kernel)⟩
theorem lw_p4 : lw_okq (⟨"PurseOfNineBowls$Letters", "digitsFrom", "(II)I"⟩, 2) := ⟨⟨by decide +kernel, by decide +kernel⟩, List.mem_of_getElem? (i := 81) (by decide +kernel), List.mem_of_getElem? (i := 242) (by decide +kernel), List.mem_of_getElem? (i := 243) (by decide +kernel)⟩
theorem lw_p5 : lw_okq (⟨"PurseOfNineBowls$Letters", "digitAt", "(I)I"⟩, 2) := ⟨⟨by decide +kernel, by decide +kernel⟩, List.mem_of_getElem? (i := 81) (by decide +kernel), List.mem_of_getElem? (i := 246) (by decide +kernel), List.mem_of_getElem? (i := 247) (by decide +kernel)⟩
theorem lw_p6 : lw_okq (⟨"PurseOfNineBowls$Letters", "behindStatement", "(I)I"⟩, 2) := ⟨⟨by decide +kernel, by decide +kernel⟩, List.mem_of_getElem? (i := 81) (by decide +kernel), List.mem_of_getElem? (i := 253) (by decide +kernel), List.mem_of_getElem? (i := 254) (by decide +kernel)⟩
theorem lw_p7 : lw_okq (⟨"PurseOfNineBowls$Letters", "apply", "(ILPurseOfNineBowls$Table;)Z"⟩, 2) := ⟨⟨by decide +kernel, by decide +kernel⟩, List.mem_of_getElem? (i := 81) (by decide +kernel), List.mem_of_getElem? (i := 257) (by decide +kernel), List.mem_of_getElem? (i := 258) (by decide +kernel)⟩
theorem lw_p8 : lw_okq (⟨"PurseOfNineBowls$Letters", "addBowl", "(ILPurseOfNineBowls$Table;)Z"⟩, 2) := ⟨⟨by decide +kernel, by decide +kernel⟩, List.mem_of_getElem? (i := 81) (by decide +kernel), List.mem_of_getElem? (i := 261) (by decide +kernel), List.mem_of_getElem? (i := 262) (by decide +kernel)⟩
theorem lw_p9 : lw_okq (⟨"PurseOfNineBowls$Letters", "makeMoves", "(ILPurseOfNineBowls$Table;)Z"⟩, 2) := ⟨⟨by decide +kernel, by decide +kernel⟩, List.mem_of_getElem? (i := 81) (by decide +kernel), List.mem_of_getElem? (i := 286) (by decide +kernel), List.mem_of_getElem? (i := 287) (by decide +kernel)⟩
theorem lw_p10 : lw_okq (⟨"PurseOfNineBowls$Table", "sowHand", "(I)Z"⟩, 12) := ⟨⟨by decide +kernel, by decide +kernel⟩, List.mem_of_getElem? (i := 20) (by decide +kernel), List.mem_of_getElem? (i := 299) (by decide +kernel), List.mem_of_getElem? (i := 300) (by decide +kernel)⟩
theorem lw_p11 : lw_okq (⟨"PurseOfNineBowls$Table", "rightOrLeftOf", "(I)I"⟩, 12) := ⟨⟨by decide +kernel, by decide +kernel⟩, List.mem_of_getElem? (i := 20) (by decide +kernel), List.mem_of_getElem? (i := 303) (by decide +kernel), List.mem_of_getElem? (i := 304) (by decide +kernel)⟩
theorem lw_p12 : lw_okq (⟨"PurseOfNineBowls$Table", "takeSingle", "()Z"⟩, 12) := ⟨⟨by decide +kernel, by decide +kernel⟩, List.mem_of_getElem? (i := 20) (by decide +kernel), List.mem_of_getElem? (i := 319) (by decide +kernel), List.mem_of_getElem? (i := 320) (by decide +kernel)⟩
theorem lw_p13 : lw_okq (⟨"PurseOfNineBowls", "tryMove", "(I)Z"⟩, 12) := ⟨⟨by decide +kernel, by decide +kernel⟩, List.mem_of_getElem? (i := 12) (by decide +kernel), List.mem_of_getElem? (i := 358) (by decide +kernel), List.mem_of_getElem? (i := 359) (by decide +kernel)⟩
theorem lw_p14 : lw_okq (⟨"PurseOfNineBowls", "refuseFar", "(I)I"⟩, 12) := ⟨⟨by decide +kernel, by decide +kernel⟩, List.mem_of_getElem? (i := 12) (by decide +kernel), List.mem_of_getElem? (i := 403) (by decide +kernel), List.mem_of_getElem? (i := 404) (by decide +kernel)⟩
theorem lw_p15 : lw_okq (⟨"PurseOfNineBowls", "roundOf", "(I)I"⟩, 12) := ⟨⟨by decide +kernel, by decide +kernel⟩, List.mem_of_getElem? (i := 12) (by decide +kernel), List.mem_of_getElem? (i := 425) (by decide +kernel), List.mem_of_getElem? (i := 426) (by decide +kernel)⟩
def lw_privs_1 : List (MethodName × Nat) := [(⟨"PurseOfNineBowls", "refuse", "(I)I"⟩, 12), (⟨"PurseOfNineBowls$Letters", "stuckAt", "()I"⟩, 2), (⟨"PurseOfNineBowls$Letters", "stuckIn", "(I)I"⟩, 2), (⟨"PurseOfNineBowls$Letters", "letterAt", "(I)I"⟩, 2), (⟨"PurseOfNineBowls$Letters", "digitsFrom", "(II)I"⟩, 2), (⟨"PurseOfNineBowls$Letters", "digitAt", "(I)I"⟩, 2), (⟨"PurseOfNineBowls$Letters", "behindStatement", "(I)I"⟩, 2), (⟨"PurseOfNineBowls$Letters", "apply", "(ILPurseOfNineBowls$Table;)Z"⟩, 2), (⟨"PurseOfNineBowls$Letters", "addBowl", "(ILPurseOfNineBowls$Table;)Z"⟩, 2), (⟨"PurseOfNineBowls$Letters", "makeMoves", "(ILPurseOfNineBowls$Table;)Z"⟩, 2), (⟨"PurseOfNineBowls$Table", "sowHand", "(I)Z"⟩, 12), (⟨"PurseOfNineBowls$Table", "rightOrLeftOf", "(I)I"⟩, 12), (⟨"PurseOfNineBowls$Table", "takeSingle", "()Z"⟩, 12), (⟨"PurseOfNineBowls", "tryMove", "(I)Z"⟩, 12), (⟨"PurseOfNineBowls", "refuseFar", "(I)I"⟩, 12), (⟨"PurseOfNineBowls", "roundOf", "(I)I"⟩, 12)]
theorem lw_r1 : ∀ q ∈ lw_privs_1, lw_okq q := List.forall_mem_cons.mpr ⟨lw_p0, List.forall_mem_cons.mpr ⟨lw_p1, List.forall_mem_cons.mpr ⟨lw_p2, List.forall_mem_cons.mpr ⟨lw_p3, List.forall_mem_cons.mpr ⟨lw_p4, List.forall_mem_cons.mpr ⟨lw_p5, List.forall_mem_cons.mpr ⟨lw_p6, List.forall_mem_cons.mpr ⟨lw_p7, List.forall_mem_cons.mpr ⟨lw_p8, List.forall_mem_cons.mpr ⟨lw_p9, List.forall_mem_cons.mpr ⟨lw_p10, List.forall_mem_cons.mpr ⟨lw_p11, List.forall_mem_cons.mpr ⟨lw_p12, List.forall_mem_cons.mpr ⟨lw_p13, List.forall_mem_cons.mpr ⟨lw_p14, List.forall_mem_cons.mpr ⟨lw_p15, fun _ h => absurd h List.not_mem_nil⟩⟩⟩⟩⟩⟩⟩⟩⟩⟩⟩⟩⟩⟩⟩⟩
theorem lw_p16 : lw_okq (⟨"PurseOfNineBowls", "entryOf", "(II)I"⟩, 12) := ⟨⟨by decide +kernel, by decide +kernel⟩, List.mem_of_getElem? (i := 12) (by decide +kernel), List.mem_of_getElem? (i := 430) (by decide +kernel), List.mem_of_getElem? (i := 431) (by decide +kernel)⟩
theorem lw_p17 : lw_okq (⟨"PurseOfNineBowls$Emptying", "keep", "(JI)V"⟩, 8) := ⟨⟨by decide +kernel, by decide +kernel⟩, List.mem_of_getElem? (i := 111) (by decide +kernel), List.mem_of_getElem? (i := 451) (by decide +kernel), List.mem_of_getElem? (i := 452) (by decide +kernel)⟩
theorem lw_p18 : lw_okq (⟨"PurseOfNineBowls$Emptying", "goOnFrom", "(III)V"⟩, 8) := ⟨⟨by decide +kernel, by decide +kernel⟩, List.mem_of_getElem? (i := 111) (by decide +kernel), List.mem_of_getElem? (i := 456) (by decide +kernel), List.mem_of_getElem? (i := 457) (by decide +kernel)⟩
theorem lw_p19 : lw_okq (⟨"PurseOfNineBowls", "worthChange", "(II)I"⟩, 12) := ⟨⟨by decide +kernel, by decide +kernel⟩, List.mem_of_getElem? (i := 12) (by decide +kernel), List.mem_of_getElem? (i := 471) (by decide +kernel), List.mem_of_getElem? (i := 472) (by decide +kernel)⟩
theorem lw_p20 : lw_okq (⟨"PurseOfNineBowls", "refusalToLay", "(I)I"⟩, 12) := ⟨⟨by decide +kernel, by decide +kernel⟩, List.mem_of_getElem? (i := 12) (by decide +kernel), List.mem_of_getElem? (i := 492) (by decide +kernel), List.mem_of_getElem? (i := 493) (by decide +kernel)⟩
theorem lw_p21 : lw_okq (⟨"PurseOfNineBowls$Ways", "layOneMore", "(II)V"⟩, 2) := ⟨⟨by decide +kernel, by decide +kernel⟩, List.mem_of_getElem? (i := 147) (by decide +kernel), List.mem_of_getElem? (i := 505) (by decide +kernel), List.mem_of_getElem? (i := 506) (by decide +kernel)⟩
theorem lw_p22 : lw_okq (⟨"PurseOfNineBowls", "playRow", "()I"⟩, 12) := ⟨⟨by decide +kernel, by decide +kernel⟩, List.mem_of_getElem? (i := 12) (by decide +kernel), List.mem_of_getElem? (i := 532) (by decide +kernel), List.mem_of_getElem? (i := 533) (by decide +kernel)⟩
theorem lw_p23 : lw_okq (⟨"PurseOfNineBowls", "playLot", "(I)I"⟩, 12) := ⟨⟨by decide +kernel, by decide +kernel⟩, List.mem_of_getElem? (i := 12) (by decide +kernel), List.mem_of_getElem? (i := 552) (by decide +kernel), List.mem_of_getElem? (i := 553) (by decide +kernel)⟩
theorem lw_p24 : lw_okq (⟨"PurseOfNineBowlsModel", "refuse", "(I)I"⟩, 32) := ⟨⟨by decide +kernel, by decide +kernel⟩, List.mem_of_getElem? (i := 571) (by decide +kernel), List.mem_of_getElem? (i := 677) (by decide +kernel), List.mem_of_getElem? (i := 678) (by decide +kernel)⟩
theorem lw_p25 : lw_okq (⟨"PurseOfNineBowlsModel", "passes", "(I)I"⟩, 32) := ⟨⟨by decide +kernel, by decide +kernel⟩, List.mem_of_getElem? (i := 571) (by decide +kernel), List.mem_of_getElem? (i := 685) (by decide +kernel), List.mem_of_getElem? (i := 686) (by decide +kernel)⟩
theorem lw_p26 : lw_okq (⟨"PurseOfNineBowlsModel", "letterAt", "(I)I"⟩, 32) := ⟨⟨by decide +kernel, by decide +kernel⟩, List.mem_of_getElem? (i := 571) (by decide +kernel), List.mem_of_getElem? (i := 689) (by decide +kernel), List.mem_of_getElem? (i := 690) (by decide +kernel)⟩
theorem lw_p27 : lw_okq (⟨"PurseOfNineBowlsModel", "digitsFrom", "(II)I"⟩, 32) := ⟨⟨by decide +kernel, by decide +kernel⟩, List.mem_of_getElem? (i := 571) (by decide +kernel), List.mem_of_getElem? (i := 696) (by decide +kernel), List.mem_of_getElem? (i := 697) (by decide +kernel)⟩
theorem lw_p28 : lw_okq (⟨"PurseOfNineBowlsModel", "keeps", "(I)V"⟩, 32) := ⟨⟨by decide +kernel, by decide +kernel⟩, List.mem_of_getElem? (i := 571) (by decide +kernel), List.mem_of_getElem? (i := 703) (by decide +kernel), List.mem_of_getElem? (i := 704) (by decide +kernel)⟩
theorem lw_p29 : lw_okq (⟨"PurseOfNineBowlsModel", "does", "(I)Z"⟩, 32) := ⟨⟨by decide +kernel, by decide +kernel⟩, List.mem_of_getElem? (i := 571) (by decide +kernel), List.mem_of_getElem? (i := 707) (by decide +kernel), List.mem_of_getElem? (i := 708) (by decide +kernel)⟩
theorem lw_p30 : lw_okq (⟨"PurseOfNineBowlsModel", "digit", "(I)I"⟩, 32) := ⟨⟨by decide +kernel, by decide +kernel⟩, List.mem_of_getElem? (i := 571) (by decide +kernel), List.mem_of_getElem? (i := 711) (by decide +kernel), List.mem_of_getElem? (i := 712) (by decide +kernel)⟩
theorem lw_p31 : lw_okq (⟨"PurseOfNineBowlsModel", "doesSowings", "(I)Z"⟩, 32) := ⟨⟨by decide +kernel, by decide +kernel⟩, List.mem_of_getElem? (i := 571) (by decide +kernel), List.mem_of_getElem? (i := 715) (by decide +kernel), List.mem_of_getElem? (i := 716) (by decide +kernel)⟩
def lw_privs_2 : List (MethodName × Nat) := [(⟨"PurseOfNineBowls", "entryOf", "(II)I"⟩, 12), (⟨"PurseOfNineBowls$Emptying", "keep", "(JI)V"⟩, 8), (⟨"PurseOfNineBowls$Emptying", "goOnFrom", "(III)V"⟩, 8), (⟨"PurseOfNineBowls", "worthChange", "(II)I"⟩, 12), (⟨"PurseOfNineBowls", "refusalToLay", "(I)I"⟩, 12), (⟨"PurseOfNineBowls$Ways", "layOneMore", "(II)V"⟩, 2), (⟨"PurseOfNineBowls", "playRow", "()I"⟩, 12), (⟨"PurseOfNineBowls", "playLot", "(I)I"⟩, 12), (⟨"PurseOfNineBowlsModel", "refuse", "(I)I"⟩, 32), (⟨"PurseOfNineBowlsModel", "passes", "(I)I"⟩, 32), (⟨"PurseOfNineBowlsModel", "letterAt", "(I)I"⟩, 32), (⟨"PurseOfNineBowlsModel", "digitsFrom", "(II)I"⟩, 32), (⟨"PurseOfNineBowlsModel", "keeps", "(I)V"⟩, 32), (⟨"PurseOfNineBowlsModel", "does", "(I)Z"⟩, 32), (⟨"PurseOfNineBowlsModel", "digit", "(I)I"⟩, 32), (⟨"PurseOfNineBowlsModel", "doesSowings", "(I)Z"⟩, 32)]
theorem lw_r2 : ∀ q ∈ lw_privs_2, lw_okq q := List.forall_mem_cons.mpr ⟨lw_p16, List.forall_mem_cons.mpr ⟨lw_p17, List.forall_mem_cons.mpr ⟨lw_p18, List.forall_mem_cons.mpr ⟨lw_p19, List.forall_mem_cons.mpr ⟨lw_p20, List.forall_mem_cons.mpr ⟨lw_p21, List.forall_mem_cons.mpr ⟨lw_p22, List.forall_mem_cons.mpr ⟨lw_p23, List.forall_mem_cons.mpr ⟨lw_p24, List.forall_mem_cons.mpr ⟨lw_p25, List.forall_mem_cons.mpr ⟨lw_p26, List.forall_mem_cons.mpr ⟨lw_p27, List.forall_mem_cons.mpr ⟨lw_p28, List.forall_mem_cons.mpr ⟨lw_p29, List.forall_mem_cons.mpr ⟨lw_p30, List.forall_mem_cons.mpr ⟨lw_p31, fun _ h => absurd h List.not_mem_nil⟩⟩⟩⟩⟩⟩⟩⟩⟩⟩⟩⟩⟩⟩⟩⟩
theorem lw_p32 : lw_okq (⟨"PurseOfNineBowlsModel", "canMove", "(I)Z"⟩, 32) := ⟨⟨by decide +kernel, by decide +kernel⟩, List.mem_of_getElem? (i := 571) (by decide +kernel), List.mem_of_getElem? (i := 719) (by decide +kernel), List.mem_of_getElem? (i := 720) (by decide +kernel)⟩
theorem lw_p33 : lw_okq (⟨"PurseOfNineBowlsModel", "isBowl", "(I)Z"⟩, 32) := ⟨⟨by decide +kernel, by decide +kernel⟩, List.mem_of_getElem? (i := 571) (by decide +kernel), List.mem_of_getElem? (i := 723) (by decide +kernel), List.mem_of_getElem? (i := 724) (by decide +kernel)⟩
theorem lw_p34 : lw_okq (⟨"PurseOfNineBowlsModel", "moves", "(I)V"⟩, 32) := ⟨⟨by decide +kernel, by decide +kernel⟩, List.mem_of_getElem? (i := 571) (by decide +kernel), List.mem_of_getElem? (i := 730) (by decide +kernel), List.mem_of_getElem? (i := 731) (by decide +kernel)⟩
theorem lw_p35 : lw_okq (⟨"PurseOfNineBowlsModel", "sows", "(I)V"⟩, 32) := ⟨⟨by decide +kernel, by decide +kernel⟩, List.mem_of_getElem? (i := 571) (by decide +kernel), List.mem_of_getElem? (i := 734) (by decide +kernel), List.mem_of_getElem? (i := 735) (by decide +kernel)⟩
theorem lw_p36 : lw_okq (⟨"PurseOfNineBowlsModel", "sowsHand", "(I)I"⟩, 32) := ⟨⟨by decide +kernel, by decide +kernel⟩, List.mem_of_getElem? (i := 571) (by decide +kernel), List.mem_of_getElem? (i := 738) (by decide +kernel), List.mem_of_getElem? (i := 739) (by decide +kernel)⟩
theorem lw_p37 : lw_okq (⟨"PurseOfNineBowlsModel", "beside", "(I)I"⟩, 32) := ⟨⟨by decide +kernel, by decide +kernel⟩, List.mem_of_getElem? (i := 571) (by decide +kernel), List.mem_of_getElem? (i := 742) (by decide +kernel), List.mem_of_getElem? (i := 743) (by decide +kernel)⟩
theorem lw_p38 : lw_okq (⟨"PurseOfNineBowlsModel", "takes", "(I)Z"⟩, 32) := ⟨⟨by decide +kernel, by decide +kernel⟩, List.mem_of_getElem? (i := 571) (by decide +kernel), List.mem_of_getElem? (i := 746) (by decide +kernel), List.mem_of_getElem? (i := 747) (by decide +kernel)⟩
theorem lw_p39 : lw_okq (⟨"PurseOfNineBowlsModel", "soundsFrom", "(I)I"⟩, 32) := ⟨⟨by decide +kernel, by decide +kernel⟩, List.mem_of_getElem? (i := 571) (by decide +kernel), List.mem_of_getElem? (i := 750) (by decide +kernel), List.mem_of_getElem? (i := 751) (by decide +kernel)⟩
theorem lw_p40 : lw_okq (⟨"PurseOfNineBowlsModel", "exchanges", "(II)V"⟩, 32) := ⟨⟨by decide +kernel, by decide +kernel⟩, List.mem_of_getElem? (i := 571) (by decide +kernel), List.mem_of_getElem? (i := 754) (by decide +kernel), List.mem_of_getElem? (i := 755) (by decide +kernel)⟩
theorem lw_p41 : lw_okq (⟨"PurseOfNineBowlsModel", "lays", "(I)V"⟩, 32) := ⟨⟨by decide +kernel, by decide +kernel⟩, List.mem_of_getElem? (i := 571) (by decide +kernel), List.mem_of_getElem? (i := 758) (by decide +kernel), List.mem_of_getElem? (i := 759) (by decide +kernel)⟩
theorem lw_p42 : lw_okq (⟨"PurseOfNineBowlsModel", "all", "()I"⟩, 32) := ⟨⟨by decide +kernel, by decide +kernel⟩, List.mem_of_getElem? (i := 571) (by decide +kernel), List.mem_of_getElem? (i := 785) (by decide +kernel), List.mem_of_getElem? (i := 786) (by decide +kernel)⟩
theorem lw_p43 : lw_okq (⟨"PurseOfNineBowlsModel", "seeks", "(II)I"⟩, 32) := ⟨⟨by decide +kernel, by decide +kernel⟩, List.mem_of_getElem? (i := 571) (by decide +kernel), List.mem_of_getElem? (i := 805) (by decide +kernel), List.mem_of_getElem? (i := 806) (by decide +kernel)⟩
theorem lw_p44 : lw_okq (⟨"PurseOfNineBowlsModel", "told", "(I)I"⟩, 32) := ⟨⟨by decide +kernel, by decide +kernel⟩, List.mem_of_getElem? (i := 571) (by decide +kernel), List.mem_of_getElem? (i := 813) (by decide +kernel), List.mem_of_getElem? (i := 814) (by decide +kernel)⟩
theorem lw_p45 : lw_okq (⟨"PurseOfNineBowlsModel", "worthOf", "(I)I"⟩, 32) := ⟨⟨by decide +kernel, by decide +kernel⟩, List.mem_of_getElem? (i := 571) (by decide +kernel), List.mem_of_getElem? (i := 818) (by decide +kernel), List.mem_of_getElem? (i := 819) (by decide +kernel)⟩
theorem lw_p46 : lw_okq (⟨"PurseOfNineBowlsModel", "records200", "(I)I"⟩, 32) := ⟨⟨by decide +kernel, by decide +kernel⟩, List.mem_of_getElem? (i := 571) (by decide +kernel), List.mem_of_getElem? (i := 830) (by decide +kernel), List.mem_of_getElem? (i := 831) (by decide +kernel)⟩
theorem lw_p47 : lw_okq (⟨"PurseOfNineBowlsModel", "records", "(I)V"⟩, 32) := ⟨⟨by decide +kernel, by decide +kernel⟩, List.mem_of_getElem? (i := 571) (by decide +kernel), List.mem_of_getElem? (i := 834) (by decide +kernel), List.mem_of_getElem? (i := 835) (by decide +kernel)⟩
def lw_privs_3 : List (MethodName × Nat) := [(⟨"PurseOfNineBowlsModel", "canMove", "(I)Z"⟩, 32), (⟨"PurseOfNineBowlsModel", "isBowl", "(I)Z"⟩, 32), (⟨"PurseOfNineBowlsModel", "moves", "(I)V"⟩, 32), (⟨"PurseOfNineBowlsModel", "sows", "(I)V"⟩, 32), (⟨"PurseOfNineBowlsModel", "sowsHand", "(I)I"⟩, 32), (⟨"PurseOfNineBowlsModel", "beside", "(I)I"⟩, 32), (⟨"PurseOfNineBowlsModel", "takes", "(I)Z"⟩, 32), (⟨"PurseOfNineBowlsModel", "soundsFrom", "(I)I"⟩, 32), (⟨"PurseOfNineBowlsModel", "exchanges", "(II)V"⟩, 32), (⟨"PurseOfNineBowlsModel", "lays", "(I)V"⟩, 32), (⟨"PurseOfNineBowlsModel", "all", "()I"⟩, 32), (⟨"PurseOfNineBowlsModel", "seeks", "(II)I"⟩, 32), (⟨"PurseOfNineBowlsModel", "told", "(I)I"⟩, 32), (⟨"PurseOfNineBowlsModel", "worthOf", "(I)I"⟩, 32), (⟨"PurseOfNineBowlsModel", "records200", "(I)I"⟩, 32), (⟨"PurseOfNineBowlsModel", "records", "(I)V"⟩, 32)]
theorem lw_r3 : ∀ q ∈ lw_privs_3, lw_okq q := List.forall_mem_cons.mpr ⟨lw_p32, List.forall_mem_cons.mpr ⟨lw_p33, List.forall_mem_cons.mpr ⟨lw_p34, List.forall_mem_cons.mpr ⟨lw_p35, List.forall_mem_cons.mpr ⟨lw_p36, List.forall_mem_cons.mpr ⟨lw_p37, List.forall_mem_cons.mpr ⟨lw_p38, List.forall_mem_cons.mpr ⟨lw_p39, List.forall_mem_cons.mpr ⟨lw_p40, List.forall_mem_cons.mpr ⟨lw_p41, List.forall_mem_cons.mpr ⟨lw_p42, List.forall_mem_cons.mpr ⟨lw_p43, List.forall_mem_cons.mpr ⟨lw_p44, List.forall_mem_cons.mpr ⟨lw_p45, List.forall_mem_cons.mpr ⟨lw_p46, List.forall_mem_cons.mpr ⟨lw_p47, fun _ h => absurd h List.not_mem_nil⟩⟩⟩⟩⟩⟩⟩⟩⟩⟩⟩⟩⟩⟩⟩⟩
theorem lw_p48 : lw_okq (⟨"PurseOfNineBowlsModel", "isLike", "(II)Z"⟩, 32) := ⟨⟨by decide +kernel, by decide +kernel⟩, List.mem_of_getElem? (i := 571) (by decide +kernel), List.mem_of_getElem? (i := 838) (by decide +kernel), List.mem_of_getElem? (i := 839) (by decide +kernel)⟩
theorem lw_p49 : lw_okq (⟨"PurseOfNineBowlsModel", "isEmptied", "(III)Z"⟩, 32) := ⟨⟨by decide +kernel, by decide +kernel⟩, List.mem_of_getElem? (i := 571) (by decide +kernel), List.mem_of_getElem? (i := 850) (by decide +kernel), List.mem_of_getElem? (i := 851) (by decide +kernel)⟩
theorem lw_p50 : lw_okq (⟨"PurseOfNineBowlsModel", "worthBy", "(II)I"⟩, 32) := ⟨⟨by decide +kernel, by decide +kernel⟩, List.mem_of_getElem? (i := 571) (by decide +kernel), List.mem_of_getElem? (i := 858) (by decide +kernel), List.mem_of_getElem? (i := 859) (by decide +kernel)⟩
theorem lw_p51 : lw_okq (⟨"PurseOfNineBowlsModel", "isRow", "()Z"⟩, 32) := ⟨⟨by decide +kernel, by decide +kernel⟩, List.mem_of_getElem? (i := 571) (by decide +kernel), List.mem_of_getElem? (i := 878) (by decide +kernel), List.mem_of_getElem? (i := 879) (by decide +kernel)⟩
theorem lw_p52 : lw_okq (⟨"PurseOfNineBowlsModel", "waysOf", "(I)I"⟩, 32) := ⟨⟨by decide +kernel, by decide +kernel⟩, List.mem_of_getElem? (i := 571) (by decide +kernel), List.mem_of_getElem? (i := 882) (by decide +kernel), List.mem_of_getElem? (i := 883) (by decide +kernel)⟩
theorem lw_p53 : lw_okq (⟨"PurseOfNineBowlsModel", "plays", "()I"⟩, 32) := ⟨⟨by decide +kernel, by decide +kernel⟩, List.mem_of_getElem? (i := 571) (by decide +kernel), List.mem_of_getElem? (i := 899) (by decide +kernel), List.mem_of_getElem? (i := 900) (by decide +kernel)⟩
def lw_privs_4 : List (MethodName × Nat) := [(⟨"PurseOfNineBowlsModel", "isLike", "(II)Z"⟩, 32), (⟨"PurseOfNineBowlsModel", "isEmptied", "(III)Z"⟩, 32), (⟨"PurseOfNineBowlsModel", "worthBy", "(II)I"⟩, 32), (⟨"PurseOfNineBowlsModel", "isRow", "()Z"⟩, 32), (⟨"PurseOfNineBowlsModel", "waysOf", "(I)I"⟩, 32), (⟨"PurseOfNineBowlsModel", "plays", "()I"⟩, 32)]
theorem lw_r4 : ∀ q ∈ lw_privs_4, lw_okq q := List.forall_mem_cons.mpr ⟨lw_p48, List.forall_mem_cons.mpr ⟨lw_p49, List.forall_mem_cons.mpr ⟨lw_p50, List.forall_mem_cons.mpr ⟨lw_p51, List.forall_mem_cons.mpr ⟨lw_p52, List.forall_mem_cons.mpr ⟨lw_p53, fun _ h => absurd h List.not_mem_nil⟩⟩⟩⟩⟩⟩
def lw_privs : List (MethodName × Nat) := lw_privs_1 ++ (lw_privs_2 ++ (lw_privs_3 ++ (lw_privs_4)))
def lw_tbl : List Cond := k2_sels lw_privs ++ tables_1
theorem lw_privs_ok : ∀ q ∈ lw_privs, lw_okq q := by
  show ∀ q ∈ lw_privs_1 ++ (lw_privs_2 ++ (lw_privs_3 ++ (lw_privs_4))), lw_okq q
  exact List.forall_mem_append.mpr ⟨lw_r1, List.forall_mem_append.mpr ⟨lw_r2, List.forall_mem_append.mpr ⟨lw_r3, lw_r4⟩⟩⟩
-- the tables' words
end
section
def RX0 : String := "PurseOfNineBowls$Ahead"
def TX0 : u_T := fun k => match k with
  | 0 => ("PurseOfNineBowls$Ahead", "line", "[LPurseOfNineBowls$Table;", true)
  | _ => ("PurseOfNineBowls$Ahead", "chosen", "[I", true)
def tyX0 : Nat → FieldType := fun k => match k with
  | 0 => .array (.object "PurseOfNineBowls$Table")
  | _ => .array (.int)
theorem nmX0 : ∀ a, a < 2 → ∀ b, b < 2 → a ≠ b → (TX0 a).2.1 ≠ (TX0 b).2.1 := by decide +kernel
theorem tyX0_ok : ∀ k, k < 2 → parseFieldDescriptor (TX0 k).2.2.1 = some (tyX0 k) := by decide +kernel
def RX1 : String := "PurseOfNineBowls$Emptying"
def TX1 : u_T := fun k => match k with
  | 0 => ("PurseOfNineBowls$Emptying", "rings", "[J", true)
  | 1 => ("PurseOfNineBowls$Emptying", "firsts", "[I", true)
  | 2 => ("PurseOfNineBowls$Emptying", "slots", "[I", true)
  | 3 => ("PurseOfNineBowls$Emptying", "from", "LPurseOfNineBowls$Table;", true)
  | 4 => ("PurseOfNineBowls$Emptying", "to", "LPurseOfNineBowls$Table;", true)
  | 5 => ("PurseOfNineBowls$Emptying", "held", "I", false)
  | 6 => ("PurseOfNineBowls$Emptying", "moves", "I", false)
  | _ => ("PurseOfNineBowls$Emptying", "first", "I", false)
def tyX1 : Nat → FieldType := fun k => match k with
  | 0 => .array (.long)
  | 1 => .array (.int)
  | 2 => .array (.int)
  | 3 => .object "PurseOfNineBowls$Table"
  | 4 => .object "PurseOfNineBowls$Table"
  | 5 => .int
  | 6 => .int
  | _ => .int
theorem nmX1 : ∀ a, a < 8 → ∀ b, b < 8 → a ≠ b → (TX1 a).2.1 ≠ (TX1 b).2.1 := by decide +kernel
theorem tyX1_ok : ∀ k, k < 8 → parseFieldDescriptor (TX1 k).2.2.1 = some (tyX1 k) := by decide +kernel
def RX2 : String := "PurseOfNineBowls$Letters"
def TX2 : u_T := fun k => match k with
  | 0 => ("PurseOfNineBowls$Letters", "letters", "[I", true)
  | _ => ("PurseOfNineBowls$Letters", "held", "I", false)
def tyX2 : Nat → FieldType := fun k => match k with
  | 0 => .array (.int)
  | _ => .int
theorem nmX2 : ∀ a, a < 2 → ∀ b, b < 2 → a ≠ b → (TX2 a).2.1 ≠ (TX2 b).2.1 := by decide +kernel
theorem tyX2_ok : ∀ k, k < 2 → parseFieldDescriptor (TX2 k).2.2.1 = some (tyX2 k) := by decide +kernel
def RX3 : String := "PurseOfNineBowls$Table"
def TX3 : u_T := fun k => match k with
  | 0 => ("PurseOfNineBowls$Table", "kinds", "[I", true)
  | 1 => ("PurseOfNineBowls$Table", "beans", "[I", true)
  | 2 => ("PurseOfNineBowls$Table", "purses", "[I", true)
  | 3 => ("PurseOfNineBowls$Table", "held", "I", false)
  | 4 => ("PurseOfNineBowls$Table", "fullness", "I", false)
  | 5 => ("PurseOfNineBowls$Table", "lent", "I", false)
  | 6 => ("PurseOfNineBowls$Table", "turn", "I", false)
  | 7 => ("PurseOfNineBowls$Table", "moves", "I", false)
  | 8 => ("PurseOfNineBowls$Table", "hands", "I", false)
  | 9 => ("PurseOfNineBowls$Table", "last", "I", false)
  | 10 => ("PurseOfNineBowls$Table", "sown", "I", false)
  | _ => ("PurseOfNineBowls$Table", "taken", "I", false)
def tyX3 : Nat → FieldType := fun k => match k with
  | 0 => .array (.int)
  | 1 => .array (.int)
  | 2 => .array (.int)
  | 3 => .int
  | 4 => .int
  | 5 => .int
  | 6 => .int
  | 7 => .int
  | 8 => .int
  | 9 => .int
  | 10 => .int
  | _ => .int
theorem nmX3 : ∀ a, a < 12 → ∀ b, b < 12 → a ≠ b → (TX3 a).2.1 ≠ (TX3 b).2.1 := by decide +kernel
theorem tyX3_ok : ∀ k, k < 12 → parseFieldDescriptor (TX3 k).2.2.1 = some (tyX3 k) := by decide +kernel
def RX4 : String := "PurseOfNineBowls$Ways"
def TX4 : u_T := fun k => match k with
  | 0 => ("PurseOfNineBowls$Ways", "ways", "[J", true)
  | _ => ("PurseOfNineBowls$Ways", "asked", "[I", true)
def tyX4 : Nat → FieldType := fun k => match k with
  | 0 => .array (.long)
  | _ => .array (.int)
theorem nmX4 : ∀ a, a < 2 → ∀ b, b < 2 → a ≠ b → (TX4 a).2.1 ≠ (TX4 b).2.1 := by decide +kernel
theorem tyX4_ok : ∀ k, k < 2 → parseFieldDescriptor (TX4 k).2.2.1 = some (tyX4 k) := by decide +kernel
def RX5 : String := "PurseOfNineBowls"
def TX5 : u_T := fun k => match k with
  | 0 => ("PurseOfNineBowls", "now", "LPurseOfNineBowls$Table;", true)
  | 1 => ("PurseOfNineBowls", "pictured", "LPurseOfNineBowls$Table;", true)
  | 2 => ("PurseOfNineBowls", "hasPicture", "Z", false)
  | 3 => ("PurseOfNineBowls", "trial", "LPurseOfNineBowls$Table;", true)
  | 4 => ("PurseOfNineBowls", "second", "LPurseOfNineBowls$Table;", true)
  | 5 => ("PurseOfNineBowls", "text", "LPurseOfNineBowls$Letters;", true)
  | 6 => ("PurseOfNineBowls", "ahead", "LPurseOfNineBowls$Ahead;", true)
  | 7 => ("PurseOfNineBowls", "emptying", "LPurseOfNineBowls$Emptying;", true)
  | 8 => ("PurseOfNineBowls", "ways", "LPurseOfNineBowls$Ways;", true)
  | 9 => ("PurseOfNineBowls", "told", "[I", true)
  | 10 => ("PurseOfNineBowls", "toldHeld", "I", false)
  | _ => ("PurseOfNineBowls", "refused", "[I", true)
def tyX5 : Nat → FieldType := fun k => match k with
  | 0 => .object "PurseOfNineBowls$Table"
  | 1 => .object "PurseOfNineBowls$Table"
  | 2 => .boolean
  | 3 => .object "PurseOfNineBowls$Table"
  | 4 => .object "PurseOfNineBowls$Table"
  | 5 => .object "PurseOfNineBowls$Letters"
  | 6 => .object "PurseOfNineBowls$Ahead"
  | 7 => .object "PurseOfNineBowls$Emptying"
  | 8 => .object "PurseOfNineBowls$Ways"
  | 9 => .array (.int)
  | 10 => .int
  | _ => .array (.int)
theorem nmX5 : ∀ a, a < 12 → ∀ b, b < 12 → a ≠ b → (TX5 a).2.1 ≠ (TX5 b).2.1 := by decide +kernel
theorem tyX5_ok : ∀ k, k < 12 → parseFieldDescriptor (TX5 k).2.2.1 = some (tyX5 k) := by decide +kernel
def RX6 : String := "PurseOfNineBowlsModel"
def TX6 : u_T := fun k => match k with
  | 0 => ("PurseOfNineBowlsModel", "thrown", "I", false)
  | 1 => ("PurseOfNineBowlsModel", "kinds", "[I", true)
  | 2 => ("PurseOfNineBowlsModel", "beans", "[I", true)
  | 3 => ("PurseOfNineBowlsModel", "bowlMany", "I", false)
  | 4 => ("PurseOfNineBowlsModel", "fullness", "I", false)
  | 5 => ("PurseOfNineBowlsModel", "lent", "I", false)
  | 6 => ("PurseOfNineBowlsModel", "purses", "[I", true)
  | 7 => ("PurseOfNineBowlsModel", "turn", "I", false)
  | 8 => ("PurseOfNineBowlsModel", "moveMany", "I", false)
  | 9 => ("PurseOfNineBowlsModel", "refused", "[I", true)
  | 10 => ("PurseOfNineBowlsModel", "letters", "[I", true)
  | 11 => ("PurseOfNineBowlsModel", "letterMany", "I", false)
  | 12 => ("PurseOfNineBowlsModel", "rowNow", "[I", true)
  | 13 => ("PurseOfNineBowlsModel", "rowMany", "I", false)
  | 14 => ("PurseOfNineBowlsModel", "handMany", "I", false)
  | 15 => ("PurseOfNineBowlsModel", "lastGot", "I", false)
  | 16 => ("PurseOfNineBowlsModel", "sownMany", "I", false)
  | 17 => ("PurseOfNineBowlsModel", "won", "I", false)
  | 18 => ("PurseOfNineBowlsModel", "isAside", "Z", false)
  | 19 => ("PurseOfNineBowlsModel", "frames", "[I", true)
  | 20 => ("PurseOfNineBowlsModel", "badAt", "I", false)
  | 21 => ("PurseOfNineBowlsModel", "kindsAside", "[I", true)
  | 22 => ("PurseOfNineBowlsModel", "found", "I", false)
  | 23 => ("PurseOfNineBowlsModel", "been", "[I", true)
  | 24 => ("PurseOfNineBowlsModel", "ways", "[J", true)
  | 25 => ("PurseOfNineBowlsModel", "waysThen", "[J", true)
  | 26 => ("PurseOfNineBowlsModel", "framesKept", "[I", true)
  | 27 => ("PurseOfNineBowlsModel", "kindsKept", "[I", true)
  | 28 => ("PurseOfNineBowlsModel", "manyKept", "I", false)
  | 29 => ("PurseOfNineBowlsModel", "fullKept", "I", false)
  | 30 => ("PurseOfNineBowlsModel", "lentKept", "I", false)
  | _ => ("PurseOfNineBowlsModel", "movesKept", "I", false)
def tyX6 : Nat → FieldType := fun k => match k with
  | 0 => .int
  | 1 => .array (.int)
  | 2 => .array (.int)
  | 3 => .int
  | 4 => .int
  | 5 => .int
  | 6 => .array (.int)
  | 7 => .int
  | 8 => .int
  | 9 => .array (.int)
  | 10 => .array (.int)
  | 11 => .int
  | 12 => .array (.int)
  | 13 => .int
  | 14 => .int
  | 15 => .int
  | 16 => .int
  | 17 => .int
  | 18 => .boolean
  | 19 => .array (.int)
  | 20 => .int
  | 21 => .array (.int)
  | 22 => .int
  | 23 => .array (.int)
  | 24 => .array (.long)
  | 25 => .array (.long)
  | 26 => .array (.int)
  | 27 => .array (.int)
  | 28 => .int
  | 29 => .int
  | 30 => .int
  | _ => .int
theorem nmX6 : ∀ a, a < 32 → ∀ b, b < 32 → a ≠ b → (TX6 a).2.1 ≠ (TX6 b).2.1 := by decide +kernel
theorem tyX6_ok : ∀ k, k < 32 → parseFieldDescriptor (TX6 k).2.2.1 = some (tyX6 k) := by decide +kernel
def RJ9 : String := "java/lang/Math"
def RJ10 : String := "java/lang/System"
def RJ7 : String := "java/util/Arrays"
def yX0_init : MethodName := ⟨RX0, "<init>", "()V"⟩
def yX0_gainFor : MethodName := ⟨RX0, "gainFor", "(LPurseOfNineBowls$Table;I)I"⟩
def yX0_bowlFor : MethodName := ⟨RX0, "bowlFor", "(LPurseOfNineBowls$Table;I)I"⟩
def yX0_gainOf : MethodName := ⟨RX0, "gainOf", "([LPurseOfNineBowls$Table;[IIIII)I"⟩
def yX1_init : MethodName := ⟨RX1, "<init>", "()V"⟩
def yX1_seek : MethodName := ⟨RX1, "seek", "(LPurseOfNineBowls$Table;I)V"⟩
def yX1_goOnFrom : MethodName := ⟨RX1, "goOnFrom", "(III)V"⟩
def yX1_keep : MethodName := ⟨RX1, "keep", "(JI)V"⟩
def yX2_init : MethodName := ⟨RX2, "<init>", "()V"⟩
def yX2_add : MethodName := ⟨RX2, "add", "(I)Z"⟩
def yX2_clear : MethodName := ⟨RX2, "clear", "()V"⟩
def yX2_playOn : MethodName := ⟨RX2, "playOn", "(LPurseOfNineBowls$Table;)I"⟩
def yX2_stuckAt : MethodName := ⟨RX2, "stuckAt", "()I"⟩
def yX2_stuckIn : MethodName := ⟨RX2, "stuckIn", "(I)I"⟩
def yX2_letterAt : MethodName := ⟨RX2, "letterAt", "(I)I"⟩
def yX2_digitAt : MethodName := ⟨RX2, "digitAt", "(I)I"⟩
def yX2_digitsFrom : MethodName := ⟨RX2, "digitsFrom", "(II)I"⟩
def yX2_behindStatement : MethodName := ⟨RX2, "behindStatement", "(I)I"⟩
def yX2_mostDigits : MethodName := ⟨RX2, "mostDigits", "(I)I"⟩
def yX2_leastDigits : MethodName := ⟨RX2, "leastDigits", "(I)I"⟩
def yX2_kindFor : MethodName := ⟨RX2, "kindFor", "(I)I"⟩
def yX2_apply : MethodName := ⟨RX2, "apply", "(ILPurseOfNineBowls$Table;)Z"⟩
def yX2_addBowl : MethodName := ⟨RX2, "addBowl", "(ILPurseOfNineBowls$Table;)Z"⟩
def yX2_makeMoves : MethodName := ⟨RX2, "makeMoves", "(ILPurseOfNineBowls$Table;)Z"⟩
def yX3_init : MethodName := ⟨RX3, "<init>", "()V"⟩
def yX3_copyFrom : MethodName := ⟨RX3, "copyFrom", "(LPurseOfNineBowls$Table;)V"⟩
def yX3_has : MethodName := ⟨RX3, "has", "(I)Z"⟩
def yX3_addBowl : MethodName := ⟨RX3, "addBowl", "(II)Z"⟩
def yX3_kindOf : MethodName := ⟨RX3, "kindOf", "(I)I"⟩
def yX3_beansOf : MethodName := ⟨RX3, "beansOf", "(I)I"⟩
def yX3_purseOf : MethodName := ⟨RX3, "purseOf", "(I)I"⟩
def yX3_lay : MethodName := ⟨RX3, "lay", "(II)V"⟩
def yX3_swapBeans : MethodName := ⟨RX3, "swapBeans", "(II)V"⟩
def yX3_allBeans : MethodName := ⟨RX3, "allBeans", "()I"⟩
def yX3_sameBeans : MethodName := ⟨RX3, "sameBeans", "(LPurseOfNineBowls$Table;)Z"⟩
def yX3_soundsFrom : MethodName := ⟨RX3, "soundsFrom", "(I)I"⟩
def yX3_isFull : MethodName := ⟨RX3, "isFull", "(I)Z"⟩
def yX3_takes : MethodName := ⟨RX3, "takes", "(I)Z"⟩
def yX3_canMove : MethodName := ⟨RX3, "canMove", "(I)Z"⟩
def yX3_makeMove : MethodName := ⟨RX3, "makeMove", "(I)V"⟩
def yX3_sowHand : MethodName := ⟨RX3, "sowHand", "(I)Z"⟩
def yX3_rightOrLeftOf : MethodName := ⟨RX3, "rightOrLeftOf", "(I)I"⟩
def yX3_takeSingle : MethodName := ⟨RX3, "takeSingle", "()Z"⟩
def yX3_beansInOne : MethodName := ⟨RX3, "beansInOne", "()J"⟩
def yX3_layFrom : MethodName := ⟨RX3, "layFrom", "(J)V"⟩
def yX4_init : MethodName := ⟨RX4, "<init>", "()V"⟩
def yX4_toLay : MethodName := ⟨RX4, "toLay", "(LPurseOfNineBowls$Table;[II)J"⟩
def yX4_layOneMore : MethodName := ⟨RX4, "layOneMore", "(II)V"⟩
def yX4_bowlToAsk : MethodName := ⟨RX4, "bowlToAsk", "(LPurseOfNineBowls$Table;[II)I"⟩
def yX5_init : MethodName := ⟨RX5, "<init>", "()V"⟩
def yX5_letter : MethodName := ⟨RX5, "letter", "(I)I"⟩
def yX5_game : MethodName := ⟨RX5, "game", "()I"⟩
def yX5_bowl : MethodName := ⟨RX5, "bowl", "(II)I"⟩
def yX5_put : MethodName := ⟨RX5, "put", "(II)I"⟩
def yX5_set : MethodName := ⟨RX5, "set", "(II)I"⟩
def yX5_move : MethodName := ⟨RX5, "move", "(I)I"⟩
def yX5_by : MethodName := ⟨RX5, "by", "(II)I"⟩
def yX5_behind : MethodName := ⟨RX5, "behind", "(II)I"⟩
def yX5_empties : MethodName := ⟨RX5, "empties", "(I)I"⟩
def yX5_longest : MethodName := ⟨RX5, "longest", "()I"⟩
def yX5_best : MethodName := ⟨RX5, "best", "(I)I"⟩
def yX5_worth : MethodName := ⟨RX5, "worth", "(I)I"⟩
def yX5_lost : MethodName := ⟨RX5, "lost", "()I"⟩
def yX5_back : MethodName := ⟨RX5, "back", "(I)I"⟩
def yX5_loop : MethodName := ⟨RX5, "loop", "(II)I"⟩
def yX5_toEmpty : MethodName := ⟨RX5, "toEmpty", "(II)I"⟩
def yX5_price : MethodName := ⟨RX5, "price", "(I)I"⟩
def yX5_sold : MethodName := ⟨RX5, "sold", "(I)I"⟩
def yX5_change : MethodName := ⟨RX5, "change", "()I"⟩
def yX5_fair : MethodName := ⟨RX5, "fair", "()I"⟩
def yX5_sounds : MethodName := ⟨RX5, "sounds", "(I)I"⟩
def yX5_next : MethodName := ⟨RX5, "next", "(I)I"⟩
def yX5_played : MethodName := ⟨RX5, "played", "(I)I"⟩
def yX5_row : MethodName := ⟨RX5, "row", "(I)I"⟩
def yX5_judge : MethodName := ⟨RX5, "judge", "()I"⟩
def yX5_lots : MethodName := ⟨RX5, "lots", "(II)I"⟩
def yX5_image : MethodName := ⟨RX5, "image", "()I"⟩
def yX5_on : MethodName := ⟨RX5, "on", "()I"⟩
def yX5_count : MethodName := ⟨RX5, "count", "(I)I"⟩
def yX5_refuse : MethodName := ⟨RX5, "refuse", "(I)I"⟩
def yX5_refuseFar : MethodName := ⟨RX5, "refuseFar", "(I)I"⟩
def yX5_tryMove : MethodName := ⟨RX5, "tryMove", "(I)Z"⟩
def yX5_roundOf : MethodName := ⟨RX5, "roundOf", "(I)I"⟩
def yX5_entryOf : MethodName := ⟨RX5, "entryOf", "(II)I"⟩
def yX5_worthChange : MethodName := ⟨RX5, "worthChange", "(II)I"⟩
def yX5_refusalToLay : MethodName := ⟨RX5, "refusalToLay", "(I)I"⟩
def yX5_playRow : MethodName := ⟨RX5, "playRow", "()I"⟩
def yX5_playLot : MethodName := ⟨RX5, "playLot", "(I)I"⟩
def yX6_in : MethodName := ⟨RX6, "in", "(JJJ)Z"⟩
def yX6_init : MethodName := ⟨RX6, "<init>", "()V"⟩
def yX6_refuse : MethodName := ⟨RX6, "refuse", "(I)I"⟩
def yX6_isBowl : MethodName := ⟨RX6, "isBowl", "(I)Z"⟩
def yX6_soundsFrom : MethodName := ⟨RX6, "soundsFrom", "(I)I"⟩
def yX6_takes : MethodName := ⟨RX6, "takes", "(I)Z"⟩
def yX6_beside : MethodName := ⟨RX6, "beside", "(I)I"⟩
def yX6_sowsHand : MethodName := ⟨RX6, "sowsHand", "(I)I"⟩
def yX6_sows : MethodName := ⟨RX6, "sows", "(I)V"⟩
def yX6_canMove : MethodName := ⟨RX6, "canMove", "(I)Z"⟩
def yX6_moves : MethodName := ⟨RX6, "moves", "(I)V"⟩
def yX6_keeps : MethodName := ⟨RX6, "keeps", "(I)V"⟩
def yX6_lays : MethodName := ⟨RX6, "lays", "(I)V"⟩
def yX6_letter : MethodName := ⟨RX6, "letter", "(I)I"⟩
def yX6_letterAt : MethodName := ⟨RX6, "letterAt", "(I)I"⟩
def yX6_isDigit : MethodName := ⟨RX6, "isDigit", "(I)Z"⟩
def yX6_kindOf : MethodName := ⟨RX6, "kindOf", "(I)I"⟩
def yX6_digitsFrom : MethodName := ⟨RX6, "digitsFrom", "(II)I"⟩
def yX6_passes : MethodName := ⟨RX6, "passes", "(I)I"⟩
def yX6_digit : MethodName := ⟨RX6, "digit", "(I)I"⟩
def yX6_doesSowings : MethodName := ⟨RX6, "doesSowings", "(I)Z"⟩
def yX6_does : MethodName := ⟨RX6, "does", "(I)Z"⟩
def yX6_exchanges : MethodName := ⟨RX6, "exchanges", "(II)V"⟩
def yX6_game : MethodName := ⟨RX6, "game", "()I"⟩
def yX6_bowl : MethodName := ⟨RX6, "bowl", "(II)I"⟩
def yX6_put : MethodName := ⟨RX6, "put", "(II)I"⟩
def yX6_set : MethodName := ⟨RX6, "set", "(II)I"⟩
def yX6_move : MethodName := ⟨RX6, "move", "(I)I"⟩
def yX6_all : MethodName := ⟨RX6, "all", "()I"⟩
def yX6_by : MethodName := ⟨RX6, "by", "(II)I"⟩
def yX6_behind : MethodName := ⟨RX6, "behind", "(II)I"⟩
def yX6_empties : MethodName := ⟨RX6, "empties", "(I)I"⟩
def yX6_longest : MethodName := ⟨RX6, "longest", "()I"⟩
def yX6_seeks : MethodName := ⟨RX6, "seeks", "(II)I"⟩
def yX6_best : MethodName := ⟨RX6, "best", "(I)I"⟩
def yX6_worthOf : MethodName := ⟨RX6, "worthOf", "(I)I"⟩
def yX6_told : MethodName := ⟨RX6, "told", "(I)I"⟩
def yX6_worth : MethodName := ⟨RX6, "worth", "(I)I"⟩
def yX6_lost : MethodName := ⟨RX6, "lost", "()I"⟩
def yX6_records : MethodName := ⟨RX6, "records", "(I)V"⟩
def yX6_isLike : MethodName := ⟨RX6, "isLike", "(II)Z"⟩
def yX6_records200 : MethodName := ⟨RX6, "records200", "(I)I"⟩
def yX6_back : MethodName := ⟨RX6, "back", "(I)I"⟩
def yX6_loop : MethodName := ⟨RX6, "loop", "(II)I"⟩
def yX6_isEmptied : MethodName := ⟨RX6, "isEmptied", "(III)Z"⟩
def yX6_toEmpty : MethodName := ⟨RX6, "toEmpty", "(II)I"⟩
def yX6_worthBy : MethodName := ⟨RX6, "worthBy", "(II)I"⟩
def yX6_price : MethodName := ⟨RX6, "price", "(I)I"⟩
def yX6_sold : MethodName := ⟨RX6, "sold", "(I)I"⟩
def yX6_change : MethodName := ⟨RX6, "change", "()I"⟩
def yX6_fair : MethodName := ⟨RX6, "fair", "()I"⟩
def yX6_isRow : MethodName := ⟨RX6, "isRow", "()Z"⟩
def yX6_waysOf : MethodName := ⟨RX6, "waysOf", "(I)I"⟩
def yX6_sounds : MethodName := ⟨RX6, "sounds", "(I)I"⟩
def yX6_next : MethodName := ⟨RX6, "next", "(I)I"⟩
def yX6_row : MethodName := ⟨RX6, "row", "(I)I"⟩
def yX6_plays : MethodName := ⟨RX6, "plays", "()I"⟩
def yX6_played : MethodName := ⟨RX6, "played", "(I)I"⟩
def yX6_judge : MethodName := ⟨RX6, "judge", "()I"⟩
def yX6_lots : MethodName := ⟨RX6, "lots", "(II)I"⟩
def yX6_image : MethodName := ⟨RX6, "image", "()I"⟩
def yX6_on : MethodName := ⟨RX6, "on", "()I"⟩
def yX6_count : MethodName := ⟨RX6, "count", "(I)I"⟩
def yJ9_max_7cf53 : MethodName := ⟨RJ9, "max", "(II)I"⟩
def yJ9_min_7cf53 : MethodName := ⟨RJ9, "min", "(II)I"⟩
def yJ9_min_f86c9 : MethodName := ⟨RJ9, "min", "(JJ)J"⟩
def yJ7_fill_d0a16 : MethodName := ⟨RJ7, "fill", "([JJ)V"⟩
def yJ7_fill_53178 : MethodName := ⟨RJ7, "fill", "([II)V"⟩
def yL_law : MethodName := ⟨"PurseOfNineBowlsLaw", "law", "([I)Z"⟩
def x_cl : List vw_C := [(RX0, TX0, 2), (RX1, TX1, 8), (RX2, TX2, 2), (RX3, TX3, 12), (RX4, TX4, 2), (RX5, TX5, 12), (RX6, TX6, 32)]
/-- the types of the fields, by the number of their class -/
def x_ty (ci : Nat) : Nat → FieldType := match ci with
  | 0 => tyX0
  | 1 => tyX1
  | 2 => tyX2
  | 3 => tyX3
  | 4 => tyX4
  | 5 => tyX5
  | _ => tyX6
theorem x_ty_ok : ∀ (ci : Nat) (r : vw_C), x_cl[ci]? = some r → (∀ k, k < r.2.2 → parseFieldDescriptor (r.2.1 k).2.2.1 = some (x_ty ci k)) ∧ (∀ a, a < r.2.2 → ∀ b, b < r.2.2 → a ≠ b → (r.2.1 a).2.1 ≠ (r.2.1 b).2.1) := by
  intro ci r h
  match ci, h with
  | 0, h => cases h; exact ⟨tyX0_ok, nmX0⟩
  | 1, h => cases h; exact ⟨tyX1_ok, nmX1⟩
  | 2, h => cases h; exact ⟨tyX2_ok, nmX2⟩
  | 3, h => cases h; exact ⟨tyX3_ok, nmX3⟩
  | 4, h => cases h; exact ⟨tyX4_ok, nmX4⟩
  | 5, h => cases h; exact ⟨tyX5_ok, nmX5⟩
  | 6, h => cases h; exact ⟨tyX6_ok, nmX6⟩
  | n + 7, h => simp [x_cl] at h
def x_nw : List Cond := [.methodLinkNest "PurseOfNineBowls" (9) ({ cls := "PurseOfNineBowls$Table", name := "<init>", desc := "()V" }) "PurseOfNineBowls", .fieldLinkNest "PurseOfNineBowls$Ways" (25) "PurseOfNineBowls$Table" "held" "I" "PurseOfNineBowls", .fieldLinkNest "PurseOfNineBowls$Emptying" (72) "PurseOfNineBowls$Table" "held" "I" "PurseOfNineBowls", .fieldLinkNest "PurseOfNineBowls$Ahead" (40) "PurseOfNineBowls$Table" "held" "I" "PurseOfNineBowls", .fieldLinkNest "PurseOfNineBowls" (147) "PurseOfNineBowls$Table" "held" "I" "PurseOfNineBowls", .fieldLinkNest "PurseOfNineBowls" (109) "PurseOfNineBowls$Table" "fullness" "I" "PurseOfNineBowls", .fieldLinkNest "PurseOfNineBowls$Letters" (56) "PurseOfNineBowls$Table" "fullness" "I" "PurseOfNineBowls", .fieldLinkNest "PurseOfNineBowls" (112) "PurseOfNineBowls$Table" "lent" "I" "PurseOfNineBowls", .fieldLinkNest "PurseOfNineBowls$Letters" (61) "PurseOfNineBowls$Table" "lent" "I" "PurseOfNineBowls", .fieldLinkNest "PurseOfNineBowls" (115) "PurseOfNineBowls$Table" "turn" "I" "PurseOfNineBowls", .fieldLinkNest "PurseOfNineBowls$Letters" (64) "PurseOfNineBowls$Table" "turn" "I" "PurseOfNineBowls", .fieldLinkNest "PurseOfNineBowls" (121) "PurseOfNineBowls$Table" "moves" "I" "PurseOfNineBowls", .fieldLinkNest "PurseOfNineBowls$Letters" (84) "PurseOfNineBowls$Table" "moves" "I" "PurseOfNineBowls", .fieldLinkNest "PurseOfNineBowls" (134) "PurseOfNineBowls$Table" "hands" "I" "PurseOfNineBowls", .fieldLinkNest "PurseOfNineBowls" (137) "PurseOfNineBowls$Table" "last" "I" "PurseOfNineBowls", .fieldLinkNest "PurseOfNineBowls" (140) "PurseOfNineBowls$Table" "sown" "I" "PurseOfNineBowls", .fieldLinkNest "PurseOfNineBowls$Ahead" (52) "PurseOfNineBowls$Table" "taken" "I" "PurseOfNineBowls", .fieldLinkNest "PurseOfNineBowls" (128) "PurseOfNineBowls$Table" "taken" "I" "PurseOfNineBowls", .methodLinkNest "PurseOfNineBowls" (31) ({ cls := "PurseOfNineBowls$Letters", name := "<init>", desc := "()V" }) "PurseOfNineBowls", .fieldLinkNest "PurseOfNineBowls" (76) "PurseOfNineBowls$Letters" "held" "I" "PurseOfNineBowls", .methodLinkNest "PurseOfNineBowls$Ahead" (21) ({ cls := "PurseOfNineBowls$Table", name := "<init>", desc := "()V" }) "PurseOfNineBowls", .methodLinkNest "PurseOfNineBowls" (45) ({ cls := "PurseOfNineBowls$Emptying", name := "<init>", desc := "()V" }) "PurseOfNineBowls", .methodLinkNest "PurseOfNineBowls$Emptying" (24) ({ cls := "PurseOfNineBowls$Table", name := "<init>", desc := "()V" }) "PurseOfNineBowls", .fieldLinkNest "PurseOfNineBowls" (173) "PurseOfNineBowls$Emptying" "moves" "I" "PurseOfNineBowls", .fieldLinkNest "PurseOfNineBowls" (174) "PurseOfNineBowls$Emptying" "first" "I" "PurseOfNineBowls", .methodLinkNest "PurseOfNineBowls" (52) ({ cls := "PurseOfNineBowls$Ways", name := "<init>", desc := "()V" }) "PurseOfNineBowls"]
theorem x_nw_in : ∀ w ∈ x_nw, w ∈ lw_tbl := by
  have h : x_nw = [75, 83, 84, 85, 86, 88, 89, 91, 92, 94, 95, 97, 98, 100, 102, 104, 106, 107, 136, 142, 156, 166, 171, 179, 181, 202].filterMap (fun i => lw_tbl[i]?) := by decide +kernel
  intro w hw
  rw [h] at hw
  obtain ⟨i, -, hi⟩ := List.mem_filterMap.mp hw
  exact List.mem_of_getElem? hi
/-- the words that a contract may carry -/
def x_tb : List Cond := lw_tbl.filter goodWord
theorem x_tb_in {w : Cond} (h : w ∈ lw_tbl) (g : goodWord w = true) : w ∈ x_tb := List.mem_filter.mpr ⟨h, g⟩
theorem x_tb_good : ∀ w ∈ x_tb, ((w.onTables && w.keeps) = true ∨ ∃ ty, w = .arrayClass ty) := fun w h => good_of_word (List.mem_filter.mp h).2
theorem wsX0_in : ∀ w ∈ u_ws RX0 TX0 2, w ∈ x_tb := by
  have h : u_ws RX0 TX0 2 = [159, 161].filterMap (fun i => lw_tbl[i]?) := by decide +kernel
  have g : (u_ws RX0 TX0 2).all goodWord = true := by decide +kernel
  intro w hw
  have g1 := List.all_eq_true.mp g w hw
  rw [h] at hw
  obtain ⟨i, -, hi⟩ := List.mem_filterMap.mp hw
  exact x_tb_in (List.mem_of_getElem? hi) g1
theorem wsX1_in : ∀ w ∈ u_ws RX1 TX1 8, w ∈ x_tb := by
  have h : u_ws RX1 TX1 8 = [182, 184, 186, 188, 190, 192, 194, 196].filterMap (fun i => lw_tbl[i]?) := by decide +kernel
  have g : (u_ws RX1 TX1 8).all goodWord = true := by decide +kernel
  intro w hw
  have g1 := List.all_eq_true.mp g w hw
  rw [h] at hw
  obtain ⟨i, -, hi⟩ := List.mem_filterMap.mp hw
  exact x_tb_in (List.mem_of_getElem? hi) g1
theorem wsX2_in : ∀ w ∈ u_ws RX2 TX2 2, w ∈ x_tb := by
  have h : u_ws RX2 TX2 2 = [143, 145].filterMap (fun i => lw_tbl[i]?) := by decide +kernel
  have g : (u_ws RX2 TX2 2).all goodWord = true := by decide +kernel
  intro w hw
  have g1 := List.all_eq_true.mp g w hw
  rw [h] at hw
  obtain ⟨i, -, hi⟩ := List.mem_filterMap.mp hw
  exact x_tb_in (List.mem_of_getElem? hi) g1
theorem wsX3_in : ∀ w ∈ u_ws RX3 TX3 12, w ∈ x_tb := by
  have h : u_ws RX3 TX3 12 = [108, 110, 112, 114, 116, 118, 120, 122, 124, 126, 128, 130].filterMap (fun i => lw_tbl[i]?) := by decide +kernel
  have g : (u_ws RX3 TX3 12).all goodWord = true := by decide +kernel
  intro w hw
  have g1 := List.all_eq_true.mp g w hw
  rw [h] at hw
  obtain ⟨i, -, hi⟩ := List.mem_filterMap.mp hw
  exact x_tb_in (List.mem_of_getElem? hi) g1
theorem wsX4_in : ∀ w ∈ u_ws RX4 TX4 2, w ∈ x_tb := by
  have h : u_ws RX4 TX4 2 = [208, 210].filterMap (fun i => lw_tbl[i]?) := by decide +kernel
  have g : (u_ws RX4 TX4 2).all goodWord = true := by decide +kernel
  intro w hw
  have g1 := List.all_eq_true.mp g w hw
  rw [h] at hw
  obtain ⟨i, -, hi⟩ := List.mem_filterMap.mp hw
  exact x_tb_in (List.mem_of_getElem? hi) g1
theorem wsX5_in : ∀ w ∈ u_ws RX5 TX5 12, w ∈ x_tb := by
  have h : u_ws RX5 TX5 12 = [225, 227, 229, 231, 233, 235, 237, 239, 241, 243, 245, 247].filterMap (fun i => lw_tbl[i]?) := by decide +kernel
  have g : (u_ws RX5 TX5 12).all goodWord = true := by decide +kernel
  intro w hw
  have g1 := List.all_eq_true.mp g w hw
  rw [h] at hw
  obtain ⟨i, -, hi⟩ := List.mem_filterMap.mp hw
  exact x_tb_in (List.mem_of_getElem? hi) g1
theorem wsX6_in : ∀ w ∈ u_ws RX6 TX6 32, w ∈ x_tb := by
  have h : u_ws RX6 TX6 32 = [661, 663, 665, 667, 669, 671, 673, 675, 677, 679, 681, 683, 685, 687, 689, 691, 693, 695, 697, 699, 701, 703, 705, 707, 709, 711, 713, 715, 717, 719, 721, 723].filterMap (fun i => lw_tbl[i]?) := by decide +kernel
  have g : (u_ws RX6 TX6 32).all goodWord = true := by decide +kernel
  intro w hw
  have g1 := List.all_eq_true.mp g w hw
  rw [h] at hw
  obtain ⟨i, -, hi⟩ := List.mem_filterMap.mp hw
  exact x_tb_in (List.mem_of_getElem? hi) g1
theorem x_ws_in : ∀ (ci : Nat) (r : vw_C), x_cl[ci]? = some r → ∀ w ∈ u_ws r.1 r.2.1 r.2.2, w ∈ x_tb := by
  intro ci r h
  match ci, h with
  | 0, h => cases h; exact wsX0_in
  | 1, h => cases h; exact wsX1_in
  | 2, h => cases h; exact wsX2_in
  | 3, h => cases h; exact wsX3_in
  | 4, h => cases h; exact wsX4_in
  | 5, h => cases h; exact wsX5_in
  | 6, h => cases h; exact wsX6_in
  | n + 7, h => simp [x_cl] at h
theorem insX0 : Cond.instantiable RX0 2 ∈ x_tb := x_tb_in (List.mem_of_getElem? (i := 149) (by decide +kernel)) rfl
theorem iniX0 : Cond.initialized RX0 ∈ x_tb := x_tb_in (List.mem_of_getElem? (i := 58) (by decide +kernel)) rfl
theorem insX1 : Cond.instantiable RX1 8 ∈ x_tb := x_tb_in (List.mem_of_getElem? (i := 165) (by decide +kernel)) rfl
theorem iniX1 : Cond.initialized RX1 ∈ x_tb := x_tb_in (List.mem_of_getElem? (i := 59) (by decide +kernel)) rfl
theorem insX2 : Cond.instantiable RX2 2 ∈ x_tb := x_tb_in (List.mem_of_getElem? (i := 135) (by decide +kernel)) rfl
theorem iniX2 : Cond.initialized RX2 ∈ x_tb := x_tb_in (List.mem_of_getElem? (i := 57) (by decide +kernel)) rfl
theorem insX3 : Cond.instantiable RX3 12 ∈ x_tb := x_tb_in (List.mem_of_getElem? (i := 74) (by decide +kernel)) rfl
theorem iniX3 : Cond.initialized RX3 ∈ x_tb := x_tb_in (List.mem_of_getElem? (i := 56) (by decide +kernel)) rfl
theorem insX4 : Cond.instantiable RX4 2 ∈ x_tb := x_tb_in (List.mem_of_getElem? (i := 201) (by decide +kernel)) rfl
theorem iniX4 : Cond.initialized RX4 ∈ x_tb := x_tb_in (List.mem_of_getElem? (i := 60) (by decide +kernel)) rfl
theorem insX5 : Cond.instantiable RX5 12 ∈ x_tb := x_tb_in (List.mem_of_getElem? (i := 66) (by decide +kernel)) rfl
theorem iniX5 : Cond.initialized RX5 ∈ x_tb := x_tb_in (List.mem_of_getElem? (i := 55) (by decide +kernel)) rfl
theorem insX6 : Cond.instantiable RX6 32 ∈ x_tb := x_tb_in (List.mem_of_getElem? (i := 625) (by decide +kernel)) rfl
theorem iniX6 : Cond.initialized RX6 ∈ x_tb := x_tb_in (List.mem_of_getElem? (i := 61) (by decide +kernel)) rfl
theorem x_ini : ∀ (ci : Nat) (r : vw_C), x_cl[ci]? = some r → Cond.initialized r.1 ∈ x_tb ∧ Cond.instantiable r.1 r.2.2 ∈ x_tb := by
  intro ci r h
  match ci, h with
  | 0, h => cases h; exact ⟨iniX0, insX0⟩
  | 1, h => cases h; exact ⟨iniX1, insX1⟩
  | 2, h => cases h; exact ⟨iniX2, insX2⟩
  | 3, h => cases h; exact ⟨iniX3, insX3⟩
  | 4, h => cases h; exact ⟨iniX4, insX4⟩
  | 5, h => cases h; exact ⟨iniX5, insX5⟩
  | 6, h => cases h; exact ⟨iniX6, insX6⟩
  | n + 7, h => simp [x_cl] at h
theorem iniJ9 : Cond.initialized RJ9 ∈ x_tb := x_tb_in (List.mem_of_getElem? (i := 63) (by decide +kernel)) rfl
theorem iniJ10 : Cond.initialized RJ10 ∈ x_tb := x_tb_in (List.mem_of_getElem? (i := 62) (by decide +kernel)) rfl
theorem iniJ7 : Cond.initialized RJ7 ∈ x_tb := x_tb_in (List.mem_of_getElem? (i := 64) (by decide +kernel)) rfl
theorem x_acI : Cond.arrayClass .int ∈ x_tb := x_tb_in (List.mem_of_getElem? (i := 133) (by decide +kernel)) rfl
theorem x_acJ : Cond.arrayClass .long ∈ x_tb := x_tb_in (List.mem_of_getElem? (i := 199) (by decide +kernel)) rfl
theorem x_aoT : Cond.arrayOver (.object RX3) ∈ lw_tbl := List.mem_of_getElem? (i := 155) (by decide +kernel)
theorem x_obC : Cond.code objectInit ⟨#[0xb1]⟩ 1 none ∈ x_tb := x_tb_in (List.mem_of_getElem? (i := 72) (by decide +kernel)) rfl
theorem x_obI : Cond.instanceMethod objectInit ∈ x_tb := x_tb_in (List.mem_of_getElem? (i := 71) (by decide +kernel)) rfl
theorem x_cpN : Cond.native arraycopyName ∈ x_tb := x_tb_in (List.mem_of_getElem? (i := 272) (by decide +kernel)) rfl
theorem x_cpS : Cond.static arraycopyName ∈ x_tb := x_tb_in (List.mem_of_getElem? (i := 271) (by decide +kernel)) rfl
end
section
/-! A method's walk over an abstract heap: cells by number, addresses counted from a base. -/
abbrev x_C : Type := vp_A ⊕ (Nat × List Value)
abbrev x_H : Type := Nat → x_C
/-- links of fields (pool entry; number of the type, field, by a nest mate), int and long constants, made types, of one pool -/
abbrev x_I : Type := String × List (Nat × (Nat × Nat × Bool)) × List (Nat × Int32) × List (Nat × Int64) × List (Nat × Nat)
/-- a method: name, bytes, places for variables, answer's type, decoded bytes by sixteens, its pool -/
abbrev x_M : Type := MethodName × ByteArray × Nat × Option FieldType × List (List (Nat × Instr × Nat)) × x_I
def x_lk {α : Type} : List (Nat × α) → Nat → Option α
  | [], _ => none
  | q :: t, n => cond (Nat.beq q.1 n) (some q.2) (x_lk t n)
theorem x_lk_mem {α : Type} : ∀ (l : List (Nat × α)) (n : Nat) (a : α), x_lk l n = some a → (n, a) ∈ l
  | [], _, _, h => by cases h
  | q :: t, n, a, h => by
    unfold x_lk at h
    cases hb : Nat.beq q.1 n with
    | true =>
      rw [hb] at h
      have h1 : q.1 = n := Nat.eq_of_beq_eq_true hb
      have h2 : q.2 = a := Option.some.inj h
      subst h1; subst h2
      exact List.mem_cons_self
    | false =>
      rw [hb] at h
      exact List.mem_cons_of_mem _ (x_lk_mem t n a h)
def x_at (me : x_M) (pc : Nat) : Option (Instr × Nat) := x_lk (me.2.2.2.2.1.getD (pc / 16) []) pc
/-- what is decided of a method's table -/
def x_dec (me : x_M) : Prop := ∀ ch ∈ me.2.2.2.2.1, ∀ e ∈ ch, decode me.2.1 e.1 = .ok e.2
theorem x_dec_at {me : x_M} (h : x_dec me) {pc : Nat} {i : Instr} {n : Nat} (hc : x_at me pc = some (i, n)) : decode me.2.1 pc = .ok (i, n) := by
  unfold x_at at hc
  have h1 := x_lk_mem _ _ _ hc
  by_cases hl : pc / 16 < me.2.2.2.2.1.length
  · have h2 : me.2.2.2.2.1.getD (pc / 16) [] = me.2.2.2.2.1[pc / 16] := by simp [List.getD, hl]
    rw [h2] at h1
    have h3 := h _ (List.getElem_mem hl) (pc, i, n) h1
    dsimp only at h3
    exact h3
  · have h2 : me.2.2.2.2.1.getD (pc / 16) [] = [] := by simp [List.getD, Nat.not_lt.mp hl]
    rw [h2] at h1
    cases h1
/-- what is decided of a pool -/
def x_okI (I : x_I) : Prop :=
  (∀ e ∈ I.2.1, ∃ r : vw_C, x_cl[e.2.1]? = some r ∧ e.2.2.1 < r.2.2 ∧ (e.2.2.2 = false → Cond.fieldLink I.1 e.1 (r.2.1 e.2.2.1).1 (r.2.1 e.2.2.1).2.1 (r.2.1 e.2.2.1).2.2.1 ∈ x_tb) ∧ (e.2.2.2 = true → Cond.fieldLinkNest I.1 e.1 (r.2.1 e.2.2.1).1 (r.2.1 e.2.2.1).2.1 (r.2.1 e.2.2.1).2.2.1 RX5 ∈ x_nw)) ∧
  (∀ e ∈ I.2.2.1, Cond.constant I.1 e.1 e.2 ∈ x_tb) ∧ (∀ e ∈ I.2.2.2.1, Cond.constantLong I.1 e.1 e.2 ∈ x_tb) ∧ (∀ e ∈ I.2.2.2.2, ∃ r : vw_C, x_cl[e.2]? = some r ∧ Cond.classLink I.1 e.1 r.1 ∈ x_tb)
/-- the launch, the numbers of the types, the numbers of the array types, the base, the script's address, length, values -/
abbrev x_E : Type := Launch × va_G × (Nat → ClassId) × Nat × Nat
def x_sh (E : x_E) (v : Value) : Value := match v with
  | .ref k => .ref (E.2.2.2.1 + k)
  | .retAddr _ => .ref E.2.2.2.2
  | v => v
theorem x_sh_cat (E : x_E) (v : Value) : (x_sh E v).category = v.category := by cases v <;> rfl
def x_shA (E : x_E) (a : vp_A) : vp_A := match a with
  | (n, .inr (.inr (.inr (.inr f)))) => (n, .inr (.inr (.inr (.inr (fun j => (f j).map (fun k => E.2.2.2.1 + k))))))
  | a => a
def x_kd (a : vp_A) : Nat := match a.2 with
  | .inl _ => 0
  | .inr (.inl _) => 1
  | _ => 2
def x_ce (E : x_E) (c : x_C) : va_E := match c with
  | .inl a => .inl (E.2.2.1 (x_kd a), x_shA E a)
  | .inr o => .inr (o.1, o.2.map (x_sh E))
def x_w (E : x_E) (z : Nat) (f : x_H) : va_W := (List.range z).map (fun k => (E.2.2.2.1 + k, x_ce E (f k)))
def x_up (f : x_H) (k : Nat) (c : x_C) : x_H := fun j => if j = k then c else f j
theorem x_up_s (f : x_H) (k : Nat) (c : x_C) : x_up f k c k = c := by simp [x_up]
theorem x_up_n (f : x_H) {k j : Nat} (c : x_C) (h : j ≠ k) : x_up f k c j = f j := by simp [x_up, h]
theorem x_w_at {E : x_E} {z : Nat} {f : x_H} {k : Nat} (h : k < z) : (x_w E z f)[k]? = some (E.2.2.2.1 + k, x_ce E (f k)) := by
  simp [x_w, h]
theorem x_w_len (E : x_E) (z : Nat) (f : x_H) : (x_w E z f).length = z := by simp [x_w]
theorem x_w_set {E : x_E} {z : Nat} {f : x_H} {k : Nat} (c : x_C) : (x_w E z f).set k (E.2.2.2.1 + k, x_ce E c) = x_w E z (x_up f k c) := by
  apply List.ext_getElem?
  intro j
  rw [List.getElem?_set]
  by_cases hj : k = j
  · subst hj
    by_cases hz : k < z
    · rw [if_pos rfl, if_pos (by rw [x_w_len]; exact hz), x_w_at hz, x_up_s]
    · rw [if_pos rfl, if_neg (by rw [x_w_len]; exact hz)]
      rw [List.getElem?_eq_none (by rw [x_w_len]; omega)]
  · rw [if_neg hj]
    by_cases hz : j < z
    · rw [x_w_at hz, x_w_at hz, x_up_n f c (Ne.symm hj)]
    · rw [List.getElem?_eq_none (by rw [x_w_len]; omega), List.getElem?_eq_none (by rw [x_w_len]; omega)]
theorem x_w_push {E : x_E} {z : Nat} {f : x_H} (c : x_C) : x_w E z f ++ [(E.2.2.2.1 + z, x_ce E c)] = x_w E (z + 1) (x_up f z c) := by
  apply List.ext_getElem?
  intro j
  rcases Nat.lt_trichotomy j z with h | h | h
  · rw [List.getElem?_append_left (by rw [x_w_len]; exact h), x_w_at h, x_w_at (by omega), x_up_n f c (by omega)]
  · subst h
    rw [List.getElem?_append_right (by rw [x_w_len]; exact Nat.le_refl _), x_w_len, x_w_at (by omega), x_up_s]
    simp
  · rw [List.getElem?_eq_none (by simp [x_w_len]; omega), List.getElem?_eq_none (by rw [x_w_len]; omega)]
def x_A (E : x_E) : Nat → Prop := fun q => E.2.2.2.1 ≤ q
theorem x_w_D (E : x_E) (z : Nat) (f : x_H) : va_D (x_A E) (x_w E z f) := by
  have key : ∀ (i : Nat) (p : Nat × va_E), (x_w E z f)[i]? = some p → p.1 = E.2.2.2.1 + i := by
    intro i p h
    have hi : i < z := by
      have := (List.getElem?_eq_some_iff.mp h).1
      rw [x_w_len] at this
      exact this
    rw [x_w_at hi] at h
    exact (congrArg Prod.fst (Option.some.inj h)).symm
  refine ⟨fun i j p q hp hq e => ?_, fun k q hq => ?_⟩
  · have h1 := key i p hp
    have h2 := key j q hq
    omega
  · show E.2.2.2.1 ≤ q.1
    have h1 := key k q hq
    omega
def x_tys (E : x_E) : List (ClassId × FieldType) := [(E.2.2.1 0, .int), (E.2.2.1 1, .long), (E.2.2.1 2, .object RX3)]
/-- what the machine's tables say, at any state -/
def x_K (E : x_E) (U : State) : Prop := va_K E.2.1 x_cl (x_tys E) U ∧ (∀ w ∈ x_nw, va_Nw w U) ∧ va_AO RX3 U
theorem x_nw_kind : ∀ w ∈ x_nw, (∃ a i b n d h, w = Cond.fieldLinkNest a i b n d h) ∨ (∃ a i x h, w = Cond.methodLinkNest a i x h) := by
  intro w hw
  have h : x_nw.all (fun w => match w with
    | .fieldLinkNest _ _ _ _ _ _ => true
    | .methodLinkNest _ _ _ _ => true
    | _ => false) = true := by decide +kernel
  have h1 := List.all_eq_true.mp h w hw
  cases w <;> first | exact Or.inl ⟨_, _, _, _, _, _, rfl⟩ | exact Or.inr ⟨_, _, _, _, rfl⟩ | cases h1
theorem x_nw_warm {s U : State} (hW : s.WarmedH U.vm) (h : ∀ w ∈ x_nw, va_Nw w s) : ∀ w ∈ x_nw, va_Nw w U := by
  intro w hw
  have h1 := h w hw
  rcases x_nw_kind w hw with ⟨a, i, b, n, d, h2, rfl⟩ | ⟨a, i, x, h2, rfl⟩
  · exact va_Nw.warmF hW h1
  · exact va_Nw.warmM hW h1
theorem x_nw_same {u U : State} (hv : u.vm = U.vm) (h : ∀ w ∈ x_nw, va_Nw w u) : ∀ w ∈ x_nw, va_Nw w U := by
  intro w hw
  have h1 := h w hw
  rcases x_nw_kind w hw with ⟨a, i, b, n, d, h2, rfl⟩ | ⟨a, i, x, h2, rfl⟩
  · exact va_Nw.same rfl hv h1
  · exact va_Nw.same rfl hv h1
theorem x_K.warm {E : x_E} {s U : State} (hW : s.WarmedH U.vm) (h : x_K E s) : x_K E U := ⟨va_K.moved hW.alike h.1, x_nw_warm hW h.2.1, va_AO.moved hW.alike h.2.2⟩
theorem x_K.same {E : x_E} {u U : State} (hv : u.vm = U.vm) (h : x_K E u) : x_K E U := ⟨va_K.moved (hv ▸ Vm.Alike.refl u.vm) h.1, x_nw_same hv h.2.1, va_AO.moved (hv ▸ Vm.Alike.refl u.vm) h.2.2⟩
def x_in (E : x_E) (z : Nat) (f : x_H) (U : State) : Prop := U.heap.size = E.2.2.2.1 + z ∧ va_P E.2.1 x_cl (x_w E z f) U.heap ∧ x_K E U
def x_Q (E : x_E) (z : Nat) (post : Option Value → x_H → Prop) : Array Value → State → Outcome → State → Prop := fun _ st oc t =>
  (∃ (r : Option Value) (f : x_H), oc = .returned (r.map (x_sh E)) ∧ post r f ∧ x_in E z f t) ∧ va_F (x_A E) st t
def x_rm (d mc ms : Nat) : Room := { frames := d, cells := mc, slots := ms, locals := 200 * d }
def x_ws (me : x_M) : List Cond := .code me.1 me.2.1 me.2.2.1 me.2.2.2.1 :: x_tb
/-- A METHOD'S CONTRACT: called on the abstract heap f of z cells it returns, and what is asked ('post') holds of its answer and its heap; mc cells of ms places are new -/
def Y (E : x_E) (d : Nat) (me : x_M) (av : List Value) (z : Nat) (f : x_H) (mc ms : Nat) (post : Option Value → x_H → Prop) : Prop :=
  Met E.1 me.1 (x_ws me) (x_rm d mc ms) (va_Pc (av.map (x_sh E)) (x_in E z f)) (x_Q E (z + mc) post) mc ms (x_A E)
/-- what stays while a method is walked -/
def x_cx (E : x_E) (me : x_M) (p : Program) (s : State) (m : MethodId) (args : Array Value) (meth : Method) (c : Code) : Prop :=
  p.tables.exec = Jvm.exec ∧ c.code = me.2.1 ∧ meth.sig.returnType = me.2.2.2.1 ∧ c.maxLocals = me.2.2.1 ∧ s.vm.findClass me.2.2.2.2.2.1 = some m.cls ∧ (∀ w ∈ x_tb, w.before args s = true) ∧ meth.locks = false ∧ x_K E s ∧ E.2.2.2.1 ≤ s.heap.size ∧ (me.1.name = "<init>" → meth.name = "<init>") ∧ x_dec me ∧ x_okI me.2.2.2.2.2
abbrev x_L : Type := List (Nat × Value)
def x_lv (E : x_E) (lv : x_L) : x_L := lv.map (fun q => (q.1, x_sh E q.2))
/-- A WALK: from this pc, with these variables, this stack and this abstract heap, the machine comes to where QQ holds -/
def X (E : x_E) (R : Room) (me : x_M) (QQ : List Frame → Array Value → State → State → Prop) (pc : Nat) (lv : x_L) (st : List Value) (z : Nat) (f : x_H) (cl sl : Nat) : Prop :=
  ∀ (p : Program) (e : Env) (s : State) (m : MethodId) (args : Array Value) (below : List Frame) (meth : Method) (c : Code) (H : Heap) (locs : List Loc) (ls : Array Slot),
    x_cx E me p s m args meth c → s.heap.size + cl = E.2.2.2.1 + z → va_P E.2.1 x_cl (x_w E z f) H → va_S (x_A E) s.heap H locs → lv_has ls me.2.2.1 (x_lv E lv) →
    W p E.1 e R s m args below meth c H locs cl sl (QQ below args s) (F0 m pc ls (st.map (x_sh E)))
theorem x_size {E : x_E} {p : Program} {l : Launch} {e : Env} {R : Room} {s : State} {m : MethodId} {args : Array Value} {below : List Frame} {meth : Method} {c : Code} {T : State} {H : Heap} {locs : List Loc} {cl sl z : Nat} {f : x_H} (hT : T.heap = H) (hX : Stand p l e R s m args below meth c T locs cl sl) (hb : E.2.2.2.1 ≤ s.heap.size) (hz : s.heap.size + cl = E.2.2.2.1 + z) (hP : va_P E.2.1 x_cl (x_w E z f) H) (hS : va_S (x_A E) s.heap H locs) : H.size = E.2.2.2.1 + z := by
  have h1 : T.heap.size ≤ s.heap.size + cl := hX.same.2.2.1
  rw [hT] at h1
  have h2 : s.heap.size ≤ H.size := hS.1
  cases z with
  | zero => omega
  | succ n =>
    have h3 : E.2.2.2.1 + n < H.size := (hP n _ (x_w_at (Nat.lt_succ_self n))).lt
    omega
/-- where a method ends -/
def x_QM (E : x_E) (z mc ms : Nat) (post : Option Value → x_H → Prop) : List Frame → Array Value → State → State → Prop := fun below args s => MQ below (x_Q E z post) args s mc ms (x_A E)
/-- what is decided of a method -/
def x_good (me : x_M) : Prop := plainName me.1.cls = true ∧ x_dec me ∧ x_okI me.2.2.2.2.2 ∧ me.2.2.2.2.2.1 = me.1.cls ∧ Cond.code me.1 me.2.1 me.2.2.1 me.2.2.2.1 ∈ x_tb ∧ Cond.initialized me.1.cls ∈ x_tb ∧ (me.1.cls ≠ "java/lang/invoke/MethodHandle" ∧ me.1.cls ≠ "java/lang/invoke/VarHandle")
theorem Y.intro {E : x_E} {d mc ms : Nat} {me : x_M} {av : List Value} {z : Nat} {f : x_H} {post : Option Value → x_H → Prop} (hg : x_good me) {lv : x_L} (hlv : lv_args 0 av = lv) (hn : (lg_sl av).length ≤ me.2.2.1)
    (k : X E (x_rm d mc ms) me (x_QM E (z + mc) mc ms post) 0 lv [] z f 0 0) : Y E d me av z f mc ms post := by
  have hsl : ∀ (vs : List Value), (lg_sl (vs.map (x_sh E))).length = (lg_sl vs).length := by
    intro vs
    induction vs with
    | nil => rfl
    | cons v t ih =>
      simp only [lg_sl, List.map_cons, List.flatMap_cons, List.length_append, x_sh_cat] at ih ⊢
      rw [ih]
      split <;> rfl
  have harg : ∀ (vs : List Value) (i : Nat), lv_args i (vs.map (x_sh E)) = x_lv E (lv_args i vs) := by
    intro vs
    induction vs with
    | nil => intro i; rfl
    | cons v t ih =>
      intro i
      simp only [lv_args, List.map_cons, x_sh_cat, x_lv] at ih ⊢
      rw [ih]
  refine Met.ofW (cc := me.2.1) (maxL := me.2.2.1) (ret := me.2.2.2.1) hg.1 rfl ?_
  intro p e s m args below meth c s₁ B hml hv
  obtain ⟨rfl, hsz, hP, hK⟩ := hv
  have hts := atoms_spec (ws := x_ws me) B.pre
  rw [lg_entry_eq]
  have hl := lv_entry (av.map (x_sh E)) (n := me.2.2.1) (by rw [hsl]; exact hn)
  rw [harg, hlv] at hl
  exact k p e s m _ below meth c s.heap [] _ ⟨B.exec, B.bytes, B.returns, hml, by rw [hg.2.2.2.1]; exact findClass_of_methodNamed B.named, fun w hw => hts w (List.mem_cons_of_mem _ hw), B.notSynchronized, hK, by rw [hsz]; exact Nat.le_add_right _ _, (fun hq => (name_of_methodNamed B.named B.method).1.trans hq), hg.2.1, hg.2.2.1⟩ hsz hP va_S.rf hl
/-- a site: an instance's method, a static one, a constructor (by a nest mate or not) -/
def x_sV (own : String) (i : Nat) (ce : x_M) (n ci : Nat) : Prop := Cond.methodLink own i ce.1 ∈ x_tb ∧ Cond.instanceMethod ce.1 ∈ x_tb ∧ Cond.selects ce.1.cls ce.1 ce.1 ∈ x_tb ∧ (parseMethodDescriptor ce.1.desc).map (fun d => d.parameters.length) = some n ∧ ∃ q : vw_C, x_cl[ci]? = some q ∧ q.1 = ce.1.cls
def x_sS (own : String) (i : Nat) (ce : x_M) (n : Nat) : Prop := Cond.methodLink own i ce.1 ∈ x_tb ∧ Cond.static ce.1 ∈ x_tb ∧ (parseMethodDescriptor ce.1.desc).map (fun d => d.parameters.length) = some n
def x_sI (own : String) (i : Nat) (ce : x_M) (n : Nat) (nest : Bool) : Prop := (nest = false → Cond.methodLink own i ce.1 ∈ x_tb) ∧ (nest = true → Cond.methodLinkNest own i ce.1 RX5 ∈ x_nw) ∧ Cond.instanceMethod ce.1 ∈ x_tb ∧ ce.1.name = "<init>" ∧ ce.2.2.2.1 = none ∧ (parseMethodDescriptor ce.1.desc).map (fun d => d.parameters.length) = some n
end
section
def IX0 : x_I := (RX0, [(40, 3, 3, true), (52, 3, 11, true), (11, 0, 0, false), (17, 0, 1, false)], [], [], [(9, 3)])
set_option maxRecDepth 100000 in
theorem okX0 : x_okI IX0 := ⟨List.forall_mem_cons.mpr ⟨⟨(RX3, TX3, 12), rfl, by decide, fun h => (by cases h), fun _ => List.mem_of_getElem? (i := 3) (by decide +kernel)⟩, List.forall_mem_cons.mpr ⟨⟨(RX3, TX3, 12), rfl, by decide, fun h => (by cases h), fun _ => List.mem_of_getElem? (i := 16) (by decide +kernel)⟩, List.forall_mem_cons.mpr ⟨⟨(RX0, TX0, 2), rfl, by decide, fun _ => x_tb_in (List.mem_of_getElem? (i := 157) (by decide +kernel)) rfl, fun h => (by cases h)⟩, List.forall_mem_cons.mpr ⟨⟨(RX0, TX0, 2), rfl, by decide, fun _ => x_tb_in (List.mem_of_getElem? (i := 158) (by decide +kernel)) rfl, fun h => (by cases h)⟩, fun _ h => absurd h List.not_mem_nil⟩⟩⟩⟩, fun _ h => absurd h List.not_mem_nil, fun _ h => absurd h List.not_mem_nil, List.forall_mem_cons.mpr ⟨⟨(RX3, TX3, 12), rfl, x_tb_in (List.mem_of_getElem? (i := 154) (by decide +kernel)) rfl⟩, fun _ h => absurd h List.not_mem_nil⟩⟩
def IX1 : x_I := (RX1, [(72, 3, 3, true), (11, 1, 0, false), (15, 1, 1, false), (19, 1, 2, false), (25, 1, 3, false), (29, 1, 4, false), (32, 1, 5, false), (36, 1, 6, false), (39, 1, 7, false)], [], [(81, -7046029254386353131)], [(22, 3)])
set_option maxRecDepth 100000 in
theorem okX1 : x_okI IX1 := ⟨List.forall_mem_cons.mpr ⟨⟨(RX3, TX3, 12), rfl, by decide, fun h => (by cases h), fun _ => List.mem_of_getElem? (i := 2) (by decide +kernel)⟩, List.forall_mem_cons.mpr ⟨⟨(RX1, TX1, 8), rfl, by decide, fun _ => x_tb_in (List.mem_of_getElem? (i := 172) (by decide +kernel)) rfl, fun h => (by cases h)⟩, List.forall_mem_cons.mpr ⟨⟨(RX1, TX1, 8), rfl, by decide, fun _ => x_tb_in (List.mem_of_getElem? (i := 173) (by decide +kernel)) rfl, fun h => (by cases h)⟩, List.forall_mem_cons.mpr ⟨⟨(RX1, TX1, 8), rfl, by decide, fun _ => x_tb_in (List.mem_of_getElem? (i := 174) (by decide +kernel)) rfl, fun h => (by cases h)⟩, List.forall_mem_cons.mpr ⟨⟨(RX1, TX1, 8), rfl, by decide, fun _ => x_tb_in (List.mem_of_getElem? (i := 175) (by decide +kernel)) rfl, fun h => (by cases h)⟩, List.forall_mem_cons.mpr ⟨⟨(RX1, TX1, 8), rfl, by decide, fun _ => x_tb_in (List.mem_of_getElem? (i := 176) (by decide +kernel)) rfl, fun h => (by cases h)⟩, List.forall_mem_cons.mpr ⟨⟨(RX1, TX1, 8), rfl, by decide, fun _ => x_tb_in (List.mem_of_getElem? (i := 177) (by decide +kernel)) rfl, fun h => (by cases h)⟩, List.forall_mem_cons.mpr ⟨⟨(RX1, TX1, 8), rfl, by decide, fun _ => x_tb_in (List.mem_of_getElem? (i := 178) (by decide +kernel)) rfl, fun h => (by cases h)⟩, List.forall_mem_cons.mpr ⟨⟨(RX1, TX1, 8), rfl, by decide, fun _ => x_tb_in (List.mem_of_getElem? (i := 180) (by decide +kernel)) rfl, fun h => (by cases h)⟩, fun _ h => absurd h List.not_mem_nil⟩⟩⟩⟩⟩⟩⟩⟩⟩, fun _ h => absurd h List.not_mem_nil, List.forall_mem_cons.mpr ⟨x_tb_in (List.mem_of_getElem? (i := 508) (by decide +kernel)) rfl, fun _ h => absurd h List.not_mem_nil⟩, List.forall_mem_cons.mpr ⟨⟨(RX3, TX3, 12), rfl, x_tb_in (List.mem_of_getElem? (i := 170) (by decide +kernel)) rfl⟩, fun _ h => absurd h List.not_mem_nil⟩⟩
def IX2 : x_I := (RX2, [(56, 3, 4, true), (61, 3, 5, true), (64, 3, 6, true), (84, 3, 7, true), (9, 2, 0, false), (15, 2, 1, false)], [], [], [])
set_option maxRecDepth 100000 in
theorem okX2 : x_okI IX2 := ⟨List.forall_mem_cons.mpr ⟨⟨(RX3, TX3, 12), rfl, by decide, fun h => (by cases h), fun _ => List.mem_of_getElem? (i := 6) (by decide +kernel)⟩, List.forall_mem_cons.mpr ⟨⟨(RX3, TX3, 12), rfl, by decide, fun h => (by cases h), fun _ => List.mem_of_getElem? (i := 8) (by decide +kernel)⟩, List.forall_mem_cons.mpr ⟨⟨(RX3, TX3, 12), rfl, by decide, fun h => (by cases h), fun _ => List.mem_of_getElem? (i := 10) (by decide +kernel)⟩, List.forall_mem_cons.mpr ⟨⟨(RX3, TX3, 12), rfl, by decide, fun h => (by cases h), fun _ => List.mem_of_getElem? (i := 12) (by decide +kernel)⟩, List.forall_mem_cons.mpr ⟨⟨(RX2, TX2, 2), rfl, by decide, fun _ => x_tb_in (List.mem_of_getElem? (i := 140) (by decide +kernel)) rfl, fun h => (by cases h)⟩, List.forall_mem_cons.mpr ⟨⟨(RX2, TX2, 2), rfl, by decide, fun _ => x_tb_in (List.mem_of_getElem? (i := 141) (by decide +kernel)) rfl, fun h => (by cases h)⟩, fun _ h => absurd h List.not_mem_nil⟩⟩⟩⟩⟩⟩, fun _ h => absurd h List.not_mem_nil, fun _ h => absurd h List.not_mem_nil, fun _ h => absurd h List.not_mem_nil⟩
def IX3 : x_I := (RX3, [(9, 3, 0, false), (15, 3, 1, false), (18, 3, 2, false), (21, 3, 3, false), (25, 3, 4, false), (28, 3, 5, false), (31, 3, 6, false), (34, 3, 7, false), (37, 3, 8, false), (40, 3, 9, false), (43, 3, 10, false), (46, 3, 11, false)], [], [(89, 127)], [])
set_option maxRecDepth 100000 in
theorem okX3 : x_okI IX3 := ⟨List.forall_mem_cons.mpr ⟨⟨(RX3, TX3, 12), rfl, by decide, fun _ => x_tb_in (List.mem_of_getElem? (i := 79) (by decide +kernel)) rfl, fun h => (by cases h)⟩, List.forall_mem_cons.mpr ⟨⟨(RX3, TX3, 12), rfl, by decide, fun _ => x_tb_in (List.mem_of_getElem? (i := 80) (by decide +kernel)) rfl, fun h => (by cases h)⟩, List.forall_mem_cons.mpr ⟨⟨(RX3, TX3, 12), rfl, by decide, fun _ => x_tb_in (List.mem_of_getElem? (i := 81) (by decide +kernel)) rfl, fun h => (by cases h)⟩, List.forall_mem_cons.mpr ⟨⟨(RX3, TX3, 12), rfl, by decide, fun _ => x_tb_in (List.mem_of_getElem? (i := 82) (by decide +kernel)) rfl, fun h => (by cases h)⟩, List.forall_mem_cons.mpr ⟨⟨(RX3, TX3, 12), rfl, by decide, fun _ => x_tb_in (List.mem_of_getElem? (i := 87) (by decide +kernel)) rfl, fun h => (by cases h)⟩, List.forall_mem_cons.mpr ⟨⟨(RX3, TX3, 12), rfl, by decide, fun _ => x_tb_in (List.mem_of_getElem? (i := 90) (by decide +kernel)) rfl, fun h => (by cases h)⟩, List.forall_mem_cons.mpr ⟨⟨(RX3, TX3, 12), rfl, by decide, fun _ => x_tb_in (List.mem_of_getElem? (i := 93) (by decide +kernel)) rfl, fun h => (by cases h)⟩, List.forall_mem_cons.mpr ⟨⟨(RX3, TX3, 12), rfl, by decide, fun _ => x_tb_in (List.mem_of_getElem? (i := 96) (by decide +kernel)) rfl, fun h => (by cases h)⟩, List.forall_mem_cons.mpr ⟨⟨(RX3, TX3, 12), rfl, by decide, fun _ => x_tb_in (List.mem_of_getElem? (i := 99) (by decide +kernel)) rfl, fun h => (by cases h)⟩, List.forall_mem_cons.mpr ⟨⟨(RX3, TX3, 12), rfl, by decide, fun _ => x_tb_in (List.mem_of_getElem? (i := 101) (by decide +kernel)) rfl, fun h => (by cases h)⟩, List.forall_mem_cons.mpr ⟨⟨(RX3, TX3, 12), rfl, by decide, fun _ => x_tb_in (List.mem_of_getElem? (i := 103) (by decide +kernel)) rfl, fun h => (by cases h)⟩, List.forall_mem_cons.mpr ⟨⟨(RX3, TX3, 12), rfl, by decide, fun _ => x_tb_in (List.mem_of_getElem? (i := 105) (by decide +kernel)) rfl, fun h => (by cases h)⟩, fun _ h => absurd h List.not_mem_nil⟩⟩⟩⟩⟩⟩⟩⟩⟩⟩⟩⟩, fun _ h => absurd h List.not_mem_nil, List.forall_mem_cons.mpr ⟨x_tb_in (List.mem_of_getElem? (i := 517) (by decide +kernel)) rfl, fun _ h => absurd h List.not_mem_nil⟩, fun _ h => absurd h List.not_mem_nil⟩
def IX4 : x_I := (RX4, [(25, 3, 3, true), (9, 4, 0, false), (15, 4, 1, false)], [], [(48, -1)], [])
set_option maxRecDepth 100000 in
theorem okX4 : x_okI IX4 := ⟨List.forall_mem_cons.mpr ⟨⟨(RX3, TX3, 12), rfl, by decide, fun h => (by cases h), fun _ => List.mem_of_getElem? (i := 1) (by decide +kernel)⟩, List.forall_mem_cons.mpr ⟨⟨(RX4, TX4, 2), rfl, by decide, fun _ => x_tb_in (List.mem_of_getElem? (i := 206) (by decide +kernel)) rfl, fun h => (by cases h)⟩, List.forall_mem_cons.mpr ⟨⟨(RX4, TX4, 2), rfl, by decide, fun _ => x_tb_in (List.mem_of_getElem? (i := 207) (by decide +kernel)) rfl, fun h => (by cases h)⟩, fun _ h => absurd h List.not_mem_nil⟩⟩⟩, fun _ h => absurd h List.not_mem_nil, List.forall_mem_cons.mpr ⟨x_tb_in (List.mem_of_getElem? (i := 577) (by decide +kernel)) rfl, fun _ h => absurd h List.not_mem_nil⟩, fun _ h => absurd h List.not_mem_nil⟩
def IJ7 : x_I := (RJ7, [], [], [], [])
set_option maxRecDepth 100000 in
theorem okJ7 : x_okI IJ7 := ⟨fun _ h => absurd h List.not_mem_nil, fun _ h => absurd h List.not_mem_nil, fun _ h => absurd h List.not_mem_nil, fun _ h => absurd h List.not_mem_nil⟩
def kX0_init : List (List (Nat × Instr × Nat)) := [[(0, .aload_n 0, 1), (1, .invokespecial 3, 3), (4, .aload_n 0, 1), (5, .iconst 5, 1), (6, .anewarray 9, 3), (9, .putfield 11, 3), (12, .aload_n 0, 1), (13, .iconst 5, 1), (14, .newarray .int, 2)],
  [(16, .putfield 17, 3), (19, .iconst 0, 1), (20, .istore_n 1, 1), (21, .iload_n 1, 1), (22, .aload_n 0, 1), (23, .getfield 11, 3), (26, .arraylength, 1), (27, .if_icmp .ge 22, 3), (30, .aload_n 0, 1), (31, .getfield 11, 3)],
  [(34, .iload_n 1, 1), (35, .new 9, 3), (38, .dup, 1), (39, .invokespecial 21, 3), (42, .aastore, 1), (43, .iinc 1 1, 3), (46, .goto (-25), 3)],
  [(49, .return_, 1)]]
def mX0_init : x_M := (yX0_init, prog_2_method_1_code, 2, none, kX0_init, IX0)
set_option maxRecDepth 100000 in
theorem decX0_init : x_dec mX0_init := by unfold x_dec; decide +kernel
theorem gX0_init : x_good mX0_init := ⟨by decide +kernel, decX0_init, okX0, rfl, x_tb_in (List.mem_of_getElem? (i := 152) (by decide +kernel)) rfl, iniX0, by decide +kernel, by decide +kernel⟩
theorem vX0_init : Cond.instanceMethod yX0_init ∈ x_tb := x_tb_in (List.mem_of_getElem? (i := 151) (by decide +kernel)) rfl
def kX0_gainFor : List (List (Nat × Instr × Nat)) := [[(0, .aload_n 0, 1), (1, .getfield 11, 3), (4, .iconst 0, 1), (5, .aaload, 1), (6, .aload_n 1, 1), (7, .invokevirtual 22, 3), (10, .aload_n 0, 1), (11, .getfield 11, 3), (14, .aload_n 0, 1), (15, .getfield 17, 3)],
  [(18, .iconst 0, 1), (19, .iload_n 2, 1), (20, .iload_n 2, 1), (21, .ineg, 1), (22, .iload_n 2, 1), (23, .invokestatic 26, 3), (26, .ireturn, 1)]]
def mX0_gainFor : x_M := (yX0_gainFor, prog_2_method_2_code, 3, (some .int), kX0_gainFor, IX0)
set_option maxRecDepth 100000 in
theorem decX0_gainFor : x_dec mX0_gainFor := by unfold x_dec; decide +kernel
theorem gX0_gainFor : x_good mX0_gainFor := ⟨by decide +kernel, decX0_gainFor, okX0, rfl, x_tb_in (List.mem_of_getElem? (i := 442) (by decide +kernel)) rfl, iniX0, by decide +kernel, by decide +kernel⟩
theorem vX0_gainFor : Cond.instanceMethod yX0_gainFor ∈ x_tb ∧ Cond.selects RX0 yX0_gainFor yX0_gainFor ∈ x_tb := ⟨x_tb_in (List.mem_of_getElem? (i := 440) (by decide +kernel)) rfl, x_tb_in (List.mem_of_getElem? (i := 441) (by decide +kernel)) rfl⟩
def kX0_bowlFor : List (List (Nat × Instr × Nat)) := [[(0, .aload_n 0, 1), (1, .aload_n 1, 1), (2, .iload_n 2, 1), (3, .invokevirtual 30, 3), (6, .pop, 1), (7, .aload_n 0, 1), (8, .getfield 17, 3), (11, .iconst 0, 1), (12, .iaload, 1), (13, .ireturn, 1)]]
def mX0_bowlFor : x_M := (yX0_bowlFor, prog_2_method_3_code, 3, (some .int), kX0_bowlFor, IX0)
set_option maxRecDepth 100000 in
theorem decX0_bowlFor : x_dec mX0_bowlFor := by unfold x_dec; decide +kernel
theorem gX0_bowlFor : x_good mX0_bowlFor := ⟨by decide +kernel, decX0_bowlFor, okX0, rfl, x_tb_in (List.mem_of_getElem? (i := 438) (by decide +kernel)) rfl, iniX0, by decide +kernel, by decide +kernel⟩
theorem vX0_bowlFor : Cond.instanceMethod yX0_bowlFor ∈ x_tb ∧ Cond.selects RX0 yX0_bowlFor yX0_bowlFor ∈ x_tb := ⟨x_tb_in (List.mem_of_getElem? (i := 436) (by decide +kernel)) rfl, x_tb_in (List.mem_of_getElem? (i := 437) (by decide +kernel)) rfl⟩
def kX0_gainOf : List (List (Nat × Instr × Nat)) := [[(0, .iload_n 3, 1), (1, .ifCond .le 21, 3), (4, .iload_n 2, 1), (5, .ifCond .lt 17, 3), (8, .iload_n 2, 1), (9, .iconst 1, 1), (10, .iadd, 1), (11, .aload_n 0, 1), (12, .arraylength, 1), (13, .if_icmp .ge 9, 3)],
  [(16, .iload_n 2, 1), (17, .aload_n 1, 1), (18, .arraylength, 1), (19, .if_icmp .lt 5, 3), (22, .iconst 0, 1), (23, .ireturn, 1), (24, .aload_n 0, 1), (25, .iload_n 2, 1), (26, .aaload, 1), (27, .astore 6, 2), (29, .aload_n 0, 1), (30, .iload_n 2, 1), (31, .iconst 1, 1)],
  [(32, .iadd, 1), (33, .aaload, 1), (34, .astore 7, 2), (36, .iload 5, 2), (38, .iload_n 3, 1), (39, .iconst 1, 1), (40, .iadd, 1), (41, .iconst 2, 1), (42, .idiv, 1), (43, .invokestatic 34, 3), (46, .istore 8, 2)],
  [(48, .iload 4, 2), (50, .iconst 1, 1), (51, .isub, 1), (52, .istore 9, 2), (54, .aload_n 1, 1), (55, .iload_n 2, 1), (56, .bipush (-9), 2), (58, .iastore, 1), (59, .iconst 0, 1), (60, .istore 10, 2), (62, .iload 10, 2)],
  [(64, .aload 6, 2), (66, .getfield 40, 3), (69, .if_icmp .ge 105, 3), (72, .aload_n 1, 1), (73, .iload_n 2, 1), (74, .iaload, 1), (75, .bipush (-9), 2), (77, .if_icmp .eq 10, 3)],
  [(80, .iload 9, 2), (82, .iload 8, 2), (84, .if_icmp .ge 90, 3), (87, .aload 6, 2), (89, .iload 10, 2), (91, .invokevirtual 44, 3), (94, .ifCond .eq 74, 3)],
  [(97, .aload 7, 2), (99, .aload 6, 2), (101, .invokevirtual 22, 3), (104, .aload 7, 2), (106, .iload 10, 2), (108, .invokevirtual 48, 3), (111, .aload 7, 2)],
  [(113, .getfield 52, 3), (116, .istore 11, 2), (118, .iload 11, 2), (120, .aload_n 0, 1), (121, .aload_n 1, 1), (122, .iload_n 2, 1), (123, .iconst 1, 1), (124, .iadd, 1), (125, .iload_n 3, 1), (126, .iconst 1, 1), (127, .isub, 1)],
  [(128, .iload 11, 2), (130, .iload 5, 2), (132, .isub, 1), (133, .iload 11, 2), (135, .iload 9, 2), (137, .isub, 1), (138, .invokestatic 26, 3), (141, .isub, 1), (142, .istore 12, 2)],
  [(144, .iload 12, 2), (146, .iload 9, 2), (148, .if_icmp .gt 11, 3), (151, .aload_n 1, 1), (152, .iload_n 2, 1), (153, .iaload, 1), (154, .bipush (-9), 2), (156, .if_icmp .ne 12, 3), (159, .iload 12, 2)],
  [(161, .istore 9, 2), (163, .aload_n 1, 1), (164, .iload_n 2, 1), (165, .iload 10, 2), (167, .iastore, 1), (168, .iinc 10 1, 3), (171, .goto (-109), 3), (174, .aload_n 1, 1), (175, .iload_n 2, 1)],
  [(176, .iaload, 1), (177, .bipush (-9), 2), (179, .if_icmp .ne 7, 3), (182, .iconst 0, 1), (183, .goto 5, 3), (186, .iload 9, 2), (188, .ireturn, 1)]]
def mX0_gainOf : x_M := (yX0_gainOf, prog_2_method_4_code, 13, (some .int), kX0_gainOf, IX0)
set_option maxRecDepth 100000 in
theorem decX0_gainOf : x_dec mX0_gainOf := by unfold x_dec; decide +kernel
theorem gX0_gainOf : x_good mX0_gainOf := ⟨by decide +kernel, decX0_gainOf, okX0, rfl, x_tb_in (List.mem_of_getElem? (i := 446) (by decide +kernel)) rfl, iniX0, by decide +kernel, by decide +kernel⟩
theorem vX0_gainOf : Cond.static yX0_gainOf ∈ x_tb := x_tb_in (List.mem_of_getElem? (i := 445) (by decide +kernel)) rfl
def kX1_init : List (List (Nat × Instr × Nat)) := [[(0, .aload_n 0, 1), (1, .invokespecial 5, 3), (4, .aload_n 0, 1), (5, .sipush 7381, 3), (8, .newarray .long, 2), (10, .putfield 11, 3), (13, .aload_n 0, 1), (14, .sipush 7381, 3)],
  [(17, .newarray .int, 2), (19, .putfield 15, 3), (22, .aload_n 0, 1), (23, .sipush 16384, 3), (26, .newarray .int, 2), (28, .putfield 19, 3), (31, .aload_n 0, 1)],
  [(32, .new 22, 3), (35, .dup, 1), (36, .invokespecial 24, 3), (39, .putfield 25, 3), (42, .aload_n 0, 1), (43, .new 22, 3), (46, .dup, 1), (47, .invokespecial 24, 3)],
  [(50, .putfield 29, 3), (53, .aload_n 0, 1), (54, .iconst 0, 1), (55, .putfield 32, 3), (58, .aload_n 0, 1), (59, .bipush (-9), 2), (61, .putfield 36, 3)],
  [(64, .aload_n 0, 1), (65, .bipush (-9), 2), (67, .putfield 39, 3), (70, .return_, 1)]]
def mX1_init : x_M := (yX1_init, prog_3_method_1_code, 1, none, kX1_init, IX1)
set_option maxRecDepth 100000 in
theorem decX1_init : x_dec mX1_init := by unfold x_dec; decide +kernel
theorem gX1_init : x_good mX1_init := ⟨by decide +kernel, decX1_init, okX1, rfl, x_tb_in (List.mem_of_getElem? (i := 168) (by decide +kernel)) rfl, iniX1, by decide +kernel, by decide +kernel⟩
theorem vX1_init : Cond.instanceMethod yX1_init ∈ x_tb := x_tb_in (List.mem_of_getElem? (i := 167) (by decide +kernel)) rfl
def kX1_seek : List (List (Nat × Instr × Nat)) := [[(0, .aload_n 0, 1), (1, .bipush (-9), 2), (3, .putfield 39, 3), (6, .aload_n 0, 1), (7, .aload_n 1, 1), (8, .iload_n 2, 1), (9, .invokevirtual 42, 3), (12, .ifCond .ne 7, 3), (15, .iconst 0, 1)],
  [(16, .goto 5, 3), (19, .bipush (-9), 2), (21, .putfield 36, 3), (24, .aload_n 0, 1), (25, .getfield 36, 3), (28, .ifCond .ne 4, 3), (31, .return_, 1)],
  [(32, .aload_n 0, 1), (33, .iconst 0, 1), (34, .putfield 32, 3), (37, .aload_n 0, 1), (38, .getfield 19, 3), (41, .iconst 0, 1), (42, .invokestatic 46, 3), (45, .aload_n 0, 1), (46, .getfield 25, 3)],
  [(49, .aload_n 1, 1), (50, .invokevirtual 52, 3), (53, .aload_n 0, 1), (54, .aload_n 0, 1), (55, .getfield 25, 3), (58, .invokevirtual 56, 3), (61, .bipush (-9), 2), (63, .invokevirtual 60, 3)],
  [(66, .iconst 0, 1), (67, .istore_n 3, 1), (68, .iconst 1, 1), (69, .istore 4, 2), (71, .iload 4, 2), (73, .iconst 5, 1), (74, .if_icmp .gt 61, 3), (77, .aload_n 0, 1), (78, .getfield 36, 3)],
  [(81, .bipush (-9), 2), (83, .if_icmp .ne 52, 3), (86, .aload_n 0, 1), (87, .getfield 32, 3), (90, .istore 5, 2), (92, .iload_n 3, 1), (93, .istore 6, 2), (95, .iload 6, 2)],
  [(97, .iload 5, 2), (99, .if_icmp .ge 27, 3), (102, .aload_n 0, 1), (103, .getfield 36, 3), (106, .bipush (-9), 2), (108, .if_icmp .ne 18, 3), (111, .aload_n 0, 1)],
  [(112, .iload 6, 2), (114, .iload_n 2, 1), (115, .iload 4, 2), (117, .invokevirtual 64, 3), (120, .iinc 6 1, 3), (123, .goto (-28), 3), (126, .iload 5, 2)],
  [(128, .istore_n 3, 1), (129, .iinc 4 1, 3), (132, .goto (-61), 3), (135, .return_, 1)]]
def mX1_seek : x_M := (yX1_seek, prog_3_method_2_code, 7, none, kX1_seek, IX1)
set_option maxRecDepth 100000 in
theorem decX1_seek : x_dec mX1_seek := by unfold x_dec; decide +kernel
theorem gX1_seek : x_good mX1_seek := ⟨by decide +kernel, decX1_seek, okX1, rfl, x_tb_in (List.mem_of_getElem? (i := 494) (by decide +kernel)) rfl, iniX1, by decide +kernel, by decide +kernel⟩
theorem vX1_seek : Cond.instanceMethod yX1_seek ∈ x_tb ∧ Cond.selects RX1 yX1_seek yX1_seek ∈ x_tb := ⟨x_tb_in (List.mem_of_getElem? (i := 492) (by decide +kernel)) rfl, x_tb_in (List.mem_of_getElem? (i := 493) (by decide +kernel)) rfl⟩
def kX1_goOnFrom : List (List (Nat × Instr × Nat)) := [[(0, .iload_n 1, 1), (1, .ifCond .lt 10, 3), (4, .iload_n 1, 1), (5, .sipush 7381, 3), (8, .if_icmp .lt 4, 3), (11, .return_, 1), (12, .aload_n 0, 1), (13, .getfield 25, 3)],
  [(16, .aload_n 0, 1), (17, .getfield 11, 3), (20, .iload_n 1, 1), (21, .laload, 1), (22, .invokevirtual 68, 3), (25, .iconst 0, 1), (26, .istore 4, 2), (28, .iload 4, 2), (30, .aload_n 0, 1), (31, .getfield 25, 3)],
  [(34, .getfield 72, 3), (37, .if_icmp .ge 111, 3), (40, .aload_n 0, 1), (41, .getfield 36, 3), (44, .bipush (-9), 2), (46, .if_icmp .ne 102, 3)],
  [(49, .aload_n 0, 1), (50, .getfield 25, 3), (53, .iload 4, 2), (55, .invokevirtual 73, 3), (58, .ifCond .eq 84, 3), (61, .aload_n 0, 1), (62, .getfield 29, 3)],
  [(65, .aload_n 0, 1), (66, .getfield 25, 3), (69, .invokevirtual 52, 3), (72, .aload_n 0, 1), (73, .getfield 29, 3), (76, .iload 4, 2), (78, .invokevirtual 77, 3)],
  [(81, .iload_n 3, 1), (82, .iconst 1, 1), (83, .if_icmp .ne 8, 3), (86, .iload 4, 2), (88, .goto 9, 3), (91, .aload_n 0, 1), (92, .getfield 15, 3), (95, .iload_n 1, 1)],
  [(96, .iaload, 1), (97, .istore 5, 2), (99, .aload_n 0, 1), (100, .getfield 29, 3), (103, .iload_n 2, 1), (104, .invokevirtual 42, 3), (107, .ifCond .ne 17, 3), (110, .aload_n 0, 1), (111, .iload_n 3, 1)],
  [(112, .putfield 36, 3), (115, .aload_n 0, 1), (116, .iload 5, 2), (118, .putfield 39, 3), (121, .goto 21, 3), (124, .iload_n 3, 1), (125, .iconst 5, 1), (126, .if_icmp .ge 16, 3)],
  [(129, .aload_n 0, 1), (130, .aload_n 0, 1), (131, .getfield 29, 3), (134, .invokevirtual 56, 3), (137, .iload 5, 2), (139, .invokevirtual 60, 3), (142, .iinc 4 1, 3)],
  [(145, .goto (-117), 3), (148, .return_, 1)]]
def mX1_goOnFrom : x_M := (yX1_goOnFrom, prog_3_method_3_code, 6, none, kX1_goOnFrom, IX1)
set_option maxRecDepth 100000 in
theorem decX1_goOnFrom : x_dec mX1_goOnFrom := by unfold x_dec; decide +kernel
theorem gX1_goOnFrom : x_good mX1_goOnFrom := ⟨by decide +kernel, decX1_goOnFrom, okX1, rfl, x_tb_in (List.mem_of_getElem? (i := 512) (by decide +kernel)) rfl, iniX1, by decide +kernel, by decide +kernel⟩
theorem vX1_goOnFrom : Cond.instanceMethod yX1_goOnFrom ∈ x_tb ∧ Cond.selects RX1 yX1_goOnFrom yX1_goOnFrom ∈ x_tb := ⟨x_tb_in (List.mem_of_getElem? (i := 511) (by decide +kernel)) rfl, x_tb_in (List.mem_of_getElem? (i := 18) (by decide +kernel)) rfl⟩
def kX1_keep : List (List (Nat × Instr × Nat)) := [[(0, .lload_n 1, 1), (1, .ldc2_w 81, 3), (4, .lmul, 1), (5, .bipush 50, 2), (7, .lushr, 1), (8, .l2i, 1), (9, .istore 4, 2), (11, .iconst 0, 1), (12, .istore 5, 2), (14, .iload 5, 2)],
  [(16, .sipush 16384, 3), (19, .if_icmp .ge 109, 3), (22, .aload_n 0, 1), (23, .getfield 32, 3), (26, .sipush 7381, 3), (29, .if_icmp .ge 99, 3)],
  [(32, .aload_n 0, 1), (33, .getfield 19, 3), (36, .iload 4, 2), (38, .sipush 16383, 3), (41, .iand, 1), (42, .iaload, 1), (43, .iconst 1, 1), (44, .isub, 1), (45, .istore 6, 2), (47, .iload 6, 2)],
  [(49, .ifCond .lt 11, 3), (52, .iload 6, 2), (54, .sipush 7381, 3), (57, .if_icmp .lt 49, 3), (60, .aload_n 0, 1), (61, .getfield 11, 3)],
  [(64, .aload_n 0, 1), (65, .getfield 32, 3), (68, .lload_n 1, 1), (69, .lastore, 1), (70, .aload_n 0, 1), (71, .getfield 15, 3), (74, .aload_n 0, 1), (75, .getfield 32, 3), (78, .iload_n 3, 1), (79, .iastore, 1)],
  [(80, .aload_n 0, 1), (81, .dup, 1), (82, .getfield 32, 3), (85, .iconst 1, 1), (86, .iadd, 1), (87, .putfield 32, 3), (90, .aload_n 0, 1), (91, .getfield 19, 3), (94, .iload 4, 2)],
  [(96, .sipush 16383, 3), (99, .iand, 1), (100, .aload_n 0, 1), (101, .getfield 32, 3), (104, .iastore, 1), (105, .return_, 1), (106, .aload_n 0, 1), (107, .getfield 11, 3), (110, .iload 6, 2)],
  [(112, .laload, 1), (113, .lload_n 1, 1), (114, .lcmp, 1), (115, .ifCond .ne 4, 3), (118, .return_, 1), (119, .iinc 4 1, 3), (122, .iinc 5 1, 3), (125, .goto (-111), 3)],
  [(128, .return_, 1)]]
def mX1_keep : x_M := (yX1_keep, prog_3_method_4_code, 7, none, kX1_keep, IX1)
set_option maxRecDepth 100000 in
theorem decX1_keep : x_dec mX1_keep := by unfold x_dec; decide +kernel
theorem gX1_keep : x_good mX1_keep := ⟨by decide +kernel, decX1_keep, okX1, rfl, x_tb_in (List.mem_of_getElem? (i := 507) (by decide +kernel)) rfl, iniX1, by decide +kernel, by decide +kernel⟩
theorem vX1_keep : Cond.instanceMethod yX1_keep ∈ x_tb ∧ Cond.selects RX1 yX1_keep yX1_keep ∈ x_tb := ⟨x_tb_in (List.mem_of_getElem? (i := 506) (by decide +kernel)) rfl, x_tb_in (List.mem_of_getElem? (i := 17) (by decide +kernel)) rfl⟩
def kX2_init : List (List (Nat × Instr × Nat)) := [[(0, .aload_n 0, 1), (1, .invokespecial 3, 3), (4, .aload_n 0, 1), (5, .bipush 96, 2), (7, .newarray .int, 2), (9, .putfield 9, 3), (12, .aload_n 0, 1), (13, .iconst 0, 1), (14, .putfield 15, 3)],
  [(17, .return_, 1)]]
def mX2_init : x_M := (yX2_init, prog_4_method_1_code, 1, none, kX2_init, IX2)
set_option maxRecDepth 100000 in
theorem decX2_init : x_dec mX2_init := by unfold x_dec; decide +kernel
theorem gX2_init : x_good mX2_init := ⟨by decide +kernel, decX2_init, okX2, rfl, x_tb_in (List.mem_of_getElem? (i := 138) (by decide +kernel)) rfl, iniX2, by decide +kernel, by decide +kernel⟩
theorem vX2_init : Cond.instanceMethod yX2_init ∈ x_tb := x_tb_in (List.mem_of_getElem? (i := 137) (by decide +kernel)) rfl
def kX2_add : List (List (Nat × Instr × Nat)) := [[(0, .aload_n 0, 1), (1, .getfield 15, 3), (4, .ifCond .lt 12, 3), (7, .aload_n 0, 1), (8, .getfield 15, 3), (11, .bipush 96, 2), (13, .if_icmp .lt 5, 3)],
  [(16, .iconst 0, 1), (17, .ireturn, 1), (18, .aload_n 0, 1), (19, .getfield 9, 3), (22, .aload_n 0, 1), (23, .getfield 15, 3), (26, .iload_n 1, 1), (27, .iastore, 1), (28, .aload_n 0, 1), (29, .dup, 1), (30, .getfield 15, 3)],
  [(33, .iconst 1, 1), (34, .iadd, 1), (35, .putfield 15, 3), (38, .iconst 1, 1), (39, .ireturn, 1)]]
def mX2_add : x_M := (yX2_add, prog_4_method_2_code, 2, (some .boolean), kX2_add, IX2)
set_option maxRecDepth 100000 in
theorem decX2_add : x_dec mX2_add := by unfold x_dec; decide +kernel
theorem gX2_add : x_good mX2_add := ⟨by decide +kernel, decX2_add, okX2, rfl, x_tb_in (List.mem_of_getElem? (i := 261) (by decide +kernel)) rfl, iniX2, by decide +kernel, by decide +kernel⟩
theorem vX2_add : Cond.instanceMethod yX2_add ∈ x_tb ∧ Cond.selects RX2 yX2_add yX2_add ∈ x_tb := ⟨x_tb_in (List.mem_of_getElem? (i := 259) (by decide +kernel)) rfl, x_tb_in (List.mem_of_getElem? (i := 260) (by decide +kernel)) rfl⟩
def kX2_clear : List (List (Nat × Instr × Nat)) := [[(0, .aload_n 0, 1), (1, .iconst 0, 1), (2, .putfield 15, 3), (5, .return_, 1)]]
def mX2_clear : x_M := (yX2_clear, prog_4_method_3_code, 1, none, kX2_clear, IX2)
set_option maxRecDepth 100000 in
theorem decX2_clear : x_dec mX2_clear := by unfold x_dec; decide +kernel
theorem gX2_clear : x_good mX2_clear := ⟨by decide +kernel, decX2_clear, okX2, rfl, x_tb_in (List.mem_of_getElem? (i := 379) (by decide +kernel)) rfl, iniX2, by decide +kernel, by decide +kernel⟩
theorem vX2_clear : Cond.instanceMethod yX2_clear ∈ x_tb ∧ Cond.selects RX2 yX2_clear yX2_clear ∈ x_tb := ⟨x_tb_in (List.mem_of_getElem? (i := 377) (by decide +kernel)) rfl, x_tb_in (List.mem_of_getElem? (i := 378) (by decide +kernel)) rfl⟩
def kX2_playOn : List (List (Nat × Instr × Nat)) := [[(0, .aload_n 0, 1), (1, .invokevirtual 19, 3), (4, .istore_n 2, 1), (5, .iload_n 2, 1), (6, .bipush (-9), 2), (8, .if_icmp .eq 9, 3), (11, .sipush (-1000), 3), (14, .iload_n 2, 1), (15, .isub, 1)],
  [(16, .ireturn, 1), (17, .iconst 0, 1), (18, .istore_n 3, 1), (19, .iconst 0, 1), (20, .istore 4, 2), (22, .iload_n 3, 1), (23, .aload_n 0, 1), (24, .getfield 15, 3), (27, .if_icmp .ge 37, 3), (30, .iload 4, 2)],
  [(32, .bipush 96, 2), (34, .if_icmp .ge 30, 3), (37, .aload_n 0, 1), (38, .iload_n 3, 1), (39, .aload_n 1, 1), (40, .invokevirtual 23, 3), (43, .ifCond .ne 9, 3), (46, .sipush (-2000), 3)],
  [(49, .iload_n 3, 1), (50, .isub, 1), (51, .ireturn, 1), (52, .aload_n 0, 1), (53, .iload_n 3, 1), (54, .invokevirtual 27, 3), (57, .istore_n 3, 1), (58, .iinc 4 1, 3), (61, .goto (-39), 3)],
  [(64, .iload 4, 2), (66, .ireturn, 1)]]
def mX2_playOn : x_M := (yX2_playOn, prog_4_method_4_code, 5, (some .int), kX2_playOn, IX2)
set_option maxRecDepth 100000 in
theorem decX2_playOn : x_dec mX2_playOn := by unfold x_dec; decide +kernel
theorem gX2_playOn : x_good mX2_playOn := ⟨by decide +kernel, decX2_playOn, okX2, rfl, x_tb_in (List.mem_of_getElem? (i := 276) (by decide +kernel)) rfl, iniX2, by decide +kernel, by decide +kernel⟩
theorem vX2_playOn : Cond.instanceMethod yX2_playOn ∈ x_tb ∧ Cond.selects RX2 yX2_playOn yX2_playOn ∈ x_tb := ⟨x_tb_in (List.mem_of_getElem? (i := 274) (by decide +kernel)) rfl, x_tb_in (List.mem_of_getElem? (i := 275) (by decide +kernel)) rfl⟩
def kX2_stuckAt : List (List (Nat × Instr × Nat)) := [[(0, .iconst 0, 1), (1, .istore_n 1, 1), (2, .iconst 0, 1), (3, .istore_n 2, 1), (4, .iload_n 2, 1), (5, .ifCond .eq 17, 3), (8, .iload_n 2, 1), (9, .bipush 96, 2), (11, .if_icmp .ge 37, 3), (14, .iload_n 1, 1), (15, .aload_n 0, 1)],
  [(16, .getfield 15, 3), (19, .if_icmp .ge 29, 3), (22, .aload_n 0, 1), (23, .iload_n 1, 1), (24, .invokevirtual 31, 3), (27, .istore_n 3, 1), (28, .iload_n 3, 1), (29, .bipush (-9), 2), (31, .if_icmp .eq 5, 3)],
  [(34, .iload_n 3, 1), (35, .ireturn, 1), (36, .aload_n 0, 1), (37, .iload_n 1, 1), (38, .invokevirtual 27, 3), (41, .istore_n 1, 1), (42, .iinc 2 1, 3), (45, .goto (-41), 3)],
  [(48, .bipush (-9), 2), (50, .ireturn, 1)]]
def mX2_stuckAt : x_M := (yX2_stuckAt, prog_4_method_5_code, 4, (some .int), kX2_stuckAt, IX2)
set_option maxRecDepth 100000 in
theorem decX2_stuckAt : x_dec mX2_stuckAt := by unfold x_dec; decide +kernel
theorem gX2_stuckAt : x_good mX2_stuckAt := ⟨by decide +kernel, decX2_stuckAt, okX2, rfl, x_tb_in (List.mem_of_getElem? (i := 280) (by decide +kernel)) rfl, iniX2, by decide +kernel, by decide +kernel⟩
theorem vX2_stuckAt : Cond.instanceMethod yX2_stuckAt ∈ x_tb ∧ Cond.selects RX2 yX2_stuckAt yX2_stuckAt ∈ x_tb := ⟨x_tb_in (List.mem_of_getElem? (i := 279) (by decide +kernel)) rfl, x_tb_in (List.mem_of_getElem? (i := 1) (by decide +kernel)) rfl⟩
def kX2_stuckIn : List (List (Nat × Instr × Nat)) := [[(0, .aload_n 0, 1), (1, .iload_n 1, 1), (2, .invokevirtual 34, 3), (5, .istore_n 2, 1), (6, .iload_n 2, 1), (7, .invokestatic 37, 3), (10, .ifCond .ne 5, 3), (13, .iload_n 1, 1), (14, .ireturn, 1), (15, .iload_n 1, 1)],
  [(16, .iconst 1, 1), (17, .iadd, 1), (18, .istore_n 3, 1), (19, .iload_n 2, 1), (20, .bipush 98, 2), (22, .if_icmp .ne 21, 3), (25, .aload_n 0, 1), (26, .iload_n 3, 1), (27, .invokevirtual 34, 3), (30, .invokestatic 40, 3)],
  [(33, .bipush (-9), 2), (35, .if_icmp .ne 5, 3), (38, .iload_n 3, 1), (39, .ireturn, 1), (40, .iinc 3 1, 3), (43, .aload_n 0, 1), (44, .iload_n 3, 1), (45, .iload_n 2, 1), (46, .invokestatic 37, 3)],
  [(49, .invokevirtual 43, 3), (52, .istore 4, 2), (54, .iload_n 3, 1), (55, .iload 4, 2), (57, .iadd, 1), (58, .istore_n 3, 1), (59, .iload 4, 2), (61, .iload_n 2, 1), (62, .invokestatic 47, 3)],
  [(65, .if_icmp .lt 13, 3), (68, .aload_n 0, 1), (69, .iload_n 3, 1), (70, .invokevirtual 34, 3), (73, .bipush 59, 2), (75, .if_icmp .eq 7, 3), (78, .iload_n 3, 1), (79, .goto 5, 3)],
  [(82, .bipush (-9), 2), (84, .ireturn, 1)]]
def mX2_stuckIn : x_M := (yX2_stuckIn, prog_4_method_6_code, 5, (some .int), kX2_stuckIn, IX2)
set_option maxRecDepth 100000 in
theorem decX2_stuckIn : x_dec mX2_stuckIn := by unfold x_dec; decide +kernel
theorem gX2_stuckIn : x_good mX2_stuckIn := ⟨by decide +kernel, decX2_stuckIn, okX2, rfl, x_tb_in (List.mem_of_getElem? (i := 284) (by decide +kernel)) rfl, iniX2, by decide +kernel, by decide +kernel⟩
theorem vX2_stuckIn : Cond.instanceMethod yX2_stuckIn ∈ x_tb ∧ Cond.selects RX2 yX2_stuckIn yX2_stuckIn ∈ x_tb := ⟨x_tb_in (List.mem_of_getElem? (i := 283) (by decide +kernel)) rfl, x_tb_in (List.mem_of_getElem? (i := 2) (by decide +kernel)) rfl⟩
def kX2_letterAt : List (List (Nat × Instr × Nat)) := [[(0, .iload_n 1, 1), (1, .ifCond .lt 26, 3), (4, .iload_n 1, 1), (5, .aload_n 0, 1), (6, .getfield 15, 3), (9, .if_icmp .ge 18, 3), (12, .iload_n 1, 1), (13, .bipush 96, 2), (15, .if_icmp .ge 12, 3)],
  [(18, .aload_n 0, 1), (19, .getfield 9, 3), (22, .iload_n 1, 1), (23, .iaload, 1), (24, .goto 4, 3), (27, .iconst (-1), 1), (28, .ireturn, 1)]]
def mX2_letterAt : x_M := (yX2_letterAt, prog_4_method_7_code, 2, (some .int), kX2_letterAt, IX2)
set_option maxRecDepth 100000 in
theorem decX2_letterAt : x_dec mX2_letterAt := by unfold x_dec; decide +kernel
theorem gX2_letterAt : x_good mX2_letterAt := ⟨by decide +kernel, decX2_letterAt, okX2, rfl, x_tb_in (List.mem_of_getElem? (i := 288) (by decide +kernel)) rfl, iniX2, by decide +kernel, by decide +kernel⟩
theorem vX2_letterAt : Cond.instanceMethod yX2_letterAt ∈ x_tb ∧ Cond.selects RX2 yX2_letterAt yX2_letterAt ∈ x_tb := ⟨x_tb_in (List.mem_of_getElem? (i := 287) (by decide +kernel)) rfl, x_tb_in (List.mem_of_getElem? (i := 3) (by decide +kernel)) rfl⟩
def kX2_digitAt : List (List (Nat × Instr × Nat)) := [[(0, .aload_n 0, 1), (1, .iload_n 1, 1), (2, .invokevirtual 34, 3), (5, .istore_n 2, 1), (6, .iload_n 2, 1), (7, .bipush 48, 2), (9, .if_icmp .lt 16, 3), (12, .iload_n 2, 1), (13, .bipush 57, 2), (15, .if_icmp .gt 10, 3)],
  [(18, .iload_n 2, 1), (19, .bipush 48, 2), (21, .isub, 1), (22, .goto 5, 3), (25, .bipush (-9), 2), (27, .ireturn, 1)]]
def mX2_digitAt : x_M := (yX2_digitAt, prog_4_method_8_code, 3, (some .int), kX2_digitAt, IX2)
set_option maxRecDepth 100000 in
theorem decX2_digitAt : x_dec mX2_digitAt := by unfold x_dec; decide +kernel
theorem gX2_digitAt : x_good mX2_digitAt := ⟨by decide +kernel, decX2_digitAt, okX2, rfl, x_tb_in (List.mem_of_getElem? (i := 302) (by decide +kernel)) rfl, iniX2, by decide +kernel, by decide +kernel⟩
theorem vX2_digitAt : Cond.instanceMethod yX2_digitAt ∈ x_tb ∧ Cond.selects RX2 yX2_digitAt yX2_digitAt ∈ x_tb := ⟨x_tb_in (List.mem_of_getElem? (i := 301) (by decide +kernel)) rfl, x_tb_in (List.mem_of_getElem? (i := 5) (by decide +kernel)) rfl⟩
def kX2_digitsFrom : List (List (Nat × Instr × Nat)) := [[(0, .iconst 0, 1), (1, .istore_n 3, 1), (2, .iload_n 3, 1), (3, .iload_n 2, 1), (4, .if_icmp .ge 21, 3), (7, .aload_n 0, 1), (8, .iload_n 1, 1), (9, .iload_n 3, 1), (10, .iadd, 1), (11, .invokevirtual 50, 3), (14, .bipush (-9), 2)],
  [(16, .if_icmp .eq 9, 3), (19, .iinc 3 1, 3), (22, .goto (-20), 3), (25, .iload_n 3, 1), (26, .ireturn, 1)]]
def mX2_digitsFrom : x_M := (yX2_digitsFrom, prog_4_method_9_code, 4, (some .int), kX2_digitsFrom, IX2)
set_option maxRecDepth 100000 in
theorem decX2_digitsFrom : x_dec mX2_digitsFrom := by unfold x_dec; decide +kernel
theorem gX2_digitsFrom : x_good mX2_digitsFrom := ⟨by decide +kernel, decX2_digitsFrom, okX2, rfl, x_tb_in (List.mem_of_getElem? (i := 298) (by decide +kernel)) rfl, iniX2, by decide +kernel, by decide +kernel⟩
theorem vX2_digitsFrom : Cond.instanceMethod yX2_digitsFrom ∈ x_tb ∧ Cond.selects RX2 yX2_digitsFrom yX2_digitsFrom ∈ x_tb := ⟨x_tb_in (List.mem_of_getElem? (i := 297) (by decide +kernel)) rfl, x_tb_in (List.mem_of_getElem? (i := 4) (by decide +kernel)) rfl⟩
def kX2_behindStatement : List (List (Nat × Instr × Nat)) := [[(0, .iload_n 1, 1), (1, .istore_n 2, 1), (2, .iload_n 2, 1), (3, .aload_n 0, 1), (4, .getfield 15, 3), (7, .if_icmp .ge 19, 3), (10, .aload_n 0, 1), (11, .iload_n 2, 1), (12, .invokevirtual 34, 3), (15, .bipush 59, 2)],
  [(17, .if_icmp .eq 9, 3), (20, .iinc 2 1, 3), (23, .goto (-21), 3), (26, .iload_n 2, 1), (27, .iconst 1, 1), (28, .iadd, 1), (29, .ireturn, 1)]]
def mX2_behindStatement : x_M := (yX2_behindStatement, prog_4_method_10_code, 3, (some .int), kX2_behindStatement, IX2)
set_option maxRecDepth 100000 in
theorem decX2_behindStatement : x_dec mX2_behindStatement := by unfold x_dec; decide +kernel
theorem gX2_behindStatement : x_good mX2_behindStatement := ⟨by decide +kernel, decX2_behindStatement, okX2, rfl, x_tb_in (List.mem_of_getElem? (i := 309) (by decide +kernel)) rfl, iniX2, by decide +kernel, by decide +kernel⟩
theorem vX2_behindStatement : Cond.instanceMethod yX2_behindStatement ∈ x_tb ∧ Cond.selects RX2 yX2_behindStatement yX2_behindStatement ∈ x_tb := ⟨x_tb_in (List.mem_of_getElem? (i := 308) (by decide +kernel)) rfl, x_tb_in (List.mem_of_getElem? (i := 6) (by decide +kernel)) rfl⟩
def kX2_mostDigits : List (List (Nat × Instr × Nat)) := [[(0, .iload_n 0, 1), (1, .tableswitch 98 98 116 #[91, 91, 98, 98, 93, 98, 98, 98, 98, 98, 93, 98, 98, 98, 98, 98, 98, 95, 93], 91)],
  [],
  [],
  [],
  [],
  [(92, .iconst 2, 1), (93, .ireturn, 1), (94, .iconst 1, 1), (95, .ireturn, 1)],
  [(96, .bipush 9, 2), (98, .ireturn, 1), (99, .iconst 0, 1), (100, .ireturn, 1)]]
def mX2_mostDigits : x_M := (yX2_mostDigits, prog_4_method_11_code, 1, (some .int), kX2_mostDigits, IX2)
set_option maxRecDepth 100000 in
theorem decX2_mostDigits : x_dec mX2_mostDigits := by unfold x_dec; decide +kernel
theorem gX2_mostDigits : x_good mX2_mostDigits := ⟨by decide +kernel, decX2_mostDigits, okX2, rfl, x_tb_in (List.mem_of_getElem? (i := 291) (by decide +kernel)) rfl, iniX2, by decide +kernel, by decide +kernel⟩
theorem vX2_mostDigits : Cond.static yX2_mostDigits ∈ x_tb := x_tb_in (List.mem_of_getElem? (i := 290) (by decide +kernel)) rfl
def kX2_leastDigits : List (List (Nat × Instr × Nat)) := [[(0, .iload_n 0, 1), (1, .bipush 115, 2), (3, .if_icmp .ne 7, 3), (6, .iconst 1, 1), (7, .goto 7, 3), (10, .iload_n 0, 1), (11, .invokestatic 37, 3), (14, .ireturn, 1)]]
def mX2_leastDigits : x_M := (yX2_leastDigits, prog_4_method_12_code, 1, (some .int), kX2_leastDigits, IX2)
set_option maxRecDepth 100000 in
theorem decX2_leastDigits : x_dec mX2_leastDigits := by unfold x_dec; decide +kernel
theorem gX2_leastDigits : x_good mX2_leastDigits := ⟨by decide +kernel, decX2_leastDigits, okX2, rfl, x_tb_in (List.mem_of_getElem? (i := 305) (by decide +kernel)) rfl, iniX2, by decide +kernel, by decide +kernel⟩
theorem vX2_leastDigits : Cond.static yX2_leastDigits ∈ x_tb := x_tb_in (List.mem_of_getElem? (i := 304) (by decide +kernel)) rfl
def kX2_kindFor : List (List (Nat × Instr × Nat)) := [[(0, .iload_n 0, 1), (1, .tableswitch 107 100 119 #[99, 107, 107, 107, 97, 107, 107, 107, 107, 107, 103, 95, 107, 105, 107, 107, 107, 107, 107, 101], 95)],
  [],
  [],
  [],
  [],
  [],
  [(96, .iconst 0, 1), (97, .ireturn, 1), (98, .iconst 1, 1), (99, .ireturn, 1), (100, .iconst 2, 1), (101, .ireturn, 1), (102, .iconst 3, 1), (103, .ireturn, 1), (104, .iconst 4, 1), (105, .ireturn, 1), (106, .iconst 5, 1), (107, .ireturn, 1), (108, .bipush (-9), 2), (110, .ireturn, 1)]]
def mX2_kindFor : x_M := (yX2_kindFor, prog_4_method_13_code, 1, (some .int), kX2_kindFor, IX2)
set_option maxRecDepth 100000 in
theorem decX2_kindFor : x_dec mX2_kindFor := by unfold x_dec; decide +kernel
theorem gX2_kindFor : x_good mX2_kindFor := ⟨by decide +kernel, decX2_kindFor, okX2, rfl, x_tb_in (List.mem_of_getElem? (i := 294) (by decide +kernel)) rfl, iniX2, by decide +kernel, by decide +kernel⟩
theorem vX2_kindFor : Cond.static yX2_kindFor ∈ x_tb := x_tb_in (List.mem_of_getElem? (i := 293) (by decide +kernel)) rfl
def kX2_apply : List (List (Nat × Instr × Nat)) := [[(0, .aload_n 0, 1), (1, .iload_n 1, 1), (2, .iconst 1, 1), (3, .iadd, 1), (4, .invokevirtual 50, 3), (7, .istore_n 3, 1), (8, .aload_n 0, 1), (9, .iload_n 1, 1), (10, .iconst 2, 1), (11, .iadd, 1), (12, .invokevirtual 50, 3), (15, .istore 4, 2)],
  [(17, .aload_n 0, 1), (18, .iload_n 1, 1), (19, .invokevirtual 34, 3), (22, .lookupswitch 141 #[(98, 50), (99, 105), (102, 57), (108, 73), (116, 89)], 50)],
  [],
  [],
  [(72, .aload_n 0, 1), (73, .iload_n 1, 1), (74, .aload_n 2, 1), (75, .invokevirtual 53, 3), (78, .ireturn, 1), (79, .aload_n 2, 1)],
  [(80, .iload_n 3, 1), (81, .putfield 56, 3), (84, .iload_n 3, 1), (85, .iconst 1, 1), (86, .if_icmp .lt 7, 3), (89, .iconst 1, 1), (90, .goto 4, 3), (93, .iconst 0, 1), (94, .ireturn, 1), (95, .aload_n 2, 1)],
  [(96, .iload_n 3, 1), (97, .putfield 61, 3), (100, .iload_n 3, 1), (101, .iconst 1, 1), (102, .if_icmp .gt 7, 3), (105, .iconst 1, 1), (106, .goto 4, 3), (109, .iconst 0, 1), (110, .ireturn, 1), (111, .aload_n 2, 1)],
  [(112, .iload_n 3, 1), (113, .putfield 64, 3), (116, .iload_n 3, 1), (117, .iconst 1, 1), (118, .if_icmp .gt 7, 3), (121, .iconst 1, 1), (122, .goto 4, 3), (125, .iconst 0, 1), (126, .ireturn, 1), (127, .aload_n 2, 1)],
  [(128, .iload_n 3, 1), (129, .iload 4, 2), (131, .invokevirtual 67, 3), (134, .iload_n 3, 1), (135, .iload 4, 2), (137, .if_icmp .eq 24, 3), (140, .aload_n 2, 1), (141, .iload_n 3, 1), (142, .invokevirtual 71, 3)],
  [(145, .ifCond .eq 16, 3), (148, .aload_n 2, 1), (149, .iload 4, 2), (151, .invokevirtual 71, 3), (154, .ifCond .eq 7, 3), (157, .iconst 1, 1), (158, .goto 4, 3)],
  [(161, .iconst 0, 1), (162, .ireturn, 1), (163, .aload_n 0, 1), (164, .iload_n 1, 1), (165, .iconst 1, 1), (166, .iadd, 1), (167, .aload_n 2, 1), (168, .invokevirtual 75, 3), (171, .ireturn, 1)]]
def mX2_apply : x_M := (yX2_apply, prog_4_method_14_code, 5, (some .boolean), kX2_apply, IX2)
set_option maxRecDepth 100000 in
theorem decX2_apply : x_dec mX2_apply := by unfold x_dec; decide +kernel
theorem gX2_apply : x_good mX2_apply := ⟨by decide +kernel, decX2_apply, okX2, rfl, x_tb_in (List.mem_of_getElem? (i := 313) (by decide +kernel)) rfl, iniX2, by decide +kernel, by decide +kernel⟩
theorem vX2_apply : Cond.instanceMethod yX2_apply ∈ x_tb ∧ Cond.selects RX2 yX2_apply yX2_apply ∈ x_tb := ⟨x_tb_in (List.mem_of_getElem? (i := 312) (by decide +kernel)) rfl, x_tb_in (List.mem_of_getElem? (i := 7) (by decide +kernel)) rfl⟩
def kX2_addBowl : List (List (Nat × Instr × Nat)) := [[(0, .bipush 10, 2), (2, .aload_n 0, 1), (3, .iload_n 1, 1), (4, .iconst 2, 1), (5, .iadd, 1), (6, .invokevirtual 50, 3), (9, .imul, 1), (10, .aload_n 0, 1), (11, .iload_n 1, 1), (12, .iconst 3, 1), (13, .iadd, 1), (14, .invokevirtual 50, 3)],
  [(17, .iadd, 1), (18, .istore_n 3, 1), (19, .iload_n 3, 1), (20, .bipush 20, 2), (22, .if_icmp .gt 25, 3), (25, .aload_n 2, 1), (26, .aload_n 0, 1), (27, .iload_n 1, 1), (28, .iconst 1, 1), (29, .iadd, 1), (30, .invokevirtual 34, 3)],
  [(33, .invokestatic 40, 3), (36, .iload_n 3, 1), (37, .invokevirtual 78, 3), (40, .ifCond .eq 7, 3), (43, .iconst 1, 1), (44, .goto 4, 3), (47, .iconst 0, 1)],
  [(48, .ireturn, 1)]]
def mX2_addBowl : x_M := (yX2_addBowl, prog_4_method_15_code, 4, (some .boolean), kX2_addBowl, IX2)
set_option maxRecDepth 100000 in
theorem decX2_addBowl : x_dec mX2_addBowl := by unfold x_dec; decide +kernel
theorem gX2_addBowl : x_good mX2_addBowl := ⟨by decide +kernel, decX2_addBowl, okX2, rfl, x_tb_in (List.mem_of_getElem? (i := 317) (by decide +kernel)) rfl, iniX2, by decide +kernel, by decide +kernel⟩
theorem vX2_addBowl : Cond.instanceMethod yX2_addBowl ∈ x_tb ∧ Cond.selects RX2 yX2_addBowl yX2_addBowl ∈ x_tb := ⟨x_tb_in (List.mem_of_getElem? (i := 316) (by decide +kernel)) rfl, x_tb_in (List.mem_of_getElem? (i := 8) (by decide +kernel)) rfl⟩
def kX2_makeMoves : List (List (Nat × Instr × Nat)) := [[(0, .iload_n 1, 1), (1, .istore_n 3, 1), (2, .iload_n 3, 1), (3, .aload_n 0, 1), (4, .getfield 15, 3), (7, .if_icmp .ge 52, 3), (10, .aload_n 0, 1), (11, .iload_n 3, 1), (12, .invokevirtual 50, 3), (15, .bipush (-9), 2)],
  [(17, .if_icmp .eq 42, 3), (20, .aload_n 2, 1), (21, .aload_n 0, 1), (22, .iload_n 3, 1), (23, .invokevirtual 50, 3), (26, .invokevirtual 81, 3), (29, .ifCond .eq 13, 3)],
  [(32, .aload_n 2, 1), (33, .getfield 84, 3), (36, .sipush 999, 3), (39, .if_icmp .lt 5, 3), (42, .iconst 0, 1), (43, .ireturn, 1), (44, .aload_n 2, 1), (45, .aload_n 0, 1), (46, .iload_n 3, 1), (47, .invokevirtual 50, 3)],
  [(50, .invokevirtual 87, 3), (53, .iinc 3 1, 3), (56, .goto (-54), 3), (59, .iconst 1, 1), (60, .ireturn, 1)]]
def mX2_makeMoves : x_M := (yX2_makeMoves, prog_4_method_16_code, 4, (some .boolean), kX2_makeMoves, IX2)
set_option maxRecDepth 100000 in
theorem decX2_makeMoves : x_dec mX2_makeMoves := by unfold x_dec; decide +kernel
theorem gX2_makeMoves : x_good mX2_makeMoves := ⟨by decide +kernel, decX2_makeMoves, okX2, rfl, x_tb_in (List.mem_of_getElem? (i := 342) (by decide +kernel)) rfl, iniX2, by decide +kernel, by decide +kernel⟩
theorem vX2_makeMoves : Cond.instanceMethod yX2_makeMoves ∈ x_tb ∧ Cond.selects RX2 yX2_makeMoves yX2_makeMoves ∈ x_tb := ⟨x_tb_in (List.mem_of_getElem? (i := 341) (by decide +kernel)) rfl, x_tb_in (List.mem_of_getElem? (i := 9) (by decide +kernel)) rfl⟩
def kX3_init : List (List (Nat × Instr × Nat)) := [[(0, .aload_n 0, 1), (1, .invokespecial 3, 3), (4, .aload_n 0, 1), (5, .bipush 9, 2), (7, .newarray .int, 2), (9, .putfield 9, 3), (12, .aload_n 0, 1), (13, .bipush 9, 2), (15, .newarray .int, 2)],
  [(17, .putfield 15, 3), (20, .aload_n 0, 1), (21, .iconst 2, 1), (22, .newarray .int, 2), (24, .putfield 18, 3), (27, .aload_n 0, 1), (28, .iconst 0, 1), (29, .putfield 21, 3)],
  [(32, .aload_n 0, 1), (33, .iconst 4, 1), (34, .putfield 25, 3), (37, .aload_n 0, 1), (38, .iconst 0, 1), (39, .putfield 28, 3), (42, .aload_n 0, 1), (43, .iconst 0, 1), (44, .putfield 31, 3), (47, .aload_n 0, 1)],
  [(48, .iconst 0, 1), (49, .putfield 34, 3), (52, .aload_n 0, 1), (53, .iconst 0, 1), (54, .putfield 37, 3), (57, .aload_n 0, 1), (58, .bipush (-9), 2), (60, .putfield 40, 3), (63, .aload_n 0, 1)],
  [(64, .iconst 0, 1), (65, .putfield 43, 3), (68, .aload_n 0, 1), (69, .iconst 0, 1), (70, .putfield 46, 3), (73, .return_, 1)]]
def mX3_init : x_M := (yX3_init, prog_5_method_1_code, 1, none, kX3_init, IX3)
set_option maxRecDepth 100000 in
theorem decX3_init : x_dec mX3_init := by unfold x_dec; decide +kernel
theorem gX3_init : x_good mX3_init := ⟨by decide +kernel, decX3_init, okX3, rfl, x_tb_in (List.mem_of_getElem? (i := 77) (by decide +kernel)) rfl, iniX3, by decide +kernel, by decide +kernel⟩
theorem vX3_init : Cond.instanceMethod yX3_init ∈ x_tb := x_tb_in (List.mem_of_getElem? (i := 76) (by decide +kernel)) rfl
def kX3_copyFrom : List (List (Nat × Instr × Nat)) := [[(0, .aload_n 1, 1), (1, .ifnonnull 4, 3), (4, .return_, 1), (5, .aload_n 1, 1), (6, .getfield 9, 3), (9, .iconst 0, 1), (10, .aload_n 0, 1), (11, .getfield 9, 3), (14, .iconst 0, 1), (15, .bipush 9, 2)],
  [(17, .invokestatic 49, 3), (20, .aload_n 1, 1), (21, .getfield 15, 3), (24, .iconst 0, 1), (25, .aload_n 0, 1), (26, .getfield 15, 3), (29, .iconst 0, 1), (30, .bipush 9, 2)],
  [(32, .invokestatic 49, 3), (35, .aload_n 1, 1), (36, .getfield 18, 3), (39, .iconst 0, 1), (40, .aload_n 0, 1), (41, .getfield 18, 3), (44, .iconst 0, 1), (45, .iconst 2, 1), (46, .invokestatic 49, 3)],
  [(49, .aload_n 0, 1), (50, .aload_n 1, 1), (51, .getfield 21, 3), (54, .putfield 21, 3), (57, .aload_n 0, 1), (58, .aload_n 1, 1), (59, .getfield 25, 3), (62, .putfield 25, 3)],
  [(65, .aload_n 0, 1), (66, .aload_n 1, 1), (67, .getfield 28, 3), (70, .putfield 28, 3), (73, .aload_n 0, 1), (74, .aload_n 1, 1), (75, .getfield 31, 3), (78, .putfield 31, 3)],
  [(81, .aload_n 0, 1), (82, .aload_n 1, 1), (83, .getfield 34, 3), (86, .putfield 34, 3), (89, .return_, 1)]]
def mX3_copyFrom : x_M := (yX3_copyFrom, prog_5_method_2_code, 2, none, kX3_copyFrom, IX3)
set_option maxRecDepth 100000 in
theorem decX3_copyFrom : x_dec mX3_copyFrom := by unfold x_dec; decide +kernel
theorem gX3_copyFrom : x_good mX3_copyFrom := ⟨by decide +kernel, decX3_copyFrom, okX3, rfl, x_tb_in (List.mem_of_getElem? (i := 269) (by decide +kernel)) rfl, iniX3, by decide +kernel, by decide +kernel⟩
theorem vX3_copyFrom : Cond.instanceMethod yX3_copyFrom ∈ x_tb ∧ Cond.selects RX3 yX3_copyFrom yX3_copyFrom ∈ x_tb := ⟨x_tb_in (List.mem_of_getElem? (i := 267) (by decide +kernel)) rfl, x_tb_in (List.mem_of_getElem? (i := 268) (by decide +kernel)) rfl⟩
def kX3_has : List (List (Nat × Instr × Nat)) := [[(0, .iload_n 1, 1), (1, .ifCond .lt 21, 3), (4, .iload_n 1, 1), (5, .aload_n 0, 1), (6, .getfield 21, 3), (9, .if_icmp .ge 13, 3), (12, .iload_n 1, 1), (13, .bipush 9, 2), (15, .if_icmp .ge 7, 3)],
  [(18, .iconst 1, 1), (19, .goto 4, 3), (22, .iconst 0, 1), (23, .ireturn, 1)]]
def mX3_has : x_M := (yX3_has, prog_5_method_3_code, 2, (some .boolean), kX3_has, IX3)
set_option maxRecDepth 100000 in
theorem decX3_has : x_dec mX3_has := by unfold x_dec; decide +kernel
theorem gX3_has : x_good mX3_has := ⟨by decide +kernel, decX3_has, okX3, rfl, x_tb_in (List.mem_of_getElem? (i := 333) (by decide +kernel)) rfl, iniX3, by decide +kernel, by decide +kernel⟩
theorem vX3_has : Cond.instanceMethod yX3_has ∈ x_tb ∧ Cond.selects RX3 yX3_has yX3_has ∈ x_tb := ⟨x_tb_in (List.mem_of_getElem? (i := 331) (by decide +kernel)) rfl, x_tb_in (List.mem_of_getElem? (i := 332) (by decide +kernel)) rfl⟩
def kX3_addBowl : List (List (Nat × Instr × Nat)) := [[(0, .aload_n 0, 1), (1, .getfield 21, 3), (4, .ifCond .lt 12, 3), (7, .aload_n 0, 1), (8, .getfield 21, 3), (11, .bipush 9, 2), (13, .if_icmp .lt 5, 3)],
  [(16, .iconst 0, 1), (17, .ireturn, 1), (18, .aload_n 0, 1), (19, .getfield 9, 3), (22, .aload_n 0, 1), (23, .getfield 21, 3), (26, .iload_n 1, 1), (27, .iastore, 1), (28, .aload_n 0, 1), (29, .getfield 15, 3)],
  [(32, .aload_n 0, 1), (33, .getfield 21, 3), (36, .iload_n 2, 1), (37, .iastore, 1), (38, .aload_n 0, 1), (39, .dup, 1), (40, .getfield 21, 3), (43, .iconst 1, 1), (44, .iadd, 1), (45, .putfield 21, 3)],
  [(48, .iconst 1, 1), (49, .ireturn, 1)]]
def mX3_addBowl : x_M := (yX3_addBowl, prog_5_method_4_code, 3, (some .boolean), kX3_addBowl, IX3)
set_option maxRecDepth 100000 in
theorem decX3_addBowl : x_dec mX3_addBowl := by unfold x_dec; decide +kernel
theorem gX3_addBowl : x_good mX3_addBowl := ⟨by decide +kernel, decX3_addBowl, okX3, rfl, x_tb_in (List.mem_of_getElem? (i := 321) (by decide +kernel)) rfl, iniX3, by decide +kernel, by decide +kernel⟩
theorem vX3_addBowl : Cond.instanceMethod yX3_addBowl ∈ x_tb ∧ Cond.selects RX3 yX3_addBowl yX3_addBowl ∈ x_tb := ⟨x_tb_in (List.mem_of_getElem? (i := 319) (by decide +kernel)) rfl, x_tb_in (List.mem_of_getElem? (i := 320) (by decide +kernel)) rfl⟩
def kX3_kindOf : List (List (Nat × Instr × Nat)) := [[(0, .aload_n 0, 1), (1, .iload_n 1, 1), (2, .invokevirtual 55, 3), (5, .ifCond .eq 12, 3), (8, .aload_n 0, 1), (9, .getfield 9, 3), (12, .iload_n 1, 1), (13, .iaload, 1), (14, .goto 5, 3)],
  [(17, .bipush (-9), 2), (19, .ireturn, 1)]]
def mX3_kindOf : x_M := (yX3_kindOf, prog_5_method_5_code, 2, (some .int), kX3_kindOf, IX3)
set_option maxRecDepth 100000 in
theorem decX3_kindOf : x_dec mX3_kindOf := by unfold x_dec; decide +kernel
theorem gX3_kindOf : x_good mX3_kindOf := ⟨by decide +kernel, decX3_kindOf, okX3, rfl, x_tb_in (List.mem_of_getElem? (i := 388) (by decide +kernel)) rfl, iniX3, by decide +kernel, by decide +kernel⟩
theorem vX3_kindOf : Cond.instanceMethod yX3_kindOf ∈ x_tb ∧ Cond.selects RX3 yX3_kindOf yX3_kindOf ∈ x_tb := ⟨x_tb_in (List.mem_of_getElem? (i := 386) (by decide +kernel)) rfl, x_tb_in (List.mem_of_getElem? (i := 387) (by decide +kernel)) rfl⟩
def kX3_beansOf : List (List (Nat × Instr × Nat)) := [[(0, .aload_n 0, 1), (1, .iload_n 1, 1), (2, .invokevirtual 55, 3), (5, .ifCond .eq 12, 3), (8, .aload_n 0, 1), (9, .getfield 15, 3), (12, .iload_n 1, 1), (13, .iaload, 1), (14, .goto 4, 3)],
  [(17, .iconst 0, 1), (18, .ireturn, 1)]]
def mX3_beansOf : x_M := (yX3_beansOf, prog_5_method_6_code, 2, (some .int), kX3_beansOf, IX3)
set_option maxRecDepth 100000 in
theorem decX3_beansOf : x_dec mX3_beansOf := by unfold x_dec; decide +kernel
theorem gX3_beansOf : x_good mX3_beansOf := ⟨by decide +kernel, decX3_beansOf, okX3, rfl, x_tb_in (List.mem_of_getElem? (i := 329) (by decide +kernel)) rfl, iniX3, by decide +kernel, by decide +kernel⟩
theorem vX3_beansOf : Cond.instanceMethod yX3_beansOf ∈ x_tb ∧ Cond.selects RX3 yX3_beansOf yX3_beansOf ∈ x_tb := ⟨x_tb_in (List.mem_of_getElem? (i := 327) (by decide +kernel)) rfl, x_tb_in (List.mem_of_getElem? (i := 328) (by decide +kernel)) rfl⟩
def kX3_purseOf : List (List (Nat × Instr × Nat)) := [[(0, .iload_n 1, 1), (1, .ifCond .lt 21, 3), (4, .iload_n 1, 1), (5, .aload_n 0, 1), (6, .getfield 18, 3), (9, .arraylength, 1), (10, .if_icmp .ge 12, 3), (13, .aload_n 0, 1), (14, .getfield 18, 3)],
  [(17, .iload_n 1, 1), (18, .iaload, 1), (19, .goto 4, 3), (22, .iconst 0, 1), (23, .ireturn, 1)]]
def mX3_purseOf : x_M := (yX3_purseOf, prog_5_method_7_code, 2, (some .int), kX3_purseOf, IX3)
set_option maxRecDepth 100000 in
theorem decX3_purseOf : x_dec mX3_purseOf := by unfold x_dec; decide +kernel
theorem gX3_purseOf : x_good mX3_purseOf := ⟨by decide +kernel, decX3_purseOf, okX3, rfl, x_tb_in (List.mem_of_getElem? (i := 592) (by decide +kernel)) rfl, iniX3, by decide +kernel, by decide +kernel⟩
theorem vX3_purseOf : Cond.instanceMethod yX3_purseOf ∈ x_tb ∧ Cond.selects RX3 yX3_purseOf yX3_purseOf ∈ x_tb := ⟨x_tb_in (List.mem_of_getElem? (i := 590) (by decide +kernel)) rfl, x_tb_in (List.mem_of_getElem? (i := 591) (by decide +kernel)) rfl⟩
def kX3_lay : List (List (Nat × Instr × Nat)) := [[(0, .aload_n 0, 1), (1, .iload_n 1, 1), (2, .invokevirtual 55, 3), (5, .ifCond .eq 10, 3), (8, .aload_n 0, 1), (9, .getfield 15, 3), (12, .iload_n 1, 1), (13, .iload_n 2, 1), (14, .iastore, 1), (15, .return_, 1)]]
def mX3_lay : x_M := (yX3_lay, prog_5_method_8_code, 3, none, kX3_lay, IX3)
set_option maxRecDepth 100000 in
theorem decX3_lay : x_dec mX3_lay := by unfold x_dec; decide +kernel
theorem gX3_lay : x_good mX3_lay := ⟨by decide +kernel, decX3_lay, okX3, rfl, x_tb_in (List.mem_of_getElem? (i := 337) (by decide +kernel)) rfl, iniX3, by decide +kernel, by decide +kernel⟩
theorem vX3_lay : Cond.instanceMethod yX3_lay ∈ x_tb ∧ Cond.selects RX3 yX3_lay yX3_lay ∈ x_tb := ⟨x_tb_in (List.mem_of_getElem? (i := 335) (by decide +kernel)) rfl, x_tb_in (List.mem_of_getElem? (i := 336) (by decide +kernel)) rfl⟩
def kX3_swapBeans : List (List (Nat × Instr × Nat)) := [[(0, .aload_n 0, 1), (1, .iload_n 1, 1), (2, .invokevirtual 59, 3), (5, .istore_n 3, 1), (6, .aload_n 0, 1), (7, .iload_n 1, 1), (8, .aload_n 0, 1), (9, .iload_n 2, 1), (10, .invokevirtual 59, 3), (13, .invokevirtual 63, 3)],
  [(16, .aload_n 0, 1), (17, .iload_n 2, 1), (18, .iload_n 3, 1), (19, .invokevirtual 63, 3), (22, .return_, 1)]]
def mX3_swapBeans : x_M := (yX3_swapBeans, prog_5_method_9_code, 4, none, kX3_swapBeans, IX3)
set_option maxRecDepth 100000 in
theorem decX3_swapBeans : x_dec mX3_swapBeans := by unfold x_dec; decide +kernel
theorem gX3_swapBeans : x_good mX3_swapBeans := ⟨by decide +kernel, decX3_swapBeans, okX3, rfl, x_tb_in (List.mem_of_getElem? (i := 325) (by decide +kernel)) rfl, iniX3, by decide +kernel, by decide +kernel⟩
theorem vX3_swapBeans : Cond.instanceMethod yX3_swapBeans ∈ x_tb ∧ Cond.selects RX3 yX3_swapBeans yX3_swapBeans ∈ x_tb := ⟨x_tb_in (List.mem_of_getElem? (i := 323) (by decide +kernel)) rfl, x_tb_in (List.mem_of_getElem? (i := 324) (by decide +kernel)) rfl⟩
def kX3_allBeans : List (List (Nat × Instr × Nat)) := [[(0, .iconst 0, 1), (1, .istore_n 1, 1), (2, .iconst 0, 1), (3, .istore_n 2, 1), (4, .iload_n 2, 1), (5, .aload_n 0, 1), (6, .getfield 21, 3), (9, .if_icmp .ge 17, 3), (12, .iload_n 1, 1), (13, .aload_n 0, 1), (14, .iload_n 2, 1), (15, .invokevirtual 59, 3)],
  [(18, .iadd, 1), (19, .istore_n 1, 1), (20, .iinc 2 1, 3), (23, .goto (-19), 3), (26, .iload_n 1, 1), (27, .ireturn, 1)]]
def mX3_allBeans : x_M := (yX3_allBeans, prog_5_method_10_code, 3, (some .int), kX3_allBeans, IX3)
set_option maxRecDepth 100000 in
theorem decX3_allBeans : x_dec mX3_allBeans := by unfold x_dec; decide +kernel
theorem gX3_allBeans : x_good mX3_allBeans := ⟨by decide +kernel, decX3_allBeans, okX3, rfl, x_tb_in (List.mem_of_getElem? (i := 418) (by decide +kernel)) rfl, iniX3, by decide +kernel, by decide +kernel⟩
theorem vX3_allBeans : Cond.instanceMethod yX3_allBeans ∈ x_tb ∧ Cond.selects RX3 yX3_allBeans yX3_allBeans ∈ x_tb := ⟨x_tb_in (List.mem_of_getElem? (i := 416) (by decide +kernel)) rfl, x_tb_in (List.mem_of_getElem? (i := 417) (by decide +kernel)) rfl⟩
def kX3_sameBeans : List (List (Nat × Instr × Nat)) := [[(0, .iconst 0, 1), (1, .istore_n 2, 1), (2, .iload_n 2, 1), (3, .aload_n 0, 1), (4, .getfield 21, 3), (7, .if_icmp .ge 24, 3), (10, .aload_n 0, 1), (11, .iload_n 2, 1), (12, .invokevirtual 59, 3), (15, .aload_n 1, 1)],
  [(16, .iload_n 2, 1), (17, .invokevirtual 59, 3), (20, .if_icmp .eq 5, 3), (23, .iconst 0, 1), (24, .ireturn, 1), (25, .iinc 2 1, 3), (28, .goto (-26), 3), (31, .iconst 1, 1)],
  [(32, .ireturn, 1)]]
def mX3_sameBeans : x_M := (yX3_sameBeans, prog_5_method_11_code, 3, (some .boolean), kX3_sameBeans, IX3)
set_option maxRecDepth 100000 in
theorem decX3_sameBeans : x_dec mX3_sameBeans := by unfold x_dec; decide +kernel
theorem gX3_sameBeans : x_good mX3_sameBeans := ⟨by decide +kernel, decX3_sameBeans, okX3, rfl, x_tb_in (List.mem_of_getElem? (i := 473) (by decide +kernel)) rfl, iniX3, by decide +kernel, by decide +kernel⟩
theorem vX3_sameBeans : Cond.instanceMethod yX3_sameBeans ∈ x_tb ∧ Cond.selects RX3 yX3_sameBeans yX3_sameBeans ∈ x_tb := ⟨x_tb_in (List.mem_of_getElem? (i := 471) (by decide +kernel)) rfl, x_tb_in (List.mem_of_getElem? (i := 472) (by decide +kernel)) rfl⟩
def kX3_soundsFrom : List (List (Nat × Instr × Nat)) := [[(0, .aload_n 0, 1), (1, .iload_n 1, 1), (2, .invokevirtual 55, 3), (5, .ifCond .ne 6, 3), (8, .bipush (-9), 2), (10, .ireturn, 1), (11, .aload_n 0, 1), (12, .getfield 9, 3), (15, .iload_n 1, 1)],
  [(16, .iaload, 1), (17, .tableswitch 59 0 4 #[35, 40, 49, 52, 40], 35)],
  [],
  [(52, .aload_n 0, 1), (53, .getfield 25, 3), (56, .ireturn, 1), (57, .aload_n 0, 1), (58, .getfield 25, 3), (61, .iconst 1, 1), (62, .iadd, 1), (63, .iconst 2, 1)],
  [(64, .idiv, 1), (65, .ireturn, 1), (66, .bipush (-9), 2), (68, .ireturn, 1), (69, .iconst 2, 1), (70, .aload_n 0, 1), (71, .getfield 25, 3), (74, .imul, 1), (75, .ireturn, 1), (76, .bipush 12, 2), (78, .ireturn, 1)]]
def mX3_soundsFrom : x_M := (yX3_soundsFrom, prog_5_method_12_code, 2, (some .int), kX3_soundsFrom, IX3)
set_option maxRecDepth 100000 in
theorem decX3_soundsFrom : x_dec mX3_soundsFrom := by unfold x_dec; decide +kernel
theorem gX3_soundsFrom : x_good mX3_soundsFrom := ⟨by decide +kernel, decX3_soundsFrom, okX3, rfl, x_tb_in (List.mem_of_getElem? (i := 371) (by decide +kernel)) rfl, iniX3, by decide +kernel, by decide +kernel⟩
theorem vX3_soundsFrom : Cond.instanceMethod yX3_soundsFrom ∈ x_tb ∧ Cond.selects RX3 yX3_soundsFrom yX3_soundsFrom ∈ x_tb := ⟨x_tb_in (List.mem_of_getElem? (i := 369) (by decide +kernel)) rfl, x_tb_in (List.mem_of_getElem? (i := 370) (by decide +kernel)) rfl⟩
def kX3_isFull : List (List (Nat × Instr × Nat)) := [[(0, .aload_n 0, 1), (1, .iload_n 1, 1), (2, .invokevirtual 67, 3), (5, .istore_n 2, 1), (6, .iload_n 2, 1), (7, .bipush (-9), 2), (9, .if_icmp .eq 16, 3), (12, .aload_n 0, 1), (13, .iload_n 1, 1), (14, .invokevirtual 59, 3)],
  [(17, .iload_n 2, 1), (18, .if_icmp .lt 7, 3), (21, .iconst 1, 1), (22, .goto 4, 3), (25, .iconst 0, 1), (26, .ireturn, 1)]]
def mX3_isFull : x_M := (yX3_isFull, prog_5_method_13_code, 3, (some .boolean), kX3_isFull, IX3)
set_option maxRecDepth 100000 in
theorem decX3_isFull : x_dec mX3_isFull := by unfold x_dec; decide +kernel
theorem gX3_isFull : x_good mX3_isFull := ⟨by decide +kernel, decX3_isFull, okX3, rfl, x_tb_in (List.mem_of_getElem? (i := 367) (by decide +kernel)) rfl, iniX3, by decide +kernel, by decide +kernel⟩
theorem vX3_isFull : Cond.instanceMethod yX3_isFull ∈ x_tb ∧ Cond.selects RX3 yX3_isFull yX3_isFull ∈ x_tb := ⟨x_tb_in (List.mem_of_getElem? (i := 365) (by decide +kernel)) rfl, x_tb_in (List.mem_of_getElem? (i := 366) (by decide +kernel)) rfl⟩
def kX3_takes : List (List (Nat × Instr × Nat)) := [[(0, .aload_n 0, 1), (1, .iload_n 1, 1), (2, .invokevirtual 55, 3), (5, .ifCond .eq 14, 3), (8, .aload_n 0, 1), (9, .getfield 15, 3), (12, .iload_n 1, 1), (13, .iaload, 1), (14, .bipush 99, 2)],
  [(16, .if_icmp .lt 5, 3), (19, .iconst 0, 1), (20, .ireturn, 1), (21, .aload_n 0, 1), (22, .getfield 9, 3), (25, .iload_n 1, 1), (26, .iaload, 1), (27, .iconst 4, 1), (28, .if_icmp .ne 16, 3), (31, .aload_n 0, 1)],
  [(32, .getfield 15, 3), (35, .iload_n 1, 1), (36, .iaload, 1), (37, .aload_n 0, 1), (38, .getfield 25, 3), (41, .if_icmp .ge 7, 3), (44, .iconst 1, 1), (45, .goto 4, 3)],
  [(48, .iconst 0, 1), (49, .ireturn, 1)]]
def mX3_takes : x_M := (yX3_takes, prog_5_method_14_code, 2, (some .boolean), kX3_takes, IX3)
set_option maxRecDepth 100000 in
theorem decX3_takes : x_dec mX3_takes := by unfold x_dec; decide +kernel
theorem gX3_takes : x_good mX3_takes := ⟨by decide +kernel, decX3_takes, okX3, rfl, x_tb_in (List.mem_of_getElem? (i := 363) (by decide +kernel)) rfl, iniX3, by decide +kernel, by decide +kernel⟩
theorem vX3_takes : Cond.instanceMethod yX3_takes ∈ x_tb ∧ Cond.selects RX3 yX3_takes yX3_takes ∈ x_tb := ⟨x_tb_in (List.mem_of_getElem? (i := 361) (by decide +kernel)) rfl, x_tb_in (List.mem_of_getElem? (i := 362) (by decide +kernel)) rfl⟩
def kX3_canMove : List (List (Nat × Instr × Nat)) := [[(0, .aload_n 0, 1), (1, .getfield 21, 3), (4, .iconst 2, 1), (5, .if_icmp .lt 24, 3), (8, .aload_n 0, 1), (9, .iload_n 1, 1), (10, .invokevirtual 55, 3), (13, .ifCond .eq 16, 3)],
  [(16, .aload_n 0, 1), (17, .getfield 15, 3), (20, .iload_n 1, 1), (21, .iaload, 1), (22, .ifCond .le 7, 3), (25, .iconst 1, 1), (26, .goto 4, 3), (29, .iconst 0, 1), (30, .ireturn, 1)]]
def mX3_canMove : x_M := (yX3_canMove, prog_5_method_15_code, 2, (some .boolean), kX3_canMove, IX3)
set_option maxRecDepth 100000 in
theorem decX3_canMove : x_dec mX3_canMove := by unfold x_dec; decide +kernel
theorem gX3_canMove : x_good mX3_canMove := ⟨by decide +kernel, decX3_canMove, okX3, rfl, x_tb_in (List.mem_of_getElem? (i := 346) (by decide +kernel)) rfl, iniX3, by decide +kernel, by decide +kernel⟩
theorem vX3_canMove : Cond.instanceMethod yX3_canMove ∈ x_tb ∧ Cond.selects RX3 yX3_canMove yX3_canMove ∈ x_tb := ⟨x_tb_in (List.mem_of_getElem? (i := 344) (by decide +kernel)) rfl, x_tb_in (List.mem_of_getElem? (i := 345) (by decide +kernel)) rfl⟩
def kX3_makeMove : List (List (Nat × Instr × Nat)) := [[(0, .aload_n 0, 1), (1, .iconst 0, 1), (2, .putfield 37, 3), (5, .aload_n 0, 1), (6, .bipush (-9), 2), (8, .putfield 40, 3), (11, .aload_n 0, 1), (12, .iconst 0, 1), (13, .putfield 43, 3)],
  [(16, .iload_n 1, 1), (17, .istore_n 2, 1), (18, .aload_n 0, 1), (19, .iload_n 1, 1), (20, .invokevirtual 70, 3), (23, .istore_n 3, 1), (24, .iload_n 3, 1), (25, .ifCond .eq 55, 3), (28, .aload_n 0, 1), (29, .getfield 37, 3)],
  [(32, .bipush 60, 2), (34, .if_icmp .ge 46, 3), (37, .aload_n 0, 1), (38, .dup, 1), (39, .getfield 37, 3), (42, .iconst 1, 1), (43, .iadd, 1), (44, .putfield 37, 3), (47, .aload_n 0, 1)],
  [(48, .iload_n 2, 1), (49, .invokevirtual 73, 3), (52, .ifCond .eq 18, 3), (55, .aload_n 0, 1), (56, .aload_n 0, 1), (57, .getfield 40, 3), (60, .invokevirtual 76, 3), (63, .ifCond .eq 7, 3)],
  [(66, .iconst 1, 1), (67, .goto 4, 3), (70, .iconst 0, 1), (71, .istore_n 3, 1), (72, .aload_n 0, 1), (73, .getfield 40, 3), (76, .istore_n 2, 1), (77, .goto (-53), 3)],
  [(80, .aload_n 0, 1), (81, .aload_n 0, 1), (82, .invokevirtual 79, 3), (85, .ifCond .eq 7, 3), (88, .iconst 1, 1), (89, .goto 4, 3), (92, .iconst 0, 1), (93, .putfield 46, 3)],
  [(96, .aload_n 0, 1), (97, .iconst 1, 1), (98, .aload_n 0, 1), (99, .getfield 31, 3), (102, .isub, 1), (103, .putfield 31, 3), (106, .aload_n 0, 1), (107, .dup, 1), (108, .getfield 34, 3), (111, .iconst 1, 1)],
  [(112, .iadd, 1), (113, .putfield 34, 3), (116, .return_, 1)]]
def mX3_makeMove : x_M := (yX3_makeMove, prog_5_method_16_code, 4, none, kX3_makeMove, IX3)
set_option maxRecDepth 100000 in
theorem decX3_makeMove : x_dec mX3_makeMove := by unfold x_dec; decide +kernel
theorem gX3_makeMove : x_good mX3_makeMove := ⟨by decide +kernel, decX3_makeMove, okX3, rfl, x_tb_in (List.mem_of_getElem? (i := 350) (by decide +kernel)) rfl, iniX3, by decide +kernel, by decide +kernel⟩
theorem vX3_makeMove : Cond.instanceMethod yX3_makeMove ∈ x_tb ∧ Cond.selects RX3 yX3_makeMove yX3_makeMove ∈ x_tb := ⟨x_tb_in (List.mem_of_getElem? (i := 348) (by decide +kernel)) rfl, x_tb_in (List.mem_of_getElem? (i := 349) (by decide +kernel)) rfl⟩
def kX3_sowHand : List (List (Nat × Instr × Nat)) := [[(0, .aload_n 0, 1), (1, .iload_n 1, 1), (2, .invokevirtual 59, 3), (5, .istore_n 2, 1), (6, .aload_n 0, 1), (7, .getfield 43, 3), (10, .istore_n 3, 1), (11, .iconst 0, 1), (12, .istore 4, 2), (14, .iload_n 1, 1), (15, .istore 5, 2)],
  [(17, .aload_n 0, 1), (18, .iload_n 1, 1), (19, .iconst 0, 1), (20, .invokevirtual 63, 3), (23, .iconst 0, 1), (24, .istore 6, 2), (26, .iload 6, 2), (28, .sipush 1000, 3), (31, .if_icmp .ge 78, 3)],
  [(34, .iload_n 2, 1), (35, .ifCond .le 74, 3), (38, .iload 4, 2), (40, .aload_n 0, 1), (41, .getfield 21, 3), (44, .if_icmp .ge 65, 3), (47, .aload_n 0, 1)],
  [(48, .iload 5, 2), (50, .invokevirtual 83, 3), (53, .istore 5, 2), (55, .aload_n 0, 1), (56, .iload 5, 2), (58, .invokevirtual 86, 3), (61, .ifCond .eq 39, 3)],
  [(64, .aload_n 0, 1), (65, .getfield 15, 3), (68, .iload 5, 2), (70, .dup2, 1), (71, .iaload, 1), (72, .iconst 1, 1), (73, .iadd, 1), (74, .iastore, 1), (75, .iinc 2 (-1), 3), (78, .aload_n 0, 1), (79, .dup, 1)],
  [(80, .getfield 43, 3), (83, .iconst 1, 1), (84, .iadd, 1), (85, .putfield 43, 3), (88, .aload_n 0, 1), (89, .iload 5, 2), (91, .putfield 40, 3), (94, .iconst 0, 1), (95, .istore 4, 2)],
  [(97, .goto 6, 3), (100, .iinc 4 1, 3), (103, .iinc 6 1, 3), (106, .goto (-80), 3), (109, .aload_n 0, 1), (110, .iload_n 1, 1), (111, .aload_n 0, 1)],
  [(112, .iload_n 1, 1), (113, .invokevirtual 59, 3), (116, .iload_n 2, 1), (117, .iadd, 1), (118, .invokevirtual 63, 3), (121, .aload_n 0, 1), (122, .getfield 43, 3), (125, .iload_n 3, 1), (126, .if_icmp .le 7, 3)],
  [(129, .iconst 1, 1), (130, .goto 4, 3), (133, .iconst 0, 1), (134, .ireturn, 1)]]
def mX3_sowHand : x_M := (yX3_sowHand, prog_5_method_17_code, 7, (some .boolean), kX3_sowHand, IX3)
set_option maxRecDepth 100000 in
theorem decX3_sowHand : x_dec mX3_sowHand := by unfold x_dec; decide +kernel
theorem gX3_sowHand : x_good mX3_sowHand := ⟨by decide +kernel, decX3_sowHand, okX3, rfl, x_tb_in (List.mem_of_getElem? (i := 355) (by decide +kernel)) rfl, iniX3, by decide +kernel, by decide +kernel⟩
theorem vX3_sowHand : Cond.instanceMethod yX3_sowHand ∈ x_tb ∧ Cond.selects RX3 yX3_sowHand yX3_sowHand ∈ x_tb := ⟨x_tb_in (List.mem_of_getElem? (i := 354) (by decide +kernel)) rfl, x_tb_in (List.mem_of_getElem? (i := 10) (by decide +kernel)) rfl⟩
def kX3_rightOrLeftOf : List (List (Nat × Instr × Nat)) := [[(0, .aload_n 0, 1), (1, .getfield 28, 3), (4, .iconst 1, 1), (5, .if_icmp .ne 20, 3), (8, .iload_n 1, 1), (9, .ifCond .gt 12, 3), (12, .aload_n 0, 1), (13, .getfield 21, 3)],
  [(16, .iconst 1, 1), (17, .isub, 1), (18, .goto 6, 3), (21, .iload_n 1, 1), (22, .iconst 1, 1), (23, .isub, 1), (24, .ireturn, 1), (25, .iload_n 1, 1), (26, .iconst 1, 1), (27, .iadd, 1), (28, .aload_n 0, 1), (29, .getfield 21, 3)],
  [(32, .if_icmp .lt 7, 3), (35, .iconst 0, 1), (36, .goto 6, 3), (39, .iload_n 1, 1), (40, .iconst 1, 1), (41, .iadd, 1), (42, .ireturn, 1)]]
def mX3_rightOrLeftOf : x_M := (yX3_rightOrLeftOf, prog_5_method_18_code, 2, (some .int), kX3_rightOrLeftOf, IX3)
set_option maxRecDepth 100000 in
theorem decX3_rightOrLeftOf : x_dec mX3_rightOrLeftOf := by unfold x_dec; decide +kernel
theorem gX3_rightOrLeftOf : x_good mX3_rightOrLeftOf := ⟨by decide +kernel, decX3_rightOrLeftOf, okX3, rfl, x_tb_in (List.mem_of_getElem? (i := 359) (by decide +kernel)) rfl, iniX3, by decide +kernel, by decide +kernel⟩
theorem vX3_rightOrLeftOf : Cond.instanceMethod yX3_rightOrLeftOf ∈ x_tb ∧ Cond.selects RX3 yX3_rightOrLeftOf yX3_rightOrLeftOf ∈ x_tb := ⟨x_tb_in (List.mem_of_getElem? (i := 358) (by decide +kernel)) rfl, x_tb_in (List.mem_of_getElem? (i := 11) (by decide +kernel)) rfl⟩
def kX3_takeSingle : List (List (Nat × Instr × Nat)) := [[(0, .aload_n 0, 1), (1, .aload_n 0, 1), (2, .getfield 40, 3), (5, .invokevirtual 59, 3), (8, .iconst 1, 1), (9, .if_icmp .ne 37, 3), (12, .aload_n 0, 1), (13, .getfield 31, 3)],
  [(16, .ifCond .lt 30, 3), (19, .aload_n 0, 1), (20, .getfield 31, 3), (23, .aload_n 0, 1), (24, .getfield 18, 3), (27, .arraylength, 1), (28, .if_icmp .ge 18, 3), (31, .aload_n 0, 1)],
  [(32, .getfield 18, 3), (35, .aload_n 0, 1), (36, .getfield 31, 3), (39, .iaload, 1), (40, .sipush 999, 3), (43, .if_icmp .lt 5, 3), (46, .iconst 0, 1), (47, .ireturn, 1)],
  [(48, .aload_n 0, 1), (49, .aload_n 0, 1), (50, .getfield 40, 3), (53, .iconst 0, 1), (54, .invokevirtual 63, 3), (57, .aload_n 0, 1), (58, .getfield 18, 3), (61, .aload_n 0, 1), (62, .getfield 31, 3)],
  [(65, .dup2, 1), (66, .iaload, 1), (67, .iconst 1, 1), (68, .iadd, 1), (69, .iastore, 1), (70, .iconst 1, 1), (71, .ireturn, 1)]]
def mX3_takeSingle : x_M := (yX3_takeSingle, prog_5_method_19_code, 1, (some .boolean), kX3_takeSingle, IX3)
set_option maxRecDepth 100000 in
theorem decX3_takeSingle : x_dec mX3_takeSingle := by unfold x_dec; decide +kernel
theorem gX3_takeSingle : x_good mX3_takeSingle := ⟨by decide +kernel, decX3_takeSingle, okX3, rfl, x_tb_in (List.mem_of_getElem? (i := 375) (by decide +kernel)) rfl, iniX3, by decide +kernel, by decide +kernel⟩
theorem vX3_takeSingle : Cond.instanceMethod yX3_takeSingle ∈ x_tb ∧ Cond.selects RX3 yX3_takeSingle yX3_takeSingle ∈ x_tb := ⟨x_tb_in (List.mem_of_getElem? (i := 374) (by decide +kernel)) rfl, x_tb_in (List.mem_of_getElem? (i := 12) (by decide +kernel)) rfl⟩
def kX3_beansInOne : List (List (Nat × Instr × Nat)) := [[(0, .lconst 0, 1), (1, .lstore_n 1, 1), (2, .aload_n 0, 1), (3, .getfield 21, 3), (6, .iconst 1, 1), (7, .isub, 1), (8, .istore_n 3, 1), (9, .iload_n 3, 1), (10, .ifCond .lt 21, 3), (13, .lload_n 1, 1), (14, .bipush 7, 2)],
  [(16, .lshl, 1), (17, .aload_n 0, 1), (18, .iload_n 3, 1), (19, .invokevirtual 59, 3), (22, .i2l, 1), (23, .lor, 1), (24, .lstore_n 1, 1), (25, .iinc 3 (-1), 3), (28, .goto (-19), 3), (31, .lload_n 1, 1)],
  [(32, .lreturn, 1)]]
def mX3_beansInOne : x_M := (yX3_beansInOne, prog_5_method_20_code, 4, (some .long), kX3_beansInOne, IX3)
set_option maxRecDepth 100000 in
theorem decX3_beansInOne : x_dec mX3_beansInOne := by unfold x_dec; decide +kernel
theorem gX3_beansInOne : x_good mX3_beansInOne := ⟨by decide +kernel, decX3_beansInOne, okX3, rfl, x_tb_in (List.mem_of_getElem? (i := 503) (by decide +kernel)) rfl, iniX3, by decide +kernel, by decide +kernel⟩
theorem vX3_beansInOne : Cond.instanceMethod yX3_beansInOne ∈ x_tb ∧ Cond.selects RX3 yX3_beansInOne yX3_beansInOne ∈ x_tb := ⟨x_tb_in (List.mem_of_getElem? (i := 501) (by decide +kernel)) rfl, x_tb_in (List.mem_of_getElem? (i := 502) (by decide +kernel)) rfl⟩
def kX3_layFrom : List (List (Nat × Instr × Nat)) := [[(0, .lload_n 1, 1), (1, .lstore_n 3, 1), (2, .iconst 0, 1), (3, .istore 5, 2), (5, .iload 5, 2), (7, .aload_n 0, 1), (8, .getfield 21, 3), (11, .if_icmp .ge 26, 3), (14, .aload_n 0, 1), (15, .iload 5, 2)],
  [(17, .lload_n 3, 1), (18, .ldc2_w 89, 3), (21, .land, 1), (22, .l2i, 1), (23, .invokevirtual 63, 3), (26, .lload_n 3, 1), (27, .bipush 7, 2), (29, .lushr, 1), (30, .lstore_n 3, 1), (31, .iinc 5 1, 3)],
  [(34, .goto (-29), 3), (37, .return_, 1)]]
def mX3_layFrom : x_M := (yX3_layFrom, prog_5_method_21_code, 6, none, kX3_layFrom, IX3)
set_option maxRecDepth 100000 in
theorem decX3_layFrom : x_dec mX3_layFrom := by unfold x_dec; decide +kernel
theorem gX3_layFrom : x_good mX3_layFrom := ⟨by decide +kernel, decX3_layFrom, okX3, rfl, x_tb_in (List.mem_of_getElem? (i := 516) (by decide +kernel)) rfl, iniX3, by decide +kernel, by decide +kernel⟩
theorem vX3_layFrom : Cond.instanceMethod yX3_layFrom ∈ x_tb ∧ Cond.selects RX3 yX3_layFrom yX3_layFrom ∈ x_tb := ⟨x_tb_in (List.mem_of_getElem? (i := 514) (by decide +kernel)) rfl, x_tb_in (List.mem_of_getElem? (i := 515) (by decide +kernel)) rfl⟩
def kX4_init : List (List (Nat × Instr × Nat)) := [[(0, .aload_n 0, 1), (1, .invokespecial 3, 3), (4, .aload_n 0, 1), (5, .bipush 41, 2), (7, .newarray .long, 2), (9, .putfield 9, 3), (12, .aload_n 0, 1), (13, .bipush 12, 2), (15, .newarray .int, 2)],
  [(17, .putfield 15, 3), (20, .return_, 1)]]
def mX4_init : x_M := (yX4_init, prog_6_method_1_code, 1, none, kX4_init, IX4)
set_option maxRecDepth 100000 in
theorem decX4_init : x_dec mX4_init := by unfold x_dec; decide +kernel
theorem gX4_init : x_good mX4_init := ⟨by decide +kernel, decX4_init, okX4, rfl, x_tb_in (List.mem_of_getElem? (i := 204) (by decide +kernel)) rfl, iniX4, by decide +kernel, by decide +kernel⟩
theorem vX4_init : Cond.instanceMethod yX4_init ∈ x_tb := x_tb_in (List.mem_of_getElem? (i := 203) (by decide +kernel)) rfl
def kX4_toLay : List (List (Nat × Instr × Nat)) := [[(0, .iload_n 3, 1), (1, .ifCond .lt 9, 3), (4, .iload_n 3, 1), (5, .bipush 40, 2), (7, .if_icmp .le 5, 3), (10, .lconst 0, 1), (11, .lreturn, 1), (12, .aload_n 0, 1), (13, .getfield 9, 3)],
  [(16, .lconst 0, 1), (17, .invokestatic 19, 3), (20, .aload_n 0, 1), (21, .getfield 9, 3), (24, .iconst 0, 1), (25, .lconst 1, 1), (26, .lastore, 1), (27, .iconst 0, 1), (28, .istore 4, 2), (30, .iload 4, 2)],
  [(32, .aload_n 1, 1), (33, .getfield 25, 3), (36, .if_icmp .ge 87, 3), (39, .iload 4, 2), (41, .aload_n 2, 1), (42, .arraylength, 1), (43, .if_icmp .ge 80, 3), (46, .aload_n 1, 1), (47, .iload 4, 2)],
  [(49, .invokevirtual 31, 3), (52, .bipush (-9), 2), (54, .if_icmp .ne 8, 3), (57, .bipush 21, 2), (59, .goto 9, 3), (62, .aload_n 1, 1), (63, .iload 4, 2)],
  [(65, .invokevirtual 31, 3), (68, .istore 5, 2), (70, .aload_n 2, 1), (71, .iload 4, 2), (73, .iaload, 1), (74, .iconst 1, 1), (75, .if_icmp .ne 8, 3), (78, .iload 5, 2)],
  [(80, .goto 4, 3), (83, .iconst 0, 1), (84, .istore 6, 2), (86, .aload_n 2, 1), (87, .iload 4, 2), (89, .iaload, 1), (90, .ifCond .ne 15, 3), (93, .iload 5, 2), (95, .iconst 1, 1)],
  [(96, .isub, 1), (97, .bipush 20, 2), (99, .invokestatic 35, 3), (102, .goto 5, 3), (105, .bipush 20, 2), (107, .istore 7, 2), (109, .aload_n 0, 1), (110, .iload 6, 2)],
  [(112, .iload 7, 2), (114, .invokevirtual 41, 3), (117, .iinc 4 1, 3), (120, .goto (-90), 3), (123, .aload_n 0, 1), (124, .getfield 9, 3), (127, .iload_n 3, 1)],
  [(128, .laload, 1), (129, .lreturn, 1)]]
def mX4_toLay : x_M := (yX4_toLay, prog_6_method_2_code, 8, (some .long), kX4_toLay, IX4)
set_option maxRecDepth 100000 in
theorem decX4_toLay : x_dec mX4_toLay := by unfold x_dec; decide +kernel
theorem gX4_toLay : x_good mX4_toLay := ⟨by decide +kernel, decX4_toLay, okX4, rfl, x_tb_in (List.mem_of_getElem? (i := 552) (by decide +kernel)) rfl, iniX4, by decide +kernel, by decide +kernel⟩
theorem vX4_toLay : Cond.instanceMethod yX4_toLay ∈ x_tb ∧ Cond.selects RX4 yX4_toLay yX4_toLay ∈ x_tb := ⟨x_tb_in (List.mem_of_getElem? (i := 550) (by decide +kernel)) rfl, x_tb_in (List.mem_of_getElem? (i := 551) (by decide +kernel)) rfl⟩
def kX4_layOneMore : List (List (Nat × Instr × Nat)) := [[(0, .bipush 40, 2), (2, .istore_n 3, 1), (3, .iload_n 3, 1), (4, .ifCond .lt 59, 3), (7, .lconst 0, 1), (8, .lstore 4, 2), (10, .iload_n 1, 1), (11, .iconst 0, 1), (12, .invokestatic 45, 3), (15, .istore 6, 2)],
  [(17, .iload 6, 2), (19, .iload_n 2, 1), (20, .if_icmp .gt 29, 3), (23, .iload 6, 2), (25, .iload_n 3, 1), (26, .if_icmp .gt 23, 3), (29, .lload 4, 2), (31, .aload_n 0, 1)],
  [(32, .getfield 9, 3), (35, .iload_n 3, 1), (36, .iload 6, 2), (38, .isub, 1), (39, .laload, 1), (40, .ladd, 1), (41, .lstore 4, 2), (43, .iinc 6 1, 3), (46, .goto (-29), 3)],
  [(49, .aload_n 0, 1), (50, .getfield 9, 3), (53, .iload_n 3, 1), (54, .lload 4, 2), (56, .lastore, 1), (57, .iinc 3 (-1), 3), (60, .goto (-57), 3), (63, .return_, 1)]]
def mX4_layOneMore : x_M := (yX4_layOneMore, prog_6_method_3_code, 7, none, kX4_layOneMore, IX4)
set_option maxRecDepth 100000 in
theorem decX4_layOneMore : x_dec mX4_layOneMore := by unfold x_dec; decide +kernel
theorem gX4_layOneMore : x_good mX4_layOneMore := ⟨by decide +kernel, decX4_layOneMore, okX4, rfl, x_tb_in (List.mem_of_getElem? (i := 561) (by decide +kernel)) rfl, iniX4, by decide +kernel, by decide +kernel⟩
theorem vX4_layOneMore : Cond.instanceMethod yX4_layOneMore ∈ x_tb ∧ Cond.selects RX4 yX4_layOneMore yX4_layOneMore ∈ x_tb := ⟨x_tb_in (List.mem_of_getElem? (i := 560) (by decide +kernel)) rfl, x_tb_in (List.mem_of_getElem? (i := 21) (by decide +kernel)) rfl⟩
def kX4_bowlToAsk : List (List (Nat × Instr × Nat)) := [[(0, .bipush (-9), 2), (2, .istore 4, 2), (4, .ldc2_w 48, 3), (7, .lstore 5, 2), (9, .aload_n 2, 1), (10, .iconst 0, 1), (11, .aload_n 0, 1), (12, .getfield 15, 3), (15, .iconst 0, 1)],
  [(16, .aload_n 2, 1), (17, .arraylength, 1), (18, .bipush 12, 2), (20, .invokestatic 35, 3), (23, .invokestatic 50, 3), (26, .iconst 0, 1), (27, .istore 7, 2), (29, .iload 7, 2), (31, .aload_n 1, 1)],
  [(32, .getfield 25, 3), (35, .if_icmp .ge 96, 3), (38, .iload 7, 2), (40, .bipush 12, 2), (42, .if_icmp .ge 89, 3), (45, .aload_n 0, 1), (46, .getfield 15, 3)],
  [(49, .iload 7, 2), (51, .iaload, 1), (52, .iconst 2, 1), (53, .if_icmp .ne 72, 3), (56, .aload_n 0, 1), (57, .getfield 15, 3), (60, .iload 7, 2), (62, .iconst 0, 1), (63, .iastore, 1)],
  [(64, .aload_n 0, 1), (65, .aload_n 1, 1), (66, .aload_n 0, 1), (67, .getfield 15, 3), (70, .iload_n 3, 1), (71, .invokevirtual 56, 3), (74, .lstore 8, 2), (76, .aload_n 0, 1), (77, .getfield 15, 3)],
  [(80, .iload 7, 2), (82, .iconst 1, 1), (83, .iastore, 1), (84, .lload 8, 2), (86, .aload_n 0, 1), (87, .aload_n 1, 1), (88, .aload_n 0, 1), (89, .getfield 15, 3), (92, .iload_n 3, 1), (93, .invokevirtual 56, 3)],
  [(96, .invokestatic 60, 3), (99, .lstore 10, 2), (101, .aload_n 0, 1), (102, .getfield 15, 3), (105, .iload 7, 2), (107, .iconst 2, 1), (108, .iastore, 1), (109, .lload 10, 2), (111, .lload 5, 2)],
  [(113, .lcmp, 1), (114, .ifCond .le 11, 3), (117, .lload 10, 2), (119, .lstore 5, 2), (121, .iload 7, 2), (123, .istore 4, 2), (125, .iinc 7 1, 3)],
  [(128, .goto (-99), 3), (131, .iload 4, 2), (133, .ireturn, 1)]]
def mX4_bowlToAsk : x_M := (yX4_bowlToAsk, prog_6_method_4_code, 12, (some .int), kX4_bowlToAsk, IX4)
set_option maxRecDepth 100000 in
theorem decX4_bowlToAsk : x_dec mX4_bowlToAsk := by unfold x_dec; decide +kernel
theorem gX4_bowlToAsk : x_good mX4_bowlToAsk := ⟨by decide +kernel, decX4_bowlToAsk, okX4, rfl, x_tb_in (List.mem_of_getElem? (i := 576) (by decide +kernel)) rfl, iniX4, by decide +kernel, by decide +kernel⟩
theorem vX4_bowlToAsk : Cond.instanceMethod yX4_bowlToAsk ∈ x_tb ∧ Cond.selects RX4 yX4_bowlToAsk yX4_bowlToAsk ∈ x_tb := ⟨x_tb_in (List.mem_of_getElem? (i := 574) (by decide +kernel)) rfl, x_tb_in (List.mem_of_getElem? (i := 575) (by decide +kernel)) rfl⟩
def kJ7_fill_d0a16 : List (List (Nat × Instr × Nat)) := [[(0, .iconst 0, 1), (1, .istore_n 3, 1), (2, .aload_n 0, 1), (3, .arraylength, 1), (4, .istore 4, 2), (6, .iload_n 3, 1), (7, .iload 4, 2), (9, .if_icmp .ge 13, 3), (12, .aload_n 0, 1), (13, .iload_n 3, 1), (14, .lload_n 1, 1), (15, .lastore, 1)],
  [(16, .iinc 3 1, 3), (19, .goto (-13), 3), (22, .return_, 1)]]
def mJ7_fill_d0a16 : x_M := (yJ7_fill_d0a16, prog_11_method_101_code, 5, none, kJ7_fill_d0a16, IJ7)
set_option maxRecDepth 100000 in
theorem decJ7_fill_d0a16 : x_dec mJ7_fill_d0a16 := by unfold x_dec; decide +kernel
theorem gJ7_fill_d0a16 : x_good mJ7_fill_d0a16 := ⟨by decide +kernel, decJ7_fill_d0a16, okJ7, rfl, x_tb_in (List.mem_of_getElem? (i := 555) (by decide +kernel)) rfl, iniJ7, by decide +kernel, by decide +kernel⟩
theorem vJ7_fill_d0a16 : Cond.static yJ7_fill_d0a16 ∈ x_tb := x_tb_in (List.mem_of_getElem? (i := 554) (by decide +kernel)) rfl
def kJ7_fill_53178 : List (List (Nat × Instr × Nat)) := [[(0, .iconst 0, 1), (1, .istore_n 2, 1), (2, .aload_n 0, 1), (3, .arraylength, 1), (4, .istore_n 3, 1), (5, .iload_n 2, 1), (6, .iload_n 3, 1), (7, .if_icmp .ge 13, 3), (10, .aload_n 0, 1), (11, .iload_n 2, 1), (12, .iload_n 1, 1), (13, .iastore, 1), (14, .iinc 2 1, 3)],
  [(17, .goto (-12), 3), (20, .return_, 1)]]
def mJ7_fill_53178 : x_M := (yJ7_fill_53178, prog_11_method_103_code, 4, none, kJ7_fill_53178, IJ7)
set_option maxRecDepth 100000 in
theorem decJ7_fill_53178 : x_dec mJ7_fill_53178 := by unfold x_dec; decide +kernel
theorem gJ7_fill_53178 : x_good mJ7_fill_53178 := ⟨by decide +kernel, decJ7_fill_53178, okJ7, rfl, x_tb_in (List.mem_of_getElem? (i := 498) (by decide +kernel)) rfl, iniJ7, by decide +kernel, by decide +kernel⟩
theorem vJ7_fill_53178 : Cond.static yJ7_fill_53178 ∈ x_tb := x_tb_in (List.mem_of_getElem? (i := 497) (by decide +kernel)) rfl
theorem sX0_3 : Cond.methodLink RX0 3 objectInit ∈ x_tb := x_tb_in (List.mem_of_getElem? (i := 153) (by decide +kernel)) rfl
theorem sX0_21 : x_sI RX0 21 mX3_init 0 true := ⟨fun h => (by cases h), fun _ => List.mem_of_getElem? (i := 20) (by decide +kernel), vX3_init, rfl, rfl, by decide +kernel⟩
theorem sX0_30 : x_sV RX0 30 mX0_gainFor 2 0 := ⟨x_tb_in (List.mem_of_getElem? (i := 439) (by decide +kernel)) rfl, vX0_gainFor.1, vX0_gainFor.2, by decide +kernel, (RX0, TX0, 2), rfl, rfl⟩
theorem sX0_22 : x_sV RX0 22 mX3_copyFrom 1 3 := ⟨x_tb_in (List.mem_of_getElem? (i := 443) (by decide +kernel)) rfl, vX3_copyFrom.1, vX3_copyFrom.2, by decide +kernel, (RX3, TX3, 12), rfl, rfl⟩
theorem sX0_26 : x_sS RX0 26 mX0_gainOf 6 := ⟨x_tb_in (List.mem_of_getElem? (i := 444) (by decide +kernel)) rfl, vX0_gainOf, by decide +kernel⟩
theorem sX0_34 : Cond.methodLink RX0 34 Lib.Math.min.name ∈ x_tb := x_tb_in (List.mem_of_getElem? (i := 447) (by decide +kernel)) rfl
theorem sX0_44 : x_sV RX0 44 mX3_canMove 1 3 := ⟨x_tb_in (List.mem_of_getElem? (i := 450) (by decide +kernel)) rfl, vX3_canMove.1, vX3_canMove.2, by decide +kernel, (RX3, TX3, 12), rfl, rfl⟩
theorem sX0_48 : x_sV RX0 48 mX3_makeMove 1 3 := ⟨x_tb_in (List.mem_of_getElem? (i := 451) (by decide +kernel)) rfl, vX3_makeMove.1, vX3_makeMove.2, by decide +kernel, (RX3, TX3, 12), rfl, rfl⟩
theorem sX1_5 : Cond.methodLink RX1 5 objectInit ∈ x_tb := x_tb_in (List.mem_of_getElem? (i := 169) (by decide +kernel)) rfl
theorem sX1_24 : x_sI RX1 24 mX3_init 0 true := ⟨fun h => (by cases h), fun _ => List.mem_of_getElem? (i := 22) (by decide +kernel), vX3_init, rfl, rfl, by decide +kernel⟩
theorem sX1_42 : x_sV RX1 42 mX3_beansOf 1 3 := ⟨x_tb_in (List.mem_of_getElem? (i := 495) (by decide +kernel)) rfl, vX3_beansOf.1, vX3_beansOf.2, by decide +kernel, (RX3, TX3, 12), rfl, rfl⟩
theorem sX1_46 : x_sS RX1 46 mJ7_fill_53178 2 := ⟨x_tb_in (List.mem_of_getElem? (i := 496) (by decide +kernel)) rfl, vJ7_fill_53178, by decide +kernel⟩
theorem sX1_52 : x_sV RX1 52 mX3_copyFrom 1 3 := ⟨x_tb_in (List.mem_of_getElem? (i := 499) (by decide +kernel)) rfl, vX3_copyFrom.1, vX3_copyFrom.2, by decide +kernel, (RX3, TX3, 12), rfl, rfl⟩
theorem sX1_56 : x_sV RX1 56 mX3_beansInOne 0 3 := ⟨x_tb_in (List.mem_of_getElem? (i := 500) (by decide +kernel)) rfl, vX3_beansInOne.1, vX3_beansInOne.2, by decide +kernel, (RX3, TX3, 12), rfl, rfl⟩
theorem sX1_60 : x_sV RX1 60 mX1_keep 2 1 := ⟨x_tb_in (List.mem_of_getElem? (i := 504) (by decide +kernel)) rfl, vX1_keep.1, vX1_keep.2, by decide +kernel, (RX1, TX1, 8), rfl, rfl⟩
theorem sX1_64 : x_sV RX1 64 mX1_goOnFrom 3 1 := ⟨x_tb_in (List.mem_of_getElem? (i := 509) (by decide +kernel)) rfl, vX1_goOnFrom.1, vX1_goOnFrom.2, by decide +kernel, (RX1, TX1, 8), rfl, rfl⟩
theorem sX1_68 : x_sV RX1 68 mX3_layFrom 1 3 := ⟨x_tb_in (List.mem_of_getElem? (i := 513) (by decide +kernel)) rfl, vX3_layFrom.1, vX3_layFrom.2, by decide +kernel, (RX3, TX3, 12), rfl, rfl⟩
theorem sX1_73 : x_sV RX1 73 mX3_canMove 1 3 := ⟨x_tb_in (List.mem_of_getElem? (i := 518) (by decide +kernel)) rfl, vX3_canMove.1, vX3_canMove.2, by decide +kernel, (RX3, TX3, 12), rfl, rfl⟩
theorem sX1_77 : x_sV RX1 77 mX3_makeMove 1 3 := ⟨x_tb_in (List.mem_of_getElem? (i := 519) (by decide +kernel)) rfl, vX3_makeMove.1, vX3_makeMove.2, by decide +kernel, (RX3, TX3, 12), rfl, rfl⟩
theorem sX2_3 : Cond.methodLink RX2 3 objectInit ∈ x_tb := x_tb_in (List.mem_of_getElem? (i := 139) (by decide +kernel)) rfl
theorem sX2_19 : x_sV RX2 19 mX2_stuckAt 0 2 := ⟨x_tb_in (List.mem_of_getElem? (i := 277) (by decide +kernel)) rfl, vX2_stuckAt.1, vX2_stuckAt.2, by decide +kernel, (RX2, TX2, 2), rfl, rfl⟩
theorem sX2_31 : x_sV RX2 31 mX2_stuckIn 1 2 := ⟨x_tb_in (List.mem_of_getElem? (i := 281) (by decide +kernel)) rfl, vX2_stuckIn.1, vX2_stuckIn.2, by decide +kernel, (RX2, TX2, 2), rfl, rfl⟩
theorem sX2_34 : x_sV RX2 34 mX2_letterAt 1 2 := ⟨x_tb_in (List.mem_of_getElem? (i := 285) (by decide +kernel)) rfl, vX2_letterAt.1, vX2_letterAt.2, by decide +kernel, (RX2, TX2, 2), rfl, rfl⟩
theorem sX2_37 : x_sS RX2 37 mX2_mostDigits 1 := ⟨x_tb_in (List.mem_of_getElem? (i := 289) (by decide +kernel)) rfl, vX2_mostDigits, by decide +kernel⟩
theorem sX2_40 : x_sS RX2 40 mX2_kindFor 1 := ⟨x_tb_in (List.mem_of_getElem? (i := 292) (by decide +kernel)) rfl, vX2_kindFor, by decide +kernel⟩
theorem sX2_43 : x_sV RX2 43 mX2_digitsFrom 2 2 := ⟨x_tb_in (List.mem_of_getElem? (i := 295) (by decide +kernel)) rfl, vX2_digitsFrom.1, vX2_digitsFrom.2, by decide +kernel, (RX2, TX2, 2), rfl, rfl⟩
theorem sX2_50 : x_sV RX2 50 mX2_digitAt 1 2 := ⟨x_tb_in (List.mem_of_getElem? (i := 299) (by decide +kernel)) rfl, vX2_digitAt.1, vX2_digitAt.2, by decide +kernel, (RX2, TX2, 2), rfl, rfl⟩
theorem sX2_47 : x_sS RX2 47 mX2_leastDigits 1 := ⟨x_tb_in (List.mem_of_getElem? (i := 303) (by decide +kernel)) rfl, vX2_leastDigits, by decide +kernel⟩
theorem sX2_27 : x_sV RX2 27 mX2_behindStatement 1 2 := ⟨x_tb_in (List.mem_of_getElem? (i := 306) (by decide +kernel)) rfl, vX2_behindStatement.1, vX2_behindStatement.2, by decide +kernel, (RX2, TX2, 2), rfl, rfl⟩
theorem sX2_23 : x_sV RX2 23 mX2_apply 2 2 := ⟨x_tb_in (List.mem_of_getElem? (i := 310) (by decide +kernel)) rfl, vX2_apply.1, vX2_apply.2, by decide +kernel, (RX2, TX2, 2), rfl, rfl⟩
theorem sX2_53 : x_sV RX2 53 mX2_addBowl 2 2 := ⟨x_tb_in (List.mem_of_getElem? (i := 314) (by decide +kernel)) rfl, vX2_addBowl.1, vX2_addBowl.2, by decide +kernel, (RX2, TX2, 2), rfl, rfl⟩
theorem sX2_78 : x_sV RX2 78 mX3_addBowl 2 3 := ⟨x_tb_in (List.mem_of_getElem? (i := 318) (by decide +kernel)) rfl, vX3_addBowl.1, vX3_addBowl.2, by decide +kernel, (RX3, TX3, 12), rfl, rfl⟩
theorem sX2_67 : x_sV RX2 67 mX3_swapBeans 2 3 := ⟨x_tb_in (List.mem_of_getElem? (i := 322) (by decide +kernel)) rfl, vX3_swapBeans.1, vX3_swapBeans.2, by decide +kernel, (RX3, TX3, 12), rfl, rfl⟩
theorem sX2_71 : x_sV RX2 71 mX3_has 1 3 := ⟨x_tb_in (List.mem_of_getElem? (i := 338) (by decide +kernel)) rfl, vX3_has.1, vX3_has.2, by decide +kernel, (RX3, TX3, 12), rfl, rfl⟩
theorem sX2_75 : x_sV RX2 75 mX2_makeMoves 2 2 := ⟨x_tb_in (List.mem_of_getElem? (i := 339) (by decide +kernel)) rfl, vX2_makeMoves.1, vX2_makeMoves.2, by decide +kernel, (RX2, TX2, 2), rfl, rfl⟩
theorem sX2_81 : x_sV RX2 81 mX3_canMove 1 3 := ⟨x_tb_in (List.mem_of_getElem? (i := 343) (by decide +kernel)) rfl, vX3_canMove.1, vX3_canMove.2, by decide +kernel, (RX3, TX3, 12), rfl, rfl⟩
theorem sX2_87 : x_sV RX2 87 mX3_makeMove 1 3 := ⟨x_tb_in (List.mem_of_getElem? (i := 347) (by decide +kernel)) rfl, vX3_makeMove.1, vX3_makeMove.2, by decide +kernel, (RX3, TX3, 12), rfl, rfl⟩
theorem sX3_3 : Cond.methodLink RX3 3 objectInit ∈ x_tb := x_tb_in (List.mem_of_getElem? (i := 78) (by decide +kernel)) rfl
theorem sX3_49 : Cond.methodLink RX3 49 arraycopyName ∈ x_tb := x_tb_in (List.mem_of_getElem? (i := 270) (by decide +kernel)) rfl
theorem sX3_59 : x_sV RX3 59 mX3_beansOf 1 3 := ⟨x_tb_in (List.mem_of_getElem? (i := 326) (by decide +kernel)) rfl, vX3_beansOf.1, vX3_beansOf.2, by decide +kernel, (RX3, TX3, 12), rfl, rfl⟩
theorem sX3_55 : x_sV RX3 55 mX3_has 1 3 := ⟨x_tb_in (List.mem_of_getElem? (i := 330) (by decide +kernel)) rfl, vX3_has.1, vX3_has.2, by decide +kernel, (RX3, TX3, 12), rfl, rfl⟩
theorem sX3_63 : x_sV RX3 63 mX3_lay 2 3 := ⟨x_tb_in (List.mem_of_getElem? (i := 334) (by decide +kernel)) rfl, vX3_lay.1, vX3_lay.2, by decide +kernel, (RX3, TX3, 12), rfl, rfl⟩
theorem sX3_70 : x_sV RX3 70 mX3_canMove 1 3 := ⟨x_tb_in (List.mem_of_getElem? (i := 351) (by decide +kernel)) rfl, vX3_canMove.1, vX3_canMove.2, by decide +kernel, (RX3, TX3, 12), rfl, rfl⟩
theorem sX3_73 : x_sV RX3 73 mX3_sowHand 1 3 := ⟨x_tb_in (List.mem_of_getElem? (i := 352) (by decide +kernel)) rfl, vX3_sowHand.1, vX3_sowHand.2, by decide +kernel, (RX3, TX3, 12), rfl, rfl⟩
theorem sX3_83 : x_sV RX3 83 mX3_rightOrLeftOf 1 3 := ⟨x_tb_in (List.mem_of_getElem? (i := 356) (by decide +kernel)) rfl, vX3_rightOrLeftOf.1, vX3_rightOrLeftOf.2, by decide +kernel, (RX3, TX3, 12), rfl, rfl⟩
theorem sX3_86 : x_sV RX3 86 mX3_takes 1 3 := ⟨x_tb_in (List.mem_of_getElem? (i := 360) (by decide +kernel)) rfl, vX3_takes.1, vX3_takes.2, by decide +kernel, (RX3, TX3, 12), rfl, rfl⟩
theorem sX3_76 : x_sV RX3 76 mX3_isFull 1 3 := ⟨x_tb_in (List.mem_of_getElem? (i := 364) (by decide +kernel)) rfl, vX3_isFull.1, vX3_isFull.2, by decide +kernel, (RX3, TX3, 12), rfl, rfl⟩
theorem sX3_67 : x_sV RX3 67 mX3_soundsFrom 1 3 := ⟨x_tb_in (List.mem_of_getElem? (i := 368) (by decide +kernel)) rfl, vX3_soundsFrom.1, vX3_soundsFrom.2, by decide +kernel, (RX3, TX3, 12), rfl, rfl⟩
theorem sX3_79 : x_sV RX3 79 mX3_takeSingle 0 3 := ⟨x_tb_in (List.mem_of_getElem? (i := 372) (by decide +kernel)) rfl, vX3_takeSingle.1, vX3_takeSingle.2, by decide +kernel, (RX3, TX3, 12), rfl, rfl⟩
theorem sX4_3 : Cond.methodLink RX4 3 objectInit ∈ x_tb := x_tb_in (List.mem_of_getElem? (i := 205) (by decide +kernel)) rfl
theorem sX4_19 : x_sS RX4 19 mJ7_fill_d0a16 2 := ⟨x_tb_in (List.mem_of_getElem? (i := 553) (by decide +kernel)) rfl, vJ7_fill_d0a16, by decide +kernel⟩
theorem sX4_31 : x_sV RX4 31 mX3_soundsFrom 1 3 := ⟨x_tb_in (List.mem_of_getElem? (i := 556) (by decide +kernel)) rfl, vX3_soundsFrom.1, vX3_soundsFrom.2, by decide +kernel, (RX3, TX3, 12), rfl, rfl⟩
theorem sX4_35 : Cond.methodLink RX4 35 Lib.Math.min.name ∈ x_tb := x_tb_in (List.mem_of_getElem? (i := 557) (by decide +kernel)) rfl
theorem sX4_41 : x_sV RX4 41 mX4_layOneMore 2 4 := ⟨x_tb_in (List.mem_of_getElem? (i := 558) (by decide +kernel)) rfl, vX4_layOneMore.1, vX4_layOneMore.2, by decide +kernel, (RX4, TX4, 2), rfl, rfl⟩
theorem sX4_45 : Cond.methodLink RX4 45 Lib.Math.max.name ∈ x_tb := x_tb_in (List.mem_of_getElem? (i := 562) (by decide +kernel)) rfl
theorem sX4_50 : Cond.methodLink RX4 50 arraycopyName ∈ x_tb := x_tb_in (List.mem_of_getElem? (i := 578) (by decide +kernel)) rfl
theorem sX4_56 : x_sV RX4 56 mX4_toLay 3 4 := ⟨x_tb_in (List.mem_of_getElem? (i := 579) (by decide +kernel)) rfl, vX4_toLay.1, vX4_toLay.2, by decide +kernel, (RX4, TX4, 2), rfl, rfl⟩
theorem sX4_60 : Cond.methodLink RX4 60 Lib.MathLoose.min_long.x ∈ x_tb := x_tb_in (List.mem_of_getElem? (i := 580) (by decide +kernel)) rfl
theorem mth_minS : Cond.static Lib.Math.min.name ∈ x_tb := x_tb_in (List.mem_of_getElem? (i := 448) (by decide +kernel)) rfl
theorem mth_minC : Cond.code Lib.Math.min.name Lib.Math.min.code 2 (some .int) ∈ x_tb := x_tb_in (List.mem_of_getElem? (i := 449) (by decide +kernel)) rfl
theorem x_mmin {pc' : Nat} {E : x_E} {R : Room} {me : x_M} {QQ : List Frame → Array Value → State → State → Prop} {pc : Nat} {lv : x_L} {st : List Value} {z : Nat} {f : x_H} {cl sl : Nat} {i : Nat} {x y : Int32} (hc : x_at me pc = some (.invokestatic i, 3)) (hp : pc + 3 = pc') (hs : Cond.methodLink me.2.2.2.2.2.1 i Lib.Math.min.name ∈ x_tb) (hR : 1 ≤ R.frames ∧ 8 + 15 ≤ R.locals) (hw : (st.map fun v => v.category).sum ≤ 8) (h1 : cl ≤ R.cells) (h2 : sl ≤ R.slots) (k : X E R me QQ pc' lv (.int (if y < x then y else x) :: st) z f cl sl) : X E R me QQ pc lv (.int y :: .int x :: st) z f cl sl := by
  subst hp
  intro p e s m args below meth c H locs ls cx hz hP hS hl
  obtain ⟨hx, hb, hr, hml, hown, hts, hlk, hK, hbs, hin, hd, hI⟩ := id cx
  have h9 : ((st.map (x_sh E)).map fun v => v.category).sum = (st.map fun v => v.category).sum := by rw [List.map_map]; congr 2; funext v; exact x_sh_cat E v
  exact va_mmin hx hb (by rw [hml]; exact hl.1.symm) hown (hts _ hs) (hts _ mth_minS) (hts _ iniJ9) (hts _ mth_minC) hR.1 (by rw [h9]; have := hR.2; omega) h1 h2 (x_dec_at hd hc) (k p e s m args below meth c H locs ls cx hz hP hS hl)
theorem mth_maxS : Cond.static Lib.Math.max.name ∈ x_tb := x_tb_in (List.mem_of_getElem? (i := 563) (by decide +kernel)) rfl
theorem mth_maxC : Cond.code Lib.Math.max.name Lib.Math.max.code 2 (some .int) ∈ x_tb := x_tb_in (List.mem_of_getElem? (i := 564) (by decide +kernel)) rfl
theorem x_mmax {pc' : Nat} {E : x_E} {R : Room} {me : x_M} {QQ : List Frame → Array Value → State → State → Prop} {pc : Nat} {lv : x_L} {st : List Value} {z : Nat} {f : x_H} {cl sl : Nat} {i : Nat} {x y : Int32} (hc : x_at me pc = some (.invokestatic i, 3)) (hp : pc + 3 = pc') (hs : Cond.methodLink me.2.2.2.2.2.1 i Lib.Math.max.name ∈ x_tb) (hR : 1 ≤ R.frames ∧ 8 + 15 ≤ R.locals) (hw : (st.map fun v => v.category).sum ≤ 8) (h1 : cl ≤ R.cells) (h2 : sl ≤ R.slots) (k : X E R me QQ pc' lv (.int (if x < y then y else x) :: st) z f cl sl) : X E R me QQ pc lv (.int y :: .int x :: st) z f cl sl := by
  subst hp
  intro p e s m args below meth c H locs ls cx hz hP hS hl
  obtain ⟨hx, hb, hr, hml, hown, hts, hlk, hK, hbs, hin, hd, hI⟩ := id cx
  have h9 : ((st.map (x_sh E)).map fun v => v.category).sum = (st.map fun v => v.category).sum := by rw [List.map_map]; congr 2; funext v; exact x_sh_cat E v
  exact va_mmax hx hb (by rw [hml]; exact hl.1.symm) hown (hts _ hs) (hts _ mth_maxS) (hts _ iniJ9) (hts _ mth_maxC) hR.1 (by rw [h9]; have := hR.2; omega) h1 h2 (x_dec_at hd hc) (k p e s m args below meth c H locs ls cx hz hP hS hl)
theorem mth_minLS : Cond.static Lib.MathLoose.min_long.x ∈ x_tb := x_tb_in (List.mem_of_getElem? (i := 567) (by decide +kernel)) rfl
theorem mth_minLC : Cond.code Lib.MathLoose.min_long.x Lib.MathLoose.min_long.code 4 (some .long) ∈ x_tb := x_tb_in (List.mem_of_getElem? (i := 568) (by decide +kernel)) rfl
theorem x_mminL {pc' : Nat} {E : x_E} {R : Room} {me : x_M} {QQ : List Frame → Array Value → State → State → Prop} {pc : Nat} {lv : x_L} {st : List Value} {z : Nat} {f : x_H} {cl sl : Nat} {i : Nat} {x y : Int64} (hc : x_at me pc = some (.invokestatic i, 3)) (hp : pc + 3 = pc') (hs : Cond.methodLink me.2.2.2.2.2.1 i Lib.MathLoose.min_long.x ∈ x_tb) (hR : 1 ≤ R.frames ∧ 8 + 15 ≤ R.locals) (hw : (st.map fun v => v.category).sum ≤ 8) (h1 : cl ≤ R.cells) (h2 : sl ≤ R.slots) (k : X E R me QQ pc' lv (.long (if y < x then y else x) :: st) z f cl sl) : X E R me QQ pc lv (.long y :: .long x :: st) z f cl sl := by
  subst hp
  intro p e s m args below meth c H locs ls cx hz hP hS hl
  obtain ⟨hx, hb, hr, hml, hown, hts, hlk, hK, hbs, hin, hd, hI⟩ := id cx
  have h9 : ((st.map (x_sh E)).map fun v => v.category).sum = (st.map fun v => v.category).sum := by rw [List.map_map]; congr 2; funext v; exact x_sh_cat E v
  exact va_mmin_long hx hb (by rw [hml]; exact hl.1.symm) hown (hts _ hs) (hts _ mth_minLS) (hts _ iniJ9) (hts _ mth_minLC) hR.1 (by rw [h9]; have := hR.2; omega) h1 h2 (x_dec_at hd hc) (k p e s m args below meth c H locs ls cx hz hP hS hl)
end
section
def IX5 : x_I := (RX5, [(147, 3, 3, true), (109, 3, 4, true), (112, 3, 5, true), (115, 3, 6, true), (121, 3, 7, true), (134, 3, 8, true), (137, 3, 9, true), (140, 3, 10, true), (128, 3, 11, true), (76, 2, 1, true), (173, 1, 6, true), (174, 1, 7, true), (10, 5, 0, false), (16, 5, 1, false), (19, 5, 2, false), (23, 5, 3, false), (26, 5, 4, false), (32, 5, 5, false), (39, 5, 6, false), (46, 5, 7, false), (53, 5, 8, false), (57, 5, 9, false), (61, 5, 10, false), (65, 5, 11, false)], [(211, 1000000000), (212, 4000000), (213, 1664525), (214, 1013904223), (215, 2147483647)], [(190, 1000000000)], [(7, 3), (29, 2), (36, 0), (43, 1), (50, 4)])
set_option maxRecDepth 100000 in
theorem okX5 : x_okI IX5 := ⟨List.forall_mem_cons.mpr ⟨⟨(RX3, TX3, 12), rfl, by decide, fun h => (by cases h), fun _ => List.mem_of_getElem? (i := 4) (by decide +kernel)⟩, List.forall_mem_cons.mpr ⟨⟨(RX3, TX3, 12), rfl, by decide, fun h => (by cases h), fun _ => List.mem_of_getElem? (i := 5) (by decide +kernel)⟩, List.forall_mem_cons.mpr ⟨⟨(RX3, TX3, 12), rfl, by decide, fun h => (by cases h), fun _ => List.mem_of_getElem? (i := 7) (by decide +kernel)⟩, List.forall_mem_cons.mpr ⟨⟨(RX3, TX3, 12), rfl, by decide, fun h => (by cases h), fun _ => List.mem_of_getElem? (i := 9) (by decide +kernel)⟩, List.forall_mem_cons.mpr ⟨⟨(RX3, TX3, 12), rfl, by decide, fun h => (by cases h), fun _ => List.mem_of_getElem? (i := 11) (by decide +kernel)⟩, List.forall_mem_cons.mpr ⟨⟨(RX3, TX3, 12), rfl, by decide, fun h => (by cases h), fun _ => List.mem_of_getElem? (i := 13) (by decide +kernel)⟩, List.forall_mem_cons.mpr ⟨⟨(RX3, TX3, 12), rfl, by decide, fun h => (by cases h), fun _ => List.mem_of_getElem? (i := 14) (by decide +kernel)⟩, List.forall_mem_cons.mpr ⟨⟨(RX3, TX3, 12), rfl, by decide, fun h => (by cases h), fun _ => List.mem_of_getElem? (i := 15) (by decide +kernel)⟩, List.forall_mem_cons.mpr ⟨⟨(RX3, TX3, 12), rfl, by decide, fun h => (by cases h), fun _ => List.mem_of_getElem? (i := 17) (by decide +kernel)⟩, List.forall_mem_cons.mpr ⟨⟨(RX2, TX2, 2), rfl, by decide, fun h => (by cases h), fun _ => List.mem_of_getElem? (i := 19) (by decide +kernel)⟩, List.forall_mem_cons.mpr ⟨⟨(RX1, TX1, 8), rfl, by decide, fun h => (by cases h), fun _ => List.mem_of_getElem? (i := 23) (by decide +kernel)⟩, List.forall_mem_cons.mpr ⟨⟨(RX1, TX1, 8), rfl, by decide, fun h => (by cases h), fun _ => List.mem_of_getElem? (i := 24) (by decide +kernel)⟩, List.forall_mem_cons.mpr ⟨⟨(RX5, TX5, 12), rfl, by decide, fun _ => x_tb_in (List.mem_of_getElem? (i := 213) (by decide +kernel)) rfl, fun h => (by cases h)⟩, List.forall_mem_cons.mpr ⟨⟨(RX5, TX5, 12), rfl, by decide, fun _ => x_tb_in (List.mem_of_getElem? (i := 214) (by decide +kernel)) rfl, fun h => (by cases h)⟩, List.forall_mem_cons.mpr ⟨⟨(RX5, TX5, 12), rfl, by decide, fun _ => x_tb_in (List.mem_of_getElem? (i := 215) (by decide +kernel)) rfl, fun h => (by cases h)⟩, List.forall_mem_cons.mpr ⟨⟨(RX5, TX5, 12), rfl, by decide, fun _ => x_tb_in (List.mem_of_getElem? (i := 216) (by decide +kernel)) rfl, fun h => (by cases h)⟩, List.forall_mem_cons.mpr ⟨⟨(RX5, TX5, 12), rfl, by decide, fun _ => x_tb_in (List.mem_of_getElem? (i := 217) (by decide +kernel)) rfl, fun h => (by cases h)⟩, List.forall_mem_cons.mpr ⟨⟨(RX5, TX5, 12), rfl, by decide, fun _ => x_tb_in (List.mem_of_getElem? (i := 218) (by decide +kernel)) rfl, fun h => (by cases h)⟩, List.forall_mem_cons.mpr ⟨⟨(RX5, TX5, 12), rfl, by decide, fun _ => x_tb_in (List.mem_of_getElem? (i := 219) (by decide +kernel)) rfl, fun h => (by cases h)⟩, List.forall_mem_cons.mpr ⟨⟨(RX5, TX5, 12), rfl, by decide, fun _ => x_tb_in (List.mem_of_getElem? (i := 220) (by decide +kernel)) rfl, fun h => (by cases h)⟩, List.forall_mem_cons.mpr ⟨⟨(RX5, TX5, 12), rfl, by decide, fun _ => x_tb_in (List.mem_of_getElem? (i := 221) (by decide +kernel)) rfl, fun h => (by cases h)⟩, List.forall_mem_cons.mpr ⟨⟨(RX5, TX5, 12), rfl, by decide, fun _ => x_tb_in (List.mem_of_getElem? (i := 222) (by decide +kernel)) rfl, fun h => (by cases h)⟩, List.forall_mem_cons.mpr ⟨⟨(RX5, TX5, 12), rfl, by decide, fun _ => x_tb_in (List.mem_of_getElem? (i := 223) (by decide +kernel)) rfl, fun h => (by cases h)⟩, List.forall_mem_cons.mpr ⟨⟨(RX5, TX5, 12), rfl, by decide, fun _ => x_tb_in (List.mem_of_getElem? (i := 224) (by decide +kernel)) rfl, fun h => (by cases h)⟩, fun _ h => absurd h List.not_mem_nil⟩⟩⟩⟩⟩⟩⟩⟩⟩⟩⟩⟩⟩⟩⟩⟩⟩⟩⟩⟩⟩⟩⟩⟩, List.forall_mem_cons.mpr ⟨x_tb_in (List.mem_of_getElem? (i := 460) (by decide +kernel)) rfl, List.forall_mem_cons.mpr ⟨x_tb_in (List.mem_of_getElem? (i := 482) (by decide +kernel)) rfl, List.forall_mem_cons.mpr ⟨x_tb_in (List.mem_of_getElem? (i := 609) (by decide +kernel)) rfl, List.forall_mem_cons.mpr ⟨x_tb_in (List.mem_of_getElem? (i := 610) (by decide +kernel)) rfl, List.forall_mem_cons.mpr ⟨x_tb_in (List.mem_of_getElem? (i := 611) (by decide +kernel)) rfl, fun _ h => absurd h List.not_mem_nil⟩⟩⟩⟩⟩, List.forall_mem_cons.mpr ⟨x_tb_in (List.mem_of_getElem? (i := 565) (by decide +kernel)) rfl, fun _ h => absurd h List.not_mem_nil⟩, List.forall_mem_cons.mpr ⟨⟨(RX3, TX3, 12), rfl, x_tb_in (List.mem_of_getElem? (i := 73) (by decide +kernel)) rfl⟩, List.forall_mem_cons.mpr ⟨⟨(RX2, TX2, 2), rfl, x_tb_in (List.mem_of_getElem? (i := 134) (by decide +kernel)) rfl⟩, List.forall_mem_cons.mpr ⟨⟨(RX0, TX0, 2), rfl, x_tb_in (List.mem_of_getElem? (i := 148) (by decide +kernel)) rfl⟩, List.forall_mem_cons.mpr ⟨⟨(RX1, TX1, 8), rfl, x_tb_in (List.mem_of_getElem? (i := 164) (by decide +kernel)) rfl⟩, List.forall_mem_cons.mpr ⟨⟨(RX4, TX4, 2), rfl, x_tb_in (List.mem_of_getElem? (i := 200) (by decide +kernel)) rfl⟩, fun _ h => absurd h List.not_mem_nil⟩⟩⟩⟩⟩⟩
def kX5_init : List (List (Nat × Instr × Nat)) := [[(0, .aload_n 0, 1), (1, .invokespecial 1, 3), (4, .aload_n 0, 1), (5, .new 7, 3), (8, .dup, 1), (9, .invokespecial 9, 3), (12, .putfield 10, 3), (15, .aload_n 0, 1)],
  [(16, .new 7, 3), (19, .dup, 1), (20, .invokespecial 9, 3), (23, .putfield 16, 3), (26, .aload_n 0, 1), (27, .iconst 0, 1), (28, .putfield 19, 3), (31, .aload_n 0, 1)],
  [(32, .new 7, 3), (35, .dup, 1), (36, .invokespecial 9, 3), (39, .putfield 23, 3), (42, .aload_n 0, 1), (43, .new 7, 3), (46, .dup, 1), (47, .invokespecial 9, 3)],
  [(50, .putfield 26, 3), (53, .aload_n 0, 1), (54, .new 29, 3), (57, .dup, 1), (58, .invokespecial 31, 3), (61, .putfield 32, 3)],
  [(64, .aload_n 0, 1), (65, .new 36, 3), (68, .dup, 1), (69, .invokespecial 38, 3), (72, .putfield 39, 3), (75, .aload_n 0, 1), (76, .new 43, 3), (79, .dup, 1)],
  [(80, .invokespecial 45, 3), (83, .putfield 46, 3), (86, .aload_n 0, 1), (87, .new 50, 3), (90, .dup, 1), (91, .invokespecial 52, 3), (94, .putfield 53, 3)],
  [(97, .aload_n 0, 1), (98, .bipush 12, 2), (100, .newarray .int, 2), (102, .putfield 57, 3), (105, .aload_n 0, 1), (106, .iconst 0, 1), (107, .putfield 61, 3), (110, .aload_n 0, 1), (111, .bipush 7, 2)],
  [(113, .newarray .int, 2), (115, .putfield 65, 3), (118, .return_, 1)]]
def mX5_init : x_M := (yX5_init, prog_1_method_1_code, 1, none, kX5_init, IX5)
set_option maxRecDepth 100000 in
theorem decX5_init : x_dec mX5_init := by unfold x_dec; decide +kernel
theorem gX5_init : x_good mX5_init := ⟨by decide +kernel, decX5_init, okX5, rfl, x_tb_in (List.mem_of_getElem? (i := 69) (by decide +kernel)) rfl, iniX5, by decide +kernel, by decide +kernel⟩
theorem vX5_init : Cond.instanceMethod yX5_init ∈ x_tb := x_tb_in (List.mem_of_getElem? (i := 68) (by decide +kernel)) rfl
def kX5_letter : List (List (Nat × Instr × Nat)) := [[(0, .iload_n 1, 1), (1, .ifCond .ge 10, 3), (4, .aload_n 0, 1), (5, .bipush (-4), 2), (7, .invokevirtual 68, 3), (10, .ireturn, 1), (11, .iload_n 1, 1), (12, .sipush 255, 3), (15, .if_icmp .gt 14, 3)],
  [(18, .aload_n 0, 1), (19, .getfield 32, 3), (22, .iload_n 1, 1), (23, .invokevirtual 72, 3), (26, .ifCond .ne 10, 3), (29, .aload_n 0, 1), (30, .bipush (-6), 2)],
  [(32, .invokevirtual 68, 3), (35, .ireturn, 1), (36, .aload_n 0, 1), (37, .getfield 32, 3), (40, .getfield 76, 3), (43, .ireturn, 1)]]
def mX5_letter : x_M := (yX5_letter, prog_1_method_2_code, 2, (some .int), kX5_letter, IX5)
set_option maxRecDepth 100000 in
theorem decX5_letter : x_dec mX5_letter := by unfold x_dec; decide +kernel
theorem gX5_letter : x_good mX5_letter := ⟨by decide +kernel, decX5_letter, okX5, rfl, x_tb_in (List.mem_of_getElem? (i := 253) (by decide +kernel)) rfl, iniX5, by decide +kernel, by decide +kernel⟩
theorem vX5_letter : Cond.instanceMethod yX5_letter ∈ x_tb ∧ Cond.selects RX5 yX5_letter yX5_letter ∈ x_tb := ⟨x_tb_in (List.mem_of_getElem? (i := 251) (by decide +kernel)) rfl, x_tb_in (List.mem_of_getElem? (i := 252) (by decide +kernel)) rfl⟩
def kX5_game : List (List (Nat × Instr × Nat)) := [[(0, .aload_n 0, 1), (1, .getfield 23, 3), (4, .aload_n 0, 1), (5, .getfield 10, 3), (8, .invokevirtual 79, 3), (11, .aload_n 0, 1), (12, .getfield 32, 3), (15, .aload_n 0, 1)],
  [(16, .getfield 23, 3), (19, .invokevirtual 83, 3), (22, .istore_n 1, 1), (23, .aload_n 0, 1), (24, .getfield 32, 3), (27, .invokevirtual 87, 3), (30, .iload_n 1, 1), (31, .ifCond .lt 14, 3)],
  [(34, .aload_n 0, 1), (35, .getfield 10, 3), (38, .aload_n 0, 1), (39, .getfield 23, 3), (42, .invokevirtual 79, 3), (45, .iload_n 1, 1), (46, .ireturn, 1)]]
def mX5_game : x_M := (yX5_game, prog_1_method_3_code, 2, (some .int), kX5_game, IX5)
set_option maxRecDepth 100000 in
theorem decX5_game : x_dec mX5_game := by unfold x_dec; decide +kernel
theorem gX5_game : x_good mX5_game := ⟨by decide +kernel, decX5_game, okX5, rfl, x_tb_in (List.mem_of_getElem? (i := 265) (by decide +kernel)) rfl, iniX5, by decide +kernel, by decide +kernel⟩
theorem vX5_game : Cond.instanceMethod yX5_game ∈ x_tb ∧ Cond.selects RX5 yX5_game yX5_game ∈ x_tb := ⟨x_tb_in (List.mem_of_getElem? (i := 263) (by decide +kernel)) rfl, x_tb_in (List.mem_of_getElem? (i := 264) (by decide +kernel)) rfl⟩
def kX5_bowl : List (List (Nat × Instr × Nat)) := [[(0, .aload_n 0, 1), (1, .getfield 10, 3), (4, .iload_n 1, 1), (5, .invokevirtual 90, 3), (8, .ifCond .ne 9, 3), (11, .aload_n 0, 1), (12, .iconst (-1), 1), (13, .invokevirtual 68, 3)],
  [(16, .ireturn, 1), (17, .iload_n 2, 1), (18, .tableswitch 74 0 3 #[30, 39, 48, 57], 30)],
  [],
  [(48, .aload_n 0, 1), (49, .getfield 10, 3), (52, .iload_n 1, 1), (53, .invokevirtual 93, 3), (56, .ireturn, 1), (57, .aload_n 0, 1), (58, .getfield 10, 3), (61, .iload_n 1, 1), (62, .invokevirtual 96, 3)],
  [(65, .ireturn, 1), (66, .aload_n 0, 1), (67, .getfield 10, 3), (70, .iload_n 1, 1), (71, .invokevirtual 99, 3), (74, .ireturn, 1), (75, .aload_n 0, 1), (76, .getfield 10, 3), (79, .iload_n 1, 1)],
  [(80, .invokevirtual 102, 3), (83, .ifCond .eq 7, 3), (86, .iconst 1, 1), (87, .goto 4, 3), (90, .iconst 0, 1), (91, .ireturn, 1), (92, .aload_n 0, 1), (93, .bipush (-2), 2), (95, .invokevirtual 68, 3)],
  [(98, .ireturn, 1)]]
def mX5_bowl : x_M := (yX5_bowl, prog_1_method_4_code, 3, (some .int), kX5_bowl, IX5)
set_option maxRecDepth 100000 in
theorem decX5_bowl : x_dec mX5_bowl := by unfold x_dec; decide +kernel
theorem gX5_bowl : x_good mX5_bowl := ⟨by decide +kernel, decX5_bowl, okX5, rfl, x_tb_in (List.mem_of_getElem? (i := 383) (by decide +kernel)) rfl, iniX5, by decide +kernel, by decide +kernel⟩
theorem vX5_bowl : Cond.instanceMethod yX5_bowl ∈ x_tb ∧ Cond.selects RX5 yX5_bowl yX5_bowl ∈ x_tb := ⟨x_tb_in (List.mem_of_getElem? (i := 381) (by decide +kernel)) rfl, x_tb_in (List.mem_of_getElem? (i := 382) (by decide +kernel)) rfl⟩
def kX5_put : List (List (Nat × Instr × Nat)) := [[(0, .aload_n 0, 1), (1, .getfield 10, 3), (4, .iload_n 1, 1), (5, .invokevirtual 90, 3), (8, .ifCond .ne 9, 3), (11, .aload_n 0, 1), (12, .iconst (-1), 1), (13, .invokevirtual 68, 3)],
  [(16, .ireturn, 1), (17, .iload_n 2, 1), (18, .ifCond .ge 10, 3), (21, .aload_n 0, 1), (22, .bipush (-4), 2), (24, .invokevirtual 68, 3), (27, .ireturn, 1), (28, .iload_n 2, 1), (29, .bipush 20, 2), (31, .if_icmp .le 10, 3)],
  [(34, .aload_n 0, 1), (35, .bipush (-6), 2), (37, .invokevirtual 68, 3), (40, .ireturn, 1), (41, .aload_n 0, 1), (42, .getfield 10, 3), (45, .iload_n 1, 1), (46, .invokevirtual 96, 3)],
  [(49, .istore_n 3, 1), (50, .aload_n 0, 1), (51, .getfield 10, 3), (54, .iload_n 1, 1), (55, .iload_n 2, 1), (56, .invokevirtual 105, 3), (59, .iload_n 3, 1), (60, .ireturn, 1)]]
def mX5_put : x_M := (yX5_put, prog_1_method_5_code, 4, (some .int), kX5_put, IX5)
set_option maxRecDepth 100000 in
theorem decX5_put : x_dec mX5_put := by unfold x_dec; decide +kernel
theorem gX5_put : x_good mX5_put := ⟨by decide +kernel, decX5_put, okX5, rfl, x_tb_in (List.mem_of_getElem? (i := 395) (by decide +kernel)) rfl, iniX5, by decide +kernel, by decide +kernel⟩
theorem vX5_put : Cond.instanceMethod yX5_put ∈ x_tb ∧ Cond.selects RX5 yX5_put yX5_put ∈ x_tb := ⟨x_tb_in (List.mem_of_getElem? (i := 393) (by decide +kernel)) rfl, x_tb_in (List.mem_of_getElem? (i := 394) (by decide +kernel)) rfl⟩
def kX5_set : List (List (Nat × Instr × Nat)) := [[(0, .iload_n 1, 1), (1, .ifCond .lt 8, 3), (4, .iload_n 1, 1), (5, .iconst 2, 1), (6, .if_icmp .le 10, 3), (9, .aload_n 0, 1), (10, .bipush (-2), 2), (12, .invokevirtual 68, 3), (15, .ireturn, 1)],
  [(16, .iload_n 2, 1), (17, .iload_n 1, 1), (18, .ifCond .ne 7, 3), (21, .iconst 1, 1), (22, .goto 4, 3), (25, .iconst 0, 1), (26, .if_icmp .ge 10, 3), (29, .aload_n 0, 1), (30, .bipush (-4), 2)],
  [(32, .invokevirtual 68, 3), (35, .ireturn, 1), (36, .iload_n 2, 1), (37, .iload_n 1, 1), (38, .ifCond .ne 8, 3), (41, .bipush 9, 2), (43, .goto 4, 3), (46, .iconst 1, 1), (47, .if_icmp .le 10, 3)],
  [(50, .aload_n 0, 1), (51, .bipush (-6), 2), (53, .invokevirtual 68, 3), (56, .ireturn, 1), (57, .iload_n 1, 1), (58, .ifCond .ne 22, 3), (61, .aload_n 0, 1), (62, .getfield 10, 3)],
  [(65, .getfield 109, 3), (68, .istore_n 3, 1), (69, .aload_n 0, 1), (70, .getfield 10, 3), (73, .iload_n 2, 1), (74, .putfield 109, 3), (77, .goto 43, 3)],
  [(80, .iload_n 1, 1), (81, .iconst 1, 1), (82, .if_icmp .ne 22, 3), (85, .aload_n 0, 1), (86, .getfield 10, 3), (89, .getfield 112, 3), (92, .istore_n 3, 1), (93, .aload_n 0, 1), (94, .getfield 10, 3)],
  [(97, .iload_n 2, 1), (98, .putfield 112, 3), (101, .goto 19, 3), (104, .aload_n 0, 1), (105, .getfield 10, 3), (108, .getfield 115, 3), (111, .istore_n 3, 1)],
  [(112, .aload_n 0, 1), (113, .getfield 10, 3), (116, .iload_n 2, 1), (117, .putfield 115, 3), (120, .iload_n 3, 1), (121, .ireturn, 1)]]
def mX5_set : x_M := (yX5_set, prog_1_method_6_code, 4, (some .int), kX5_set, IX5)
set_option maxRecDepth 100000 in
theorem decX5_set : x_dec mX5_set := by unfold x_dec; decide +kernel
theorem gX5_set : x_good mX5_set := ⟨by decide +kernel, decX5_set, okX5, rfl, x_tb_in (List.mem_of_getElem? (i := 400) (by decide +kernel)) rfl, iniX5, by decide +kernel, by decide +kernel⟩
theorem vX5_set : Cond.instanceMethod yX5_set ∈ x_tb ∧ Cond.selects RX5 yX5_set yX5_set ∈ x_tb := ⟨x_tb_in (List.mem_of_getElem? (i := 398) (by decide +kernel)) rfl, x_tb_in (List.mem_of_getElem? (i := 399) (by decide +kernel)) rfl⟩
def kX5_move : List (List (Nat × Instr × Nat)) := [[(0, .aload_n 0, 1), (1, .getfield 10, 3), (4, .iload_n 1, 1), (5, .invokevirtual 90, 3), (8, .ifCond .ne 9, 3), (11, .aload_n 0, 1), (12, .iconst (-1), 1), (13, .invokevirtual 68, 3)],
  [(16, .ireturn, 1), (17, .aload_n 0, 1), (18, .getfield 10, 3), (21, .iload_n 1, 1), (22, .invokevirtual 118, 3), (25, .ifCond .ne 10, 3), (28, .aload_n 0, 1), (29, .bipush (-3), 2), (31, .invokevirtual 68, 3)],
  [(34, .ireturn, 1), (35, .aload_n 0, 1), (36, .getfield 10, 3), (39, .getfield 121, 3), (42, .sipush 999, 3), (45, .if_icmp .lt 10, 3)],
  [(48, .aload_n 0, 1), (49, .bipush (-6), 2), (51, .invokevirtual 68, 3), (54, .ireturn, 1), (55, .aload_n 0, 1), (56, .getfield 10, 3), (59, .iload_n 1, 1), (60, .invokevirtual 124, 3), (63, .aload_n 0, 1)],
  [(64, .getfield 10, 3), (67, .getfield 128, 3), (70, .ireturn, 1)]]
def mX5_move : x_M := (yX5_move, prog_1_method_7_code, 2, (some .int), kX5_move, IX5)
set_option maxRecDepth 100000 in
theorem decX5_move : x_dec mX5_move := by unfold x_dec; decide +kernel
theorem gX5_move : x_good mX5_move := ⟨by decide +kernel, decX5_move, okX5, rfl, x_tb_in (List.mem_of_getElem? (i := 404) (by decide +kernel)) rfl, iniX5, by decide +kernel, by decide +kernel⟩
theorem vX5_move : Cond.instanceMethod yX5_move ∈ x_tb ∧ Cond.selects RX5 yX5_move yX5_move ∈ x_tb := ⟨x_tb_in (List.mem_of_getElem? (i := 402) (by decide +kernel)) rfl, x_tb_in (List.mem_of_getElem? (i := 403) (by decide +kernel)) rfl⟩
def kX5_by : List (List (Nat × Instr × Nat)) := [[(0, .aload_n 0, 1), (1, .getfield 10, 3), (4, .iload_n 1, 1), (5, .invokevirtual 90, 3), (8, .ifCond .ne 9, 3), (11, .aload_n 0, 1), (12, .iconst (-1), 1), (13, .invokevirtual 68, 3)],
  [(16, .ireturn, 1), (17, .iload_n 2, 1), (18, .ifCond .lt 8, 3), (21, .iload_n 2, 1), (22, .iconst 4, 1), (23, .if_icmp .le 10, 3), (26, .aload_n 0, 1), (27, .bipush (-2), 2), (29, .invokevirtual 68, 3)],
  [(32, .ireturn, 1), (33, .aload_n 0, 1), (34, .iload_n 1, 1), (35, .invokevirtual 131, 3), (38, .ifCond .ne 10, 3), (41, .aload_n 0, 1), (42, .bipush (-3), 2), (44, .invokevirtual 68, 3), (47, .ireturn, 1)],
  [(48, .iload_n 2, 1), (49, .tableswitch 63 0 3 #[31, 39, 47, 55], 31)],
  [],
  [(80, .aload_n 0, 1), (81, .getfield 23, 3), (84, .getfield 134, 3), (87, .ireturn, 1), (88, .aload_n 0, 1), (89, .getfield 23, 3), (92, .getfield 137, 3), (95, .ireturn, 1)],
  [(96, .aload_n 0, 1), (97, .getfield 23, 3), (100, .getfield 140, 3), (103, .ireturn, 1), (104, .aload_n 0, 1), (105, .getfield 23, 3), (108, .getfield 128, 3), (111, .ireturn, 1)],
  [(112, .aload_n 0, 1), (113, .getfield 23, 3), (116, .invokevirtual 143, 3), (119, .ireturn, 1)]]
def mX5_by : x_M := (yX5_by, prog_1_method_8_code, 3, (some .int), kX5_by, IX5)
set_option maxRecDepth 100000 in
theorem decX5_by : x_dec mX5_by := by unfold x_dec; decide +kernel
theorem gX5_by : x_good mX5_by := ⟨by decide +kernel, decX5_by, okX5, rfl, x_tb_in (List.mem_of_getElem? (i := 410) (by decide +kernel)) rfl, iniX5, by decide +kernel, by decide +kernel⟩
theorem vX5_by : Cond.instanceMethod yX5_by ∈ x_tb ∧ Cond.selects RX5 yX5_by yX5_by ∈ x_tb := ⟨x_tb_in (List.mem_of_getElem? (i := 408) (by decide +kernel)) rfl, x_tb_in (List.mem_of_getElem? (i := 409) (by decide +kernel)) rfl⟩
def kX5_behind : List (List (Nat × Instr × Nat)) := [[(0, .aload_n 0, 1), (1, .getfield 10, 3), (4, .iload_n 1, 1), (5, .invokevirtual 90, 3), (8, .ifCond .eq 14, 3), (11, .aload_n 0, 1), (12, .getfield 10, 3), (15, .iload_n 2, 1)],
  [(16, .invokevirtual 90, 3), (19, .ifCond .ne 9, 3), (22, .aload_n 0, 1), (23, .iconst (-1), 1), (24, .invokevirtual 68, 3), (27, .ireturn, 1), (28, .aload_n 0, 1), (29, .iload_n 1, 1), (30, .invokevirtual 131, 3)],
  [(33, .ifCond .eq 14, 3), (36, .aload_n 0, 1), (37, .getfield 23, 3), (40, .iload_n 2, 1), (41, .invokevirtual 96, 3), (44, .goto 9, 3), (47, .aload_n 0, 1)],
  [(48, .bipush (-3), 2), (50, .invokevirtual 68, 3), (53, .ireturn, 1)]]
def mX5_behind : x_M := (yX5_behind, prog_1_method_9_code, 3, (some .int), kX5_behind, IX5)
set_option maxRecDepth 100000 in
theorem decX5_behind : x_dec mX5_behind := by unfold x_dec; decide +kernel
theorem gX5_behind : x_good mX5_behind := ⟨by decide +kernel, decX5_behind, okX5, rfl, x_tb_in (List.mem_of_getElem? (i := 422) (by decide +kernel)) rfl, iniX5, by decide +kernel, by decide +kernel⟩
theorem vX5_behind : Cond.instanceMethod yX5_behind ∈ x_tb ∧ Cond.selects RX5 yX5_behind yX5_behind ∈ x_tb := ⟨x_tb_in (List.mem_of_getElem? (i := 420) (by decide +kernel)) rfl, x_tb_in (List.mem_of_getElem? (i := 421) (by decide +kernel)) rfl⟩
def kX5_empties : List (List (Nat × Instr × Nat)) := [[(0, .aload_n 0, 1), (1, .getfield 10, 3), (4, .iload_n 1, 1), (5, .invokevirtual 90, 3), (8, .ifCond .ne 9, 3), (11, .aload_n 0, 1), (12, .iconst (-1), 1), (13, .invokevirtual 68, 3)],
  [(16, .ireturn, 1), (17, .aload_n 0, 1), (18, .iload_n 1, 1), (19, .invokevirtual 131, 3), (22, .ifCond .ne 10, 3), (25, .aload_n 0, 1), (26, .bipush (-3), 2), (28, .invokevirtual 68, 3), (31, .ireturn, 1)],
  [(32, .iconst 0, 1), (33, .istore_n 2, 1), (34, .iconst 0, 1), (35, .istore_n 3, 1), (36, .iload_n 3, 1), (37, .aload_n 0, 1), (38, .getfield 23, 3), (41, .getfield 147, 3), (44, .if_icmp .ge 26, 3), (47, .aload_n 0, 1)],
  [(48, .getfield 23, 3), (51, .iload_n 3, 1), (52, .invokevirtual 96, 3), (55, .ifCond .ne 9, 3), (58, .iload_n 2, 1), (59, .iconst 1, 1), (60, .iload_n 3, 1), (61, .ishl, 1), (62, .ior, 1), (63, .istore_n 2, 1)],
  [(64, .iinc 3 1, 3), (67, .goto (-31), 3), (70, .iload_n 2, 1), (71, .ireturn, 1)]]
def mX5_empties : x_M := (yX5_empties, prog_1_method_10_code, 4, (some .int), kX5_empties, IX5)
set_option maxRecDepth 100000 in
theorem decX5_empties : x_dec mX5_empties := by unfold x_dec; decide +kernel
theorem gX5_empties : x_good mX5_empties := ⟨by decide +kernel, decX5_empties, okX5, rfl, x_tb_in (List.mem_of_getElem? (i := 426) (by decide +kernel)) rfl, iniX5, by decide +kernel, by decide +kernel⟩
theorem vX5_empties : Cond.instanceMethod yX5_empties ∈ x_tb ∧ Cond.selects RX5 yX5_empties yX5_empties ∈ x_tb := ⟨x_tb_in (List.mem_of_getElem? (i := 424) (by decide +kernel)) rfl, x_tb_in (List.mem_of_getElem? (i := 425) (by decide +kernel)) rfl⟩
def kX5_longest : List (List (Nat × Instr × Nat)) := [[(0, .bipush (-9), 2), (2, .istore_n 1, 1), (3, .iconst 0, 1), (4, .istore_n 2, 1), (5, .iconst 0, 1), (6, .istore_n 3, 1), (7, .iload_n 3, 1), (8, .aload_n 0, 1), (9, .getfield 10, 3), (12, .getfield 147, 3), (15, .if_icmp .ge 38, 3)],
  [(18, .aload_n 0, 1), (19, .iload_n 3, 1), (20, .invokevirtual 131, 3), (23, .ifCond .eq 24, 3), (26, .aload_n 0, 1), (27, .getfield 23, 3), (30, .getfield 140, 3)],
  [(33, .iload_n 2, 1), (34, .if_icmp .le 13, 3), (37, .aload_n 0, 1), (38, .getfield 23, 3), (41, .getfield 140, 3), (44, .istore_n 2, 1), (45, .iload_n 3, 1), (46, .istore_n 1, 1), (47, .iinc 3 1, 3)],
  [(50, .goto (-43), 3), (53, .iload_n 1, 1), (54, .ireturn, 1)]]
def mX5_longest : x_M := (yX5_longest, prog_1_method_11_code, 4, (some .int), kX5_longest, IX5)
set_option maxRecDepth 100000 in
theorem decX5_longest : x_dec mX5_longest := by unfold x_dec; decide +kernel
theorem gX5_longest : x_good mX5_longest := ⟨by decide +kernel, decX5_longest, okX5, rfl, x_tb_in (List.mem_of_getElem? (i := 430) (by decide +kernel)) rfl, iniX5, by decide +kernel, by decide +kernel⟩
theorem vX5_longest : Cond.instanceMethod yX5_longest ∈ x_tb ∧ Cond.selects RX5 yX5_longest yX5_longest ∈ x_tb := ⟨x_tb_in (List.mem_of_getElem? (i := 428) (by decide +kernel)) rfl, x_tb_in (List.mem_of_getElem? (i := 429) (by decide +kernel)) rfl⟩
def kX5_best : List (List (Nat × Instr × Nat)) := [[(0, .iload_n 1, 1), (1, .iconst 1, 1), (2, .if_icmp .ge 10, 3), (5, .aload_n 0, 1), (6, .bipush (-4), 2), (8, .invokevirtual 68, 3), (11, .ireturn, 1), (12, .iload_n 1, 1), (13, .iconst 4, 1), (14, .if_icmp .le 10, 3)],
  [(17, .aload_n 0, 1), (18, .bipush (-6), 2), (20, .invokevirtual 68, 3), (23, .ireturn, 1), (24, .aload_n 0, 1), (25, .getfield 39, 3), (28, .aload_n 0, 1), (29, .getfield 10, 3)],
  [(32, .iload_n 1, 1), (33, .invokevirtual 148, 3), (36, .ireturn, 1)]]
def mX5_best : x_M := (yX5_best, prog_1_method_12_code, 2, (some .int), kX5_best, IX5)
set_option maxRecDepth 100000 in
theorem decX5_best : x_dec mX5_best := by unfold x_dec; decide +kernel
theorem gX5_best : x_good mX5_best := ⟨by decide +kernel, decX5_best, okX5, rfl, x_tb_in (List.mem_of_getElem? (i := 434) (by decide +kernel)) rfl, iniX5, by decide +kernel, by decide +kernel⟩
theorem vX5_best : Cond.instanceMethod yX5_best ∈ x_tb ∧ Cond.selects RX5 yX5_best yX5_best ∈ x_tb := ⟨x_tb_in (List.mem_of_getElem? (i := 432) (by decide +kernel)) rfl, x_tb_in (List.mem_of_getElem? (i := 433) (by decide +kernel)) rfl⟩
def kX5_worth : List (List (Nat × Instr × Nat)) := [[(0, .iload_n 1, 1), (1, .iconst 1, 1), (2, .if_icmp .ge 10, 3), (5, .aload_n 0, 1), (6, .bipush (-4), 2), (8, .invokevirtual 152, 3), (11, .ireturn, 1), (12, .iload_n 1, 1), (13, .iconst 4, 1), (14, .if_icmp .le 10, 3)],
  [(17, .aload_n 0, 1), (18, .bipush (-6), 2), (20, .invokevirtual 152, 3), (23, .ireturn, 1), (24, .aload_n 0, 1), (25, .getfield 39, 3), (28, .aload_n 0, 1), (29, .getfield 10, 3)],
  [(32, .iload_n 1, 1), (33, .invokevirtual 155, 3), (36, .ireturn, 1)]]
def mX5_worth : x_M := (yX5_worth, prog_1_method_13_code, 2, (some .int), kX5_worth, IX5)
set_option maxRecDepth 100000 in
theorem decX5_worth : x_dec mX5_worth := by unfold x_dec; decide +kernel
theorem gX5_worth : x_good mX5_worth := ⟨by decide +kernel, decX5_worth, okX5, rfl, x_tb_in (List.mem_of_getElem? (i := 455) (by decide +kernel)) rfl, iniX5, by decide +kernel, by decide +kernel⟩
theorem vX5_worth : Cond.instanceMethod yX5_worth ∈ x_tb ∧ Cond.selects RX5 yX5_worth yX5_worth ∈ x_tb := ⟨x_tb_in (List.mem_of_getElem? (i := 453) (by decide +kernel)) rfl, x_tb_in (List.mem_of_getElem? (i := 454) (by decide +kernel)) rfl⟩
def kX5_lost : List (List (Nat × Instr × Nat)) := [[(0, .iconst 0, 1), (1, .istore_n 1, 1), (2, .iload_n 1, 1), (3, .aload_n 0, 1), (4, .getfield 10, 3), (7, .getfield 147, 3), (10, .if_icmp .ge 22, 3), (13, .aload_n 0, 1), (14, .getfield 10, 3)],
  [(17, .iload_n 1, 1), (18, .invokevirtual 118, 3), (21, .ifCond .eq 5, 3), (24, .iconst 0, 1), (25, .ireturn, 1), (26, .iinc 1 1, 3), (29, .goto (-27), 3)],
  [(32, .iconst 1, 1), (33, .ireturn, 1)]]
def mX5_lost : x_M := (yX5_lost, prog_1_method_14_code, 2, (some .int), kX5_lost, IX5)
set_option maxRecDepth 100000 in
theorem decX5_lost : x_dec mX5_lost := by unfold x_dec; decide +kernel
theorem gX5_lost : x_good mX5_lost := ⟨by decide +kernel, decX5_lost, okX5, rfl, x_tb_in (List.mem_of_getElem? (i := 465) (by decide +kernel)) rfl, iniX5, by decide +kernel, by decide +kernel⟩
theorem vX5_lost : Cond.instanceMethod yX5_lost ∈ x_tb ∧ Cond.selects RX5 yX5_lost yX5_lost ∈ x_tb := ⟨x_tb_in (List.mem_of_getElem? (i := 463) (by decide +kernel)) rfl, x_tb_in (List.mem_of_getElem? (i := 464) (by decide +kernel)) rfl⟩
def kX5_back : List (List (Nat × Instr × Nat)) := [[(0, .aload_n 0, 1), (1, .getfield 10, 3), (4, .iload_n 1, 1), (5, .invokevirtual 90, 3), (8, .ifCond .ne 9, 3), (11, .aload_n 0, 1), (12, .iconst (-1), 1), (13, .invokevirtual 68, 3)],
  [(16, .ireturn, 1), (17, .aload_n 0, 1), (18, .getfield 23, 3), (21, .aload_n 0, 1), (22, .getfield 10, 3), (25, .invokevirtual 79, 3), (28, .iconst 1, 1), (29, .istore_n 2, 1), (30, .iload_n 2, 1), (31, .sipush 200, 3)],
  [(34, .if_icmp .gt 44, 3), (37, .aload_n 0, 1), (38, .getfield 23, 3), (41, .iload_n 1, 1), (42, .invokevirtual 118, 3), (45, .ifCond .eq 33, 3)],
  [(48, .aload_n 0, 1), (49, .getfield 23, 3), (52, .iload_n 1, 1), (53, .invokevirtual 124, 3), (56, .aload_n 0, 1), (57, .getfield 23, 3), (60, .aload_n 0, 1), (61, .getfield 10, 3)],
  [(64, .invokevirtual 158, 3), (67, .ifCond .eq 5, 3), (70, .iload_n 2, 1), (71, .ireturn, 1), (72, .iinc 2 1, 3), (75, .goto (-45), 3), (78, .bipush (-9), 2)],
  [(80, .ireturn, 1)]]
def mX5_back : x_M := (yX5_back, prog_1_method_15_code, 3, (some .int), kX5_back, IX5)
set_option maxRecDepth 100000 in
theorem decX5_back : x_dec mX5_back := by unfold x_dec; decide +kernel
theorem gX5_back : x_good mX5_back := ⟨by decide +kernel, decX5_back, okX5, rfl, x_tb_in (List.mem_of_getElem? (i := 469) (by decide +kernel)) rfl, iniX5, by decide +kernel, by decide +kernel⟩
theorem vX5_back : Cond.instanceMethod yX5_back ∈ x_tb ∧ Cond.selects RX5 yX5_back yX5_back ∈ x_tb := ⟨x_tb_in (List.mem_of_getElem? (i := 467) (by decide +kernel)) rfl, x_tb_in (List.mem_of_getElem? (i := 468) (by decide +kernel)) rfl⟩
def kX5_loop : List (List (Nat × Instr × Nat)) := [[(0, .aload_n 0, 1), (1, .getfield 10, 3), (4, .iload_n 1, 1), (5, .invokevirtual 90, 3), (8, .ifCond .ne 9, 3), (11, .aload_n 0, 1), (12, .iconst (-1), 1), (13, .invokevirtual 68, 3)],
  [(16, .ireturn, 1), (17, .iload_n 2, 1), (18, .ifCond .lt 8, 3), (21, .iload_n 2, 1), (22, .iconst 1, 1), (23, .if_icmp .le 10, 3), (26, .aload_n 0, 1), (27, .bipush (-2), 2), (29, .invokevirtual 68, 3)],
  [(32, .ireturn, 1), (33, .aload_n 0, 1), (34, .iload_n 1, 1), (35, .invokevirtual 162, 3), (38, .istore_n 3, 1), (39, .iload_n 3, 1), (40, .bipush (-9), 2), (42, .if_icmp .ne 6, 3), (45, .bipush (-9), 2), (47, .ireturn, 1)],
  [(48, .aload_n 0, 1), (49, .iload_n 1, 1), (50, .iload_n 3, 1), (51, .invokevirtual 165, 3), (54, .istore 4, 2), (56, .iload_n 2, 1), (57, .ifCond .eq 10, 3), (60, .iload 4, 2), (62, .bipush (-9), 2)],
  [(64, .if_icmp .ne 8, 3), (67, .iload 4, 2), (69, .goto 4, 3), (72, .iload_n 3, 1), (73, .ireturn, 1)]]
def mX5_loop : x_M := (yX5_loop, prog_1_method_16_code, 5, (some .int), kX5_loop, IX5)
set_option maxRecDepth 100000 in
theorem decX5_loop : x_dec mX5_loop := by unfold x_dec; decide +kernel
theorem gX5_loop : x_good mX5_loop := ⟨by decide +kernel, decX5_loop, okX5, rfl, x_tb_in (List.mem_of_getElem? (i := 477) (by decide +kernel)) rfl, iniX5, by decide +kernel, by decide +kernel⟩
theorem vX5_loop : Cond.instanceMethod yX5_loop ∈ x_tb ∧ Cond.selects RX5 yX5_loop yX5_loop ∈ x_tb := ⟨x_tb_in (List.mem_of_getElem? (i := 475) (by decide +kernel)) rfl, x_tb_in (List.mem_of_getElem? (i := 476) (by decide +kernel)) rfl⟩
def kX5_toEmpty : List (List (Nat × Instr × Nat)) := [[(0, .aload_n 0, 1), (1, .getfield 10, 3), (4, .iload_n 1, 1), (5, .invokevirtual 90, 3), (8, .ifCond .ne 9, 3), (11, .aload_n 0, 1), (12, .iconst (-1), 1), (13, .invokevirtual 68, 3)],
  [(16, .ireturn, 1), (17, .iload_n 2, 1), (18, .ifCond .lt 8, 3), (21, .iload_n 2, 1), (22, .iconst 1, 1), (23, .if_icmp .le 10, 3), (26, .aload_n 0, 1), (27, .bipush (-2), 2), (29, .invokevirtual 68, 3)],
  [(32, .ireturn, 1), (33, .aload_n 0, 1), (34, .getfield 46, 3), (37, .aload_n 0, 1), (38, .getfield 10, 3), (41, .iload_n 1, 1), (42, .invokevirtual 169, 3), (45, .iload_n 2, 1), (46, .ifCond .ne 13, 3)],
  [(49, .aload_n 0, 1), (50, .getfield 46, 3), (53, .getfield 173, 3), (56, .goto 10, 3), (59, .aload_n 0, 1), (60, .getfield 46, 3), (63, .getfield 174, 3)],
  [(66, .ireturn, 1)]]
def mX5_toEmpty : x_M := (yX5_toEmpty, prog_1_method_17_code, 3, (some .int), kX5_toEmpty, IX5)
set_option maxRecDepth 100000 in
theorem decX5_toEmpty : x_dec mX5_toEmpty := by unfold x_dec; decide +kernel
theorem gX5_toEmpty : x_good mX5_toEmpty := ⟨by decide +kernel, decX5_toEmpty, okX5, rfl, x_tb_in (List.mem_of_getElem? (i := 490) (by decide +kernel)) rfl, iniX5, by decide +kernel, by decide +kernel⟩
theorem vX5_toEmpty : Cond.instanceMethod yX5_toEmpty ∈ x_tb ∧ Cond.selects RX5 yX5_toEmpty yX5_toEmpty ∈ x_tb := ⟨x_tb_in (List.mem_of_getElem? (i := 488) (by decide +kernel)) rfl, x_tb_in (List.mem_of_getElem? (i := 489) (by decide +kernel)) rfl⟩
def kX5_price : List (List (Nat × Instr × Nat)) := [[(0, .aload_n 0, 1), (1, .getfield 10, 3), (4, .iload_n 1, 1), (5, .invokevirtual 90, 3), (8, .ifCond .ne 9, 3), (11, .aload_n 0, 1), (12, .iconst (-1), 1), (13, .invokevirtual 152, 3)],
  [(16, .ireturn, 1), (17, .aload_n 0, 1), (18, .iload_n 1, 1), (19, .iconst 1, 1), (20, .invokevirtual 177, 3), (23, .ireturn, 1)]]
def mX5_price : x_M := (yX5_price, prog_1_method_18_code, 2, (some .int), kX5_price, IX5)
set_option maxRecDepth 100000 in
theorem decX5_price : x_dec mX5_price := by unfold x_dec; decide +kernel
theorem gX5_price : x_good mX5_price := ⟨by decide +kernel, decX5_price, okX5, rfl, x_tb_in (List.mem_of_getElem? (i := 523) (by decide +kernel)) rfl, iniX5, by decide +kernel, by decide +kernel⟩
theorem vX5_price : Cond.instanceMethod yX5_price ∈ x_tb ∧ Cond.selects RX5 yX5_price yX5_price ∈ x_tb := ⟨x_tb_in (List.mem_of_getElem? (i := 521) (by decide +kernel)) rfl, x_tb_in (List.mem_of_getElem? (i := 522) (by decide +kernel)) rfl⟩
def kX5_sold : List (List (Nat × Instr × Nat)) := [[(0, .aload_n 0, 1), (1, .getfield 10, 3), (4, .iload_n 1, 1), (5, .invokevirtual 90, 3), (8, .ifCond .ne 9, 3), (11, .aload_n 0, 1), (12, .iconst (-1), 1), (13, .invokevirtual 152, 3)],
  [(16, .ireturn, 1), (17, .aload_n 0, 1), (18, .getfield 10, 3), (21, .iload_n 1, 1), (22, .invokevirtual 96, 3), (25, .ifCond .ne 10, 3), (28, .aload_n 0, 1), (29, .bipush (-3), 2), (31, .invokevirtual 152, 3)],
  [(34, .ireturn, 1), (35, .aload_n 0, 1), (36, .iload_n 1, 1), (37, .iconst (-1), 1), (38, .invokevirtual 177, 3), (41, .ireturn, 1)]]
def mX5_sold : x_M := (yX5_sold, prog_1_method_19_code, 2, (some .int), kX5_sold, IX5)
set_option maxRecDepth 100000 in
theorem decX5_sold : x_dec mX5_sold := by unfold x_dec; decide +kernel
theorem gX5_sold : x_good mX5_sold := ⟨by decide +kernel, decX5_sold, okX5, rfl, x_tb_in (List.mem_of_getElem? (i := 531) (by decide +kernel)) rfl, iniX5, by decide +kernel, by decide +kernel⟩
theorem vX5_sold : Cond.instanceMethod yX5_sold ∈ x_tb ∧ Cond.selects RX5 yX5_sold yX5_sold ∈ x_tb := ⟨x_tb_in (List.mem_of_getElem? (i := 529) (by decide +kernel)) rfl, x_tb_in (List.mem_of_getElem? (i := 530) (by decide +kernel)) rfl⟩
def kX5_change : List (List (Nat × Instr × Nat)) := [[(0, .bipush (-9), 2), (2, .istore_n 1, 1), (3, .aload_n 0, 1), (4, .getfield 39, 3), (7, .aload_n 0, 1), (8, .getfield 10, 3), (11, .iconst 2, 1), (12, .invokevirtual 155, 3), (15, .istore_n 2, 1)],
  [(16, .iconst 0, 1), (17, .istore_n 3, 1), (18, .iload_n 3, 1), (19, .aload_n 0, 1), (20, .getfield 10, 3), (23, .getfield 147, 3), (26, .if_icmp .ge 84, 3), (29, .iload_n 3, 1), (30, .iconst 1, 1), (31, .iadd, 1)],
  [(32, .istore 4, 2), (34, .iload 4, 2), (36, .aload_n 0, 1), (37, .getfield 10, 3), (40, .getfield 147, 3), (43, .if_icmp .ge 61, 3), (46, .aload_n 0, 1), (47, .getfield 23, 3)],
  [(50, .aload_n 0, 1), (51, .getfield 10, 3), (54, .invokevirtual 79, 3), (57, .aload_n 0, 1), (58, .getfield 23, 3), (61, .iload_n 3, 1), (62, .iload 4, 2)],
  [(64, .invokevirtual 180, 3), (67, .aload_n 0, 1), (68, .getfield 39, 3), (71, .aload_n 0, 1), (72, .getfield 23, 3), (75, .iconst 2, 1), (76, .invokevirtual 155, 3), (79, .istore 5, 2)],
  [(81, .iload 5, 2), (83, .iload_n 2, 1), (84, .if_icmp .le 14, 3), (87, .iload 5, 2), (89, .istore_n 2, 1), (90, .bipush 10, 2), (92, .iload_n 3, 1), (93, .imul, 1), (94, .iload 4, 2)],
  [(96, .iadd, 1), (97, .istore_n 1, 1), (98, .iinc 4 1, 3), (101, .goto (-67), 3), (104, .iinc 3 1, 3), (107, .goto (-89), 3), (110, .iload_n 1, 1), (111, .ireturn, 1)]]
def mX5_change : x_M := (yX5_change, prog_1_method_20_code, 6, (some .int), kX5_change, IX5)
set_option maxRecDepth 100000 in
theorem decX5_change : x_dec mX5_change := by unfold x_dec; decide +kernel
theorem gX5_change : x_good mX5_change := ⟨by decide +kernel, decX5_change, okX5, rfl, x_tb_in (List.mem_of_getElem? (i := 535) (by decide +kernel)) rfl, iniX5, by decide +kernel, by decide +kernel⟩
theorem vX5_change : Cond.instanceMethod yX5_change ∈ x_tb ∧ Cond.selects RX5 yX5_change yX5_change ∈ x_tb := ⟨x_tb_in (List.mem_of_getElem? (i := 533) (by decide +kernel)) rfl, x_tb_in (List.mem_of_getElem? (i := 534) (by decide +kernel)) rfl⟩
def kX5_fair : List (List (Nat × Instr × Nat)) := [[(0, .iconst 1, 1), (1, .istore_n 1, 1), (2, .iload_n 1, 1), (3, .bipush 9, 2), (5, .if_icmp .gt 65, 3), (8, .aload_n 0, 1), (9, .getfield 23, 3), (12, .aload_n 0, 1), (13, .getfield 10, 3)],
  [(16, .invokevirtual 79, 3), (19, .iconst 0, 1), (20, .istore_n 2, 1), (21, .iload_n 2, 1), (22, .aload_n 0, 1), (23, .getfield 23, 3), (26, .getfield 147, 3), (29, .if_icmp .ge 18, 3)],
  [(32, .aload_n 0, 1), (33, .getfield 23, 3), (36, .iload_n 2, 1), (37, .iload_n 1, 1), (38, .invokevirtual 105, 3), (41, .iinc 2 1, 3), (44, .goto (-23), 3), (47, .aload_n 0, 1)],
  [(48, .getfield 39, 3), (51, .aload_n 0, 1), (52, .getfield 23, 3), (55, .iconst 2, 1), (56, .invokevirtual 155, 3), (59, .ifCond .ne 5, 3), (62, .iload_n 1, 1), (63, .ireturn, 1)],
  [(64, .iinc 1 1, 3), (67, .goto (-65), 3), (70, .bipush (-9), 2), (72, .ireturn, 1)]]
def mX5_fair : x_M := (yX5_fair, prog_1_method_21_code, 3, (some .int), kX5_fair, IX5)
set_option maxRecDepth 100000 in
theorem decX5_fair : x_dec mX5_fair := by unfold x_dec; decide +kernel
theorem gX5_fair : x_good mX5_fair := ⟨by decide +kernel, decX5_fair, okX5, rfl, x_tb_in (List.mem_of_getElem? (i := 540) (by decide +kernel)) rfl, iniX5, by decide +kernel, by decide +kernel⟩
theorem vX5_fair : Cond.instanceMethod yX5_fair ∈ x_tb ∧ Cond.selects RX5 yX5_fair yX5_fair ∈ x_tb := ⟨x_tb_in (List.mem_of_getElem? (i := 538) (by decide +kernel)) rfl, x_tb_in (List.mem_of_getElem? (i := 539) (by decide +kernel)) rfl⟩
def kX5_sounds : List (List (Nat × Instr × Nat)) := [[(0, .aload_n 0, 1), (1, .iload_n 1, 1), (2, .invokevirtual 183, 3), (5, .istore_n 2, 1), (6, .iload_n 2, 1), (7, .ifCond .eq 9, 3), (10, .aload_n 0, 1), (11, .iload_n 2, 1), (12, .invokevirtual 68, 3), (15, .ireturn, 1)],
  [(16, .aload_n 0, 1), (17, .getfield 53, 3), (20, .aload_n 0, 1), (21, .getfield 10, 3), (24, .aload_n 0, 1), (25, .getfield 57, 3), (28, .iload_n 1, 1), (29, .invokevirtual 186, 3)],
  [(32, .ldc2_w 190, 3), (35, .invokestatic 192, 3), (38, .l2i, 1), (39, .ireturn, 1)]]
def mX5_sounds : x_M := (yX5_sounds, prog_1_method_22_code, 3, (some .int), kX5_sounds, IX5)
set_option maxRecDepth 100000 in
theorem decX5_sounds : x_dec mX5_sounds := by unfold x_dec; decide +kernel
theorem gX5_sounds : x_good mX5_sounds := ⟨by decide +kernel, decX5_sounds, okX5, rfl, x_tb_in (List.mem_of_getElem? (i := 544) (by decide +kernel)) rfl, iniX5, by decide +kernel, by decide +kernel⟩
theorem vX5_sounds : Cond.instanceMethod yX5_sounds ∈ x_tb ∧ Cond.selects RX5 yX5_sounds yX5_sounds ∈ x_tb := ⟨x_tb_in (List.mem_of_getElem? (i := 542) (by decide +kernel)) rfl, x_tb_in (List.mem_of_getElem? (i := 543) (by decide +kernel)) rfl⟩
def kX5_next : List (List (Nat × Instr × Nat)) := [[(0, .aload_n 0, 1), (1, .iload_n 1, 1), (2, .invokevirtual 183, 3), (5, .istore_n 2, 1), (6, .iload_n 2, 1), (7, .ifCond .eq 11, 3), (10, .aload_n 0, 1), (11, .iload_n 2, 1), (12, .invokevirtual 68, 3), (15, .goto 19, 3)],
  [(18, .aload_n 0, 1), (19, .getfield 53, 3), (22, .aload_n 0, 1), (23, .getfield 10, 3), (26, .aload_n 0, 1), (27, .getfield 57, 3), (30, .iload_n 1, 1), (31, .invokevirtual 198, 3)],
  [(34, .ireturn, 1)]]
def mX5_next : x_M := (yX5_next, prog_1_method_23_code, 3, (some .int), kX5_next, IX5)
set_option maxRecDepth 100000 in
theorem decX5_next : x_dec mX5_next := by unfold x_dec; decide +kernel
theorem gX5_next : x_good mX5_next := ⟨by decide +kernel, decX5_next, okX5, rfl, x_tb_in (List.mem_of_getElem? (i := 572) (by decide +kernel)) rfl, iniX5, by decide +kernel, by decide +kernel⟩
theorem vX5_next : Cond.instanceMethod yX5_next ∈ x_tb ∧ Cond.selects RX5 yX5_next yX5_next ∈ x_tb := ⟨x_tb_in (List.mem_of_getElem? (i := 570) (by decide +kernel)) rfl, x_tb_in (List.mem_of_getElem? (i := 571) (by decide +kernel)) rfl⟩
def kX5_played : List (List (Nat × Instr × Nat)) := [[(0, .iload_n 1, 1), (1, .ifCond .lt 8, 3), (4, .iload_n 1, 1), (5, .iconst 1, 1), (6, .if_icmp .le 10, 3), (9, .aload_n 0, 1), (10, .bipush (-2), 2), (12, .invokevirtual 68, 3), (15, .ireturn, 1)],
  [(16, .aload_n 0, 1), (17, .invokevirtual 202, 3), (20, .pop, 1), (21, .aload_n 0, 1), (22, .getfield 23, 3), (25, .iload_n 1, 1), (26, .invokevirtual 205, 3), (29, .ireturn, 1)]]
def mX5_played : x_M := (yX5_played, prog_1_method_24_code, 2, (some .int), kX5_played, IX5)
set_option maxRecDepth 100000 in
theorem decX5_played : x_dec mX5_played := by unfold x_dec; decide +kernel
theorem gX5_played : x_good mX5_played := ⟨by decide +kernel, decX5_played, okX5, rfl, x_tb_in (List.mem_of_getElem? (i := 584) (by decide +kernel)) rfl, iniX5, by decide +kernel, by decide +kernel⟩
theorem vX5_played : Cond.instanceMethod yX5_played ∈ x_tb ∧ Cond.selects RX5 yX5_played yX5_played ∈ x_tb := ⟨x_tb_in (List.mem_of_getElem? (i := 582) (by decide +kernel)) rfl, x_tb_in (List.mem_of_getElem? (i := 583) (by decide +kernel)) rfl⟩
def kX5_row : List (List (Nat × Instr × Nat)) := [[(0, .iload_n 1, 1), (1, .ifCond .ge 10, 3), (4, .aload_n 0, 1), (5, .bipush (-4), 2), (7, .invokevirtual 68, 3), (10, .ireturn, 1), (11, .iload_n 1, 1), (12, .bipush 9, 2), (14, .if_icmp .gt 22, 3)],
  [(17, .aload_n 0, 1), (18, .getfield 61, 3), (21, .ifCond .lt 15, 3), (24, .aload_n 0, 1), (25, .getfield 61, 3), (28, .aload_n 0, 1), (29, .getfield 57, 3)],
  [(32, .arraylength, 1), (33, .if_icmp .lt 10, 3), (36, .aload_n 0, 1), (37, .bipush (-6), 2), (39, .invokevirtual 68, 3), (42, .ireturn, 1), (43, .aload_n 0, 1), (44, .getfield 57, 3), (47, .aload_n 0, 1)],
  [(48, .getfield 61, 3), (51, .iload_n 1, 1), (52, .iastore, 1), (53, .aload_n 0, 1), (54, .dup, 1), (55, .getfield 61, 3), (58, .iconst 1, 1), (59, .iadd, 1), (60, .putfield 61, 3), (63, .aload_n 0, 1)],
  [(64, .getfield 61, 3), (67, .ireturn, 1)]]
def mX5_row : x_M := (yX5_row, prog_1_method_25_code, 2, (some .int), kX5_row, IX5)
set_option maxRecDepth 100000 in
theorem decX5_row : x_dec mX5_row := by unfold x_dec; decide +kernel
theorem gX5_row : x_good mX5_row := ⟨by decide +kernel, decX5_row, okX5, rfl, x_tb_in (List.mem_of_getElem? (i := 596) (by decide +kernel)) rfl, iniX5, by decide +kernel, by decide +kernel⟩
theorem vX5_row : Cond.instanceMethod yX5_row ∈ x_tb ∧ Cond.selects RX5 yX5_row yX5_row ∈ x_tb := ⟨x_tb_in (List.mem_of_getElem? (i := 594) (by decide +kernel)) rfl, x_tb_in (List.mem_of_getElem? (i := 595) (by decide +kernel)) rfl⟩
def kX5_judge : List (List (Nat × Instr × Nat)) := [[(0, .aload_n 0, 1), (1, .invokevirtual 202, 3), (4, .istore_n 1, 1), (5, .iload_n 1, 1), (6, .aload_n 0, 1), (7, .getfield 61, 3), (10, .if_icmp .ge 7, 3), (13, .iload_n 1, 1), (14, .goto 5, 3)],
  [(17, .bipush (-9), 2), (19, .istore_n 2, 1), (20, .aload_n 0, 1), (21, .iconst 0, 1), (22, .putfield 61, 3), (25, .iload_n 2, 1), (26, .ireturn, 1)]]
def mX5_judge : x_M := (yX5_judge, prog_1_method_26_code, 3, (some .int), kX5_judge, IX5)
set_option maxRecDepth 100000 in
theorem decX5_judge : x_dec mX5_judge := by unfold x_dec; decide +kernel
theorem gX5_judge : x_good mX5_judge := ⟨by decide +kernel, decX5_judge, okX5, rfl, x_tb_in (List.mem_of_getElem? (i := 600) (by decide +kernel)) rfl, iniX5, by decide +kernel, by decide +kernel⟩
theorem vX5_judge : Cond.instanceMethod yX5_judge ∈ x_tb ∧ Cond.selects RX5 yX5_judge yX5_judge ∈ x_tb := ⟨x_tb_in (List.mem_of_getElem? (i := 598) (by decide +kernel)) rfl, x_tb_in (List.mem_of_getElem? (i := 599) (by decide +kernel)) rfl⟩
def kX5_lots : List (List (Nat × Instr × Nat)) := [[(0, .iload_n 1, 1), (1, .iconst 1, 1), (2, .if_icmp .ge 10, 3), (5, .aload_n 0, 1), (6, .bipush (-4), 2), (8, .invokevirtual 152, 3), (11, .ireturn, 1), (12, .iload_n 1, 1), (13, .bipush 20, 2), (15, .if_icmp .le 10, 3)],
  [(18, .aload_n 0, 1), (19, .bipush (-6), 2), (21, .invokevirtual 152, 3), (24, .ireturn, 1), (25, .aload_n 0, 1), (26, .getfield 10, 3), (29, .getfield 147, 3)],
  [(32, .iconst 2, 1), (33, .if_icmp .ge 10, 3), (36, .aload_n 0, 1), (37, .bipush (-3), 2), (39, .invokevirtual 152, 3), (42, .ireturn, 1), (43, .iload_n 2, 1), (44, .istore_n 3, 1), (45, .iconst 0, 1), (46, .istore 4, 2)],
  [(48, .iconst 0, 1), (49, .istore 5, 2), (51, .iload 5, 2), (53, .iload_n 1, 1), (54, .if_icmp .ge 62, 3), (57, .aload_n 0, 1), (58, .getfield 23, 3), (61, .aload_n 0, 1), (62, .getfield 10, 3)],
  [(65, .invokevirtual 79, 3), (68, .aload_n 0, 1), (69, .iload_n 3, 1), (70, .invokevirtual 208, 3), (73, .istore_n 3, 1), (74, .iload 4, 2), (76, .aload_n 0, 1), (77, .getfield 23, 3)],
  [(80, .aload_n 0, 1), (81, .getfield 10, 3), (84, .getfield 115, 3), (87, .invokevirtual 205, 3), (90, .aload_n 0, 1), (91, .getfield 23, 3), (94, .iconst 1, 1), (95, .aload_n 0, 1)],
  [(96, .getfield 10, 3), (99, .getfield 115, 3), (102, .isub, 1), (103, .invokevirtual 205, 3), (106, .isub, 1), (107, .iadd, 1), (108, .istore 4, 2), (110, .iinc 5 1, 3)],
  [(113, .goto (-62), 3), (116, .iload 4, 2), (118, .ireturn, 1)]]
def mX5_lots : x_M := (yX5_lots, prog_1_method_27_code, 6, (some .int), kX5_lots, IX5)
set_option maxRecDepth 100000 in
theorem decX5_lots : x_dec mX5_lots := by unfold x_dec; decide +kernel
theorem gX5_lots : x_good mX5_lots := ⟨by decide +kernel, decX5_lots, okX5, rfl, x_tb_in (List.mem_of_getElem? (i := 604) (by decide +kernel)) rfl, iniX5, by decide +kernel, by decide +kernel⟩
theorem vX5_lots : Cond.instanceMethod yX5_lots ∈ x_tb ∧ Cond.selects RX5 yX5_lots yX5_lots ∈ x_tb := ⟨x_tb_in (List.mem_of_getElem? (i := 602) (by decide +kernel)) rfl, x_tb_in (List.mem_of_getElem? (i := 603) (by decide +kernel)) rfl⟩
def kX5_image : List (List (Nat × Instr × Nat)) := [[(0, .aload_n 0, 1), (1, .getfield 16, 3), (4, .aload_n 0, 1), (5, .getfield 10, 3), (8, .invokevirtual 79, 3), (11, .aload_n 0, 1), (12, .iconst 1, 1), (13, .putfield 19, 3)],
  [(16, .aload_n 0, 1), (17, .getfield 10, 3), (20, .getfield 121, 3), (23, .ireturn, 1)]]
def mX5_image : x_M := (yX5_image, prog_1_method_28_code, 1, (some .int), kX5_image, IX5)
set_option maxRecDepth 100000 in
theorem decX5_image : x_dec mX5_image := by unfold x_dec; decide +kernel
theorem gX5_image : x_good mX5_image := ⟨by decide +kernel, decX5_image, okX5, rfl, x_tb_in (List.mem_of_getElem? (i := 615) (by decide +kernel)) rfl, iniX5, by decide +kernel, by decide +kernel⟩
theorem vX5_image : Cond.instanceMethod yX5_image ∈ x_tb ∧ Cond.selects RX5 yX5_image yX5_image ∈ x_tb := ⟨x_tb_in (List.mem_of_getElem? (i := 613) (by decide +kernel)) rfl, x_tb_in (List.mem_of_getElem? (i := 614) (by decide +kernel)) rfl⟩
def kX5_on : List (List (Nat × Instr × Nat)) := [[(0, .aload_n 0, 1), (1, .getfield 19, 3), (4, .ifCond .ne 10, 3), (7, .aload_n 0, 1), (8, .bipush (-3), 2), (10, .invokevirtual 68, 3), (13, .ireturn, 1), (14, .aload_n 0, 1), (15, .getfield 10, 3)],
  [(18, .aload_n 0, 1), (19, .getfield 16, 3), (22, .invokevirtual 79, 3), (25, .aload_n 0, 1), (26, .getfield 10, 3), (29, .getfield 121, 3)],
  [(32, .ireturn, 1)]]
def mX5_on : x_M := (yX5_on, prog_1_method_29_code, 1, (some .int), kX5_on, IX5)
set_option maxRecDepth 100000 in
theorem decX5_on : x_dec mX5_on := by unfold x_dec; decide +kernel
theorem gX5_on : x_good mX5_on := ⟨by decide +kernel, decX5_on, okX5, rfl, x_tb_in (List.mem_of_getElem? (i := 619) (by decide +kernel)) rfl, iniX5, by decide +kernel, by decide +kernel⟩
theorem vX5_on : Cond.instanceMethod yX5_on ∈ x_tb ∧ Cond.selects RX5 yX5_on yX5_on ∈ x_tb := ⟨x_tb_in (List.mem_of_getElem? (i := 617) (by decide +kernel)) rfl, x_tb_in (List.mem_of_getElem? (i := 618) (by decide +kernel)) rfl⟩
def kX5_count : List (List (Nat × Instr × Nat)) := [[(0, .iload_n 1, 1), (1, .tableswitch 134 0 9 #[55, 63, 71, 80, 89, 97, 105, 113, 121, 126], 55)],
  [],
  [],
  [(56, .aload_n 0, 1), (57, .getfield 10, 3), (60, .getfield 147, 3), (63, .ireturn, 1)],
  [(64, .aload_n 0, 1), (65, .getfield 10, 3), (68, .invokevirtual 143, 3), (71, .ireturn, 1), (72, .aload_n 0, 1), (73, .getfield 10, 3), (76, .iconst 0, 1), (77, .invokevirtual 205, 3)],
  [(80, .ireturn, 1), (81, .aload_n 0, 1), (82, .getfield 10, 3), (85, .iconst 1, 1), (86, .invokevirtual 205, 3), (89, .ireturn, 1), (90, .aload_n 0, 1), (91, .getfield 10, 3), (94, .getfield 115, 3)],
  [(97, .ireturn, 1), (98, .aload_n 0, 1), (99, .getfield 10, 3), (102, .getfield 121, 3), (105, .ireturn, 1), (106, .aload_n 0, 1), (107, .getfield 10, 3), (110, .getfield 109, 3)],
  [(113, .ireturn, 1), (114, .aload_n 0, 1), (115, .getfield 10, 3), (118, .getfield 112, 3), (121, .ireturn, 1), (122, .aload_n 0, 1), (123, .getfield 61, 3), (126, .ireturn, 1), (127, .aload_n 0, 1)],
  [(128, .getfield 32, 3), (131, .getfield 76, 3), (134, .ireturn, 1), (135, .iload_n 1, 1), (136, .bipush 11, 2), (138, .if_icmp .lt 21, 3), (141, .iload_n 1, 1), (142, .bipush 16, 2)],
  [(144, .if_icmp .gt 15, 3), (147, .aload_n 0, 1), (148, .getfield 65, 3), (151, .iload_n 1, 1), (152, .bipush 10, 2), (154, .isub, 1), (155, .iaload, 1), (156, .goto 5, 3), (159, .bipush (-9), 2)],
  [(161, .ireturn, 1)]]
def mX5_count : x_M := (yX5_count, prog_1_method_30_code, 2, (some .int), kX5_count, IX5)
set_option maxRecDepth 100000 in
theorem decX5_count : x_dec mX5_count := by unfold x_dec; decide +kernel
theorem gX5_count : x_good mX5_count := ⟨by decide +kernel, decX5_count, okX5, rfl, x_tb_in (List.mem_of_getElem? (i := 623) (by decide +kernel)) rfl, iniX5, by decide +kernel, by decide +kernel⟩
theorem vX5_count : Cond.instanceMethod yX5_count ∈ x_tb ∧ Cond.selects RX5 yX5_count yX5_count ∈ x_tb := ⟨x_tb_in (List.mem_of_getElem? (i := 621) (by decide +kernel)) rfl, x_tb_in (List.mem_of_getElem? (i := 622) (by decide +kernel)) rfl⟩
def kX5_refuse : List (List (Nat × Instr × Nat)) := [[(0, .iload_n 1, 1), (1, .ineg, 1), (2, .istore_n 2, 1), (3, .iload_n 2, 1), (4, .ifCond .lt 22, 3), (7, .iload_n 2, 1), (8, .aload_n 0, 1), (9, .getfield 65, 3), (12, .arraylength, 1), (13, .if_icmp .ge 13, 3)],
  [(16, .aload_n 0, 1), (17, .getfield 65, 3), (20, .iload_n 2, 1), (21, .dup2, 1), (22, .iaload, 1), (23, .iconst 1, 1), (24, .iadd, 1), (25, .iastore, 1), (26, .iload_n 1, 1), (27, .ireturn, 1)]]
def mX5_refuse : x_M := (yX5_refuse, prog_1_method_31_code, 3, (some .int), kX5_refuse, IX5)
set_option maxRecDepth 100000 in
theorem decX5_refuse : x_dec mX5_refuse := by unfold x_dec; decide +kernel
theorem gX5_refuse : x_good mX5_refuse := ⟨by decide +kernel, decX5_refuse, okX5, rfl, x_tb_in (List.mem_of_getElem? (i := 257) (by decide +kernel)) rfl, iniX5, by decide +kernel, by decide +kernel⟩
theorem vX5_refuse : Cond.instanceMethod yX5_refuse ∈ x_tb ∧ Cond.selects RX5 yX5_refuse yX5_refuse ∈ x_tb := ⟨x_tb_in (List.mem_of_getElem? (i := 256) (by decide +kernel)) rfl, x_tb_in (List.mem_of_getElem? (i := 0) (by decide +kernel)) rfl⟩
def kX5_refuseFar : List (List (Nat × Instr × Nat)) := [[(0, .ldc 211, 2), (2, .aload_n 0, 1), (3, .iload_n 1, 1), (4, .invokevirtual 68, 3), (7, .isub, 1), (8, .ireturn, 1)]]
def mX5_refuseFar : x_M := (yX5_refuseFar, prog_1_method_32_code, 2, (some .int), kX5_refuseFar, IX5)
set_option maxRecDepth 100000 in
theorem decX5_refuseFar : x_dec mX5_refuseFar := by unfold x_dec; decide +kernel
theorem gX5_refuseFar : x_good mX5_refuseFar := ⟨by decide +kernel, decX5_refuseFar, okX5, rfl, x_tb_in (List.mem_of_getElem? (i := 459) (by decide +kernel)) rfl, iniX5, by decide +kernel, by decide +kernel⟩
theorem vX5_refuseFar : Cond.instanceMethod yX5_refuseFar ∈ x_tb ∧ Cond.selects RX5 yX5_refuseFar yX5_refuseFar ∈ x_tb := ⟨x_tb_in (List.mem_of_getElem? (i := 458) (by decide +kernel)) rfl, x_tb_in (List.mem_of_getElem? (i := 14) (by decide +kernel)) rfl⟩
def kX5_tryMove : List (List (Nat × Instr × Nat)) := [[(0, .aload_n 0, 1), (1, .getfield 10, 3), (4, .iload_n 1, 1), (5, .invokevirtual 118, 3), (8, .ifCond .ne 5, 3), (11, .iconst 0, 1), (12, .ireturn, 1), (13, .aload_n 0, 1), (14, .getfield 23, 3)],
  [(17, .aload_n 0, 1), (18, .getfield 10, 3), (21, .invokevirtual 79, 3), (24, .aload_n 0, 1), (25, .getfield 23, 3), (28, .iload_n 1, 1), (29, .invokevirtual 124, 3)],
  [(32, .iconst 1, 1), (33, .ireturn, 1)]]
def mX5_tryMove : x_M := (yX5_tryMove, prog_1_method_33_code, 2, (some .boolean), kX5_tryMove, IX5)
set_option maxRecDepth 100000 in
theorem decX5_tryMove : x_dec mX5_tryMove := by unfold x_dec; decide +kernel
theorem gX5_tryMove : x_good mX5_tryMove := ⟨by decide +kernel, decX5_tryMove, okX5, rfl, x_tb_in (List.mem_of_getElem? (i := 414) (by decide +kernel)) rfl, iniX5, by decide +kernel, by decide +kernel⟩
theorem vX5_tryMove : Cond.instanceMethod yX5_tryMove ∈ x_tb ∧ Cond.selects RX5 yX5_tryMove yX5_tryMove ∈ x_tb := ⟨x_tb_in (List.mem_of_getElem? (i := 413) (by decide +kernel)) rfl, x_tb_in (List.mem_of_getElem? (i := 13) (by decide +kernel)) rfl⟩
def kX5_roundOf : List (List (Nat × Instr × Nat)) := [[(0, .aload_n 0, 1), (1, .getfield 23, 3), (4, .aload_n 0, 1), (5, .getfield 10, 3), (8, .invokevirtual 79, 3), (11, .aload_n 0, 1), (12, .getfield 26, 3), (15, .aload_n 0, 1)],
  [(16, .getfield 10, 3), (19, .invokevirtual 79, 3), (22, .iconst 1, 1), (23, .istore_n 2, 1), (24, .iconst 0, 1), (25, .istore_n 3, 1), (26, .iconst 0, 1), (27, .istore 4, 2), (29, .iload 4, 2), (31, .ldc 212, 2)],
  [(33, .if_icmp .ge 69, 3), (36, .aload_n 0, 1), (37, .getfield 23, 3), (40, .iload_n 1, 1), (41, .invokevirtual 118, 3), (44, .ifCond .eq 58, 3), (47, .aload_n 0, 1)],
  [(48, .getfield 23, 3), (51, .iload_n 1, 1), (52, .invokevirtual 124, 3), (55, .iinc 3 1, 3), (58, .aload_n 0, 1), (59, .getfield 23, 3), (62, .aload_n 0, 1), (63, .getfield 26, 3)],
  [(66, .invokevirtual 158, 3), (69, .ifCond .eq 5, 3), (72, .iload_n 3, 1), (73, .ireturn, 1), (74, .iload_n 3, 1), (75, .iload_n 2, 1), (76, .if_icmp .ne 20, 3), (79, .aload_n 0, 1)],
  [(80, .getfield 26, 3), (83, .aload_n 0, 1), (84, .getfield 23, 3), (87, .invokevirtual 79, 3), (90, .iload_n 2, 1), (91, .iconst 2, 1), (92, .imul, 1), (93, .istore_n 2, 1), (94, .iconst 0, 1), (95, .istore_n 3, 1)],
  [(96, .iinc 4 1, 3), (99, .goto (-70), 3), (102, .bipush (-9), 2), (104, .ireturn, 1)]]
def mX5_roundOf : x_M := (yX5_roundOf, prog_1_method_34_code, 5, (some .int), kX5_roundOf, IX5)
set_option maxRecDepth 100000 in
theorem decX5_roundOf : x_dec mX5_roundOf := by unfold x_dec; decide +kernel
theorem gX5_roundOf : x_good mX5_roundOf := ⟨by decide +kernel, decX5_roundOf, okX5, rfl, x_tb_in (List.mem_of_getElem? (i := 481) (by decide +kernel)) rfl, iniX5, by decide +kernel, by decide +kernel⟩
theorem vX5_roundOf : Cond.instanceMethod yX5_roundOf ∈ x_tb ∧ Cond.selects RX5 yX5_roundOf yX5_roundOf ∈ x_tb := ⟨x_tb_in (List.mem_of_getElem? (i := 480) (by decide +kernel)) rfl, x_tb_in (List.mem_of_getElem? (i := 15) (by decide +kernel)) rfl⟩
def kX5_entryOf : List (List (Nat × Instr × Nat)) := [[(0, .aload_n 0, 1), (1, .getfield 23, 3), (4, .aload_n 0, 1), (5, .getfield 10, 3), (8, .invokevirtual 79, 3), (11, .aload_n 0, 1), (12, .getfield 26, 3), (15, .aload_n 0, 1)],
  [(16, .getfield 10, 3), (19, .invokevirtual 79, 3), (22, .iconst 0, 1), (23, .istore_n 3, 1), (24, .iload_n 3, 1), (25, .iload_n 2, 1), (26, .if_icmp .ge 17, 3), (29, .aload_n 0, 1), (30, .getfield 23, 3)],
  [(33, .iload_n 1, 1), (34, .invokevirtual 124, 3), (37, .iinc 3 1, 3), (40, .goto (-16), 3), (43, .iconst 0, 1), (44, .istore_n 3, 1), (45, .iload_n 3, 1), (46, .sipush 200, 3)],
  [(49, .if_icmp .gt 41, 3), (52, .aload_n 0, 1), (53, .getfield 23, 3), (56, .aload_n 0, 1), (57, .getfield 26, 3), (60, .invokevirtual 158, 3), (63, .ifCond .eq 5, 3)],
  [(66, .iload_n 3, 1), (67, .ireturn, 1), (68, .aload_n 0, 1), (69, .getfield 23, 3), (72, .iload_n 1, 1), (73, .invokevirtual 124, 3), (76, .aload_n 0, 1), (77, .getfield 26, 3)],
  [(80, .iload_n 1, 1), (81, .invokevirtual 124, 3), (84, .iinc 3 1, 3), (87, .goto (-42), 3), (90, .bipush (-9), 2), (92, .ireturn, 1)]]
def mX5_entryOf : x_M := (yX5_entryOf, prog_1_method_35_code, 4, (some .int), kX5_entryOf, IX5)
set_option maxRecDepth 100000 in
theorem decX5_entryOf : x_dec mX5_entryOf := by unfold x_dec; decide +kernel
theorem gX5_entryOf : x_good mX5_entryOf := ⟨by decide +kernel, decX5_entryOf, okX5, rfl, x_tb_in (List.mem_of_getElem? (i := 486) (by decide +kernel)) rfl, iniX5, by decide +kernel, by decide +kernel⟩
theorem vX5_entryOf : Cond.instanceMethod yX5_entryOf ∈ x_tb ∧ Cond.selects RX5 yX5_entryOf yX5_entryOf ∈ x_tb := ⟨x_tb_in (List.mem_of_getElem? (i := 485) (by decide +kernel)) rfl, x_tb_in (List.mem_of_getElem? (i := 16) (by decide +kernel)) rfl⟩
def kX5_worthChange : List (List (Nat × Instr × Nat)) := [[(0, .aload_n 0, 1), (1, .getfield 23, 3), (4, .aload_n 0, 1), (5, .getfield 10, 3), (8, .invokevirtual 79, 3), (11, .aload_n 0, 1), (12, .getfield 23, 3), (15, .iload_n 1, 1)],
  [(16, .aload_n 0, 1), (17, .getfield 10, 3), (20, .iload_n 1, 1), (21, .invokevirtual 96, 3), (24, .iload_n 2, 1), (25, .iadd, 1), (26, .invokevirtual 105, 3), (29, .aload_n 0, 1), (30, .getfield 39, 3)],
  [(33, .aload_n 0, 1), (34, .getfield 23, 3), (37, .iconst 2, 1), (38, .invokevirtual 155, 3), (41, .aload_n 0, 1), (42, .getfield 39, 3), (45, .aload_n 0, 1), (46, .getfield 10, 3)],
  [(49, .iconst 2, 1), (50, .invokevirtual 155, 3), (53, .isub, 1), (54, .ireturn, 1)]]
def mX5_worthChange : x_M := (yX5_worthChange, prog_1_method_36_code, 3, (some .int), kX5_worthChange, IX5)
set_option maxRecDepth 100000 in
theorem decX5_worthChange : x_dec mX5_worthChange := by unfold x_dec; decide +kernel
theorem gX5_worthChange : x_good mX5_worthChange := ⟨by decide +kernel, decX5_worthChange, okX5, rfl, x_tb_in (List.mem_of_getElem? (i := 527) (by decide +kernel)) rfl, iniX5, by decide +kernel, by decide +kernel⟩
theorem vX5_worthChange : Cond.instanceMethod yX5_worthChange ∈ x_tb ∧ Cond.selects RX5 yX5_worthChange yX5_worthChange ∈ x_tb := ⟨x_tb_in (List.mem_of_getElem? (i := 526) (by decide +kernel)) rfl, x_tb_in (List.mem_of_getElem? (i := 19) (by decide +kernel)) rfl⟩
def kX5_refusalToLay : List (List (Nat × Instr × Nat)) := [[(0, .iload_n 1, 1), (1, .ifCond .ge 6, 3), (4, .bipush (-4), 2), (6, .ireturn, 1), (7, .iload_n 1, 1), (8, .bipush 40, 2), (10, .if_icmp .le 6, 3), (13, .bipush (-6), 2), (15, .ireturn, 1)],
  [(16, .aload_n 0, 1), (17, .getfield 61, 3), (20, .aload_n 0, 1), (21, .getfield 10, 3), (24, .getfield 147, 3), (27, .if_icmp .eq 6, 3), (30, .bipush (-3), 2)],
  [(32, .ireturn, 1), (33, .iconst 0, 1), (34, .istore_n 2, 1), (35, .iload_n 2, 1), (36, .aload_n 0, 1), (37, .getfield 61, 3), (40, .if_icmp .ge 31, 3), (43, .iload_n 2, 1), (44, .aload_n 0, 1), (45, .getfield 57, 3)],
  [(48, .arraylength, 1), (49, .if_icmp .ge 22, 3), (52, .aload_n 0, 1), (53, .getfield 57, 3), (56, .iload_n 2, 1), (57, .iaload, 1), (58, .iconst 2, 1), (59, .if_icmp .le 6, 3), (62, .bipush (-3), 2)],
  [(64, .ireturn, 1), (65, .iinc 2 1, 3), (68, .goto (-33), 3), (71, .iconst 0, 1), (72, .ireturn, 1)]]
def mX5_refusalToLay : x_M := (yX5_refusalToLay, prog_1_method_37_code, 3, (some .int), kX5_refusalToLay, IX5)
set_option maxRecDepth 100000 in
theorem decX5_refusalToLay : x_dec mX5_refusalToLay := by unfold x_dec; decide +kernel
theorem gX5_refusalToLay : x_good mX5_refusalToLay := ⟨by decide +kernel, decX5_refusalToLay, okX5, rfl, x_tb_in (List.mem_of_getElem? (i := 548) (by decide +kernel)) rfl, iniX5, by decide +kernel, by decide +kernel⟩
theorem vX5_refusalToLay : Cond.instanceMethod yX5_refusalToLay ∈ x_tb ∧ Cond.selects RX5 yX5_refusalToLay yX5_refusalToLay ∈ x_tb := ⟨x_tb_in (List.mem_of_getElem? (i := 547) (by decide +kernel)) rfl, x_tb_in (List.mem_of_getElem? (i := 20) (by decide +kernel)) rfl⟩
def kX5_playRow : List (List (Nat × Instr × Nat)) := [[(0, .aload_n 0, 1), (1, .getfield 23, 3), (4, .aload_n 0, 1), (5, .getfield 10, 3), (8, .invokevirtual 79, 3), (11, .iconst 0, 1), (12, .istore_n 1, 1), (13, .iload_n 1, 1), (14, .aload_n 0, 1), (15, .getfield 61, 3)],
  [(18, .if_icmp .ge 47, 3), (21, .iload_n 1, 1), (22, .aload_n 0, 1), (23, .getfield 57, 3), (26, .arraylength, 1), (27, .if_icmp .ge 38, 3), (30, .aload_n 0, 1), (31, .getfield 23, 3)],
  [(34, .aload_n 0, 1), (35, .getfield 57, 3), (38, .iload_n 1, 1), (39, .iaload, 1), (40, .invokevirtual 118, 3), (43, .ifCond .eq 22, 3), (46, .aload_n 0, 1), (47, .getfield 23, 3)],
  [(50, .aload_n 0, 1), (51, .getfield 57, 3), (54, .iload_n 1, 1), (55, .iaload, 1), (56, .invokevirtual 124, 3), (59, .iinc 1 1, 3), (62, .goto (-49), 3)],
  [(65, .iload_n 1, 1), (66, .ireturn, 1)]]
def mX5_playRow : x_M := (yX5_playRow, prog_1_method_38_code, 2, (some .int), kX5_playRow, IX5)
set_option maxRecDepth 100000 in
theorem decX5_playRow : x_dec mX5_playRow := by unfold x_dec; decide +kernel
theorem gX5_playRow : x_good mX5_playRow := ⟨by decide +kernel, decX5_playRow, okX5, rfl, x_tb_in (List.mem_of_getElem? (i := 588) (by decide +kernel)) rfl, iniX5, by decide +kernel, by decide +kernel⟩
theorem vX5_playRow : Cond.instanceMethod yX5_playRow ∈ x_tb ∧ Cond.selects RX5 yX5_playRow yX5_playRow ∈ x_tb := ⟨x_tb_in (List.mem_of_getElem? (i := 587) (by decide +kernel)) rfl, x_tb_in (List.mem_of_getElem? (i := 22) (by decide +kernel)) rfl⟩
def kX5_playLot : List (List (Nat × Instr × Nat)) := [[(0, .iload_n 1, 1), (1, .istore_n 2, 1), (2, .iconst 0, 1), (3, .istore_n 3, 1), (4, .iload_n 3, 1), (5, .bipush 20, 2), (7, .if_icmp .ge 85, 3), (10, .aload_n 0, 1), (11, .getfield 23, 3), (14, .getfield 147, 3)],
  [(17, .ifCond .le 75, 3), (20, .iload_n 2, 1), (21, .ldc 213, 2), (23, .imul, 1), (24, .ldc 214, 2), (26, .iadd, 1), (27, .istore_n 2, 1), (28, .iload_n 2, 1), (29, .ldc 215, 2), (31, .iand, 1)],
  [(32, .sipush 256, 3), (35, .idiv, 1), (36, .aload_n 0, 1), (37, .getfield 23, 3), (40, .getfield 147, 3), (43, .irem, 1), (44, .istore 4, 2), (46, .aload_n 0, 1), (47, .getfield 23, 3)],
  [(50, .iload 4, 2), (52, .invokevirtual 118, 3), (55, .ifCond .eq 15, 3), (58, .aload_n 0, 1), (59, .getfield 23, 3), (62, .iload 4, 2)],
  [(64, .invokevirtual 124, 3), (67, .goto 19, 3), (70, .aload_n 0, 1), (71, .getfield 23, 3), (74, .iconst 1, 1), (75, .aload_n 0, 1), (76, .getfield 23, 3), (79, .getfield 115, 3)],
  [(82, .isub, 1), (83, .putfield 115, 3), (86, .iinc 3 1, 3), (89, .goto (-85), 3), (92, .iload_n 2, 1), (93, .ireturn, 1)]]
def mX5_playLot : x_M := (yX5_playLot, prog_1_method_39_code, 5, (some .int), kX5_playLot, IX5)
set_option maxRecDepth 100000 in
theorem decX5_playLot : x_dec mX5_playLot := by unfold x_dec; decide +kernel
theorem gX5_playLot : x_good mX5_playLot := ⟨by decide +kernel, decX5_playLot, okX5, rfl, x_tb_in (List.mem_of_getElem? (i := 608) (by decide +kernel)) rfl, iniX5, by decide +kernel, by decide +kernel⟩
theorem vX5_playLot : Cond.instanceMethod yX5_playLot ∈ x_tb ∧ Cond.selects RX5 yX5_playLot yX5_playLot ∈ x_tb := ⟨x_tb_in (List.mem_of_getElem? (i := 607) (by decide +kernel)) rfl, x_tb_in (List.mem_of_getElem? (i := 23) (by decide +kernel)) rfl⟩
theorem sX5_1 : Cond.methodLink RX5 1 objectInit ∈ x_tb := x_tb_in (List.mem_of_getElem? (i := 70) (by decide +kernel)) rfl
theorem sX5_9 : x_sI RX5 9 mX3_init 0 true := ⟨fun h => (by cases h), fun _ => List.mem_of_getElem? (i := 0) (by decide +kernel), vX3_init, rfl, rfl, by decide +kernel⟩
theorem sX5_31 : x_sI RX5 31 mX2_init 0 true := ⟨fun h => (by cases h), fun _ => List.mem_of_getElem? (i := 18) (by decide +kernel), vX2_init, rfl, rfl, by decide +kernel⟩
theorem sX5_38 : x_sI RX5 38 mX0_init 0 false := ⟨fun _ => x_tb_in (List.mem_of_getElem? (i := 150) (by decide +kernel)) rfl, fun h => (by cases h), vX0_init, rfl, rfl, by decide +kernel⟩
theorem sX5_45 : x_sI RX5 45 mX1_init 0 true := ⟨fun h => (by cases h), fun _ => List.mem_of_getElem? (i := 21) (by decide +kernel), vX1_init, rfl, rfl, by decide +kernel⟩
theorem sX5_52 : x_sI RX5 52 mX4_init 0 true := ⟨fun h => (by cases h), fun _ => List.mem_of_getElem? (i := 25) (by decide +kernel), vX4_init, rfl, rfl, by decide +kernel⟩
theorem sX5_68 : x_sV RX5 68 mX5_refuse 1 5 := ⟨x_tb_in (List.mem_of_getElem? (i := 254) (by decide +kernel)) rfl, vX5_refuse.1, vX5_refuse.2, by decide +kernel, (RX5, TX5, 12), rfl, rfl⟩
theorem sX5_72 : x_sV RX5 72 mX2_add 1 2 := ⟨x_tb_in (List.mem_of_getElem? (i := 258) (by decide +kernel)) rfl, vX2_add.1, vX2_add.2, by decide +kernel, (RX2, TX2, 2), rfl, rfl⟩
theorem sX5_79 : x_sV RX5 79 mX3_copyFrom 1 3 := ⟨x_tb_in (List.mem_of_getElem? (i := 266) (by decide +kernel)) rfl, vX3_copyFrom.1, vX3_copyFrom.2, by decide +kernel, (RX3, TX3, 12), rfl, rfl⟩
theorem sX5_83 : x_sV RX5 83 mX2_playOn 1 2 := ⟨x_tb_in (List.mem_of_getElem? (i := 273) (by decide +kernel)) rfl, vX2_playOn.1, vX2_playOn.2, by decide +kernel, (RX2, TX2, 2), rfl, rfl⟩
theorem sX5_87 : x_sV RX5 87 mX2_clear 0 2 := ⟨x_tb_in (List.mem_of_getElem? (i := 376) (by decide +kernel)) rfl, vX2_clear.1, vX2_clear.2, by decide +kernel, (RX2, TX2, 2), rfl, rfl⟩
theorem sX5_90 : x_sV RX5 90 mX3_has 1 3 := ⟨x_tb_in (List.mem_of_getElem? (i := 384) (by decide +kernel)) rfl, vX3_has.1, vX3_has.2, by decide +kernel, (RX3, TX3, 12), rfl, rfl⟩
theorem sX5_93 : x_sV RX5 93 mX3_kindOf 1 3 := ⟨x_tb_in (List.mem_of_getElem? (i := 385) (by decide +kernel)) rfl, vX3_kindOf.1, vX3_kindOf.2, by decide +kernel, (RX3, TX3, 12), rfl, rfl⟩
theorem sX5_96 : x_sV RX5 96 mX3_beansOf 1 3 := ⟨x_tb_in (List.mem_of_getElem? (i := 389) (by decide +kernel)) rfl, vX3_beansOf.1, vX3_beansOf.2, by decide +kernel, (RX3, TX3, 12), rfl, rfl⟩
theorem sX5_99 : x_sV RX5 99 mX3_soundsFrom 1 3 := ⟨x_tb_in (List.mem_of_getElem? (i := 390) (by decide +kernel)) rfl, vX3_soundsFrom.1, vX3_soundsFrom.2, by decide +kernel, (RX3, TX3, 12), rfl, rfl⟩
theorem sX5_102 : x_sV RX5 102 mX3_takes 1 3 := ⟨x_tb_in (List.mem_of_getElem? (i := 391) (by decide +kernel)) rfl, vX3_takes.1, vX3_takes.2, by decide +kernel, (RX3, TX3, 12), rfl, rfl⟩
theorem sX5_105 : x_sV RX5 105 mX3_lay 2 3 := ⟨x_tb_in (List.mem_of_getElem? (i := 396) (by decide +kernel)) rfl, vX3_lay.1, vX3_lay.2, by decide +kernel, (RX3, TX3, 12), rfl, rfl⟩
theorem sX5_118 : x_sV RX5 118 mX3_canMove 1 3 := ⟨x_tb_in (List.mem_of_getElem? (i := 405) (by decide +kernel)) rfl, vX3_canMove.1, vX3_canMove.2, by decide +kernel, (RX3, TX3, 12), rfl, rfl⟩
theorem sX5_124 : x_sV RX5 124 mX3_makeMove 1 3 := ⟨x_tb_in (List.mem_of_getElem? (i := 406) (by decide +kernel)) rfl, vX3_makeMove.1, vX3_makeMove.2, by decide +kernel, (RX3, TX3, 12), rfl, rfl⟩
theorem sX5_131 : x_sV RX5 131 mX5_tryMove 1 5 := ⟨x_tb_in (List.mem_of_getElem? (i := 411) (by decide +kernel)) rfl, vX5_tryMove.1, vX5_tryMove.2, by decide +kernel, (RX5, TX5, 12), rfl, rfl⟩
theorem sX5_143 : x_sV RX5 143 mX3_allBeans 0 3 := ⟨x_tb_in (List.mem_of_getElem? (i := 415) (by decide +kernel)) rfl, vX3_allBeans.1, vX3_allBeans.2, by decide +kernel, (RX3, TX3, 12), rfl, rfl⟩
theorem sX5_148 : x_sV RX5 148 mX0_bowlFor 2 0 := ⟨x_tb_in (List.mem_of_getElem? (i := 435) (by decide +kernel)) rfl, vX0_bowlFor.1, vX0_bowlFor.2, by decide +kernel, (RX0, TX0, 2), rfl, rfl⟩
theorem sX5_152 : x_sV RX5 152 mX5_refuseFar 1 5 := ⟨x_tb_in (List.mem_of_getElem? (i := 456) (by decide +kernel)) rfl, vX5_refuseFar.1, vX5_refuseFar.2, by decide +kernel, (RX5, TX5, 12), rfl, rfl⟩
theorem sX5_155 : x_sV RX5 155 mX0_gainFor 2 0 := ⟨x_tb_in (List.mem_of_getElem? (i := 461) (by decide +kernel)) rfl, vX0_gainFor.1, vX0_gainFor.2, by decide +kernel, (RX0, TX0, 2), rfl, rfl⟩
theorem sX5_158 : x_sV RX5 158 mX3_sameBeans 1 3 := ⟨x_tb_in (List.mem_of_getElem? (i := 470) (by decide +kernel)) rfl, vX3_sameBeans.1, vX3_sameBeans.2, by decide +kernel, (RX3, TX3, 12), rfl, rfl⟩
theorem sX5_162 : x_sV RX5 162 mX5_roundOf 1 5 := ⟨x_tb_in (List.mem_of_getElem? (i := 478) (by decide +kernel)) rfl, vX5_roundOf.1, vX5_roundOf.2, by decide +kernel, (RX5, TX5, 12), rfl, rfl⟩
theorem sX5_165 : x_sV RX5 165 mX5_entryOf 2 5 := ⟨x_tb_in (List.mem_of_getElem? (i := 483) (by decide +kernel)) rfl, vX5_entryOf.1, vX5_entryOf.2, by decide +kernel, (RX5, TX5, 12), rfl, rfl⟩
theorem sX5_169 : x_sV RX5 169 mX1_seek 2 1 := ⟨x_tb_in (List.mem_of_getElem? (i := 491) (by decide +kernel)) rfl, vX1_seek.1, vX1_seek.2, by decide +kernel, (RX1, TX1, 8), rfl, rfl⟩
theorem sX5_177 : x_sV RX5 177 mX5_worthChange 2 5 := ⟨x_tb_in (List.mem_of_getElem? (i := 524) (by decide +kernel)) rfl, vX5_worthChange.1, vX5_worthChange.2, by decide +kernel, (RX5, TX5, 12), rfl, rfl⟩
theorem sX5_180 : x_sV RX5 180 mX3_swapBeans 2 3 := ⟨x_tb_in (List.mem_of_getElem? (i := 536) (by decide +kernel)) rfl, vX3_swapBeans.1, vX3_swapBeans.2, by decide +kernel, (RX3, TX3, 12), rfl, rfl⟩
theorem sX5_183 : x_sV RX5 183 mX5_refusalToLay 1 5 := ⟨x_tb_in (List.mem_of_getElem? (i := 545) (by decide +kernel)) rfl, vX5_refusalToLay.1, vX5_refusalToLay.2, by decide +kernel, (RX5, TX5, 12), rfl, rfl⟩
theorem sX5_186 : x_sV RX5 186 mX4_toLay 3 4 := ⟨x_tb_in (List.mem_of_getElem? (i := 549) (by decide +kernel)) rfl, vX4_toLay.1, vX4_toLay.2, by decide +kernel, (RX4, TX4, 2), rfl, rfl⟩
theorem sX5_192 : Cond.methodLink RX5 192 Lib.MathLoose.min_long.x ∈ x_tb := x_tb_in (List.mem_of_getElem? (i := 566) (by decide +kernel)) rfl
theorem sX5_198 : x_sV RX5 198 mX4_bowlToAsk 3 4 := ⟨x_tb_in (List.mem_of_getElem? (i := 573) (by decide +kernel)) rfl, vX4_bowlToAsk.1, vX4_bowlToAsk.2, by decide +kernel, (RX4, TX4, 2), rfl, rfl⟩
theorem sX5_202 : x_sV RX5 202 mX5_playRow 0 5 := ⟨x_tb_in (List.mem_of_getElem? (i := 585) (by decide +kernel)) rfl, vX5_playRow.1, vX5_playRow.2, by decide +kernel, (RX5, TX5, 12), rfl, rfl⟩
theorem sX5_205 : x_sV RX5 205 mX3_purseOf 1 3 := ⟨x_tb_in (List.mem_of_getElem? (i := 589) (by decide +kernel)) rfl, vX3_purseOf.1, vX3_purseOf.2, by decide +kernel, (RX3, TX3, 12), rfl, rfl⟩
theorem sX5_208 : x_sV RX5 208 mX5_playLot 1 5 := ⟨x_tb_in (List.mem_of_getElem? (i := 605) (by decide +kernel)) rfl, vX5_playLot.1, vX5_playLot.2, by decide +kernel, (RX5, TX5, 12), rfl, rfl⟩
end
section
def IX6 : x_I := (RX6, [(13, 6, 1, false), (17, 6, 2, false), (60, 6, 3, false), (20, 6, 4, false), (67, 6, 5, false), (23, 6, 6, false), (100, 6, 7, false), (138, 6, 8, false), (26, 6, 9, false), (29, 6, 10, false), (113, 6, 11, false), (32, 6, 12, false), (203, 6, 13, false), (81, 6, 14, false), (78, 6, 15, false), (84, 6, 16, false), (87, 6, 17, false), (96, 6, 18, false), (35, 6, 19, false), (125, 6, 20, false), (38, 6, 21, false), (176, 6, 22, false), (41, 6, 23, false), (44, 6, 24, false), (48, 6, 25, false), (51, 6, 26, false), (54, 6, 27, false), (57, 6, 28, false), (221, 6, 29, false), (224, 6, 30, false), (227, 6, 31, false)], [(179, 1000000000), (218, 1664525), (219, 1013904223), (220, 2147483647)], [(163, 3), (165, 2), (167, 4), (206, 1000000000), (230, 11), (232, 16), (234, 9)], [])
set_option maxRecDepth 100000 in
theorem okX6 : x_okI IX6 := ⟨List.forall_mem_cons.mpr ⟨⟨(RX6, TX6, 32), rfl, by decide, fun _ => x_tb_in (List.mem_of_getElem? (i := 630) (by decide +kernel)) rfl, fun h => (by cases h)⟩, List.forall_mem_cons.mpr ⟨⟨(RX6, TX6, 32), rfl, by decide, fun _ => x_tb_in (List.mem_of_getElem? (i := 631) (by decide +kernel)) rfl, fun h => (by cases h)⟩, List.forall_mem_cons.mpr ⟨⟨(RX6, TX6, 32), rfl, by decide, fun _ => x_tb_in (List.mem_of_getElem? (i := 632) (by decide +kernel)) rfl, fun h => (by cases h)⟩, List.forall_mem_cons.mpr ⟨⟨(RX6, TX6, 32), rfl, by decide, fun _ => x_tb_in (List.mem_of_getElem? (i := 633) (by decide +kernel)) rfl, fun h => (by cases h)⟩, List.forall_mem_cons.mpr ⟨⟨(RX6, TX6, 32), rfl, by decide, fun _ => x_tb_in (List.mem_of_getElem? (i := 634) (by decide +kernel)) rfl, fun h => (by cases h)⟩, List.forall_mem_cons.mpr ⟨⟨(RX6, TX6, 32), rfl, by decide, fun _ => x_tb_in (List.mem_of_getElem? (i := 635) (by decide +kernel)) rfl, fun h => (by cases h)⟩, List.forall_mem_cons.mpr ⟨⟨(RX6, TX6, 32), rfl, by decide, fun _ => x_tb_in (List.mem_of_getElem? (i := 636) (by decide +kernel)) rfl, fun h => (by cases h)⟩, List.forall_mem_cons.mpr ⟨⟨(RX6, TX6, 32), rfl, by decide, fun _ => x_tb_in (List.mem_of_getElem? (i := 637) (by decide +kernel)) rfl, fun h => (by cases h)⟩, List.forall_mem_cons.mpr ⟨⟨(RX6, TX6, 32), rfl, by decide, fun _ => x_tb_in (List.mem_of_getElem? (i := 638) (by decide +kernel)) rfl, fun h => (by cases h)⟩, List.forall_mem_cons.mpr ⟨⟨(RX6, TX6, 32), rfl, by decide, fun _ => x_tb_in (List.mem_of_getElem? (i := 639) (by decide +kernel)) rfl, fun h => (by cases h)⟩, List.forall_mem_cons.mpr ⟨⟨(RX6, TX6, 32), rfl, by decide, fun _ => x_tb_in (List.mem_of_getElem? (i := 640) (by decide +kernel)) rfl, fun h => (by cases h)⟩, List.forall_mem_cons.mpr ⟨⟨(RX6, TX6, 32), rfl, by decide, fun _ => x_tb_in (List.mem_of_getElem? (i := 641) (by decide +kernel)) rfl, fun h => (by cases h)⟩, List.forall_mem_cons.mpr ⟨⟨(RX6, TX6, 32), rfl, by decide, fun _ => x_tb_in (List.mem_of_getElem? (i := 642) (by decide +kernel)) rfl, fun h => (by cases h)⟩, List.forall_mem_cons.mpr ⟨⟨(RX6, TX6, 32), rfl, by decide, fun _ => x_tb_in (List.mem_of_getElem? (i := 643) (by decide +kernel)) rfl, fun h => (by cases h)⟩, List.forall_mem_cons.mpr ⟨⟨(RX6, TX6, 32), rfl, by decide, fun _ => x_tb_in (List.mem_of_getElem? (i := 644) (by decide +kernel)) rfl, fun h => (by cases h)⟩, List.forall_mem_cons.mpr ⟨⟨(RX6, TX6, 32), rfl, by decide, fun _ => x_tb_in (List.mem_of_getElem? (i := 645) (by decide +kernel)) rfl, fun h => (by cases h)⟩, List.forall_mem_cons.mpr ⟨⟨(RX6, TX6, 32), rfl, by decide, fun _ => x_tb_in (List.mem_of_getElem? (i := 646) (by decide +kernel)) rfl, fun h => (by cases h)⟩, List.forall_mem_cons.mpr ⟨⟨(RX6, TX6, 32), rfl, by decide, fun _ => x_tb_in (List.mem_of_getElem? (i := 647) (by decide +kernel)) rfl, fun h => (by cases h)⟩, List.forall_mem_cons.mpr ⟨⟨(RX6, TX6, 32), rfl, by decide, fun _ => x_tb_in (List.mem_of_getElem? (i := 648) (by decide +kernel)) rfl, fun h => (by cases h)⟩, List.forall_mem_cons.mpr ⟨⟨(RX6, TX6, 32), rfl, by decide, fun _ => x_tb_in (List.mem_of_getElem? (i := 649) (by decide +kernel)) rfl, fun h => (by cases h)⟩, List.forall_mem_cons.mpr ⟨⟨(RX6, TX6, 32), rfl, by decide, fun _ => x_tb_in (List.mem_of_getElem? (i := 650) (by decide +kernel)) rfl, fun h => (by cases h)⟩, List.forall_mem_cons.mpr ⟨⟨(RX6, TX6, 32), rfl, by decide, fun _ => x_tb_in (List.mem_of_getElem? (i := 651) (by decide +kernel)) rfl, fun h => (by cases h)⟩, List.forall_mem_cons.mpr ⟨⟨(RX6, TX6, 32), rfl, by decide, fun _ => x_tb_in (List.mem_of_getElem? (i := 652) (by decide +kernel)) rfl, fun h => (by cases h)⟩, List.forall_mem_cons.mpr ⟨⟨(RX6, TX6, 32), rfl, by decide, fun _ => x_tb_in (List.mem_of_getElem? (i := 653) (by decide +kernel)) rfl, fun h => (by cases h)⟩, List.forall_mem_cons.mpr ⟨⟨(RX6, TX6, 32), rfl, by decide, fun _ => x_tb_in (List.mem_of_getElem? (i := 654) (by decide +kernel)) rfl, fun h => (by cases h)⟩, List.forall_mem_cons.mpr ⟨⟨(RX6, TX6, 32), rfl, by decide, fun _ => x_tb_in (List.mem_of_getElem? (i := 655) (by decide +kernel)) rfl, fun h => (by cases h)⟩, List.forall_mem_cons.mpr ⟨⟨(RX6, TX6, 32), rfl, by decide, fun _ => x_tb_in (List.mem_of_getElem? (i := 656) (by decide +kernel)) rfl, fun h => (by cases h)⟩, List.forall_mem_cons.mpr ⟨⟨(RX6, TX6, 32), rfl, by decide, fun _ => x_tb_in (List.mem_of_getElem? (i := 657) (by decide +kernel)) rfl, fun h => (by cases h)⟩, List.forall_mem_cons.mpr ⟨⟨(RX6, TX6, 32), rfl, by decide, fun _ => x_tb_in (List.mem_of_getElem? (i := 658) (by decide +kernel)) rfl, fun h => (by cases h)⟩, List.forall_mem_cons.mpr ⟨⟨(RX6, TX6, 32), rfl, by decide, fun _ => x_tb_in (List.mem_of_getElem? (i := 659) (by decide +kernel)) rfl, fun h => (by cases h)⟩, List.forall_mem_cons.mpr ⟨⟨(RX6, TX6, 32), rfl, by decide, fun _ => x_tb_in (List.mem_of_getElem? (i := 660) (by decide +kernel)) rfl, fun h => (by cases h)⟩, fun _ h => absurd h List.not_mem_nil⟩⟩⟩⟩⟩⟩⟩⟩⟩⟩⟩⟩⟩⟩⟩⟩⟩⟩⟩⟩⟩⟩⟩⟩⟩⟩⟩⟩⟩⟩⟩, List.forall_mem_cons.mpr ⟨x_tb_in (List.mem_of_getElem? (i := 870) (by decide +kernel)) rfl, List.forall_mem_cons.mpr ⟨x_tb_in (List.mem_of_getElem? (i := 964) (by decide +kernel)) rfl, List.forall_mem_cons.mpr ⟨x_tb_in (List.mem_of_getElem? (i := 965) (by decide +kernel)) rfl, List.forall_mem_cons.mpr ⟨x_tb_in (List.mem_of_getElem? (i := 966) (by decide +kernel)) rfl, fun _ h => absurd h List.not_mem_nil⟩⟩⟩⟩, List.forall_mem_cons.mpr ⟨x_tb_in (List.mem_of_getElem? (i := 819) (by decide +kernel)) rfl, List.forall_mem_cons.mpr ⟨x_tb_in (List.mem_of_getElem? (i := 828) (by decide +kernel)) rfl, List.forall_mem_cons.mpr ⟨x_tb_in (List.mem_of_getElem? (i := 837) (by decide +kernel)) rfl, List.forall_mem_cons.mpr ⟨x_tb_in (List.mem_of_getElem? (i := 939) (by decide +kernel)) rfl, List.forall_mem_cons.mpr ⟨x_tb_in (List.mem_of_getElem? (i := 979) (by decide +kernel)) rfl, List.forall_mem_cons.mpr ⟨x_tb_in (List.mem_of_getElem? (i := 980) (by decide +kernel)) rfl, List.forall_mem_cons.mpr ⟨x_tb_in (List.mem_of_getElem? (i := 981) (by decide +kernel)) rfl, fun _ h => absurd h List.not_mem_nil⟩⟩⟩⟩⟩⟩⟩, fun _ h => absurd h List.not_mem_nil⟩
def kX6_in : List (List (Nat × Instr × Nat)) := [[(0, .lload_n 0, 1), (1, .lload_n 2, 1), (2, .lcmp, 1), (3, .ifCond .lt 14, 3), (6, .lload_n 0, 1), (7, .lload 4, 2), (9, .lcmp, 1), (10, .ifCond .gt 7, 3), (13, .iconst 1, 1), (14, .goto 4, 3)],
  [(17, .iconst 0, 1), (18, .ireturn, 1)]]
def mX6_in : x_M := (yX6_in, prog_8_method_2_code, 6, (some .boolean), kX6_in, IX6)
set_option maxRecDepth 100000 in
theorem decX6_in : x_dec mX6_in := by unfold x_dec; decide +kernel
theorem gX6_in : x_good mX6_in := ⟨by decide +kernel, decX6_in, okX6, rfl, x_tb_in (List.mem_of_getElem? (i := 782) (by decide +kernel)) rfl, iniX6, by decide +kernel, by decide +kernel⟩
theorem vX6_in : Cond.static yX6_in ∈ x_tb := x_tb_in (List.mem_of_getElem? (i := 781) (by decide +kernel)) rfl
def kX6_init : List (List (Nat × Instr × Nat)) := [[(0, .aload_n 0, 1), (1, .invokespecial 7, 3), (4, .aload_n 0, 1), (5, .bipush 9, 2), (7, .newarray .int, 2), (9, .putfield 13, 3), (12, .aload_n 0, 1), (13, .bipush 9, 2), (15, .newarray .int, 2)],
  [(17, .putfield 17, 3), (20, .aload_n 0, 1), (21, .iconst 4, 1), (22, .putfield 20, 3), (25, .aload_n 0, 1), (26, .iconst 2, 1), (27, .newarray .int, 2), (29, .putfield 23, 3)],
  [(32, .aload_n 0, 1), (33, .bipush 6, 2), (35, .newarray .int, 2), (37, .putfield 26, 3), (40, .aload_n 0, 1), (41, .bipush 96, 2), (43, .newarray .int, 2), (45, .putfield 29, 3)],
  [(48, .aload_n 0, 1), (49, .bipush 12, 2), (51, .newarray .int, 2), (53, .putfield 32, 3), (56, .aload_n 0, 1), (57, .bipush 96, 2), (59, .newarray .int, 2), (61, .putfield 35, 3)],
  [(64, .aload_n 0, 1), (65, .bipush 9, 2), (67, .newarray .int, 2), (69, .putfield 38, 3), (72, .aload_n 0, 1), (73, .sipush 1809, 3), (76, .newarray .int, 2), (78, .putfield 41, 3)],
  [(81, .aload_n 0, 1), (82, .bipush 41, 2), (84, .newarray .long, 2), (86, .putfield 44, 3), (89, .aload_n 0, 1), (90, .bipush 41, 2), (92, .newarray .long, 2), (94, .putfield 48, 3)],
  [(97, .aload_n 0, 1), (98, .bipush 12, 2), (100, .newarray .int, 2), (102, .putfield 51, 3), (105, .aload_n 0, 1), (106, .bipush 9, 2), (108, .newarray .int, 2), (110, .putfield 54, 3)],
  [(113, .aload_n 0, 1), (114, .iconst (-1), 1), (115, .putfield 57, 3), (118, .return_, 1)]]
def mX6_init : x_M := (yX6_init, prog_8_method_3_code, 1, none, kX6_init, IX6)
set_option maxRecDepth 100000 in
theorem decX6_init : x_dec mX6_init := by unfold x_dec; decide +kernel
theorem gX6_init : x_good mX6_init := ⟨by decide +kernel, decX6_init, okX6, rfl, x_tb_in (List.mem_of_getElem? (i := 628) (by decide +kernel)) rfl, iniX6, by decide +kernel, by decide +kernel⟩
theorem vX6_init : Cond.instanceMethod yX6_init ∈ x_tb := x_tb_in (List.mem_of_getElem? (i := 627) (by decide +kernel)) rfl
def kX6_refuse : List (List (Nat × Instr × Nat)) := [[(0, .aload_n 0, 1), (1, .getfield 26, 3), (4, .iload_n 1, 1), (5, .ineg, 1), (6, .iconst 1, 1), (7, .isub, 1), (8, .dup2, 1), (9, .iaload, 1), (10, .iconst 1, 1), (11, .iadd, 1), (12, .iastore, 1), (13, .iload_n 1, 1), (14, .ireturn, 1)]]
def mX6_refuse : x_M := (yX6_refuse, prog_8_method_4_code, 2, (some .int), kX6_refuse, IX6)
set_option maxRecDepth 100000 in
theorem decX6_refuse : x_dec mX6_refuse := by unfold x_dec; decide +kernel
theorem gX6_refuse : x_good mX6_refuse := ⟨by decide +kernel, decX6_refuse, okX6, rfl, x_tb_in (List.mem_of_getElem? (i := 733) (by decide +kernel)) rfl, iniX6, by decide +kernel, by decide +kernel⟩
theorem vX6_refuse : Cond.instanceMethod yX6_refuse ∈ x_tb ∧ Cond.selects RX6 yX6_refuse yX6_refuse ∈ x_tb := ⟨x_tb_in (List.mem_of_getElem? (i := 732) (by decide +kernel)) rfl, x_tb_in (List.mem_of_getElem? (i := 24) (by decide +kernel)) rfl⟩
def kX6_isBowl : List (List (Nat × Instr × Nat)) := [[(0, .iload_n 1, 1), (1, .i2l, 1), (2, .lconst 0, 1), (3, .aload_n 0, 1), (4, .getfield 60, 3), (7, .iconst 1, 1), (8, .isub, 1), (9, .i2l, 1), (10, .invokestatic 63, 3), (13, .ireturn, 1)]]
def mX6_isBowl : x_M := (yX6_isBowl, prog_8_method_5_code, 2, (some .boolean), kX6_isBowl, IX6)
set_option maxRecDepth 100000 in
theorem decX6_isBowl : x_dec mX6_isBowl := by unfold x_dec; decide +kernel
theorem gX6_isBowl : x_good mX6_isBowl := ⟨by decide +kernel, decX6_isBowl, okX6, rfl, x_tb_in (List.mem_of_getElem? (i := 779) (by decide +kernel)) rfl, iniX6, by decide +kernel, by decide +kernel⟩
theorem vX6_isBowl : Cond.instanceMethod yX6_isBowl ∈ x_tb ∧ Cond.selects RX6 yX6_isBowl yX6_isBowl ∈ x_tb := ⟨x_tb_in (List.mem_of_getElem? (i := 778) (by decide +kernel)) rfl, x_tb_in (List.mem_of_getElem? (i := 33) (by decide +kernel)) rfl⟩
def kX6_soundsFrom : List (List (Nat × Instr × Nat)) := [[(0, .iload_n 1, 1), (1, .iconst 2, 1), (2, .if_icmp .ne 7, 3), (5, .sipush 1000, 3), (8, .ireturn, 1), (9, .iload_n 1, 1), (10, .ifCond .ne 8, 3), (13, .aload_n 0, 1), (14, .getfield 20, 3)],
  [(17, .ireturn, 1), (18, .iload_n 1, 1), (19, .iconst 3, 1), (20, .if_icmp .ne 12, 3), (23, .iconst 2, 1), (24, .aload_n 0, 1), (25, .getfield 20, 3), (28, .imul, 1), (29, .goto 21, 3)],
  [(32, .iload_n 1, 1), (33, .iconst 5, 1), (34, .if_icmp .ne 8, 3), (37, .bipush 12, 2), (39, .goto 11, 3), (42, .aload_n 0, 1), (43, .getfield 20, 3), (46, .iconst 1, 1), (47, .iadd, 1)],
  [(48, .iconst 2, 1), (49, .idiv, 1), (50, .ireturn, 1)]]
def mX6_soundsFrom : x_M := (yX6_soundsFrom, prog_8_method_6_code, 2, (some .int), kX6_soundsFrom, IX6)
set_option maxRecDepth 100000 in
theorem decX6_soundsFrom : x_dec mX6_soundsFrom := by unfold x_dec; decide +kernel
theorem gX6_soundsFrom : x_good mX6_soundsFrom := ⟨by decide +kernel, decX6_soundsFrom, okX6, rfl, x_tb_in (List.mem_of_getElem? (i := 806) (by decide +kernel)) rfl, iniX6, by decide +kernel, by decide +kernel⟩
theorem vX6_soundsFrom : Cond.instanceMethod yX6_soundsFrom ∈ x_tb ∧ Cond.selects RX6 yX6_soundsFrom yX6_soundsFrom ∈ x_tb := ⟨x_tb_in (List.mem_of_getElem? (i := 805) (by decide +kernel)) rfl, x_tb_in (List.mem_of_getElem? (i := 39) (by decide +kernel)) rfl⟩
def kX6_takes : List (List (Nat × Instr × Nat)) := [[(0, .aload_n 0, 1), (1, .getfield 17, 3), (4, .iload_n 1, 1), (5, .iaload, 1), (6, .bipush 99, 2), (8, .if_icmp .ge 30, 3), (11, .aload_n 0, 1), (12, .getfield 13, 3), (15, .iload_n 1, 1)],
  [(16, .iaload, 1), (17, .iconst 4, 1), (18, .if_icmp .ne 16, 3), (21, .aload_n 0, 1), (22, .getfield 17, 3), (25, .iload_n 1, 1), (26, .iaload, 1), (27, .aload_n 0, 1), (28, .getfield 20, 3), (31, .if_icmp .ge 7, 3)],
  [(34, .iconst 1, 1), (35, .goto 4, 3), (38, .iconst 0, 1), (39, .ireturn, 1)]]
def mX6_takes : x_M := (yX6_takes, prog_8_method_7_code, 2, (some .boolean), kX6_takes, IX6)
set_option maxRecDepth 100000 in
theorem decX6_takes : x_dec mX6_takes := by unfold x_dec; decide +kernel
theorem gX6_takes : x_good mX6_takes := ⟨by decide +kernel, decX6_takes, okX6, rfl, x_tb_in (List.mem_of_getElem? (i := 802) (by decide +kernel)) rfl, iniX6, by decide +kernel, by decide +kernel⟩
theorem vX6_takes : Cond.instanceMethod yX6_takes ∈ x_tb ∧ Cond.selects RX6 yX6_takes yX6_takes ∈ x_tb := ⟨x_tb_in (List.mem_of_getElem? (i := 801) (by decide +kernel)) rfl, x_tb_in (List.mem_of_getElem? (i := 38) (by decide +kernel)) rfl⟩
def kX6_beside : List (List (Nat × Instr × Nat)) := [[(0, .aload_n 0, 1), (1, .getfield 67, 3), (4, .iconst 1, 1), (5, .if_icmp .ne 19, 3), (8, .iload_n 1, 1), (9, .aload_n 0, 1), (10, .getfield 60, 3), (13, .iadd, 1), (14, .iconst 1, 1), (15, .isub, 1)],
  [(16, .aload_n 0, 1), (17, .getfield 60, 3), (20, .irem, 1), (21, .goto 11, 3), (24, .iload_n 1, 1), (25, .iconst 1, 1), (26, .iadd, 1), (27, .aload_n 0, 1), (28, .getfield 60, 3), (31, .irem, 1)],
  [(32, .ireturn, 1)]]
def mX6_beside : x_M := (yX6_beside, prog_8_method_8_code, 2, (some .int), kX6_beside, IX6)
set_option maxRecDepth 100000 in
theorem decX6_beside : x_dec mX6_beside := by unfold x_dec; decide +kernel
theorem gX6_beside : x_good mX6_beside := ⟨by decide +kernel, decX6_beside, okX6, rfl, x_tb_in (List.mem_of_getElem? (i := 798) (by decide +kernel)) rfl, iniX6, by decide +kernel, by decide +kernel⟩
theorem vX6_beside : Cond.instanceMethod yX6_beside ∈ x_tb ∧ Cond.selects RX6 yX6_beside yX6_beside ∈ x_tb := ⟨x_tb_in (List.mem_of_getElem? (i := 797) (by decide +kernel)) rfl, x_tb_in (List.mem_of_getElem? (i := 37) (by decide +kernel)) rfl⟩
def kX6_sowsHand : List (List (Nat × Instr × Nat)) := [[(0, .aload_n 0, 1), (1, .getfield 17, 3), (4, .iload_n 1, 1), (5, .iaload, 1), (6, .istore_n 2, 1), (7, .iconst 0, 1), (8, .istore_n 3, 1), (9, .iconst 0, 1), (10, .istore 4, 2), (12, .iload_n 1, 1), (13, .istore 5, 2), (15, .aload_n 0, 1)],
  [(16, .getfield 17, 3), (19, .iload_n 1, 1), (20, .iconst 0, 1), (21, .iastore, 1), (22, .iload_n 2, 1), (23, .ifCond .le 64, 3), (26, .iload 4, 2), (28, .aload_n 0, 1), (29, .getfield 60, 3)],
  [(32, .if_icmp .ge 55, 3), (35, .aload_n 0, 1), (36, .iload 5, 2), (38, .invokevirtual 70, 3), (41, .istore 5, 2), (43, .aload_n 0, 1), (44, .iload 5, 2), (46, .invokevirtual 74, 3)],
  [(49, .ifCond .eq 32, 3), (52, .aload_n 0, 1), (53, .getfield 17, 3), (56, .iload 5, 2), (58, .dup2, 1), (59, .iaload, 1), (60, .iconst 1, 1), (61, .iadd, 1), (62, .iastore, 1), (63, .iinc 2 (-1), 3)],
  [(66, .iinc 3 1, 3), (69, .iconst 0, 1), (70, .istore 4, 2), (72, .aload_n 0, 1), (73, .iload 5, 2), (75, .putfield 78, 3), (78, .goto (-56), 3)],
  [(81, .iinc 4 1, 3), (84, .goto (-62), 3), (87, .aload_n 0, 1), (88, .getfield 17, 3), (91, .iload_n 1, 1), (92, .dup2, 1), (93, .iaload, 1), (94, .iload_n 2, 1), (95, .iadd, 1)],
  [(96, .iastore, 1), (97, .aload_n 0, 1), (98, .dup, 1), (99, .getfield 81, 3), (102, .iconst 1, 1), (103, .iadd, 1), (104, .putfield 81, 3), (107, .aload_n 0, 1), (108, .dup, 1), (109, .getfield 84, 3)],
  [(112, .iload_n 3, 1), (113, .iadd, 1), (114, .putfield 84, 3), (117, .iload_n 3, 1), (118, .ireturn, 1)]]
def mX6_sowsHand : x_M := (yX6_sowsHand, prog_8_method_9_code, 6, (some .int), kX6_sowsHand, IX6)
set_option maxRecDepth 100000 in
theorem decX6_sowsHand : x_dec mX6_sowsHand := by unfold x_dec; decide +kernel
theorem gX6_sowsHand : x_good mX6_sowsHand := ⟨by decide +kernel, decX6_sowsHand, okX6, rfl, x_tb_in (List.mem_of_getElem? (i := 794) (by decide +kernel)) rfl, iniX6, by decide +kernel, by decide +kernel⟩
theorem vX6_sowsHand : Cond.instanceMethod yX6_sowsHand ∈ x_tb ∧ Cond.selects RX6 yX6_sowsHand yX6_sowsHand ∈ x_tb := ⟨x_tb_in (List.mem_of_getElem? (i := 793) (by decide +kernel)) rfl, x_tb_in (List.mem_of_getElem? (i := 36) (by decide +kernel)) rfl⟩
def kX6_sows : List (List (Nat × Instr × Nat)) := [[(0, .aload_n 0, 1), (1, .iconst 0, 1), (2, .putfield 81, 3), (5, .aload_n 0, 1), (6, .bipush (-9), 2), (8, .putfield 78, 3), (11, .aload_n 0, 1), (12, .iconst 0, 1), (13, .putfield 84, 3)],
  [(16, .aload_n 0, 1), (17, .iconst 0, 1), (18, .putfield 87, 3), (21, .aload_n 0, 1), (22, .iload_n 1, 1), (23, .invokevirtual 90, 3), (26, .istore_n 2, 1), (27, .iload_n 2, 1), (28, .ifCond .le 49, 3), (31, .aload_n 0, 1)],
  [(32, .getfield 81, 3), (35, .bipush 60, 2), (37, .if_icmp .ge 40, 3), (40, .aload_n 0, 1), (41, .getfield 17, 3), (44, .aload_n 0, 1), (45, .getfield 78, 3)],
  [(48, .iaload, 1), (49, .aload_n 0, 1), (50, .aload_n 0, 1), (51, .getfield 13, 3), (54, .aload_n 0, 1), (55, .getfield 78, 3), (58, .iaload, 1), (59, .invokevirtual 93, 3), (62, .if_icmp .lt 15, 3)],
  [(65, .aload_n 0, 1), (66, .aload_n 0, 1), (67, .getfield 78, 3), (70, .invokevirtual 90, 3), (73, .istore_n 2, 1), (74, .goto (-47), 3), (77, .aload_n 0, 1), (78, .getfield 78, 3)],
  [(81, .bipush (-9), 2), (83, .if_icmp .eq 77, 3), (86, .aload_n 0, 1), (87, .getfield 17, 3), (90, .aload_n 0, 1), (91, .getfield 78, 3), (94, .iaload, 1), (95, .iconst 1, 1)],
  [(96, .if_icmp .ne 64, 3), (99, .aload_n 0, 1), (100, .getfield 96, 3), (103, .ifCond .ne 18, 3), (106, .aload_n 0, 1), (107, .getfield 23, 3), (110, .aload_n 0, 1), (111, .getfield 100, 3)],
  [(114, .iaload, 1), (115, .sipush 999, 3), (118, .if_icmp .ge 42, 3), (121, .aload_n 0, 1), (122, .getfield 17, 3), (125, .aload_n 0, 1), (126, .getfield 78, 3)],
  [(129, .iconst 0, 1), (130, .iastore, 1), (131, .aload_n 0, 1), (132, .iconst 1, 1), (133, .putfield 87, 3), (136, .aload_n 0, 1), (137, .getfield 23, 3), (140, .aload_n 0, 1), (141, .getfield 100, 3)],
  [(144, .dup2, 1), (145, .iaload, 1), (146, .aload_n 0, 1), (147, .getfield 96, 3), (150, .ifCond .eq 7, 3), (153, .iconst 0, 1), (154, .goto 4, 3), (157, .iconst 1, 1), (158, .iadd, 1), (159, .iastore, 1)],
  [(160, .return_, 1)]]
def mX6_sows : x_M := (yX6_sows, prog_8_method_10_code, 3, none, kX6_sows, IX6)
set_option maxRecDepth 100000 in
theorem decX6_sows : x_dec mX6_sows := by unfold x_dec; decide +kernel
theorem gX6_sows : x_good mX6_sows := ⟨by decide +kernel, decX6_sows, okX6, rfl, x_tb_in (List.mem_of_getElem? (i := 790) (by decide +kernel)) rfl, iniX6, by decide +kernel, by decide +kernel⟩
theorem vX6_sows : Cond.instanceMethod yX6_sows ∈ x_tb ∧ Cond.selects RX6 yX6_sows yX6_sows ∈ x_tb := ⟨x_tb_in (List.mem_of_getElem? (i := 789) (by decide +kernel)) rfl, x_tb_in (List.mem_of_getElem? (i := 35) (by decide +kernel)) rfl⟩
def kX6_canMove : List (List (Nat × Instr × Nat)) := [[(0, .aload_n 0, 1), (1, .iload_n 1, 1), (2, .invokevirtual 103, 3), (5, .ifCond .eq 24, 3), (8, .aload_n 0, 1), (9, .getfield 60, 3), (12, .iconst 1, 1), (13, .if_icmp .le 16, 3)],
  [(16, .aload_n 0, 1), (17, .getfield 17, 3), (20, .iload_n 1, 1), (21, .iaload, 1), (22, .ifCond .le 7, 3), (25, .iconst 1, 1), (26, .goto 4, 3), (29, .iconst 0, 1), (30, .ireturn, 1)]]
def mX6_canMove : x_M := (yX6_canMove, prog_8_method_11_code, 2, (some .boolean), kX6_canMove, IX6)
set_option maxRecDepth 100000 in
theorem decX6_canMove : x_dec mX6_canMove := by unfold x_dec; decide +kernel
theorem gX6_canMove : x_good mX6_canMove := ⟨by decide +kernel, decX6_canMove, okX6, rfl, x_tb_in (List.mem_of_getElem? (i := 775) (by decide +kernel)) rfl, iniX6, by decide +kernel, by decide +kernel⟩
theorem vX6_canMove : Cond.instanceMethod yX6_canMove ∈ x_tb ∧ Cond.selects RX6 yX6_canMove yX6_canMove ∈ x_tb := ⟨x_tb_in (List.mem_of_getElem? (i := 774) (by decide +kernel)) rfl, x_tb_in (List.mem_of_getElem? (i := 32) (by decide +kernel)) rfl⟩
def kX6_moves : List (List (Nat × Instr × Nat)) := [[(0, .aload_n 0, 1), (1, .iload_n 1, 1), (2, .invokevirtual 106, 3), (5, .aload_n 0, 1), (6, .iconst 1, 1), (7, .aload_n 0, 1), (8, .getfield 100, 3), (11, .isub, 1), (12, .putfield 100, 3), (15, .return_, 1)]]
def mX6_moves : x_M := (yX6_moves, prog_8_method_12_code, 2, none, kX6_moves, IX6)
set_option maxRecDepth 100000 in
theorem decX6_moves : x_dec mX6_moves := by unfold x_dec; decide +kernel
theorem gX6_moves : x_good mX6_moves := ⟨by decide +kernel, decX6_moves, okX6, rfl, x_tb_in (List.mem_of_getElem? (i := 786) (by decide +kernel)) rfl, iniX6, by decide +kernel, by decide +kernel⟩
theorem vX6_moves : Cond.instanceMethod yX6_moves ∈ x_tb ∧ Cond.selects RX6 yX6_moves yX6_moves ∈ x_tb := ⟨x_tb_in (List.mem_of_getElem? (i := 785) (by decide +kernel)) rfl, x_tb_in (List.mem_of_getElem? (i := 34) (by decide +kernel)) rfl⟩
def kX6_keeps : List (List (Nat × Instr × Nat)) := [[(0, .bipush 12, 2), (2, .iload_n 1, 1), (3, .imul, 1), (4, .istore_n 2, 1), (5, .iconst 0, 1), (6, .istore_n 3, 1), (7, .iload_n 3, 1), (8, .bipush 9, 2), (10, .if_icmp .ge 23, 3), (13, .aload_n 0, 1), (14, .getfield 35, 3)],
  [(17, .iload_n 2, 1), (18, .iload_n 3, 1), (19, .iadd, 1), (20, .aload_n 0, 1), (21, .getfield 17, 3), (24, .iload_n 3, 1), (25, .iaload, 1), (26, .iastore, 1), (27, .iinc 3 1, 3), (30, .goto (-23), 3)],
  [(33, .aload_n 0, 1), (34, .getfield 35, 3), (37, .iload_n 2, 1), (38, .bipush 9, 2), (40, .iadd, 1), (41, .aload_n 0, 1), (42, .getfield 23, 3), (45, .iconst 0, 1), (46, .iaload, 1), (47, .iastore, 1)],
  [(48, .aload_n 0, 1), (49, .getfield 35, 3), (52, .iload_n 2, 1), (53, .bipush 10, 2), (55, .iadd, 1), (56, .aload_n 0, 1), (57, .getfield 23, 3), (60, .iconst 1, 1), (61, .iaload, 1), (62, .iastore, 1), (63, .aload_n 0, 1)],
  [(64, .getfield 35, 3), (67, .iload_n 2, 1), (68, .bipush 11, 2), (70, .iadd, 1), (71, .aload_n 0, 1), (72, .getfield 100, 3), (75, .iastore, 1), (76, .return_, 1)]]
def mX6_keeps : x_M := (yX6_keeps, prog_8_method_13_code, 4, none, kX6_keeps, IX6)
set_option maxRecDepth 100000 in
theorem decX6_keeps : x_dec mX6_keeps := by unfold x_dec; decide +kernel
theorem gX6_keeps : x_good mX6_keeps := ⟨by decide +kernel, decX6_keeps, okX6, rfl, x_tb_in (List.mem_of_getElem? (i := 759) (by decide +kernel)) rfl, iniX6, by decide +kernel, by decide +kernel⟩
theorem vX6_keeps : Cond.instanceMethod yX6_keeps ∈ x_tb ∧ Cond.selects RX6 yX6_keeps yX6_keeps ∈ x_tb := ⟨x_tb_in (List.mem_of_getElem? (i := 758) (by decide +kernel)) rfl, x_tb_in (List.mem_of_getElem? (i := 28) (by decide +kernel)) rfl⟩
def kX6_lays : List (List (Nat × Instr × Nat)) := [[(0, .bipush 12, 2), (2, .iload_n 1, 1), (3, .imul, 1), (4, .istore_n 2, 1), (5, .iconst 0, 1), (6, .istore_n 3, 1), (7, .iload_n 3, 1), (8, .bipush 9, 2), (10, .if_icmp .ge 23, 3), (13, .aload_n 0, 1), (14, .getfield 17, 3)],
  [(17, .iload_n 3, 1), (18, .aload_n 0, 1), (19, .getfield 35, 3), (22, .iload_n 2, 1), (23, .iload_n 3, 1), (24, .iadd, 1), (25, .iaload, 1), (26, .iastore, 1), (27, .iinc 3 1, 3), (30, .goto (-23), 3)],
  [(33, .aload_n 0, 1), (34, .getfield 23, 3), (37, .iconst 0, 1), (38, .aload_n 0, 1), (39, .getfield 35, 3), (42, .iload_n 2, 1), (43, .bipush 9, 2), (45, .iadd, 1), (46, .iaload, 1), (47, .iastore, 1)],
  [(48, .aload_n 0, 1), (49, .getfield 23, 3), (52, .iconst 1, 1), (53, .aload_n 0, 1), (54, .getfield 35, 3), (57, .iload_n 2, 1), (58, .bipush 10, 2), (60, .iadd, 1), (61, .iaload, 1), (62, .iastore, 1), (63, .aload_n 0, 1)],
  [(64, .aload_n 0, 1), (65, .getfield 35, 3), (68, .iload_n 2, 1), (69, .bipush 11, 2), (71, .iadd, 1), (72, .iaload, 1), (73, .putfield 100, 3), (76, .return_, 1)]]
def mX6_lays : x_M := (yX6_lays, prog_8_method_14_code, 4, none, kX6_lays, IX6)
set_option maxRecDepth 100000 in
theorem decX6_lays : x_dec mX6_lays := by unfold x_dec; decide +kernel
theorem gX6_lays : x_good mX6_lays := ⟨by decide +kernel, decX6_lays, okX6, rfl, x_tb_in (List.mem_of_getElem? (i := 814) (by decide +kernel)) rfl, iniX6, by decide +kernel, by decide +kernel⟩
theorem vX6_lays : Cond.instanceMethod yX6_lays ∈ x_tb ∧ Cond.selects RX6 yX6_lays yX6_lays ∈ x_tb := ⟨x_tb_in (List.mem_of_getElem? (i := 813) (by decide +kernel)) rfl, x_tb_in (List.mem_of_getElem? (i := 41) (by decide +kernel)) rfl⟩
def kX6_letter : List (List (Nat × Instr × Nat)) := [[(0, .iload_n 1, 1), (1, .ifCond .ge 10, 3), (4, .aload_n 0, 1), (5, .bipush (-4), 2), (7, .invokevirtual 110, 3), (10, .ireturn, 1), (11, .iload_n 1, 1), (12, .sipush 255, 3), (15, .if_icmp .gt 12, 3)],
  [(18, .aload_n 0, 1), (19, .getfield 113, 3), (22, .bipush 96, 2), (24, .if_icmp .ne 10, 3), (27, .aload_n 0, 1), (28, .bipush (-6), 2), (30, .invokevirtual 110, 3)],
  [(33, .ireturn, 1), (34, .aload_n 0, 1), (35, .getfield 29, 3), (38, .aload_n 0, 1), (39, .getfield 113, 3), (42, .iload_n 1, 1), (43, .iastore, 1), (44, .aload_n 0, 1), (45, .dup, 1), (46, .getfield 113, 3)],
  [(49, .iconst 1, 1), (50, .iadd, 1), (51, .putfield 113, 3), (54, .aload_n 0, 1), (55, .getfield 113, 3), (58, .ireturn, 1)]]
def mX6_letter : x_M := (yX6_letter, prog_8_method_15_code, 2, (some .int), kX6_letter, IX6)
set_option maxRecDepth 100000 in
theorem decX6_letter : x_dec mX6_letter := by unfold x_dec; decide +kernel
theorem gX6_letter : x_good mX6_letter := ⟨by decide +kernel, decX6_letter, okX6, rfl, x_tb_in (List.mem_of_getElem? (i := 729) (by decide +kernel)) rfl, iniX6, by decide +kernel, by decide +kernel⟩
theorem vX6_letter : Cond.instanceMethod yX6_letter ∈ x_tb ∧ Cond.selects RX6 yX6_letter yX6_letter ∈ x_tb := ⟨x_tb_in (List.mem_of_getElem? (i := 727) (by decide +kernel)) rfl, x_tb_in (List.mem_of_getElem? (i := 728) (by decide +kernel)) rfl⟩
def kX6_letterAt : List (List (Nat × Instr × Nat)) := [[(0, .iload_n 1, 1), (1, .aload_n 0, 1), (2, .getfield 113, 3), (5, .if_icmp .ge 12, 3), (8, .aload_n 0, 1), (9, .getfield 29, 3), (12, .iload_n 1, 1), (13, .iaload, 1), (14, .goto 4, 3)],
  [(17, .iconst (-1), 1), (18, .ireturn, 1)]]
def mX6_letterAt : x_M := (yX6_letterAt, prog_8_method_16_code, 2, (some .int), kX6_letterAt, IX6)
set_option maxRecDepth 100000 in
theorem decX6_letterAt : x_dec mX6_letterAt := by unfold x_dec; decide +kernel
theorem gX6_letterAt : x_good mX6_letterAt := ⟨by decide +kernel, decX6_letterAt, okX6, rfl, x_tb_in (List.mem_of_getElem? (i := 745) (by decide +kernel)) rfl, iniX6, by decide +kernel, by decide +kernel⟩
theorem vX6_letterAt : Cond.instanceMethod yX6_letterAt ∈ x_tb ∧ Cond.selects RX6 yX6_letterAt yX6_letterAt ∈ x_tb := ⟨x_tb_in (List.mem_of_getElem? (i := 744) (by decide +kernel)) rfl, x_tb_in (List.mem_of_getElem? (i := 26) (by decide +kernel)) rfl⟩
def kX6_isDigit : List (List (Nat × Instr × Nat)) := [[(0, .iload_n 0, 1), (1, .bipush 48, 2), (3, .if_icmp .lt 13, 3), (6, .iload_n 0, 1), (7, .bipush 57, 2), (9, .if_icmp .gt 7, 3), (12, .iconst 1, 1), (13, .goto 4, 3)],
  [(16, .iconst 0, 1), (17, .ireturn, 1)]]
def mX6_isDigit : x_M := (yX6_isDigit, prog_8_method_17_code, 1, (some .boolean), kX6_isDigit, IX6)
set_option maxRecDepth 100000 in
theorem decX6_isDigit : x_dec mX6_isDigit := by unfold x_dec; decide +kernel
theorem gX6_isDigit : x_good mX6_isDigit := ⟨by decide +kernel, decX6_isDigit, okX6, rfl, x_tb_in (List.mem_of_getElem? (i := 755) (by decide +kernel)) rfl, iniX6, by decide +kernel, by decide +kernel⟩
theorem vX6_isDigit : Cond.static yX6_isDigit ∈ x_tb := x_tb_in (List.mem_of_getElem? (i := 754) (by decide +kernel)) rfl
def kX6_kindOf : List (List (Nat × Instr × Nat)) := [[(0, .iload_n 0, 1), (1, .bipush 111, 2), (3, .if_icmp .ne 7, 3), (6, .iconst 0, 1), (7, .goto 54, 3), (10, .iload_n 0, 1), (11, .bipush 104, 2), (13, .if_icmp .ne 7, 3)],
  [(16, .iconst 1, 1), (17, .goto 44, 3), (20, .iload_n 0, 1), (21, .bipush 100, 2), (23, .if_icmp .ne 7, 3), (26, .iconst 2, 1), (27, .goto 34, 3), (30, .iload_n 0, 1), (31, .bipush 119, 2)],
  [(33, .if_icmp .ne 7, 3), (36, .iconst 3, 1), (37, .goto 24, 3), (40, .iload_n 0, 1), (41, .bipush 110, 2), (43, .if_icmp .ne 7, 3), (46, .iconst 4, 1), (47, .goto 14, 3)],
  [(50, .iload_n 0, 1), (51, .bipush 113, 2), (53, .if_icmp .ne 7, 3), (56, .iconst 5, 1), (57, .goto 4, 3), (60, .iconst (-1), 1), (61, .ireturn, 1)]]
def mX6_kindOf : x_M := (yX6_kindOf, prog_8_method_18_code, 1, (some .int), kX6_kindOf, IX6)
set_option maxRecDepth 100000 in
theorem decX6_kindOf : x_dec mX6_kindOf := by unfold x_dec; decide +kernel
theorem gX6_kindOf : x_good mX6_kindOf := ⟨by decide +kernel, decX6_kindOf, okX6, rfl, x_tb_in (List.mem_of_getElem? (i := 748) (by decide +kernel)) rfl, iniX6, by decide +kernel, by decide +kernel⟩
theorem vX6_kindOf : Cond.static yX6_kindOf ∈ x_tb := x_tb_in (List.mem_of_getElem? (i := 747) (by decide +kernel)) rfl
def kX6_digitsFrom : List (List (Nat × Instr × Nat)) := [[(0, .iconst 0, 1), (1, .istore_n 3, 1), (2, .iload_n 3, 1), (3, .iload_n 2, 1), (4, .if_icmp .ge 22, 3), (7, .aload_n 0, 1), (8, .iload_n 1, 1), (9, .iload_n 3, 1), (10, .iadd, 1), (11, .invokevirtual 116, 3), (14, .invokestatic 119, 3)],
  [(17, .ifCond .eq 9, 3), (20, .iinc 3 1, 3), (23, .goto (-21), 3), (26, .iload_n 3, 1), (27, .ireturn, 1)]]
def mX6_digitsFrom : x_M := (yX6_digitsFrom, prog_8_method_19_code, 4, (some .int), kX6_digitsFrom, IX6)
set_option maxRecDepth 100000 in
theorem decX6_digitsFrom : x_dec mX6_digitsFrom := by unfold x_dec; decide +kernel
theorem gX6_digitsFrom : x_good mX6_digitsFrom := ⟨by decide +kernel, decX6_digitsFrom, okX6, rfl, x_tb_in (List.mem_of_getElem? (i := 752) (by decide +kernel)) rfl, iniX6, by decide +kernel, by decide +kernel⟩
theorem vX6_digitsFrom : Cond.instanceMethod yX6_digitsFrom ∈ x_tb ∧ Cond.selects RX6 yX6_digitsFrom yX6_digitsFrom ∈ x_tb := ⟨x_tb_in (List.mem_of_getElem? (i := 751) (by decide +kernel)) rfl, x_tb_in (List.mem_of_getElem? (i := 27) (by decide +kernel)) rfl⟩
def kX6_passes : List (List (Nat × Instr × Nat)) := [[(0, .aload_n 0, 1), (1, .iload_n 1, 1), (2, .invokevirtual 116, 3), (5, .istore_n 2, 1), (6, .iload_n 1, 1), (7, .iconst 1, 1), (8, .iadd, 1), (9, .istore_n 3, 1), (10, .iconst 1, 1), (11, .istore 4, 2), (13, .iconst 1, 1), (14, .istore 5, 2)],
  [(16, .iload_n 2, 1), (17, .bipush 98, 2), (19, .if_icmp .ne 33, 3), (22, .aload_n 0, 1), (23, .iload_n 3, 1), (24, .invokevirtual 116, 3), (27, .invokestatic 122, 3), (30, .ifCond .ge 10, 3)],
  [(33, .aload_n 0, 1), (34, .iload_n 3, 1), (35, .putfield 125, 3), (38, .iload_n 3, 1), (39, .ireturn, 1), (40, .iinc 3 1, 3), (43, .iconst 2, 1), (44, .istore 4, 2), (46, .iconst 2, 1), (47, .istore 5, 2)],
  [(49, .goto 56, 3), (52, .iload_n 2, 1), (53, .bipush 99, 2), (55, .if_icmp .ne 12, 3), (58, .iconst 2, 1), (59, .istore 4, 2), (61, .iconst 2, 1), (62, .istore 5, 2)],
  [(64, .goto 41, 3), (67, .iload_n 2, 1), (68, .bipush 115, 2), (70, .if_icmp .ne 10, 3), (73, .bipush 9, 2), (75, .istore 5, 2), (77, .goto 28, 3)],
  [(80, .iload_n 2, 1), (81, .bipush 102, 2), (83, .if_icmp .eq 22, 3), (86, .iload_n 2, 1), (87, .bipush 108, 2), (89, .if_icmp .eq 16, 3), (92, .iload_n 2, 1), (93, .bipush 116, 2), (95, .if_icmp .eq 10, 3)],
  [(98, .aload_n 0, 1), (99, .iload_n 1, 1), (100, .putfield 125, 3), (103, .iload_n 1, 1), (104, .ireturn, 1), (105, .aload_n 0, 1), (106, .iload_n 3, 1), (107, .iload 5, 2), (109, .invokevirtual 128, 3)],
  [(112, .istore 6, 2), (114, .iload_n 3, 1), (115, .iload 6, 2), (117, .iadd, 1), (118, .istore_n 3, 1), (119, .iload 6, 2), (121, .iload 4, 2), (123, .if_icmp .lt 13, 3), (126, .aload_n 0, 1), (127, .iload_n 3, 1)],
  [(128, .invokevirtual 116, 3), (131, .bipush 59, 2), (133, .if_icmp .eq 8, 3), (136, .aload_n 0, 1), (137, .iload_n 3, 1), (138, .putfield 125, 3), (141, .iload_n 3, 1), (142, .iconst 1, 1), (143, .iadd, 1)],
  [(144, .ireturn, 1)]]
def mX6_passes : x_M := (yX6_passes, prog_8_method_20_code, 7, (some .int), kX6_passes, IX6)
set_option maxRecDepth 100000 in
theorem decX6_passes : x_dec mX6_passes := by unfold x_dec; decide +kernel
theorem gX6_passes : x_good mX6_passes := ⟨by decide +kernel, decX6_passes, okX6, rfl, x_tb_in (List.mem_of_getElem? (i := 741) (by decide +kernel)) rfl, iniX6, by decide +kernel, by decide +kernel⟩
theorem vX6_passes : Cond.instanceMethod yX6_passes ∈ x_tb ∧ Cond.selects RX6 yX6_passes yX6_passes ∈ x_tb := ⟨x_tb_in (List.mem_of_getElem? (i := 740) (by decide +kernel)) rfl, x_tb_in (List.mem_of_getElem? (i := 25) (by decide +kernel)) rfl⟩
def kX6_digit : List (List (Nat × Instr × Nat)) := [[(0, .aload_n 0, 1), (1, .getfield 29, 3), (4, .iload_n 1, 1), (5, .iaload, 1), (6, .bipush 48, 2), (8, .isub, 1), (9, .ireturn, 1)]]
def mX6_digit : x_M := (yX6_digit, prog_8_method_21_code, 2, (some .int), kX6_digit, IX6)
set_option maxRecDepth 100000 in
theorem decX6_digit : x_dec mX6_digit := by unfold x_dec; decide +kernel
theorem gX6_digit : x_good mX6_digit := ⟨by decide +kernel, decX6_digit, okX6, rfl, x_tb_in (List.mem_of_getElem? (i := 767) (by decide +kernel)) rfl, iniX6, by decide +kernel, by decide +kernel⟩
theorem vX6_digit : Cond.instanceMethod yX6_digit ∈ x_tb ∧ Cond.selects RX6 yX6_digit yX6_digit ∈ x_tb := ⟨x_tb_in (List.mem_of_getElem? (i := 766) (by decide +kernel)) rfl, x_tb_in (List.mem_of_getElem? (i := 30) (by decide +kernel)) rfl⟩
def kX6_doesSowings : List (List (Nat × Instr × Nat)) := [[(0, .iload_n 1, 1), (1, .iconst 1, 1), (2, .iadd, 1), (3, .istore_n 2, 1), (4, .aload_n 0, 1), (5, .getfield 29, 3), (8, .iload_n 2, 1), (9, .iaload, 1), (10, .bipush 59, 2), (12, .if_icmp .eq 52, 3), (15, .aload_n 0, 1)],
  [(16, .aload_n 0, 1), (17, .iload_n 2, 1), (18, .invokevirtual 132, 3), (21, .invokevirtual 135, 3), (24, .ifCond .eq 13, 3), (27, .aload_n 0, 1), (28, .getfield 138, 3), (31, .sipush 999, 3)],
  [(34, .if_icmp .ne 5, 3), (37, .iconst 0, 1), (38, .ireturn, 1), (39, .aload_n 0, 1), (40, .aload_n 0, 1), (41, .iload_n 2, 1), (42, .invokevirtual 132, 3), (45, .invokevirtual 141, 3)],
  [(48, .aload_n 0, 1), (49, .dup, 1), (50, .getfield 138, 3), (53, .iconst 1, 1), (54, .iadd, 1), (55, .putfield 138, 3), (58, .iinc 2 1, 3), (61, .goto (-57), 3)],
  [(64, .iconst 1, 1), (65, .ireturn, 1)]]
def mX6_doesSowings : x_M := (yX6_doesSowings, prog_8_method_22_code, 3, (some .boolean), kX6_doesSowings, IX6)
set_option maxRecDepth 100000 in
theorem decX6_doesSowings : x_dec mX6_doesSowings := by unfold x_dec; decide +kernel
theorem gX6_doesSowings : x_good mX6_doesSowings := ⟨by decide +kernel, decX6_doesSowings, okX6, rfl, x_tb_in (List.mem_of_getElem? (i := 771) (by decide +kernel)) rfl, iniX6, by decide +kernel, by decide +kernel⟩
theorem vX6_doesSowings : Cond.instanceMethod yX6_doesSowings ∈ x_tb ∧ Cond.selects RX6 yX6_doesSowings yX6_doesSowings ∈ x_tb := ⟨x_tb_in (List.mem_of_getElem? (i := 770) (by decide +kernel)) rfl, x_tb_in (List.mem_of_getElem? (i := 31) (by decide +kernel)) rfl⟩
def kX6_does : List (List (Nat × Instr × Nat)) := [[(0, .aload_n 0, 1), (1, .getfield 29, 3), (4, .iload_n 1, 1), (5, .iaload, 1), (6, .istore_n 2, 1), (7, .aload_n 0, 1), (8, .iload_n 1, 1), (9, .iconst 1, 1), (10, .iadd, 1), (11, .invokevirtual 132, 3), (14, .istore_n 3, 1), (15, .iload_n 2, 1)],
  [(16, .bipush 98, 2), (18, .if_icmp .ne 84, 3), (21, .bipush 10, 2), (23, .aload_n 0, 1), (24, .iload_n 1, 1), (25, .iconst 2, 1), (26, .iadd, 1), (27, .invokevirtual 132, 3), (30, .imul, 1), (31, .aload_n 0, 1)],
  [(32, .iload_n 1, 1), (33, .iconst 3, 1), (34, .iadd, 1), (35, .invokevirtual 132, 3), (38, .iadd, 1), (39, .istore 4, 2), (41, .iload 4, 2), (43, .bipush 20, 2), (45, .if_icmp .gt 12, 3)],
  [(48, .aload_n 0, 1), (49, .getfield 60, 3), (52, .bipush 9, 2), (54, .if_icmp .ne 5, 3), (57, .iconst 0, 1), (58, .ireturn, 1), (59, .aload_n 0, 1), (60, .getfield 13, 3), (63, .aload_n 0, 1)],
  [(64, .getfield 60, 3), (67, .aload_n 0, 1), (68, .getfield 29, 3), (71, .iload_n 1, 1), (72, .iconst 1, 1), (73, .iadd, 1), (74, .iaload, 1), (75, .invokestatic 122, 3), (78, .iastore, 1), (79, .aload_n 0, 1)],
  [(80, .getfield 17, 3), (83, .aload_n 0, 1), (84, .getfield 60, 3), (87, .iload 4, 2), (89, .iastore, 1), (90, .aload_n 0, 1), (91, .dup, 1), (92, .getfield 60, 3), (95, .iconst 1, 1)],
  [(96, .iadd, 1), (97, .putfield 60, 3), (100, .iconst 1, 1), (101, .ireturn, 1), (102, .iload_n 2, 1), (103, .bipush 115, 2), (105, .if_icmp .ne 9, 3), (108, .aload_n 0, 1), (109, .iload_n 1, 1), (110, .invokevirtual 144, 3)],
  [(113, .ireturn, 1), (114, .iload_n 2, 1), (115, .bipush 99, 2), (117, .if_icmp .ne 46, 3), (120, .aload_n 0, 1), (121, .iload_n 1, 1), (122, .iconst 2, 1), (123, .iadd, 1), (124, .invokevirtual 132, 3), (127, .istore 4, 2)],
  [(129, .aload_n 0, 1), (130, .iload_n 3, 1), (131, .invokevirtual 103, 3), (134, .ifCond .eq 18, 3), (137, .aload_n 0, 1), (138, .iload 4, 2), (140, .invokevirtual 103, 3), (143, .ifCond .eq 9, 3)],
  [(146, .iload_n 3, 1), (147, .iload 4, 2), (149, .if_icmp .ne 5, 3), (152, .iconst 0, 1), (153, .ireturn, 1), (154, .aload_n 0, 1), (155, .iload_n 3, 1), (156, .iload 4, 2), (158, .invokevirtual 147, 3)],
  [(161, .iconst 1, 1), (162, .ireturn, 1), (163, .iload_n 2, 1), (164, .bipush 102, 2), (166, .if_icmp .ne 10, 3), (169, .iload_n 3, 1), (170, .ifCond .ne 13, 3), (173, .goto 8, 3)],
  [(176, .iload_n 3, 1), (177, .iconst 1, 1), (178, .if_icmp .le 5, 3), (181, .iconst 0, 1), (182, .ireturn, 1), (183, .iload_n 2, 1), (184, .bipush 102, 2), (186, .if_icmp .ne 11, 3), (189, .aload_n 0, 1), (190, .iload_n 3, 1), (191, .putfield 20, 3)],
  [(194, .goto 22, 3), (197, .iload_n 2, 1), (198, .bipush 108, 2), (200, .if_icmp .ne 11, 3), (203, .aload_n 0, 1), (204, .iload_n 3, 1), (205, .putfield 67, 3)],
  [(208, .goto 8, 3), (211, .aload_n 0, 1), (212, .iload_n 3, 1), (213, .putfield 100, 3), (216, .iconst 1, 1), (217, .ireturn, 1)]]
def mX6_does : x_M := (yX6_does, prog_8_method_23_code, 5, (some .boolean), kX6_does, IX6)
set_option maxRecDepth 100000 in
theorem decX6_does : x_dec mX6_does := by unfold x_dec; decide +kernel
theorem gX6_does : x_good mX6_does := ⟨by decide +kernel, decX6_does, okX6, rfl, x_tb_in (List.mem_of_getElem? (i := 763) (by decide +kernel)) rfl, iniX6, by decide +kernel, by decide +kernel⟩
theorem vX6_does : Cond.instanceMethod yX6_does ∈ x_tb ∧ Cond.selects RX6 yX6_does yX6_does ∈ x_tb := ⟨x_tb_in (List.mem_of_getElem? (i := 762) (by decide +kernel)) rfl, x_tb_in (List.mem_of_getElem? (i := 29) (by decide +kernel)) rfl⟩
def kX6_exchanges : List (List (Nat × Instr × Nat)) := [[(0, .aload_n 0, 1), (1, .getfield 17, 3), (4, .iload_n 1, 1), (5, .iaload, 1), (6, .istore_n 3, 1), (7, .aload_n 0, 1), (8, .getfield 17, 3), (11, .iload_n 1, 1), (12, .aload_n 0, 1), (13, .getfield 17, 3)],
  [(16, .iload_n 2, 1), (17, .iaload, 1), (18, .iastore, 1), (19, .aload_n 0, 1), (20, .getfield 17, 3), (23, .iload_n 2, 1), (24, .iload_n 3, 1), (25, .iastore, 1), (26, .return_, 1)]]
def mX6_exchanges : x_M := (yX6_exchanges, prog_8_method_24_code, 4, none, kX6_exchanges, IX6)
set_option maxRecDepth 100000 in
theorem decX6_exchanges : x_dec mX6_exchanges := by unfold x_dec; decide +kernel
theorem gX6_exchanges : x_good mX6_exchanges := ⟨by decide +kernel, decX6_exchanges, okX6, rfl, x_tb_in (List.mem_of_getElem? (i := 810) (by decide +kernel)) rfl, iniX6, by decide +kernel, by decide +kernel⟩
theorem vX6_exchanges : Cond.instanceMethod yX6_exchanges ∈ x_tb ∧ Cond.selects RX6 yX6_exchanges yX6_exchanges ∈ x_tb := ⟨x_tb_in (List.mem_of_getElem? (i := 809) (by decide +kernel)) rfl, x_tb_in (List.mem_of_getElem? (i := 40) (by decide +kernel)) rfl⟩
def kX6_game : List (List (Nat × Instr × Nat)) := [[(0, .aload_n 0, 1), (1, .iconst (-1), 1), (2, .putfield 125, 3), (5, .iconst 0, 1), (6, .istore_n 1, 1), (7, .iconst 0, 1), (8, .istore_n 2, 1), (9, .aload_n 0, 1), (10, .getfield 125, 3), (13, .ifCond .ge 27, 3)],
  [(16, .iload_n 1, 1), (17, .aload_n 0, 1), (18, .getfield 113, 3), (21, .if_icmp .lt 7, 3), (24, .iload_n 2, 1), (25, .ifCond .ne 15, 3), (28, .aload_n 0, 1), (29, .iload_n 1, 1), (30, .invokevirtual 151, 3)],
  [(33, .istore_n 1, 1), (34, .iinc 2 1, 3), (37, .goto (-28), 3), (40, .aload_n 0, 1), (41, .getfield 125, 3), (44, .ifCond .lt 17, 3), (47, .aload_n 0, 1)],
  [(48, .iconst 0, 1), (49, .putfield 113, 3), (52, .sipush (-1000), 3), (55, .aload_n 0, 1), (56, .getfield 125, 3), (59, .isub, 1), (60, .ireturn, 1), (61, .aload_n 0, 1), (62, .bipush 7, 2)],
  [(64, .invokevirtual 154, 3), (67, .iconst 0, 1), (68, .istore_n 3, 1), (69, .iload_n 3, 1), (70, .bipush 9, 2), (72, .if_icmp .ge 21, 3), (75, .aload_n 0, 1), (76, .getfield 38, 3), (79, .iload_n 3, 1)],
  [(80, .aload_n 0, 1), (81, .getfield 13, 3), (84, .iload_n 3, 1), (85, .iaload, 1), (86, .iastore, 1), (87, .iinc 3 1, 3), (90, .goto (-21), 3), (93, .aload_n 0, 1), (94, .getfield 60, 3)],
  [(97, .istore_n 3, 1), (98, .aload_n 0, 1), (99, .getfield 20, 3), (102, .istore 4, 2), (104, .aload_n 0, 1), (105, .getfield 67, 3), (108, .istore 5, 2), (110, .aload_n 0, 1), (111, .getfield 138, 3)],
  [(114, .istore 6, 2), (116, .iconst 0, 1), (117, .istore 7, 2), (119, .iconst 0, 1), (120, .istore_n 1, 1), (121, .iload 7, 2), (123, .ifCond .ne 35, 3), (126, .iload_n 1, 1), (127, .aload_n 0, 1)],
  [(128, .getfield 113, 3), (131, .if_icmp .ge 27, 3), (134, .aload_n 0, 1), (135, .iload_n 1, 1), (136, .invokevirtual 157, 3), (139, .ifCond .ne 10, 3), (142, .sipush (-2000), 3)],
  [(145, .iload_n 1, 1), (146, .isub, 1), (147, .istore 7, 2), (149, .aload_n 0, 1), (150, .iload_n 1, 1), (151, .invokevirtual 151, 3), (154, .istore_n 1, 1), (155, .goto (-34), 3), (158, .aload_n 0, 1), (159, .iconst 0, 1)],
  [(160, .putfield 113, 3), (163, .iload 7, 2), (165, .ifCond .ne 5, 3), (168, .iload_n 2, 1), (169, .ireturn, 1), (170, .aload_n 0, 1), (171, .bipush 7, 2), (173, .invokevirtual 160, 3)],
  [(176, .iconst 0, 1), (177, .istore 8, 2), (179, .iload 8, 2), (181, .bipush 9, 2), (183, .if_icmp .ge 23, 3), (186, .aload_n 0, 1), (187, .getfield 13, 3), (190, .iload 8, 2)],
  [(192, .aload_n 0, 1), (193, .getfield 38, 3), (196, .iload 8, 2), (198, .iaload, 1), (199, .iastore, 1), (200, .iinc 8 1, 3), (203, .goto (-24), 3), (206, .aload_n 0, 1), (207, .iload_n 3, 1)],
  [(208, .putfield 60, 3), (211, .aload_n 0, 1), (212, .iload 4, 2), (214, .putfield 20, 3), (217, .aload_n 0, 1), (218, .iload 5, 2), (220, .putfield 67, 3), (223, .aload_n 0, 1)],
  [(224, .iload 6, 2), (226, .putfield 138, 3), (229, .iload 7, 2), (231, .ireturn, 1)]]
def mX6_game : x_M := (yX6_game, prog_8_method_25_code, 9, (some .int), kX6_game, IX6)
set_option maxRecDepth 100000 in
theorem decX6_game : x_dec mX6_game := by unfold x_dec; decide +kernel
theorem gX6_game : x_good mX6_game := ⟨by decide +kernel, decX6_game, okX6, rfl, x_tb_in (List.mem_of_getElem? (i := 737) (by decide +kernel)) rfl, iniX6, by decide +kernel, by decide +kernel⟩
theorem vX6_game : Cond.instanceMethod yX6_game ∈ x_tb ∧ Cond.selects RX6 yX6_game yX6_game ∈ x_tb := ⟨x_tb_in (List.mem_of_getElem? (i := 735) (by decide +kernel)) rfl, x_tb_in (List.mem_of_getElem? (i := 736) (by decide +kernel)) rfl⟩
def kX6_bowl : List (List (Nat × Instr × Nat)) := [[(0, .aload_n 0, 1), (1, .iload_n 1, 1), (2, .invokevirtual 103, 3), (5, .ifCond .ne 9, 3), (8, .aload_n 0, 1), (9, .iconst (-1), 1), (10, .invokevirtual 110, 3), (13, .ireturn, 1), (14, .iload_n 2, 1), (15, .i2l, 1)],
  [(16, .lconst 0, 1), (17, .ldc2_w 163, 3), (20, .invokestatic 63, 3), (23, .ifCond .ne 10, 3), (26, .aload_n 0, 1), (27, .bipush (-2), 2), (29, .invokevirtual 110, 3)],
  [(32, .ireturn, 1), (33, .aload_n 0, 1), (34, .aload_n 0, 1), (35, .getfield 13, 3), (38, .iload_n 1, 1), (39, .iaload, 1), (40, .invokevirtual 93, 3), (43, .istore_n 3, 1), (44, .iload_n 2, 1), (45, .ifCond .ne 12, 3)],
  [(48, .aload_n 0, 1), (49, .getfield 13, 3), (52, .iload_n 1, 1), (53, .iaload, 1), (54, .goto 51, 3), (57, .iload_n 2, 1), (58, .iconst 1, 1), (59, .if_icmp .ne 12, 3), (62, .aload_n 0, 1), (63, .getfield 17, 3)],
  [(66, .iload_n 1, 1), (67, .iaload, 1), (68, .goto 37, 3), (71, .iload_n 2, 1), (72, .iconst 2, 1), (73, .if_icmp .ne 19, 3), (76, .iload_n 3, 1), (77, .sipush 1000, 3)],
  [(80, .if_icmp .ne 8, 3), (83, .bipush (-9), 2), (85, .goto 20, 3), (88, .iload_n 3, 1), (89, .goto 16, 3), (92, .aload_n 0, 1), (93, .iload_n 1, 1), (94, .invokevirtual 74, 3)],
  [(97, .ifCond .eq 7, 3), (100, .iconst 1, 1), (101, .goto 4, 3), (104, .iconst 0, 1), (105, .ireturn, 1)]]
def mX6_bowl : x_M := (yX6_bowl, prog_8_method_26_code, 4, (some .int), kX6_bowl, IX6)
set_option maxRecDepth 100000 in
theorem decX6_bowl : x_dec mX6_bowl := by unfold x_dec; decide +kernel
theorem gX6_bowl : x_good mX6_bowl := ⟨by decide +kernel, decX6_bowl, okX6, rfl, x_tb_in (List.mem_of_getElem? (i := 818) (by decide +kernel)) rfl, iniX6, by decide +kernel, by decide +kernel⟩
theorem vX6_bowl : Cond.instanceMethod yX6_bowl ∈ x_tb ∧ Cond.selects RX6 yX6_bowl yX6_bowl ∈ x_tb := ⟨x_tb_in (List.mem_of_getElem? (i := 816) (by decide +kernel)) rfl, x_tb_in (List.mem_of_getElem? (i := 817) (by decide +kernel)) rfl⟩
def kX6_put : List (List (Nat × Instr × Nat)) := [[(0, .aload_n 0, 1), (1, .iload_n 1, 1), (2, .invokevirtual 103, 3), (5, .ifCond .ne 9, 3), (8, .aload_n 0, 1), (9, .iconst (-1), 1), (10, .invokevirtual 110, 3), (13, .ireturn, 1), (14, .iload_n 2, 1), (15, .ifCond .ge 10, 3)],
  [(18, .aload_n 0, 1), (19, .bipush (-4), 2), (21, .invokevirtual 110, 3), (24, .ireturn, 1), (25, .iload_n 2, 1), (26, .bipush 20, 2), (28, .if_icmp .le 10, 3), (31, .aload_n 0, 1)],
  [(32, .bipush (-6), 2), (34, .invokevirtual 110, 3), (37, .ireturn, 1), (38, .aload_n 0, 1), (39, .getfield 17, 3), (42, .iload_n 1, 1), (43, .iaload, 1), (44, .istore_n 3, 1), (45, .aload_n 0, 1), (46, .getfield 17, 3)],
  [(49, .iload_n 1, 1), (50, .iload_n 2, 1), (51, .iastore, 1), (52, .iload_n 3, 1), (53, .ireturn, 1)]]
def mX6_put : x_M := (yX6_put, prog_8_method_27_code, 4, (some .int), kX6_put, IX6)
set_option maxRecDepth 100000 in
theorem decX6_put : x_dec mX6_put := by unfold x_dec; decide +kernel
theorem gX6_put : x_good mX6_put := ⟨by decide +kernel, decX6_put, okX6, rfl, x_tb_in (List.mem_of_getElem? (i := 823) (by decide +kernel)) rfl, iniX6, by decide +kernel, by decide +kernel⟩
theorem vX6_put : Cond.instanceMethod yX6_put ∈ x_tb ∧ Cond.selects RX6 yX6_put yX6_put ∈ x_tb := ⟨x_tb_in (List.mem_of_getElem? (i := 821) (by decide +kernel)) rfl, x_tb_in (List.mem_of_getElem? (i := 822) (by decide +kernel)) rfl⟩
def kX6_set : List (List (Nat × Instr × Nat)) := [[(0, .iload_n 1, 1), (1, .i2l, 1), (2, .lconst 0, 1), (3, .ldc2_w 165, 3), (6, .invokestatic 63, 3), (9, .ifCond .ne 10, 3), (12, .aload_n 0, 1), (13, .bipush (-2), 2), (15, .invokevirtual 110, 3)],
  [(18, .ireturn, 1), (19, .iload_n 2, 1), (20, .iload_n 1, 1), (21, .ifCond .ne 7, 3), (24, .iconst 1, 1), (25, .goto 4, 3), (28, .iconst 0, 1), (29, .if_icmp .ge 10, 3)],
  [(32, .aload_n 0, 1), (33, .bipush (-4), 2), (35, .invokevirtual 110, 3), (38, .ireturn, 1), (39, .iload_n 2, 1), (40, .iload_n 1, 1), (41, .ifCond .ne 8, 3), (44, .bipush 9, 2), (46, .goto 4, 3)],
  [(49, .iconst 1, 1), (50, .if_icmp .le 10, 3), (53, .aload_n 0, 1), (54, .bipush (-6), 2), (56, .invokevirtual 110, 3), (59, .ireturn, 1), (60, .iload_n 1, 1), (61, .ifCond .ne 10, 3)],
  [(64, .aload_n 0, 1), (65, .getfield 20, 3), (68, .goto 19, 3), (71, .iload_n 1, 1), (72, .iconst 1, 1), (73, .if_icmp .ne 10, 3), (76, .aload_n 0, 1), (77, .getfield 67, 3)],
  [(80, .goto 7, 3), (83, .aload_n 0, 1), (84, .getfield 100, 3), (87, .istore_n 3, 1), (88, .iload_n 1, 1), (89, .ifCond .ne 11, 3), (92, .aload_n 0, 1), (93, .iload_n 2, 1), (94, .putfield 20, 3)],
  [(97, .goto 21, 3), (100, .iload_n 1, 1), (101, .iconst 1, 1), (102, .if_icmp .ne 11, 3), (105, .aload_n 0, 1), (106, .iload_n 2, 1), (107, .putfield 67, 3), (110, .goto 8, 3)],
  [(113, .aload_n 0, 1), (114, .iload_n 2, 1), (115, .putfield 100, 3), (118, .iload_n 3, 1), (119, .ireturn, 1)]]
def mX6_set : x_M := (yX6_set, prog_8_method_28_code, 4, (some .int), kX6_set, IX6)
set_option maxRecDepth 100000 in
theorem decX6_set : x_dec mX6_set := by unfold x_dec; decide +kernel
theorem gX6_set : x_good mX6_set := ⟨by decide +kernel, decX6_set, okX6, rfl, x_tb_in (List.mem_of_getElem? (i := 827) (by decide +kernel)) rfl, iniX6, by decide +kernel, by decide +kernel⟩
theorem vX6_set : Cond.instanceMethod yX6_set ∈ x_tb ∧ Cond.selects RX6 yX6_set yX6_set ∈ x_tb := ⟨x_tb_in (List.mem_of_getElem? (i := 825) (by decide +kernel)) rfl, x_tb_in (List.mem_of_getElem? (i := 826) (by decide +kernel)) rfl⟩
def kX6_move : List (List (Nat × Instr × Nat)) := [[(0, .aload_n 0, 1), (1, .iload_n 1, 1), (2, .invokevirtual 103, 3), (5, .ifCond .ne 9, 3), (8, .aload_n 0, 1), (9, .iconst (-1), 1), (10, .invokevirtual 110, 3), (13, .ireturn, 1), (14, .aload_n 0, 1), (15, .iload_n 1, 1)],
  [(16, .invokevirtual 135, 3), (19, .ifCond .ne 10, 3), (22, .aload_n 0, 1), (23, .bipush (-3), 2), (25, .invokevirtual 110, 3), (28, .ireturn, 1), (29, .aload_n 0, 1), (30, .getfield 138, 3)],
  [(33, .sipush 999, 3), (36, .if_icmp .ne 10, 3), (39, .aload_n 0, 1), (40, .bipush (-6), 2), (42, .invokevirtual 110, 3), (45, .ireturn, 1), (46, .aload_n 0, 1), (47, .iload_n 1, 1)],
  [(48, .invokevirtual 141, 3), (51, .aload_n 0, 1), (52, .dup, 1), (53, .getfield 138, 3), (56, .iconst 1, 1), (57, .iadd, 1), (58, .putfield 138, 3), (61, .aload_n 0, 1), (62, .getfield 87, 3)],
  [(65, .ireturn, 1)]]
def mX6_move : x_M := (yX6_move, prog_8_method_29_code, 2, (some .int), kX6_move, IX6)
set_option maxRecDepth 100000 in
theorem decX6_move : x_dec mX6_move := by unfold x_dec; decide +kernel
theorem gX6_move : x_good mX6_move := ⟨by decide +kernel, decX6_move, okX6, rfl, x_tb_in (List.mem_of_getElem? (i := 832) (by decide +kernel)) rfl, iniX6, by decide +kernel, by decide +kernel⟩
theorem vX6_move : Cond.instanceMethod yX6_move ∈ x_tb ∧ Cond.selects RX6 yX6_move yX6_move ∈ x_tb := ⟨x_tb_in (List.mem_of_getElem? (i := 830) (by decide +kernel)) rfl, x_tb_in (List.mem_of_getElem? (i := 831) (by decide +kernel)) rfl⟩
def kX6_all : List (List (Nat × Instr × Nat)) := [[(0, .iconst 0, 1), (1, .istore_n 1, 1), (2, .iconst 0, 1), (3, .istore_n 2, 1), (4, .iload_n 2, 1), (5, .aload_n 0, 1), (6, .getfield 60, 3), (9, .if_icmp .ge 18, 3), (12, .iload_n 1, 1), (13, .aload_n 0, 1), (14, .getfield 17, 3)],
  [(17, .iload_n 2, 1), (18, .iaload, 1), (19, .iadd, 1), (20, .istore_n 1, 1), (21, .iinc 2 1, 3), (24, .goto (-20), 3), (27, .iload_n 1, 1), (28, .ireturn, 1)]]
def mX6_all : x_M := (yX6_all, prog_8_method_30_code, 3, (some .int), kX6_all, IX6)
set_option maxRecDepth 100000 in
theorem decX6_all : x_dec mX6_all := by unfold x_dec; decide +kernel
theorem gX6_all : x_good mX6_all := ⟨by decide +kernel, decX6_all, okX6, rfl, x_tb_in (List.mem_of_getElem? (i := 841) (by decide +kernel)) rfl, iniX6, by decide +kernel, by decide +kernel⟩
theorem vX6_all : Cond.instanceMethod yX6_all ∈ x_tb ∧ Cond.selects RX6 yX6_all yX6_all ∈ x_tb := ⟨x_tb_in (List.mem_of_getElem? (i := 840) (by decide +kernel)) rfl, x_tb_in (List.mem_of_getElem? (i := 42) (by decide +kernel)) rfl⟩
def kX6_by : List (List (Nat × Instr × Nat)) := [[(0, .aload_n 0, 1), (1, .iload_n 1, 1), (2, .invokevirtual 103, 3), (5, .ifCond .ne 9, 3), (8, .aload_n 0, 1), (9, .iconst (-1), 1), (10, .invokevirtual 110, 3), (13, .ireturn, 1), (14, .iload_n 2, 1), (15, .i2l, 1)],
  [(16, .lconst 0, 1), (17, .ldc2_w 167, 3), (20, .invokestatic 63, 3), (23, .ifCond .ne 10, 3), (26, .aload_n 0, 1), (27, .bipush (-2), 2), (29, .invokevirtual 110, 3)],
  [(32, .ireturn, 1), (33, .aload_n 0, 1), (34, .iload_n 1, 1), (35, .invokevirtual 135, 3), (38, .ifCond .ne 10, 3), (41, .aload_n 0, 1), (42, .bipush (-3), 2), (44, .invokevirtual 110, 3), (47, .ireturn, 1)],
  [(48, .aload_n 0, 1), (49, .iconst 0, 1), (50, .invokevirtual 154, 3), (53, .aload_n 0, 1), (54, .iload_n 1, 1), (55, .invokevirtual 141, 3), (58, .aload_n 0, 1), (59, .invokevirtual 169, 3), (62, .istore_n 3, 1), (63, .aload_n 0, 1)],
  [(64, .iconst 0, 1), (65, .invokevirtual 160, 3), (68, .iload_n 2, 1), (69, .ifCond .ne 10, 3), (72, .aload_n 0, 1), (73, .getfield 81, 3), (76, .goto 40, 3), (79, .iload_n 2, 1)],
  [(80, .iconst 1, 1), (81, .if_icmp .ne 10, 3), (84, .aload_n 0, 1), (85, .getfield 78, 3), (88, .goto 28, 3), (91, .iload_n 2, 1), (92, .iconst 2, 1), (93, .if_icmp .ne 10, 3)],
  [(96, .aload_n 0, 1), (97, .getfield 84, 3), (100, .goto 16, 3), (103, .iload_n 2, 1), (104, .iconst 3, 1), (105, .if_icmp .ne 10, 3), (108, .aload_n 0, 1), (109, .getfield 87, 3)],
  [(112, .goto 4, 3), (115, .iload_n 3, 1), (116, .ireturn, 1)]]
def mX6_by : x_M := (yX6_by, prog_8_method_31_code, 4, (some .int), kX6_by, IX6)
set_option maxRecDepth 100000 in
theorem decX6_by : x_dec mX6_by := by unfold x_dec; decide +kernel
theorem gX6_by : x_good mX6_by := ⟨by decide +kernel, decX6_by, okX6, rfl, x_tb_in (List.mem_of_getElem? (i := 836) (by decide +kernel)) rfl, iniX6, by decide +kernel, by decide +kernel⟩
theorem vX6_by : Cond.instanceMethod yX6_by ∈ x_tb ∧ Cond.selects RX6 yX6_by yX6_by ∈ x_tb := ⟨x_tb_in (List.mem_of_getElem? (i := 834) (by decide +kernel)) rfl, x_tb_in (List.mem_of_getElem? (i := 835) (by decide +kernel)) rfl⟩
def kX6_behind : List (List (Nat × Instr × Nat)) := [[(0, .aload_n 0, 1), (1, .iload_n 1, 1), (2, .invokevirtual 103, 3), (5, .ifCond .eq 11, 3), (8, .aload_n 0, 1), (9, .iload_n 2, 1), (10, .invokevirtual 103, 3), (13, .ifCond .ne 9, 3)],
  [(16, .aload_n 0, 1), (17, .iconst (-1), 1), (18, .invokevirtual 110, 3), (21, .ireturn, 1), (22, .aload_n 0, 1), (23, .iload_n 1, 1), (24, .invokevirtual 135, 3), (27, .ifCond .ne 10, 3), (30, .aload_n 0, 1), (31, .bipush (-3), 2)],
  [(33, .invokevirtual 110, 3), (36, .ireturn, 1), (37, .aload_n 0, 1), (38, .iconst 0, 1), (39, .invokevirtual 154, 3), (42, .aload_n 0, 1), (43, .iload_n 1, 1), (44, .invokevirtual 141, 3), (47, .aload_n 0, 1)],
  [(48, .getfield 17, 3), (51, .iload_n 2, 1), (52, .iaload, 1), (53, .istore_n 3, 1), (54, .aload_n 0, 1), (55, .iconst 0, 1), (56, .invokevirtual 160, 3), (59, .iload_n 3, 1), (60, .ireturn, 1)]]
def mX6_behind : x_M := (yX6_behind, prog_8_method_32_code, 4, (some .int), kX6_behind, IX6)
set_option maxRecDepth 100000 in
theorem decX6_behind : x_dec mX6_behind := by unfold x_dec; decide +kernel
theorem gX6_behind : x_good mX6_behind := ⟨by decide +kernel, decX6_behind, okX6, rfl, x_tb_in (List.mem_of_getElem? (i := 845) (by decide +kernel)) rfl, iniX6, by decide +kernel, by decide +kernel⟩
theorem vX6_behind : Cond.instanceMethod yX6_behind ∈ x_tb ∧ Cond.selects RX6 yX6_behind yX6_behind ∈ x_tb := ⟨x_tb_in (List.mem_of_getElem? (i := 843) (by decide +kernel)) rfl, x_tb_in (List.mem_of_getElem? (i := 844) (by decide +kernel)) rfl⟩
def kX6_empties : List (List (Nat × Instr × Nat)) := [[(0, .aload_n 0, 1), (1, .iload_n 1, 1), (2, .invokevirtual 103, 3), (5, .ifCond .ne 9, 3), (8, .aload_n 0, 1), (9, .iconst (-1), 1), (10, .invokevirtual 110, 3), (13, .ireturn, 1), (14, .aload_n 0, 1), (15, .iload_n 1, 1)],
  [(16, .invokevirtual 135, 3), (19, .ifCond .ne 10, 3), (22, .aload_n 0, 1), (23, .bipush (-3), 2), (25, .invokevirtual 110, 3), (28, .ireturn, 1), (29, .aload_n 0, 1), (30, .iconst 0, 1), (31, .invokevirtual 154, 3)],
  [(34, .aload_n 0, 1), (35, .iload_n 1, 1), (36, .invokevirtual 141, 3), (39, .iconst 0, 1), (40, .istore_n 2, 1), (41, .iconst 0, 1), (42, .istore_n 3, 1), (43, .iload_n 3, 1), (44, .aload_n 0, 1), (45, .getfield 60, 3)],
  [(48, .if_icmp .ge 28, 3), (51, .iload_n 2, 1), (52, .aload_n 0, 1), (53, .getfield 17, 3), (56, .iload_n 3, 1), (57, .iaload, 1), (58, .ifCond .ne 7, 3), (61, .iconst 1, 1), (62, .goto 4, 3)],
  [(65, .iconst 0, 1), (66, .iload_n 3, 1), (67, .ishl, 1), (68, .ior, 1), (69, .istore_n 2, 1), (70, .iinc 3 1, 3), (73, .goto (-30), 3), (76, .aload_n 0, 1), (77, .iconst 0, 1), (78, .invokevirtual 160, 3)],
  [(81, .iload_n 2, 1), (82, .ireturn, 1)]]
def mX6_empties : x_M := (yX6_empties, prog_8_method_33_code, 4, (some .int), kX6_empties, IX6)
set_option maxRecDepth 100000 in
theorem decX6_empties : x_dec mX6_empties := by unfold x_dec; decide +kernel
theorem gX6_empties : x_good mX6_empties := ⟨by decide +kernel, decX6_empties, okX6, rfl, x_tb_in (List.mem_of_getElem? (i := 849) (by decide +kernel)) rfl, iniX6, by decide +kernel, by decide +kernel⟩
theorem vX6_empties : Cond.instanceMethod yX6_empties ∈ x_tb ∧ Cond.selects RX6 yX6_empties yX6_empties ∈ x_tb := ⟨x_tb_in (List.mem_of_getElem? (i := 847) (by decide +kernel)) rfl, x_tb_in (List.mem_of_getElem? (i := 848) (by decide +kernel)) rfl⟩
def kX6_longest : List (List (Nat × Instr × Nat)) := [[(0, .bipush (-9), 2), (2, .istore_n 1, 1), (3, .iconst 0, 1), (4, .istore_n 2, 1), (5, .aload_n 0, 1), (6, .iconst 0, 1), (7, .invokevirtual 154, 3), (10, .iconst 0, 1), (11, .istore_n 3, 1), (12, .iload_n 3, 1), (13, .aload_n 0, 1), (14, .getfield 60, 3)],
  [(17, .if_icmp .ge 48, 3), (20, .aload_n 0, 1), (21, .iload_n 3, 1), (22, .invokevirtual 135, 3), (25, .ifCond .eq 34, 3), (28, .aload_n 0, 1), (29, .iload_n 3, 1), (30, .invokevirtual 141, 3)],
  [(33, .aload_n 0, 1), (34, .iconst 0, 1), (35, .invokevirtual 160, 3), (38, .iload_n 1, 1), (39, .bipush (-9), 2), (41, .if_icmp .eq 11, 3), (44, .aload_n 0, 1), (45, .getfield 84, 3)],
  [(48, .iload_n 2, 1), (49, .if_icmp .le 10, 3), (52, .iload_n 3, 1), (53, .istore_n 1, 1), (54, .aload_n 0, 1), (55, .getfield 84, 3), (58, .istore_n 2, 1), (59, .iinc 3 1, 3), (62, .goto (-50), 3)],
  [(65, .iload_n 1, 1), (66, .ireturn, 1)]]
def mX6_longest : x_M := (yX6_longest, prog_8_method_34_code, 4, (some .int), kX6_longest, IX6)
set_option maxRecDepth 100000 in
theorem decX6_longest : x_dec mX6_longest := by unfold x_dec; decide +kernel
theorem gX6_longest : x_good mX6_longest := ⟨by decide +kernel, decX6_longest, okX6, rfl, x_tb_in (List.mem_of_getElem? (i := 853) (by decide +kernel)) rfl, iniX6, by decide +kernel, by decide +kernel⟩
theorem vX6_longest : Cond.instanceMethod yX6_longest ∈ x_tb ∧ Cond.selects RX6 yX6_longest yX6_longest ∈ x_tb := ⟨x_tb_in (List.mem_of_getElem? (i := 851) (by decide +kernel)) rfl, x_tb_in (List.mem_of_getElem? (i := 852) (by decide +kernel)) rfl⟩
def kX6_seeks : List (List (Nat × Instr × Nat)) := [[(0, .bipush (-9), 2), (2, .istore_n 3, 1), (3, .aload_n 0, 1), (4, .getfield 23, 3), (7, .aload_n 0, 1), (8, .getfield 100, 3), (11, .iaload, 1), (12, .aload_n 0, 1), (13, .getfield 23, 3)],
  [(16, .iconst 1, 1), (17, .aload_n 0, 1), (18, .getfield 100, 3), (21, .isub, 1), (22, .iaload, 1), (23, .isub, 1), (24, .istore 4, 2), (26, .iload_n 1, 1), (27, .ifCond .le 79, 3), (30, .aload_n 0, 1), (31, .iload_n 2, 1)],
  [(32, .invokevirtual 154, 3), (35, .iconst 0, 1), (36, .istore 5, 2), (38, .iload 5, 2), (40, .aload_n 0, 1), (41, .getfield 60, 3), (44, .if_icmp .ge 62, 3), (47, .aload_n 0, 1)],
  [(48, .iload 5, 2), (50, .invokevirtual 135, 3), (53, .ifCond .eq 47, 3), (56, .aload_n 0, 1), (57, .iload 5, 2), (59, .invokevirtual 141, 3), (62, .aload_n 0, 1), (63, .iload_n 1, 1)],
  [(64, .iconst 1, 1), (65, .isub, 1), (66, .iload_n 2, 1), (67, .iconst 1, 1), (68, .iadd, 1), (69, .invokevirtual 173, 3), (72, .ineg, 1), (73, .istore 6, 2), (75, .aload_n 0, 1), (76, .iload_n 2, 1), (77, .invokevirtual 160, 3)],
  [(80, .iload_n 3, 1), (81, .bipush (-9), 2), (83, .if_icmp .eq 10, 3), (86, .iload 6, 2), (88, .iload 4, 2), (90, .if_icmp .le 10, 3), (93, .iload 5, 2), (95, .istore_n 3, 1)],
  [(96, .iload 6, 2), (98, .istore 4, 2), (100, .iinc 5 1, 3), (103, .goto (-65), 3), (106, .aload_n 0, 1), (107, .iload_n 3, 1), (108, .putfield 176, 3), (111, .iload 4, 2)],
  [(113, .ireturn, 1)]]
def mX6_seeks : x_M := (yX6_seeks, prog_8_method_35_code, 7, (some .int), kX6_seeks, IX6)
set_option maxRecDepth 100000 in
theorem decX6_seeks : x_dec mX6_seeks := by unfold x_dec; decide +kernel
theorem gX6_seeks : x_good mX6_seeks := ⟨by decide +kernel, decX6_seeks, okX6, rfl, x_tb_in (List.mem_of_getElem? (i := 861) (by decide +kernel)) rfl, iniX6, by decide +kernel, by decide +kernel⟩
theorem vX6_seeks : Cond.instanceMethod yX6_seeks ∈ x_tb ∧ Cond.selects RX6 yX6_seeks yX6_seeks ∈ x_tb := ⟨x_tb_in (List.mem_of_getElem? (i := 860) (by decide +kernel)) rfl, x_tb_in (List.mem_of_getElem? (i := 43) (by decide +kernel)) rfl⟩
def kX6_best : List (List (Nat × Instr × Nat)) := [[(0, .iload_n 1, 1), (1, .iconst 1, 1), (2, .if_icmp .ge 10, 3), (5, .aload_n 0, 1), (6, .bipush (-4), 2), (8, .invokevirtual 110, 3), (11, .ireturn, 1), (12, .iload_n 1, 1), (13, .iconst 4, 1), (14, .if_icmp .le 10, 3)],
  [(17, .aload_n 0, 1), (18, .bipush (-6), 2), (20, .invokevirtual 110, 3), (23, .ireturn, 1), (24, .aload_n 0, 1), (25, .iload_n 1, 1), (26, .iconst 0, 1), (27, .invokevirtual 173, 3), (30, .pop, 1), (31, .aload_n 0, 1)],
  [(32, .getfield 176, 3), (35, .ireturn, 1)]]
def mX6_best : x_M := (yX6_best, prog_8_method_36_code, 2, (some .int), kX6_best, IX6)
set_option maxRecDepth 100000 in
theorem decX6_best : x_dec mX6_best := by unfold x_dec; decide +kernel
theorem gX6_best : x_good mX6_best := ⟨by decide +kernel, decX6_best, okX6, rfl, x_tb_in (List.mem_of_getElem? (i := 857) (by decide +kernel)) rfl, iniX6, by decide +kernel, by decide +kernel⟩
theorem vX6_best : Cond.instanceMethod yX6_best ∈ x_tb ∧ Cond.selects RX6 yX6_best yX6_best ∈ x_tb := ⟨x_tb_in (List.mem_of_getElem? (i := 855) (by decide +kernel)) rfl, x_tb_in (List.mem_of_getElem? (i := 856) (by decide +kernel)) rfl⟩
def kX6_worthOf : List (List (Nat × Instr × Nat)) := [[(0, .aload_n 0, 1), (1, .iload_n 1, 1), (2, .iconst 0, 1), (3, .invokevirtual 173, 3), (6, .aload_n 0, 1), (7, .getfield 23, 3), (10, .aload_n 0, 1), (11, .getfield 100, 3), (14, .iaload, 1), (15, .aload_n 0, 1)],
  [(16, .getfield 23, 3), (19, .iconst 1, 1), (20, .aload_n 0, 1), (21, .getfield 100, 3), (24, .isub, 1), (25, .iaload, 1), (26, .isub, 1), (27, .isub, 1), (28, .ireturn, 1)]]
def mX6_worthOf : x_M := (yX6_worthOf, prog_8_method_37_code, 2, (some .int), kX6_worthOf, IX6)
set_option maxRecDepth 100000 in
theorem decX6_worthOf : x_dec mX6_worthOf := by unfold x_dec; decide +kernel
theorem gX6_worthOf : x_good mX6_worthOf := ⟨by decide +kernel, decX6_worthOf, okX6, rfl, x_tb_in (List.mem_of_getElem? (i := 874) (by decide +kernel)) rfl, iniX6, by decide +kernel, by decide +kernel⟩
theorem vX6_worthOf : Cond.instanceMethod yX6_worthOf ∈ x_tb ∧ Cond.selects RX6 yX6_worthOf yX6_worthOf ∈ x_tb := ⟨x_tb_in (List.mem_of_getElem? (i := 873) (by decide +kernel)) rfl, x_tb_in (List.mem_of_getElem? (i := 45) (by decide +kernel)) rfl⟩
def kX6_told : List (List (Nat × Instr × Nat)) := [[(0, .ldc 179, 2), (2, .aload_n 0, 1), (3, .iload_n 1, 1), (4, .invokevirtual 110, 3), (7, .isub, 1), (8, .ireturn, 1)]]
def mX6_told : x_M := (yX6_told, prog_8_method_38_code, 2, (some .int), kX6_told, IX6)
set_option maxRecDepth 100000 in
theorem decX6_told : x_dec mX6_told := by unfold x_dec; decide +kernel
theorem gX6_told : x_good mX6_told := ⟨by decide +kernel, decX6_told, okX6, rfl, x_tb_in (List.mem_of_getElem? (i := 869) (by decide +kernel)) rfl, iniX6, by decide +kernel, by decide +kernel⟩
theorem vX6_told : Cond.instanceMethod yX6_told ∈ x_tb ∧ Cond.selects RX6 yX6_told yX6_told ∈ x_tb := ⟨x_tb_in (List.mem_of_getElem? (i := 868) (by decide +kernel)) rfl, x_tb_in (List.mem_of_getElem? (i := 44) (by decide +kernel)) rfl⟩
def kX6_worth : List (List (Nat × Instr × Nat)) := [[(0, .iload_n 1, 1), (1, .iconst 1, 1), (2, .if_icmp .ge 10, 3), (5, .aload_n 0, 1), (6, .bipush (-4), 2), (8, .invokevirtual 180, 3), (11, .ireturn, 1), (12, .iload_n 1, 1), (13, .iconst 4, 1), (14, .if_icmp .le 10, 3)],
  [(17, .aload_n 0, 1), (18, .bipush (-6), 2), (20, .invokevirtual 180, 3), (23, .ireturn, 1), (24, .aload_n 0, 1), (25, .iload_n 1, 1), (26, .invokevirtual 183, 3), (29, .ireturn, 1)]]
def mX6_worth : x_M := (yX6_worth, prog_8_method_39_code, 2, (some .int), kX6_worth, IX6)
set_option maxRecDepth 100000 in
theorem decX6_worth : x_dec mX6_worth := by unfold x_dec; decide +kernel
theorem gX6_worth : x_good mX6_worth := ⟨by decide +kernel, decX6_worth, okX6, rfl, x_tb_in (List.mem_of_getElem? (i := 865) (by decide +kernel)) rfl, iniX6, by decide +kernel, by decide +kernel⟩
theorem vX6_worth : Cond.instanceMethod yX6_worth ∈ x_tb ∧ Cond.selects RX6 yX6_worth yX6_worth ∈ x_tb := ⟨x_tb_in (List.mem_of_getElem? (i := 863) (by decide +kernel)) rfl, x_tb_in (List.mem_of_getElem? (i := 864) (by decide +kernel)) rfl⟩
def kX6_lost : List (List (Nat × Instr × Nat)) := [[(0, .iconst 0, 1), (1, .istore_n 1, 1), (2, .iload_n 1, 1), (3, .aload_n 0, 1), (4, .getfield 60, 3), (7, .if_icmp .ge 19, 3), (10, .aload_n 0, 1), (11, .iload_n 1, 1), (12, .invokevirtual 135, 3), (15, .ifCond .eq 5, 3)],
  [(18, .iconst 0, 1), (19, .ireturn, 1), (20, .iinc 1 1, 3), (23, .goto (-21), 3), (26, .iconst 1, 1), (27, .ireturn, 1)]]
def mX6_lost : x_M := (yX6_lost, prog_8_method_40_code, 2, (some .int), kX6_lost, IX6)
set_option maxRecDepth 100000 in
theorem decX6_lost : x_dec mX6_lost := by unfold x_dec; decide +kernel
theorem gX6_lost : x_good mX6_lost := ⟨by decide +kernel, decX6_lost, okX6, rfl, x_tb_in (List.mem_of_getElem? (i := 878) (by decide +kernel)) rfl, iniX6, by decide +kernel, by decide +kernel⟩
theorem vX6_lost : Cond.instanceMethod yX6_lost ∈ x_tb ∧ Cond.selects RX6 yX6_lost yX6_lost ∈ x_tb := ⟨x_tb_in (List.mem_of_getElem? (i := 876) (by decide +kernel)) rfl, x_tb_in (List.mem_of_getElem? (i := 877) (by decide +kernel)) rfl⟩
def kX6_records : List (List (Nat × Instr × Nat)) := [[(0, .iconst 0, 1), (1, .istore_n 2, 1), (2, .iload_n 2, 1), (3, .bipush 9, 2), (5, .if_icmp .ge 26, 3), (8, .aload_n 0, 1), (9, .getfield 41, 3), (12, .bipush 9, 2), (14, .iload_n 1, 1), (15, .imul, 1)],
  [(16, .iload_n 2, 1), (17, .iadd, 1), (18, .aload_n 0, 1), (19, .getfield 17, 3), (22, .iload_n 2, 1), (23, .iaload, 1), (24, .iastore, 1), (25, .iinc 2 1, 3), (28, .goto (-26), 3), (31, .return_, 1)]]
def mX6_records : x_M := (yX6_records, prog_8_method_41_code, 3, none, kX6_records, IX6)
set_option maxRecDepth 100000 in
theorem decX6_records : x_dec mX6_records := by unfold x_dec; decide +kernel
theorem gX6_records : x_good mX6_records := ⟨by decide +kernel, decX6_records, okX6, rfl, x_tb_in (List.mem_of_getElem? (i := 890) (by decide +kernel)) rfl, iniX6, by decide +kernel, by decide +kernel⟩
theorem vX6_records : Cond.instanceMethod yX6_records ∈ x_tb ∧ Cond.selects RX6 yX6_records yX6_records ∈ x_tb := ⟨x_tb_in (List.mem_of_getElem? (i := 889) (by decide +kernel)) rfl, x_tb_in (List.mem_of_getElem? (i := 47) (by decide +kernel)) rfl⟩
def kX6_isLike : List (List (Nat × Instr × Nat)) := [[(0, .iconst 0, 1), (1, .istore_n 3, 1), (2, .iload_n 3, 1), (3, .aload_n 0, 1), (4, .getfield 60, 3), (7, .if_icmp .ge 36, 3), (10, .aload_n 0, 1), (11, .getfield 41, 3), (14, .bipush 9, 2)],
  [(16, .iload_n 1, 1), (17, .imul, 1), (18, .iload_n 3, 1), (19, .iadd, 1), (20, .iaload, 1), (21, .aload_n 0, 1), (22, .getfield 41, 3), (25, .bipush 9, 2), (27, .iload_n 2, 1), (28, .imul, 1), (29, .iload_n 3, 1), (30, .iadd, 1), (31, .iaload, 1)],
  [(32, .if_icmp .eq 5, 3), (35, .iconst 0, 1), (36, .ireturn, 1), (37, .iinc 3 1, 3), (40, .goto (-38), 3), (43, .iconst 1, 1), (44, .ireturn, 1)]]
def mX6_isLike : x_M := (yX6_isLike, prog_8_method_42_code, 4, (some .boolean), kX6_isLike, IX6)
set_option maxRecDepth 100000 in
theorem decX6_isLike : x_dec mX6_isLike := by unfold x_dec; decide +kernel
theorem gX6_isLike : x_good mX6_isLike := ⟨by decide +kernel, decX6_isLike, okX6, rfl, x_tb_in (List.mem_of_getElem? (i := 894) (by decide +kernel)) rfl, iniX6, by decide +kernel, by decide +kernel⟩
theorem vX6_isLike : Cond.instanceMethod yX6_isLike ∈ x_tb ∧ Cond.selects RX6 yX6_isLike yX6_isLike ∈ x_tb := ⟨x_tb_in (List.mem_of_getElem? (i := 893) (by decide +kernel)) rfl, x_tb_in (List.mem_of_getElem? (i := 48) (by decide +kernel)) rfl⟩
def kX6_records200 : List (List (Nat × Instr × Nat)) := [[(0, .aload_n 0, 1), (1, .bipush 6, 2), (3, .invokevirtual 154, 3), (6, .aload_n 0, 1), (7, .iconst 1, 1), (8, .putfield 96, 3), (11, .iconst 0, 1), (12, .istore_n 2, 1), (13, .aload_n 0, 1), (14, .iconst 0, 1), (15, .invokevirtual 186, 3)],
  [(18, .iload_n 2, 1), (19, .sipush 200, 3), (22, .if_icmp .ge 27, 3), (25, .aload_n 0, 1), (26, .iload_n 1, 1), (27, .invokevirtual 135, 3), (30, .ifCond .eq 19, 3)],
  [(33, .aload_n 0, 1), (34, .iload_n 1, 1), (35, .invokevirtual 106, 3), (38, .iinc 2 1, 3), (41, .aload_n 0, 1), (42, .iload_n 2, 1), (43, .invokevirtual 186, 3), (46, .goto (-28), 3)],
  [(49, .aload_n 0, 1), (50, .iconst 0, 1), (51, .putfield 96, 3), (54, .aload_n 0, 1), (55, .bipush 6, 2), (57, .invokevirtual 160, 3), (60, .iload_n 2, 1), (61, .ireturn, 1)]]
def mX6_records200 : x_M := (yX6_records200, prog_8_method_43_code, 3, (some .int), kX6_records200, IX6)
set_option maxRecDepth 100000 in
theorem decX6_records200 : x_dec mX6_records200 := by unfold x_dec; decide +kernel
theorem gX6_records200 : x_good mX6_records200 := ⟨by decide +kernel, decX6_records200, okX6, rfl, x_tb_in (List.mem_of_getElem? (i := 886) (by decide +kernel)) rfl, iniX6, by decide +kernel, by decide +kernel⟩
theorem vX6_records200 : Cond.instanceMethod yX6_records200 ∈ x_tb ∧ Cond.selects RX6 yX6_records200 yX6_records200 ∈ x_tb := ⟨x_tb_in (List.mem_of_getElem? (i := 885) (by decide +kernel)) rfl, x_tb_in (List.mem_of_getElem? (i := 46) (by decide +kernel)) rfl⟩
def kX6_back : List (List (Nat × Instr × Nat)) := [[(0, .aload_n 0, 1), (1, .iload_n 1, 1), (2, .invokevirtual 103, 3), (5, .ifCond .ne 9, 3), (8, .aload_n 0, 1), (9, .iconst (-1), 1), (10, .invokevirtual 110, 3), (13, .ireturn, 1), (14, .aload_n 0, 1), (15, .iload_n 1, 1)],
  [(16, .invokevirtual 189, 3), (19, .istore_n 2, 1), (20, .iconst 1, 1), (21, .istore_n 3, 1), (22, .iload_n 3, 1), (23, .iload_n 2, 1), (24, .if_icmp .gt 20, 3), (27, .aload_n 0, 1), (28, .iconst 0, 1), (29, .iload_n 3, 1), (30, .invokevirtual 192, 3)],
  [(33, .ifCond .eq 5, 3), (36, .iload_n 3, 1), (37, .ireturn, 1), (38, .iinc 3 1, 3), (41, .goto (-19), 3), (44, .bipush (-9), 2), (46, .ireturn, 1)]]
def mX6_back : x_M := (yX6_back, prog_8_method_44_code, 4, (some .int), kX6_back, IX6)
set_option maxRecDepth 100000 in
theorem decX6_back : x_dec mX6_back := by unfold x_dec; decide +kernel
theorem gX6_back : x_good mX6_back := ⟨by decide +kernel, decX6_back, okX6, rfl, x_tb_in (List.mem_of_getElem? (i := 882) (by decide +kernel)) rfl, iniX6, by decide +kernel, by decide +kernel⟩
theorem vX6_back : Cond.instanceMethod yX6_back ∈ x_tb ∧ Cond.selects RX6 yX6_back yX6_back ∈ x_tb := ⟨x_tb_in (List.mem_of_getElem? (i := 880) (by decide +kernel)) rfl, x_tb_in (List.mem_of_getElem? (i := 881) (by decide +kernel)) rfl⟩
def kX6_loop : List (List (Nat × Instr × Nat)) := [[(0, .aload_n 0, 1), (1, .iload_n 1, 1), (2, .invokevirtual 103, 3), (5, .ifCond .ne 9, 3), (8, .aload_n 0, 1), (9, .iconst (-1), 1), (10, .invokevirtual 110, 3), (13, .ireturn, 1), (14, .iload_n 2, 1), (15, .i2l, 1)],
  [(16, .lconst 0, 1), (17, .lconst 1, 1), (18, .invokestatic 63, 3), (21, .ifCond .ne 10, 3), (24, .aload_n 0, 1), (25, .bipush (-2), 2), (27, .invokevirtual 110, 3), (30, .ireturn, 1), (31, .aload_n 0, 1)],
  [(32, .iload_n 1, 1), (33, .invokevirtual 189, 3), (36, .istore_n 3, 1), (37, .iconst 1, 1), (38, .istore 4, 2), (40, .iload 4, 2), (42, .iload_n 3, 1), (43, .if_icmp .gt 51, 3), (46, .iconst 0, 1), (47, .istore 5, 2)],
  [(49, .iload 5, 2), (51, .iload 4, 2), (53, .if_icmp .ge 35, 3), (56, .aload_n 0, 1), (57, .iload 5, 2), (59, .iload 4, 2), (61, .invokevirtual 192, 3)],
  [(64, .ifCond .eq 18, 3), (67, .iload_n 2, 1), (68, .ifCond .ne 8, 3), (71, .iload 5, 2), (73, .goto 8, 3), (76, .iload 4, 2), (78, .iload 5, 2)],
  [(80, .isub, 1), (81, .ireturn, 1), (82, .iinc 5 1, 3), (85, .goto (-36), 3), (88, .iinc 4 1, 3), (91, .goto (-51), 3), (94, .bipush (-9), 2)],
  [(96, .ireturn, 1)]]
def mX6_loop : x_M := (yX6_loop, prog_8_method_45_code, 6, (some .int), kX6_loop, IX6)
set_option maxRecDepth 100000 in
theorem decX6_loop : x_dec mX6_loop := by unfold x_dec; decide +kernel
theorem gX6_loop : x_good mX6_loop := ⟨by decide +kernel, decX6_loop, okX6, rfl, x_tb_in (List.mem_of_getElem? (i := 898) (by decide +kernel)) rfl, iniX6, by decide +kernel, by decide +kernel⟩
theorem vX6_loop : Cond.instanceMethod yX6_loop ∈ x_tb ∧ Cond.selects RX6 yX6_loop yX6_loop ∈ x_tb := ⟨x_tb_in (List.mem_of_getElem? (i := 896) (by decide +kernel)) rfl, x_tb_in (List.mem_of_getElem? (i := 897) (by decide +kernel)) rfl⟩
def kX6_isEmptied : List (List (Nat × Instr × Nat)) := [[(0, .aload_n 0, 1), (1, .getfield 17, 3), (4, .iload_n 1, 1), (5, .iaload, 1), (6, .ifCond .ne 5, 3), (9, .iconst 1, 1), (10, .ireturn, 1), (11, .iload_n 2, 1), (12, .ifCond .ne 5, 3), (15, .iconst 0, 1)],
  [(16, .ireturn, 1), (17, .aload_n 0, 1), (18, .iload_n 3, 1), (19, .invokevirtual 154, 3), (22, .iconst 0, 1), (23, .istore 4, 2), (25, .iload 4, 2), (27, .aload_n 0, 1), (28, .getfield 60, 3), (31, .if_icmp .ge 55, 3)],
  [(34, .aload_n 0, 1), (35, .iload 4, 2), (37, .invokevirtual 135, 3), (40, .ifCond .eq 40, 3), (43, .aload_n 0, 1), (44, .iload 4, 2), (46, .invokevirtual 141, 3)],
  [(49, .aload_n 0, 1), (50, .iload_n 1, 1), (51, .iload_n 2, 1), (52, .iconst 1, 1), (53, .isub, 1), (54, .iload_n 3, 1), (55, .iconst 1, 1), (56, .iadd, 1), (57, .invokevirtual 196, 3), (60, .istore 5, 2), (62, .aload_n 0, 1), (63, .iload_n 3, 1)],
  [(64, .invokevirtual 160, 3), (67, .iload 5, 2), (69, .ifCond .eq 11, 3), (72, .aload_n 0, 1), (73, .iload 4, 2), (75, .putfield 176, 3), (78, .iconst 1, 1), (79, .ireturn, 1)],
  [(80, .iinc 4 1, 3), (83, .goto (-58), 3), (86, .iconst 0, 1), (87, .ireturn, 1)]]
def mX6_isEmptied : x_M := (yX6_isEmptied, prog_8_method_46_code, 6, (some .boolean), kX6_isEmptied, IX6)
set_option maxRecDepth 100000 in
theorem decX6_isEmptied : x_dec mX6_isEmptied := by unfold x_dec; decide +kernel
theorem gX6_isEmptied : x_good mX6_isEmptied := ⟨by decide +kernel, decX6_isEmptied, okX6, rfl, x_tb_in (List.mem_of_getElem? (i := 906) (by decide +kernel)) rfl, iniX6, by decide +kernel, by decide +kernel⟩
theorem vX6_isEmptied : Cond.instanceMethod yX6_isEmptied ∈ x_tb ∧ Cond.selects RX6 yX6_isEmptied yX6_isEmptied ∈ x_tb := ⟨x_tb_in (List.mem_of_getElem? (i := 905) (by decide +kernel)) rfl, x_tb_in (List.mem_of_getElem? (i := 49) (by decide +kernel)) rfl⟩
def kX6_toEmpty : List (List (Nat × Instr × Nat)) := [[(0, .aload_n 0, 1), (1, .iload_n 1, 1), (2, .invokevirtual 103, 3), (5, .ifCond .ne 9, 3), (8, .aload_n 0, 1), (9, .iconst (-1), 1), (10, .invokevirtual 110, 3), (13, .ireturn, 1), (14, .iload_n 2, 1), (15, .i2l, 1)],
  [(16, .lconst 0, 1), (17, .lconst 1, 1), (18, .invokestatic 63, 3), (21, .ifCond .ne 10, 3), (24, .aload_n 0, 1), (25, .bipush (-2), 2), (27, .invokevirtual 110, 3), (30, .ireturn, 1), (31, .iconst 0, 1)],
  [(32, .istore_n 3, 1), (33, .iload_n 3, 1), (34, .bipush 6, 2), (36, .if_icmp .ge 38, 3), (39, .aload_n 0, 1), (40, .bipush (-9), 2), (42, .putfield 176, 3), (45, .aload_n 0, 1), (46, .iload_n 1, 1), (47, .iload_n 3, 1)],
  [(48, .iconst 0, 1), (49, .invokevirtual 196, 3), (52, .ifCond .eq 16, 3), (55, .iload_n 2, 1), (56, .ifCond .ne 7, 3), (59, .iload_n 3, 1), (60, .goto 7, 3), (63, .aload_n 0, 1)],
  [(64, .getfield 176, 3), (67, .ireturn, 1), (68, .iinc 3 1, 3), (71, .goto (-38), 3), (74, .bipush (-9), 2), (76, .ireturn, 1)]]
def mX6_toEmpty : x_M := (yX6_toEmpty, prog_8_method_47_code, 4, (some .int), kX6_toEmpty, IX6)
set_option maxRecDepth 100000 in
theorem decX6_toEmpty : x_dec mX6_toEmpty := by unfold x_dec; decide +kernel
theorem gX6_toEmpty : x_good mX6_toEmpty := ⟨by decide +kernel, decX6_toEmpty, okX6, rfl, x_tb_in (List.mem_of_getElem? (i := 902) (by decide +kernel)) rfl, iniX6, by decide +kernel, by decide +kernel⟩
theorem vX6_toEmpty : Cond.instanceMethod yX6_toEmpty ∈ x_tb ∧ Cond.selects RX6 yX6_toEmpty yX6_toEmpty ∈ x_tb := ⟨x_tb_in (List.mem_of_getElem? (i := 900) (by decide +kernel)) rfl, x_tb_in (List.mem_of_getElem? (i := 901) (by decide +kernel)) rfl⟩
def kX6_worthBy : List (List (Nat × Instr × Nat)) := [[(0, .aload_n 0, 1), (1, .getfield 17, 3), (4, .iload_n 1, 1), (5, .dup2, 1), (6, .iaload, 1), (7, .iload_n 2, 1), (8, .iadd, 1), (9, .iastore, 1), (10, .aload_n 0, 1), (11, .iconst 2, 1), (12, .invokevirtual 183, 3), (15, .istore_n 3, 1)],
  [(16, .aload_n 0, 1), (17, .getfield 17, 3), (20, .iload_n 1, 1), (21, .dup2, 1), (22, .iaload, 1), (23, .iload_n 2, 1), (24, .isub, 1), (25, .iastore, 1), (26, .iload_n 3, 1), (27, .aload_n 0, 1), (28, .iconst 2, 1), (29, .invokevirtual 183, 3)],
  [(32, .isub, 1), (33, .ireturn, 1)]]
def mX6_worthBy : x_M := (yX6_worthBy, prog_8_method_48_code, 4, (some .int), kX6_worthBy, IX6)
set_option maxRecDepth 100000 in
theorem decX6_worthBy : x_dec mX6_worthBy := by unfold x_dec; decide +kernel
theorem gX6_worthBy : x_good mX6_worthBy := ⟨by decide +kernel, decX6_worthBy, okX6, rfl, x_tb_in (List.mem_of_getElem? (i := 914) (by decide +kernel)) rfl, iniX6, by decide +kernel, by decide +kernel⟩
theorem vX6_worthBy : Cond.instanceMethod yX6_worthBy ∈ x_tb ∧ Cond.selects RX6 yX6_worthBy yX6_worthBy ∈ x_tb := ⟨x_tb_in (List.mem_of_getElem? (i := 913) (by decide +kernel)) rfl, x_tb_in (List.mem_of_getElem? (i := 50) (by decide +kernel)) rfl⟩
def kX6_price : List (List (Nat × Instr × Nat)) := [[(0, .aload_n 0, 1), (1, .iload_n 1, 1), (2, .invokevirtual 103, 3), (5, .ifCond .eq 12, 3), (8, .aload_n 0, 1), (9, .iload_n 1, 1), (10, .iconst 1, 1), (11, .invokevirtual 200, 3), (14, .goto 8, 3)],
  [(17, .aload_n 0, 1), (18, .iconst (-1), 1), (19, .invokevirtual 180, 3), (22, .ireturn, 1)]]
def mX6_price : x_M := (yX6_price, prog_8_method_49_code, 2, (some .int), kX6_price, IX6)
set_option maxRecDepth 100000 in
theorem decX6_price : x_dec mX6_price := by unfold x_dec; decide +kernel
theorem gX6_price : x_good mX6_price := ⟨by decide +kernel, decX6_price, okX6, rfl, x_tb_in (List.mem_of_getElem? (i := 910) (by decide +kernel)) rfl, iniX6, by decide +kernel, by decide +kernel⟩
theorem vX6_price : Cond.instanceMethod yX6_price ∈ x_tb ∧ Cond.selects RX6 yX6_price yX6_price ∈ x_tb := ⟨x_tb_in (List.mem_of_getElem? (i := 908) (by decide +kernel)) rfl, x_tb_in (List.mem_of_getElem? (i := 909) (by decide +kernel)) rfl⟩
def kX6_sold : List (List (Nat × Instr × Nat)) := [[(0, .aload_n 0, 1), (1, .iload_n 1, 1), (2, .invokevirtual 103, 3), (5, .ifCond .ne 9, 3), (8, .aload_n 0, 1), (9, .iconst (-1), 1), (10, .invokevirtual 180, 3), (13, .ireturn, 1), (14, .aload_n 0, 1), (15, .getfield 17, 3)],
  [(18, .iload_n 1, 1), (19, .iaload, 1), (20, .ifCond .ne 12, 3), (23, .aload_n 0, 1), (24, .bipush (-3), 2), (26, .invokevirtual 180, 3), (29, .goto 9, 3)],
  [(32, .aload_n 0, 1), (33, .iload_n 1, 1), (34, .iconst (-1), 1), (35, .invokevirtual 200, 3), (38, .ireturn, 1)]]
def mX6_sold : x_M := (yX6_sold, prog_8_method_50_code, 2, (some .int), kX6_sold, IX6)
set_option maxRecDepth 100000 in
theorem decX6_sold : x_dec mX6_sold := by unfold x_dec; decide +kernel
theorem gX6_sold : x_good mX6_sold := ⟨by decide +kernel, decX6_sold, okX6, rfl, x_tb_in (List.mem_of_getElem? (i := 918) (by decide +kernel)) rfl, iniX6, by decide +kernel, by decide +kernel⟩
theorem vX6_sold : Cond.instanceMethod yX6_sold ∈ x_tb ∧ Cond.selects RX6 yX6_sold yX6_sold ∈ x_tb := ⟨x_tb_in (List.mem_of_getElem? (i := 916) (by decide +kernel)) rfl, x_tb_in (List.mem_of_getElem? (i := 917) (by decide +kernel)) rfl⟩
def kX6_change : List (List (Nat × Instr × Nat)) := [[(0, .aload_n 0, 1), (1, .iconst 2, 1), (2, .invokevirtual 183, 3), (5, .istore_n 1, 1), (6, .bipush (-9), 2), (8, .istore_n 2, 1), (9, .iconst 0, 1), (10, .istore_n 3, 1), (11, .iload_n 3, 1), (12, .aload_n 0, 1), (13, .getfield 60, 3)],
  [(16, .if_icmp .ge 67, 3), (19, .iload_n 3, 1), (20, .iconst 1, 1), (21, .iadd, 1), (22, .istore 4, 2), (24, .iload 4, 2), (26, .aload_n 0, 1), (27, .getfield 60, 3), (30, .if_icmp .ge 47, 3)],
  [(33, .aload_n 0, 1), (34, .iload_n 3, 1), (35, .iload 4, 2), (37, .invokevirtual 147, 3), (40, .aload_n 0, 1), (41, .iconst 2, 1), (42, .invokevirtual 183, 3), (45, .istore 5, 2), (47, .aload_n 0, 1)],
  [(48, .iload_n 3, 1), (49, .iload 4, 2), (51, .invokevirtual 147, 3), (54, .iload 5, 2), (56, .iload_n 1, 1), (57, .if_icmp .le 14, 3), (60, .bipush 10, 2), (62, .iload_n 3, 1), (63, .imul, 1)],
  [(64, .iload 4, 2), (66, .iadd, 1), (67, .istore_n 2, 1), (68, .iload 5, 2), (70, .istore_n 1, 1), (71, .iinc 4 1, 3), (74, .goto (-50), 3), (77, .iinc 3 1, 3)],
  [(80, .goto (-69), 3), (83, .iload_n 2, 1), (84, .ireturn, 1)]]
def mX6_change : x_M := (yX6_change, prog_8_method_51_code, 6, (some .int), kX6_change, IX6)
set_option maxRecDepth 100000 in
theorem decX6_change : x_dec mX6_change := by unfold x_dec; decide +kernel
theorem gX6_change : x_good mX6_change := ⟨by decide +kernel, decX6_change, okX6, rfl, x_tb_in (List.mem_of_getElem? (i := 922) (by decide +kernel)) rfl, iniX6, by decide +kernel, by decide +kernel⟩
theorem vX6_change : Cond.instanceMethod yX6_change ∈ x_tb ∧ Cond.selects RX6 yX6_change yX6_change ∈ x_tb := ⟨x_tb_in (List.mem_of_getElem? (i := 920) (by decide +kernel)) rfl, x_tb_in (List.mem_of_getElem? (i := 921) (by decide +kernel)) rfl⟩
def kX6_fair : List (List (Nat × Instr × Nat)) := [[(0, .aload_n 0, 1), (1, .bipush 7, 2), (3, .invokevirtual 154, 3), (6, .bipush (-9), 2), (8, .istore_n 1, 1), (9, .iconst 1, 1), (10, .istore_n 2, 1), (11, .iload_n 2, 1), (12, .bipush 10, 2), (14, .if_icmp .ge 53, 3)],
  [(17, .iload_n 1, 1), (18, .bipush (-9), 2), (20, .if_icmp .ne 47, 3), (23, .iconst 0, 1), (24, .istore_n 3, 1), (25, .iload_n 3, 1), (26, .aload_n 0, 1), (27, .getfield 60, 3), (30, .if_icmp .ge 16, 3)],
  [(33, .aload_n 0, 1), (34, .getfield 17, 3), (37, .iload_n 3, 1), (38, .iload_n 2, 1), (39, .iastore, 1), (40, .iinc 3 1, 3), (43, .goto (-18), 3), (46, .aload_n 0, 1), (47, .iconst 2, 1)],
  [(48, .invokevirtual 183, 3), (51, .ifCond .ne 7, 3), (54, .iload_n 2, 1), (55, .goto 5, 3), (58, .bipush (-9), 2), (60, .istore_n 1, 1), (61, .iinc 2 1, 3)],
  [(64, .goto (-53), 3), (67, .aload_n 0, 1), (68, .bipush 7, 2), (70, .invokevirtual 160, 3), (73, .iload_n 1, 1), (74, .ireturn, 1)]]
def mX6_fair : x_M := (yX6_fair, prog_8_method_52_code, 4, (some .int), kX6_fair, IX6)
set_option maxRecDepth 100000 in
theorem decX6_fair : x_dec mX6_fair := by unfold x_dec; decide +kernel
theorem gX6_fair : x_good mX6_fair := ⟨by decide +kernel, decX6_fair, okX6, rfl, x_tb_in (List.mem_of_getElem? (i := 926) (by decide +kernel)) rfl, iniX6, by decide +kernel, by decide +kernel⟩
theorem vX6_fair : Cond.instanceMethod yX6_fair ∈ x_tb ∧ Cond.selects RX6 yX6_fair yX6_fair ∈ x_tb := ⟨x_tb_in (List.mem_of_getElem? (i := 924) (by decide +kernel)) rfl, x_tb_in (List.mem_of_getElem? (i := 925) (by decide +kernel)) rfl⟩
def kX6_isRow : List (List (Nat × Instr × Nat)) := [[(0, .aload_n 0, 1), (1, .getfield 203, 3), (4, .aload_n 0, 1), (5, .getfield 60, 3), (8, .if_icmp .eq 5, 3), (11, .iconst 0, 1), (12, .ireturn, 1), (13, .iconst 0, 1), (14, .istore_n 1, 1), (15, .iload_n 1, 1)],
  [(16, .aload_n 0, 1), (17, .getfield 203, 3), (20, .if_icmp .ge 21, 3), (23, .aload_n 0, 1), (24, .getfield 32, 3), (27, .iload_n 1, 1), (28, .iaload, 1), (29, .iconst 2, 1), (30, .if_icmp .le 5, 3)],
  [(33, .iconst 0, 1), (34, .ireturn, 1), (35, .iinc 1 1, 3), (38, .goto (-23), 3), (41, .iconst 1, 1), (42, .ireturn, 1)]]
def mX6_isRow : x_M := (yX6_isRow, prog_8_method_53_code, 2, (some .boolean), kX6_isRow, IX6)
set_option maxRecDepth 100000 in
theorem decX6_isRow : x_dec mX6_isRow := by unfold x_dec; decide +kernel
theorem gX6_isRow : x_good mX6_isRow := ⟨by decide +kernel, decX6_isRow, okX6, rfl, x_tb_in (List.mem_of_getElem? (i := 934) (by decide +kernel)) rfl, iniX6, by decide +kernel, by decide +kernel⟩
theorem vX6_isRow : Cond.instanceMethod yX6_isRow ∈ x_tb ∧ Cond.selects RX6 yX6_isRow yX6_isRow ∈ x_tb := ⟨x_tb_in (List.mem_of_getElem? (i := 933) (by decide +kernel)) rfl, x_tb_in (List.mem_of_getElem? (i := 51) (by decide +kernel)) rfl⟩
def kX6_waysOf : List (List (Nat × Instr × Nat)) := [[(0, .iconst 0, 1), (1, .istore_n 2, 1), (2, .iload_n 2, 1), (3, .bipush 40, 2), (5, .if_icmp .gt 24, 3), (8, .aload_n 0, 1), (9, .getfield 44, 3), (12, .iload_n 2, 1), (13, .iload_n 2, 1), (14, .ifCond .ne 7, 3)],
  [(17, .lconst 1, 1), (18, .goto 4, 3), (21, .lconst 0, 1), (22, .lastore, 1), (23, .iinc 2 1, 3), (26, .goto (-24), 3), (29, .iconst 0, 1), (30, .istore_n 2, 1), (31, .iload_n 2, 1)],
  [(32, .aload_n 0, 1), (33, .getfield 60, 3), (36, .if_icmp .ge 159, 3), (39, .aload_n 0, 1), (40, .aload_n 0, 1), (41, .getfield 13, 3), (44, .iload_n 2, 1), (45, .iaload, 1), (46, .invokevirtual 93, 3)],
  [(49, .istore_n 3, 1), (50, .aload_n 0, 1), (51, .getfield 32, 3), (54, .iload_n 2, 1), (55, .iaload, 1), (56, .iconst 1, 1), (57, .if_icmp .ne 7, 3), (60, .iload_n 3, 1), (61, .goto 4, 3)],
  [(64, .iconst 0, 1), (65, .istore 4, 2), (67, .aload_n 0, 1), (68, .getfield 32, 3), (71, .iload_n 2, 1), (72, .iaload, 1), (73, .ifCond .ne 15, 3), (76, .iload_n 3, 1), (77, .bipush 20, 2), (79, .if_icmp .gt 9, 3)],
  [(82, .iload_n 3, 1), (83, .iconst 1, 1), (84, .isub, 1), (85, .goto 5, 3), (88, .bipush 20, 2), (90, .istore 5, 2), (92, .iconst 0, 1), (93, .istore 6, 2), (95, .iload 6, 2)],
  [(97, .bipush 40, 2), (99, .if_icmp .gt 60, 3), (102, .lconst 0, 1), (103, .lstore 7, 2), (105, .iload 4, 2), (107, .istore 9, 2), (109, .iload 9, 2), (111, .iload 5, 2)],
  [(113, .if_icmp .gt 31, 3), (116, .iload 9, 2), (118, .iload 6, 2), (120, .if_icmp .gt 24, 3), (123, .lload 7, 2), (125, .aload_n 0, 1), (126, .getfield 44, 3)],
  [(129, .iload 6, 2), (131, .iload 9, 2), (133, .isub, 1), (134, .laload, 1), (135, .ladd, 1), (136, .lstore 7, 2), (138, .iinc 9 1, 3), (141, .goto (-32), 3)],
  [(144, .aload_n 0, 1), (145, .getfield 48, 3), (148, .iload 6, 2), (150, .lload 7, 2), (152, .lastore, 1), (153, .iinc 6 1, 3), (156, .goto (-61), 3), (159, .iconst 0, 1)],
  [(160, .istore 6, 2), (162, .iload 6, 2), (164, .bipush 40, 2), (166, .if_icmp .gt 23, 3), (169, .aload_n 0, 1), (170, .getfield 44, 3), (173, .iload 6, 2), (175, .aload_n 0, 1)],
  [(176, .getfield 48, 3), (179, .iload 6, 2), (181, .laload, 1), (182, .lastore, 1), (183, .iinc 6 1, 3), (186, .goto (-24), 3), (189, .iinc 2 1, 3)],
  [(192, .goto (-161), 3), (195, .aload_n 0, 1), (196, .getfield 44, 3), (199, .iload_n 1, 1), (200, .laload, 1), (201, .ldc2_w 206, 3), (204, .lcmp, 1), (205, .ifCond .le 8, 3)],
  [(208, .ldc 179, 2), (210, .goto 10, 3), (213, .aload_n 0, 1), (214, .getfield 44, 3), (217, .iload_n 1, 1), (218, .laload, 1), (219, .l2i, 1), (220, .ireturn, 1)]]
def mX6_waysOf : x_M := (yX6_waysOf, prog_8_method_54_code, 10, (some .int), kX6_waysOf, IX6)
set_option maxRecDepth 100000 in
theorem decX6_waysOf : x_dec mX6_waysOf := by unfold x_dec; decide +kernel
theorem gX6_waysOf : x_good mX6_waysOf := ⟨by decide +kernel, decX6_waysOf, okX6, rfl, x_tb_in (List.mem_of_getElem? (i := 938) (by decide +kernel)) rfl, iniX6, by decide +kernel, by decide +kernel⟩
theorem vX6_waysOf : Cond.instanceMethod yX6_waysOf ∈ x_tb ∧ Cond.selects RX6 yX6_waysOf yX6_waysOf ∈ x_tb := ⟨x_tb_in (List.mem_of_getElem? (i := 937) (by decide +kernel)) rfl, x_tb_in (List.mem_of_getElem? (i := 52) (by decide +kernel)) rfl⟩
def kX6_sounds : List (List (Nat × Instr × Nat)) := [[(0, .iload_n 1, 1), (1, .ifCond .ge 10, 3), (4, .aload_n 0, 1), (5, .bipush (-4), 2), (7, .invokevirtual 110, 3), (10, .ireturn, 1), (11, .iload_n 1, 1), (12, .bipush 40, 2), (14, .if_icmp .le 10, 3)],
  [(17, .aload_n 0, 1), (18, .bipush (-6), 2), (20, .invokevirtual 110, 3), (23, .ireturn, 1), (24, .aload_n 0, 1), (25, .invokevirtual 208, 3), (28, .ifCond .eq 11, 3), (31, .aload_n 0, 1)],
  [(32, .iload_n 1, 1), (33, .invokevirtual 212, 3), (36, .goto 9, 3), (39, .aload_n 0, 1), (40, .bipush (-3), 2), (42, .invokevirtual 110, 3), (45, .ireturn, 1)]]
def mX6_sounds : x_M := (yX6_sounds, prog_8_method_55_code, 2, (some .int), kX6_sounds, IX6)
set_option maxRecDepth 100000 in
theorem decX6_sounds : x_dec mX6_sounds := by unfold x_dec; decide +kernel
theorem gX6_sounds : x_good mX6_sounds := ⟨by decide +kernel, decX6_sounds, okX6, rfl, x_tb_in (List.mem_of_getElem? (i := 930) (by decide +kernel)) rfl, iniX6, by decide +kernel, by decide +kernel⟩
theorem vX6_sounds : Cond.instanceMethod yX6_sounds ∈ x_tb ∧ Cond.selects RX6 yX6_sounds yX6_sounds ∈ x_tb := ⟨x_tb_in (List.mem_of_getElem? (i := 928) (by decide +kernel)) rfl, x_tb_in (List.mem_of_getElem? (i := 929) (by decide +kernel)) rfl⟩
def kX6_next : List (List (Nat × Instr × Nat)) := [[(0, .iload_n 1, 1), (1, .ifCond .ge 10, 3), (4, .aload_n 0, 1), (5, .bipush (-4), 2), (7, .invokevirtual 110, 3), (10, .ireturn, 1), (11, .iload_n 1, 1), (12, .bipush 40, 2), (14, .if_icmp .le 10, 3)],
  [(17, .aload_n 0, 1), (18, .bipush (-6), 2), (20, .invokevirtual 110, 3), (23, .ireturn, 1), (24, .aload_n 0, 1), (25, .invokevirtual 208, 3), (28, .ifCond .ne 10, 3), (31, .aload_n 0, 1)],
  [(32, .bipush (-3), 2), (34, .invokevirtual 110, 3), (37, .ireturn, 1), (38, .bipush (-9), 2), (40, .istore_n 2, 1), (41, .iconst (-1), 1), (42, .istore_n 3, 1), (43, .iconst 0, 1), (44, .istore 4, 2), (46, .iload 4, 2)],
  [(48, .aload_n 0, 1), (49, .getfield 60, 3), (52, .if_icmp .ge 86, 3), (55, .aload_n 0, 1), (56, .getfield 32, 3), (59, .iload 4, 2), (61, .iaload, 1), (62, .iconst 2, 1), (63, .if_icmp .ne 69, 3)],
  [(66, .aload_n 0, 1), (67, .getfield 32, 3), (70, .iload 4, 2), (72, .iconst 0, 1), (73, .iastore, 1), (74, .aload_n 0, 1), (75, .iload_n 1, 1), (76, .invokevirtual 212, 3), (79, .istore 5, 2)],
  [(81, .aload_n 0, 1), (82, .getfield 32, 3), (85, .iload 4, 2), (87, .iconst 1, 1), (88, .iastore, 1), (89, .aload_n 0, 1), (90, .iload_n 1, 1), (91, .invokevirtual 212, 3), (94, .istore 6, 2)],
  [(96, .aload_n 0, 1), (97, .getfield 32, 3), (100, .iload 4, 2), (102, .iconst 2, 1), (103, .iastore, 1), (104, .iload 5, 2), (106, .iload 6, 2), (108, .if_icmp .ge 8, 3), (111, .iload 5, 2)],
  [(113, .goto 5, 3), (116, .iload 6, 2), (118, .istore 7, 2), (120, .iload 7, 2), (122, .iload_n 3, 1), (123, .if_icmp .le 9, 3), (126, .iload 4, 2)],
  [(128, .istore_n 2, 1), (129, .iload 7, 2), (131, .istore_n 3, 1), (132, .iinc 4 1, 3), (135, .goto (-89), 3), (138, .iload_n 2, 1), (139, .ireturn, 1)]]
def mX6_next : x_M := (yX6_next, prog_8_method_56_code, 8, (some .int), kX6_next, IX6)
set_option maxRecDepth 100000 in
theorem decX6_next : x_dec mX6_next := by unfold x_dec; decide +kernel
theorem gX6_next : x_good mX6_next := ⟨by decide +kernel, decX6_next, okX6, rfl, x_tb_in (List.mem_of_getElem? (i := 943) (by decide +kernel)) rfl, iniX6, by decide +kernel, by decide +kernel⟩
theorem vX6_next : Cond.instanceMethod yX6_next ∈ x_tb ∧ Cond.selects RX6 yX6_next yX6_next ∈ x_tb := ⟨x_tb_in (List.mem_of_getElem? (i := 941) (by decide +kernel)) rfl, x_tb_in (List.mem_of_getElem? (i := 942) (by decide +kernel)) rfl⟩
def kX6_row : List (List (Nat × Instr × Nat)) := [[(0, .iload_n 1, 1), (1, .ifCond .ge 10, 3), (4, .aload_n 0, 1), (5, .bipush (-4), 2), (7, .invokevirtual 110, 3), (10, .ireturn, 1), (11, .iload_n 1, 1), (12, .bipush 9, 2), (14, .if_icmp .gt 12, 3)],
  [(17, .aload_n 0, 1), (18, .getfield 203, 3), (21, .bipush 12, 2), (23, .if_icmp .ne 10, 3), (26, .aload_n 0, 1), (27, .bipush (-6), 2), (29, .invokevirtual 110, 3)],
  [(32, .ireturn, 1), (33, .aload_n 0, 1), (34, .getfield 32, 3), (37, .aload_n 0, 1), (38, .getfield 203, 3), (41, .iload_n 1, 1), (42, .iastore, 1), (43, .aload_n 0, 1), (44, .dup, 1), (45, .getfield 203, 3)],
  [(48, .iconst 1, 1), (49, .iadd, 1), (50, .putfield 203, 3), (53, .aload_n 0, 1), (54, .getfield 203, 3), (57, .ireturn, 1)]]
def mX6_row : x_M := (yX6_row, prog_8_method_57_code, 2, (some .int), kX6_row, IX6)
set_option maxRecDepth 100000 in
theorem decX6_row : x_dec mX6_row := by unfold x_dec; decide +kernel
theorem gX6_row : x_good mX6_row := ⟨by decide +kernel, decX6_row, okX6, rfl, x_tb_in (List.mem_of_getElem? (i := 947) (by decide +kernel)) rfl, iniX6, by decide +kernel, by decide +kernel⟩
theorem vX6_row : Cond.instanceMethod yX6_row ∈ x_tb ∧ Cond.selects RX6 yX6_row yX6_row ∈ x_tb := ⟨x_tb_in (List.mem_of_getElem? (i := 945) (by decide +kernel)) rfl, x_tb_in (List.mem_of_getElem? (i := 946) (by decide +kernel)) rfl⟩
def kX6_plays : List (List (Nat × Instr × Nat)) := [[(0, .iconst 0, 1), (1, .istore_n 1, 1), (2, .iload_n 1, 1), (3, .aload_n 0, 1), (4, .getfield 203, 3), (7, .if_icmp .ge 32, 3), (10, .aload_n 0, 1), (11, .aload_n 0, 1), (12, .getfield 32, 3), (15, .iload_n 1, 1)],
  [(16, .iaload, 1), (17, .invokevirtual 135, 3), (20, .ifCond .eq 19, 3), (23, .aload_n 0, 1), (24, .aload_n 0, 1), (25, .getfield 32, 3), (28, .iload_n 1, 1), (29, .iaload, 1), (30, .invokevirtual 141, 3)],
  [(33, .iinc 1 1, 3), (36, .goto (-34), 3), (39, .iload_n 1, 1), (40, .ireturn, 1)]]
def mX6_plays : x_M := (yX6_plays, prog_8_method_58_code, 2, (some .int), kX6_plays, IX6)
set_option maxRecDepth 100000 in
theorem decX6_plays : x_dec mX6_plays := by unfold x_dec; decide +kernel
theorem gX6_plays : x_good mX6_plays := ⟨by decide +kernel, decX6_plays, okX6, rfl, x_tb_in (List.mem_of_getElem? (i := 955) (by decide +kernel)) rfl, iniX6, by decide +kernel, by decide +kernel⟩
theorem vX6_plays : Cond.instanceMethod yX6_plays ∈ x_tb ∧ Cond.selects RX6 yX6_plays yX6_plays ∈ x_tb := ⟨x_tb_in (List.mem_of_getElem? (i := 954) (by decide +kernel)) rfl, x_tb_in (List.mem_of_getElem? (i := 53) (by decide +kernel)) rfl⟩
def kX6_played : List (List (Nat × Instr × Nat)) := [[(0, .iload_n 1, 1), (1, .i2l, 1), (2, .lconst 0, 1), (3, .lconst 1, 1), (4, .invokestatic 63, 3), (7, .ifCond .ne 10, 3), (10, .aload_n 0, 1), (11, .bipush (-2), 2), (13, .invokevirtual 110, 3)],
  [(16, .ireturn, 1), (17, .aload_n 0, 1), (18, .iconst 0, 1), (19, .invokevirtual 154, 3), (22, .aload_n 0, 1), (23, .invokevirtual 215, 3), (26, .pop, 1), (27, .aload_n 0, 1), (28, .getfield 23, 3), (31, .iload_n 1, 1)],
  [(32, .iaload, 1), (33, .istore_n 2, 1), (34, .aload_n 0, 1), (35, .iconst 0, 1), (36, .invokevirtual 160, 3), (39, .iload_n 2, 1), (40, .ireturn, 1)]]
def mX6_played : x_M := (yX6_played, prog_8_method_59_code, 3, (some .int), kX6_played, IX6)
set_option maxRecDepth 100000 in
theorem decX6_played : x_dec mX6_played := by unfold x_dec; decide +kernel
theorem gX6_played : x_good mX6_played := ⟨by decide +kernel, decX6_played, okX6, rfl, x_tb_in (List.mem_of_getElem? (i := 951) (by decide +kernel)) rfl, iniX6, by decide +kernel, by decide +kernel⟩
theorem vX6_played : Cond.instanceMethod yX6_played ∈ x_tb ∧ Cond.selects RX6 yX6_played yX6_played ∈ x_tb := ⟨x_tb_in (List.mem_of_getElem? (i := 949) (by decide +kernel)) rfl, x_tb_in (List.mem_of_getElem? (i := 950) (by decide +kernel)) rfl⟩
def kX6_judge : List (List (Nat × Instr × Nat)) := [[(0, .aload_n 0, 1), (1, .iconst 0, 1), (2, .invokevirtual 154, 3), (5, .aload_n 0, 1), (6, .invokevirtual 215, 3), (9, .istore_n 1, 1), (10, .aload_n 0, 1), (11, .iconst 0, 1), (12, .invokevirtual 160, 3), (15, .iload_n 1, 1)],
  [(16, .aload_n 0, 1), (17, .getfield 203, 3), (20, .if_icmp .ge 7, 3), (23, .iload_n 1, 1), (24, .goto 5, 3), (27, .bipush (-9), 2), (29, .istore_n 2, 1), (30, .aload_n 0, 1), (31, .iconst 0, 1)],
  [(32, .putfield 203, 3), (35, .iload_n 2, 1), (36, .ireturn, 1)]]
def mX6_judge : x_M := (yX6_judge, prog_8_method_60_code, 3, (some .int), kX6_judge, IX6)
set_option maxRecDepth 100000 in
theorem decX6_judge : x_dec mX6_judge := by unfold x_dec; decide +kernel
theorem gX6_judge : x_good mX6_judge := ⟨by decide +kernel, decX6_judge, okX6, rfl, x_tb_in (List.mem_of_getElem? (i := 959) (by decide +kernel)) rfl, iniX6, by decide +kernel, by decide +kernel⟩
theorem vX6_judge : Cond.instanceMethod yX6_judge ∈ x_tb ∧ Cond.selects RX6 yX6_judge yX6_judge ∈ x_tb := ⟨x_tb_in (List.mem_of_getElem? (i := 957) (by decide +kernel)) rfl, x_tb_in (List.mem_of_getElem? (i := 958) (by decide +kernel)) rfl⟩
def kX6_lots : List (List (Nat × Instr × Nat)) := [[(0, .iload_n 1, 1), (1, .iconst 1, 1), (2, .if_icmp .ge 10, 3), (5, .aload_n 0, 1), (6, .bipush (-4), 2), (8, .invokevirtual 180, 3), (11, .ireturn, 1), (12, .iload_n 1, 1), (13, .bipush 20, 2), (15, .if_icmp .le 10, 3)],
  [(18, .aload_n 0, 1), (19, .bipush (-6), 2), (21, .invokevirtual 180, 3), (24, .ireturn, 1), (25, .aload_n 0, 1), (26, .getfield 60, 3), (29, .iconst 2, 1), (30, .if_icmp .ge 10, 3)],
  [(33, .aload_n 0, 1), (34, .bipush (-3), 2), (36, .invokevirtual 180, 3), (39, .ireturn, 1), (40, .iload_n 2, 1), (41, .istore_n 3, 1), (42, .aload_n 0, 1), (43, .getfield 100, 3), (46, .istore 4, 2)],
  [(48, .iconst 0, 1), (49, .istore 5, 2), (51, .aload_n 0, 1), (52, .iconst 0, 1), (53, .invokevirtual 154, 3), (56, .iconst 0, 1), (57, .istore 6, 2), (59, .iload 6, 2), (61, .iload_n 1, 1), (62, .if_icmp .ge 103, 3)],
  [(65, .iconst 0, 1), (66, .istore 7, 2), (68, .iload 7, 2), (70, .bipush 20, 2), (72, .if_icmp .ge 60, 3), (75, .iload_n 3, 1), (76, .ldc 218, 2), (78, .imul, 1), (79, .ldc 219, 2)],
  [(81, .iadd, 1), (82, .istore_n 3, 1), (83, .iload_n 3, 1), (84, .ldc 220, 2), (86, .iand, 1), (87, .sipush 256, 3), (90, .idiv, 1), (91, .aload_n 0, 1), (92, .getfield 60, 3), (95, .irem, 1)],
  [(96, .istore 8, 2), (98, .aload_n 0, 1), (99, .iload 8, 2), (101, .invokevirtual 135, 3), (104, .ifCond .eq 12, 3), (107, .aload_n 0, 1), (108, .iload 8, 2), (110, .invokevirtual 141, 3)],
  [(113, .goto 13, 3), (116, .aload_n 0, 1), (117, .iconst 1, 1), (118, .aload_n 0, 1), (119, .getfield 100, 3), (122, .isub, 1), (123, .putfield 100, 3), (126, .iinc 7 1, 3)],
  [(129, .goto (-61), 3), (132, .iload 5, 2), (134, .aload_n 0, 1), (135, .getfield 23, 3), (138, .iload 4, 2), (140, .iaload, 1), (141, .aload_n 0, 1), (142, .getfield 23, 3)],
  [(145, .iconst 1, 1), (146, .iload 4, 2), (148, .isub, 1), (149, .iaload, 1), (150, .isub, 1), (151, .iadd, 1), (152, .istore 5, 2), (154, .aload_n 0, 1), (155, .iconst 0, 1), (156, .invokevirtual 160, 3), (159, .iinc 6 1, 3)],
  [(162, .goto (-103), 3), (165, .iload 5, 2), (167, .ireturn, 1)]]
def mX6_lots : x_M := (yX6_lots, prog_8_method_61_code, 9, (some .int), kX6_lots, IX6)
set_option maxRecDepth 100000 in
theorem decX6_lots : x_dec mX6_lots := by unfold x_dec; decide +kernel
theorem gX6_lots : x_good mX6_lots := ⟨by decide +kernel, decX6_lots, okX6, rfl, x_tb_in (List.mem_of_getElem? (i := 963) (by decide +kernel)) rfl, iniX6, by decide +kernel, by decide +kernel⟩
theorem vX6_lots : Cond.instanceMethod yX6_lots ∈ x_tb ∧ Cond.selects RX6 yX6_lots yX6_lots ∈ x_tb := ⟨x_tb_in (List.mem_of_getElem? (i := 961) (by decide +kernel)) rfl, x_tb_in (List.mem_of_getElem? (i := 962) (by decide +kernel)) rfl⟩
def kX6_image : List (List (Nat × Instr × Nat)) := [[(0, .aload_n 0, 1), (1, .iconst 0, 1), (2, .invokevirtual 154, 3), (5, .iconst 0, 1), (6, .istore_n 1, 1), (7, .iload_n 1, 1), (8, .bipush 12, 2), (10, .if_icmp .ge 21, 3), (13, .aload_n 0, 1), (14, .getfield 51, 3)],
  [(17, .iload_n 1, 1), (18, .aload_n 0, 1), (19, .getfield 35, 3), (22, .iload_n 1, 1), (23, .iaload, 1), (24, .iastore, 1), (25, .iinc 1 1, 3), (28, .goto (-21), 3), (31, .iconst 0, 1)],
  [(32, .istore_n 1, 1), (33, .iload_n 1, 1), (34, .bipush 9, 2), (36, .if_icmp .ge 21, 3), (39, .aload_n 0, 1), (40, .getfield 54, 3), (43, .iload_n 1, 1), (44, .aload_n 0, 1), (45, .getfield 13, 3)],
  [(48, .iload_n 1, 1), (49, .iaload, 1), (50, .iastore, 1), (51, .iinc 1 1, 3), (54, .goto (-21), 3), (57, .aload_n 0, 1), (58, .aload_n 0, 1), (59, .getfield 60, 3), (62, .putfield 57, 3)],
  [(65, .aload_n 0, 1), (66, .aload_n 0, 1), (67, .getfield 20, 3), (70, .putfield 221, 3), (73, .aload_n 0, 1), (74, .aload_n 0, 1), (75, .getfield 67, 3), (78, .putfield 224, 3)],
  [(81, .aload_n 0, 1), (82, .aload_n 0, 1), (83, .getfield 138, 3), (86, .putfield 227, 3), (89, .aload_n 0, 1), (90, .getfield 138, 3), (93, .ireturn, 1)]]
def mX6_image : x_M := (yX6_image, prog_8_method_62_code, 2, (some .int), kX6_image, IX6)
set_option maxRecDepth 100000 in
theorem decX6_image : x_dec mX6_image := by unfold x_dec; decide +kernel
theorem gX6_image : x_good mX6_image := ⟨by decide +kernel, decX6_image, okX6, rfl, x_tb_in (List.mem_of_getElem? (i := 970) (by decide +kernel)) rfl, iniX6, by decide +kernel, by decide +kernel⟩
theorem vX6_image : Cond.instanceMethod yX6_image ∈ x_tb ∧ Cond.selects RX6 yX6_image yX6_image ∈ x_tb := ⟨x_tb_in (List.mem_of_getElem? (i := 968) (by decide +kernel)) rfl, x_tb_in (List.mem_of_getElem? (i := 969) (by decide +kernel)) rfl⟩
def kX6_on : List (List (Nat × Instr × Nat)) := [[(0, .aload_n 0, 1), (1, .getfield 57, 3), (4, .ifCond .ge 10, 3), (7, .aload_n 0, 1), (8, .bipush (-3), 2), (10, .invokevirtual 110, 3), (13, .ireturn, 1), (14, .iconst 0, 1), (15, .istore_n 1, 1)],
  [(16, .iload_n 1, 1), (17, .bipush 12, 2), (19, .if_icmp .ge 21, 3), (22, .aload_n 0, 1), (23, .getfield 35, 3), (26, .iload_n 1, 1), (27, .aload_n 0, 1), (28, .getfield 51, 3), (31, .iload_n 1, 1)],
  [(32, .iaload, 1), (33, .iastore, 1), (34, .iinc 1 1, 3), (37, .goto (-21), 3), (40, .aload_n 0, 1), (41, .iconst 0, 1), (42, .invokevirtual 160, 3), (45, .iconst 0, 1), (46, .istore_n 1, 1), (47, .iload_n 1, 1)],
  [(48, .bipush 9, 2), (50, .if_icmp .ge 21, 3), (53, .aload_n 0, 1), (54, .getfield 13, 3), (57, .iload_n 1, 1), (58, .aload_n 0, 1), (59, .getfield 54, 3), (62, .iload_n 1, 1), (63, .iaload, 1)],
  [(64, .iastore, 1), (65, .iinc 1 1, 3), (68, .goto (-21), 3), (71, .aload_n 0, 1), (72, .aload_n 0, 1), (73, .getfield 57, 3), (76, .putfield 60, 3), (79, .aload_n 0, 1)],
  [(80, .aload_n 0, 1), (81, .getfield 221, 3), (84, .putfield 20, 3), (87, .aload_n 0, 1), (88, .aload_n 0, 1), (89, .getfield 224, 3), (92, .putfield 67, 3), (95, .aload_n 0, 1)],
  [(96, .aload_n 0, 1), (97, .getfield 227, 3), (100, .putfield 138, 3), (103, .aload_n 0, 1), (104, .getfield 138, 3), (107, .ireturn, 1)]]
def mX6_on : x_M := (yX6_on, prog_8_method_63_code, 2, (some .int), kX6_on, IX6)
set_option maxRecDepth 100000 in
theorem decX6_on : x_dec mX6_on := by unfold x_dec; decide +kernel
theorem gX6_on : x_good mX6_on := ⟨by decide +kernel, decX6_on, okX6, rfl, x_tb_in (List.mem_of_getElem? (i := 974) (by decide +kernel)) rfl, iniX6, by decide +kernel, by decide +kernel⟩
theorem vX6_on : Cond.instanceMethod yX6_on ∈ x_tb ∧ Cond.selects RX6 yX6_on yX6_on ∈ x_tb := ⟨x_tb_in (List.mem_of_getElem? (i := 972) (by decide +kernel)) rfl, x_tb_in (List.mem_of_getElem? (i := 973) (by decide +kernel)) rfl⟩
def kX6_count : List (List (Nat × Instr × Nat)) := [[(0, .iload_n 1, 1), (1, .i2l, 1), (2, .ldc2_w 230, 3), (5, .ldc2_w 232, 3), (8, .invokestatic 63, 3), (11, .ifCond .eq 13, 3), (14, .aload_n 0, 1), (15, .getfield 26, 3)],
  [(18, .iload_n 1, 1), (19, .bipush 11, 2), (21, .isub, 1), (22, .iaload, 1), (23, .ireturn, 1), (24, .iload_n 1, 1), (25, .i2l, 1), (26, .lconst 0, 1), (27, .ldc2_w 234, 3), (30, .invokestatic 63, 3)],
  [(33, .ifCond .ne 6, 3), (36, .bipush (-9), 2), (38, .ireturn, 1), (39, .iload_n 1, 1), (40, .iconst 4, 1), (41, .if_icmp .ge 35, 3), (44, .iload_n 1, 1), (45, .ifCond .ne 10, 3)],
  [(48, .aload_n 0, 1), (49, .getfield 60, 3), (52, .goto 23, 3), (55, .iload_n 1, 1), (56, .iconst 1, 1), (57, .if_icmp .ne 10, 3), (60, .aload_n 0, 1), (61, .invokevirtual 169, 3)],
  [(64, .goto 11, 3), (67, .aload_n 0, 1), (68, .getfield 23, 3), (71, .iload_n 1, 1), (72, .iconst 2, 1), (73, .isub, 1), (74, .iaload, 1), (75, .ireturn, 1), (76, .iload_n 1, 1), (77, .iconst 4, 1), (78, .if_icmp .ne 10, 3)],
  [(81, .aload_n 0, 1), (82, .getfield 100, 3), (85, .goto 58, 3), (88, .iload_n 1, 1), (89, .iconst 5, 1), (90, .if_icmp .ne 10, 3), (93, .aload_n 0, 1), (94, .getfield 138, 3)],
  [(97, .goto 46, 3), (100, .iload_n 1, 1), (101, .bipush 6, 2), (103, .if_icmp .ne 10, 3), (106, .aload_n 0, 1), (107, .getfield 20, 3), (110, .goto 33, 3)],
  [(113, .iload_n 1, 1), (114, .bipush 7, 2), (116, .if_icmp .ne 10, 3), (119, .aload_n 0, 1), (120, .getfield 67, 3), (123, .goto 20, 3), (126, .iload_n 1, 1), (127, .bipush 8, 2)],
  [(129, .if_icmp .ne 10, 3), (132, .aload_n 0, 1), (133, .getfield 203, 3), (136, .goto 7, 3), (139, .aload_n 0, 1), (140, .getfield 113, 3), (143, .ireturn, 1)]]
def mX6_count : x_M := (yX6_count, prog_8_method_64_code, 2, (some .int), kX6_count, IX6)
set_option maxRecDepth 100000 in
theorem decX6_count : x_dec mX6_count := by unfold x_dec; decide +kernel
theorem gX6_count : x_good mX6_count := ⟨by decide +kernel, decX6_count, okX6, rfl, x_tb_in (List.mem_of_getElem? (i := 978) (by decide +kernel)) rfl, iniX6, by decide +kernel, by decide +kernel⟩
theorem vX6_count : Cond.instanceMethod yX6_count ∈ x_tb ∧ Cond.selects RX6 yX6_count yX6_count ∈ x_tb := ⟨x_tb_in (List.mem_of_getElem? (i := 976) (by decide +kernel)) rfl, x_tb_in (List.mem_of_getElem? (i := 977) (by decide +kernel)) rfl⟩
theorem sX6_7 : Cond.methodLink RX6 7 objectInit ∈ x_tb := x_tb_in (List.mem_of_getElem? (i := 629) (by decide +kernel)) rfl
theorem sX6_110 : x_sV RX6 110 mX6_refuse 1 6 := ⟨x_tb_in (List.mem_of_getElem? (i := 730) (by decide +kernel)) rfl, vX6_refuse.1, vX6_refuse.2, by decide +kernel, (RX6, TX6, 32), rfl, rfl⟩
theorem sX6_151 : x_sV RX6 151 mX6_passes 1 6 := ⟨x_tb_in (List.mem_of_getElem? (i := 738) (by decide +kernel)) rfl, vX6_passes.1, vX6_passes.2, by decide +kernel, (RX6, TX6, 32), rfl, rfl⟩
theorem sX6_116 : x_sV RX6 116 mX6_letterAt 1 6 := ⟨x_tb_in (List.mem_of_getElem? (i := 742) (by decide +kernel)) rfl, vX6_letterAt.1, vX6_letterAt.2, by decide +kernel, (RX6, TX6, 32), rfl, rfl⟩
theorem sX6_122 : x_sS RX6 122 mX6_kindOf 1 := ⟨x_tb_in (List.mem_of_getElem? (i := 746) (by decide +kernel)) rfl, vX6_kindOf, by decide +kernel⟩
theorem sX6_128 : x_sV RX6 128 mX6_digitsFrom 2 6 := ⟨x_tb_in (List.mem_of_getElem? (i := 749) (by decide +kernel)) rfl, vX6_digitsFrom.1, vX6_digitsFrom.2, by decide +kernel, (RX6, TX6, 32), rfl, rfl⟩
theorem sX6_119 : x_sS RX6 119 mX6_isDigit 1 := ⟨x_tb_in (List.mem_of_getElem? (i := 753) (by decide +kernel)) rfl, vX6_isDigit, by decide +kernel⟩
theorem sX6_154 : x_sV RX6 154 mX6_keeps 1 6 := ⟨x_tb_in (List.mem_of_getElem? (i := 756) (by decide +kernel)) rfl, vX6_keeps.1, vX6_keeps.2, by decide +kernel, (RX6, TX6, 32), rfl, rfl⟩
theorem sX6_157 : x_sV RX6 157 mX6_does 1 6 := ⟨x_tb_in (List.mem_of_getElem? (i := 760) (by decide +kernel)) rfl, vX6_does.1, vX6_does.2, by decide +kernel, (RX6, TX6, 32), rfl, rfl⟩
theorem sX6_132 : x_sV RX6 132 mX6_digit 1 6 := ⟨x_tb_in (List.mem_of_getElem? (i := 764) (by decide +kernel)) rfl, vX6_digit.1, vX6_digit.2, by decide +kernel, (RX6, TX6, 32), rfl, rfl⟩
theorem sX6_144 : x_sV RX6 144 mX6_doesSowings 1 6 := ⟨x_tb_in (List.mem_of_getElem? (i := 768) (by decide +kernel)) rfl, vX6_doesSowings.1, vX6_doesSowings.2, by decide +kernel, (RX6, TX6, 32), rfl, rfl⟩
theorem sX6_135 : x_sV RX6 135 mX6_canMove 1 6 := ⟨x_tb_in (List.mem_of_getElem? (i := 772) (by decide +kernel)) rfl, vX6_canMove.1, vX6_canMove.2, by decide +kernel, (RX6, TX6, 32), rfl, rfl⟩
theorem sX6_103 : x_sV RX6 103 mX6_isBowl 1 6 := ⟨x_tb_in (List.mem_of_getElem? (i := 776) (by decide +kernel)) rfl, vX6_isBowl.1, vX6_isBowl.2, by decide +kernel, (RX6, TX6, 32), rfl, rfl⟩
theorem sX6_63 : x_sS RX6 63 mX6_in 3 := ⟨x_tb_in (List.mem_of_getElem? (i := 780) (by decide +kernel)) rfl, vX6_in, by decide +kernel⟩
theorem sX6_141 : x_sV RX6 141 mX6_moves 1 6 := ⟨x_tb_in (List.mem_of_getElem? (i := 783) (by decide +kernel)) rfl, vX6_moves.1, vX6_moves.2, by decide +kernel, (RX6, TX6, 32), rfl, rfl⟩
theorem sX6_106 : x_sV RX6 106 mX6_sows 1 6 := ⟨x_tb_in (List.mem_of_getElem? (i := 787) (by decide +kernel)) rfl, vX6_sows.1, vX6_sows.2, by decide +kernel, (RX6, TX6, 32), rfl, rfl⟩
theorem sX6_90 : x_sV RX6 90 mX6_sowsHand 1 6 := ⟨x_tb_in (List.mem_of_getElem? (i := 791) (by decide +kernel)) rfl, vX6_sowsHand.1, vX6_sowsHand.2, by decide +kernel, (RX6, TX6, 32), rfl, rfl⟩
theorem sX6_70 : x_sV RX6 70 mX6_beside 1 6 := ⟨x_tb_in (List.mem_of_getElem? (i := 795) (by decide +kernel)) rfl, vX6_beside.1, vX6_beside.2, by decide +kernel, (RX6, TX6, 32), rfl, rfl⟩
theorem sX6_74 : x_sV RX6 74 mX6_takes 1 6 := ⟨x_tb_in (List.mem_of_getElem? (i := 799) (by decide +kernel)) rfl, vX6_takes.1, vX6_takes.2, by decide +kernel, (RX6, TX6, 32), rfl, rfl⟩
theorem sX6_93 : x_sV RX6 93 mX6_soundsFrom 1 6 := ⟨x_tb_in (List.mem_of_getElem? (i := 803) (by decide +kernel)) rfl, vX6_soundsFrom.1, vX6_soundsFrom.2, by decide +kernel, (RX6, TX6, 32), rfl, rfl⟩
theorem sX6_147 : x_sV RX6 147 mX6_exchanges 2 6 := ⟨x_tb_in (List.mem_of_getElem? (i := 807) (by decide +kernel)) rfl, vX6_exchanges.1, vX6_exchanges.2, by decide +kernel, (RX6, TX6, 32), rfl, rfl⟩
theorem sX6_160 : x_sV RX6 160 mX6_lays 1 6 := ⟨x_tb_in (List.mem_of_getElem? (i := 811) (by decide +kernel)) rfl, vX6_lays.1, vX6_lays.2, by decide +kernel, (RX6, TX6, 32), rfl, rfl⟩
theorem sX6_169 : x_sV RX6 169 mX6_all 0 6 := ⟨x_tb_in (List.mem_of_getElem? (i := 838) (by decide +kernel)) rfl, vX6_all.1, vX6_all.2, by decide +kernel, (RX6, TX6, 32), rfl, rfl⟩
theorem sX6_173 : x_sV RX6 173 mX6_seeks 2 6 := ⟨x_tb_in (List.mem_of_getElem? (i := 858) (by decide +kernel)) rfl, vX6_seeks.1, vX6_seeks.2, by decide +kernel, (RX6, TX6, 32), rfl, rfl⟩
theorem sX6_180 : x_sV RX6 180 mX6_told 1 6 := ⟨x_tb_in (List.mem_of_getElem? (i := 866) (by decide +kernel)) rfl, vX6_told.1, vX6_told.2, by decide +kernel, (RX6, TX6, 32), rfl, rfl⟩
theorem sX6_183 : x_sV RX6 183 mX6_worthOf 1 6 := ⟨x_tb_in (List.mem_of_getElem? (i := 871) (by decide +kernel)) rfl, vX6_worthOf.1, vX6_worthOf.2, by decide +kernel, (RX6, TX6, 32), rfl, rfl⟩
theorem sX6_189 : x_sV RX6 189 mX6_records200 1 6 := ⟨x_tb_in (List.mem_of_getElem? (i := 883) (by decide +kernel)) rfl, vX6_records200.1, vX6_records200.2, by decide +kernel, (RX6, TX6, 32), rfl, rfl⟩
theorem sX6_186 : x_sV RX6 186 mX6_records 1 6 := ⟨x_tb_in (List.mem_of_getElem? (i := 887) (by decide +kernel)) rfl, vX6_records.1, vX6_records.2, by decide +kernel, (RX6, TX6, 32), rfl, rfl⟩
theorem sX6_192 : x_sV RX6 192 mX6_isLike 2 6 := ⟨x_tb_in (List.mem_of_getElem? (i := 891) (by decide +kernel)) rfl, vX6_isLike.1, vX6_isLike.2, by decide +kernel, (RX6, TX6, 32), rfl, rfl⟩
theorem sX6_196 : x_sV RX6 196 mX6_isEmptied 3 6 := ⟨x_tb_in (List.mem_of_getElem? (i := 903) (by decide +kernel)) rfl, vX6_isEmptied.1, vX6_isEmptied.2, by decide +kernel, (RX6, TX6, 32), rfl, rfl⟩
theorem sX6_200 : x_sV RX6 200 mX6_worthBy 2 6 := ⟨x_tb_in (List.mem_of_getElem? (i := 911) (by decide +kernel)) rfl, vX6_worthBy.1, vX6_worthBy.2, by decide +kernel, (RX6, TX6, 32), rfl, rfl⟩
theorem sX6_208 : x_sV RX6 208 mX6_isRow 0 6 := ⟨x_tb_in (List.mem_of_getElem? (i := 931) (by decide +kernel)) rfl, vX6_isRow.1, vX6_isRow.2, by decide +kernel, (RX6, TX6, 32), rfl, rfl⟩
theorem sX6_212 : x_sV RX6 212 mX6_waysOf 1 6 := ⟨x_tb_in (List.mem_of_getElem? (i := 935) (by decide +kernel)) rfl, vX6_waysOf.1, vX6_waysOf.2, by decide +kernel, (RX6, TX6, 32), rfl, rfl⟩
theorem sX6_215 : x_sV RX6 215 mX6_plays 0 6 := ⟨x_tb_in (List.mem_of_getElem? (i := 952) (by decide +kernel)) rfl, vX6_plays.1, vX6_plays.2, by decide +kernel, (RX6, TX6, 32), rfl, rfl⟩
end
section
def IL : x_I := ("PurseOfNineBowlsLaw", [], [], [], [(7, 5), (10, 6)])
set_option maxRecDepth 100000 in
theorem okL : x_okI IL := ⟨fun _ h => absurd h List.not_mem_nil, fun _ h => absurd h List.not_mem_nil, fun _ h => absurd h List.not_mem_nil, List.forall_mem_cons.mpr ⟨⟨(RX5, TX5, 12), rfl, x_tb_in (List.mem_of_getElem? (i := 65) (by decide +kernel)) rfl⟩, List.forall_mem_cons.mpr ⟨⟨(RX6, TX6, 32), rfl, x_tb_in (List.mem_of_getElem? (i := 624) (by decide +kernel)) rfl⟩, fun _ h => absurd h List.not_mem_nil⟩⟩⟩
def kL_law : List (List (Nat × Instr × Nat)) := [[(0, .new 7, 3), (3, .dup, 1), (4, .invokespecial 9, 3), (7, .astore_n 1, 1), (8, .new 10, 3), (11, .dup, 1), (12, .invokespecial 12, 3), (15, .astore_n 2, 1)],
  [(16, .iconst 0, 1), (17, .istore_n 3, 1), (18, .iload_n 3, 1), (19, .aload_n 0, 1), (20, .arraylength, 1), (21, .iconst 3, 1), (22, .isub, 1), (23, .if_icmp .gt 814, 3), (26, .aload_n 0, 1), (27, .iload_n 3, 1), (28, .iaload, 1), (29, .bipush 31, 2), (31, .iand, 1)],
  [(32, .tableswitch 799 0 28 #[132, 155, 168, 201, 234, 267, 290, 323, 356, 379, 392, 415, 438, 451, 474, 507, 540, 563, 586, 599, 612, 635, 658, 681, 704, 717, 750, 763, 776], 132)],
  [],
  [],
  [],
  [],
  [],
  [],
  [],
  [(164, .aload_n 1, 1), (165, .aload_n 0, 1), (166, .iload_n 3, 1), (167, .iconst 1, 1), (168, .iadd, 1), (169, .iaload, 1), (170, .invokevirtual 13, 3), (173, .aload_n 2, 1), (174, .aload_n 0, 1), (175, .iload_n 3, 1)],
  [(176, .iconst 1, 1), (177, .iadd, 1), (178, .iaload, 1), (179, .invokevirtual 17, 3), (182, .if_icmp .eq 649, 3), (185, .iconst 0, 1), (186, .ireturn, 1), (187, .aload_n 1, 1), (188, .invokevirtual 18, 3), (191, .pop, 1)],
  [(192, .aload_n 2, 1), (193, .invokevirtual 22, 3), (196, .pop, 1), (197, .goto 634, 3), (200, .aload_n 1, 1), (201, .aload_n 0, 1), (202, .iload_n 3, 1), (203, .iconst 1, 1), (204, .iadd, 1), (205, .iaload, 1), (206, .aload_n 0, 1), (207, .iload_n 3, 1)],
  [(208, .iconst 2, 1), (209, .iadd, 1), (210, .iaload, 1), (211, .invokevirtual 23, 3), (214, .pop, 1), (215, .aload_n 2, 1), (216, .aload_n 0, 1), (217, .iload_n 3, 1), (218, .iconst 1, 1), (219, .iadd, 1), (220, .iaload, 1), (221, .aload_n 0, 1), (222, .iload_n 3, 1), (223, .iconst 2, 1)],
  [(224, .iadd, 1), (225, .iaload, 1), (226, .invokevirtual 27, 3), (229, .pop, 1), (230, .goto 601, 3), (233, .aload_n 1, 1), (234, .aload_n 0, 1), (235, .iload_n 3, 1), (236, .iconst 1, 1), (237, .iadd, 1), (238, .iaload, 1), (239, .aload_n 0, 1)],
  [(240, .iload_n 3, 1), (241, .iconst 2, 1), (242, .iadd, 1), (243, .iaload, 1), (244, .invokevirtual 28, 3), (247, .pop, 1), (248, .aload_n 2, 1), (249, .aload_n 0, 1), (250, .iload_n 3, 1), (251, .iconst 1, 1), (252, .iadd, 1), (253, .iaload, 1), (254, .aload_n 0, 1), (255, .iload_n 3, 1)],
  [(256, .iconst 2, 1), (257, .iadd, 1), (258, .iaload, 1), (259, .invokevirtual 31, 3), (262, .pop, 1), (263, .goto 568, 3), (266, .aload_n 1, 1), (267, .aload_n 0, 1), (268, .iload_n 3, 1), (269, .iconst 1, 1), (270, .iadd, 1), (271, .iaload, 1)],
  [(272, .aload_n 0, 1), (273, .iload_n 3, 1), (274, .iconst 2, 1), (275, .iadd, 1), (276, .iaload, 1), (277, .invokevirtual 32, 3), (280, .pop, 1), (281, .aload_n 2, 1), (282, .aload_n 0, 1), (283, .iload_n 3, 1), (284, .iconst 1, 1), (285, .iadd, 1), (286, .iaload, 1), (287, .aload_n 0, 1)],
  [(288, .iload_n 3, 1), (289, .iconst 2, 1), (290, .iadd, 1), (291, .iaload, 1), (292, .invokevirtual 35, 3), (295, .pop, 1), (296, .goto 535, 3), (299, .aload_n 1, 1), (300, .aload_n 0, 1), (301, .iload_n 3, 1), (302, .iconst 1, 1), (303, .iadd, 1)],
  [(304, .iaload, 1), (305, .invokevirtual 36, 3), (308, .pop, 1), (309, .aload_n 2, 1), (310, .aload_n 0, 1), (311, .iload_n 3, 1), (312, .iconst 1, 1), (313, .iadd, 1), (314, .iaload, 1), (315, .invokevirtual 39, 3), (318, .pop, 1), (319, .goto 512, 3)],
  [(322, .aload_n 1, 1), (323, .aload_n 0, 1), (324, .iload_n 3, 1), (325, .iconst 1, 1), (326, .iadd, 1), (327, .iaload, 1), (328, .aload_n 0, 1), (329, .iload_n 3, 1), (330, .iconst 2, 1), (331, .iadd, 1), (332, .iaload, 1), (333, .invokevirtual 40, 3)],
  [(336, .pop, 1), (337, .aload_n 2, 1), (338, .aload_n 0, 1), (339, .iload_n 3, 1), (340, .iconst 1, 1), (341, .iadd, 1), (342, .iaload, 1), (343, .aload_n 0, 1), (344, .iload_n 3, 1), (345, .iconst 2, 1), (346, .iadd, 1), (347, .iaload, 1), (348, .invokevirtual 43, 3), (351, .pop, 1)],
  [(352, .goto 479, 3), (355, .aload_n 1, 1), (356, .aload_n 0, 1), (357, .iload_n 3, 1), (358, .iconst 1, 1), (359, .iadd, 1), (360, .iaload, 1), (361, .aload_n 0, 1), (362, .iload_n 3, 1), (363, .iconst 2, 1), (364, .iadd, 1), (365, .iaload, 1), (366, .invokevirtual 44, 3)],
  [(369, .pop, 1), (370, .aload_n 2, 1), (371, .aload_n 0, 1), (372, .iload_n 3, 1), (373, .iconst 1, 1), (374, .iadd, 1), (375, .iaload, 1), (376, .aload_n 0, 1), (377, .iload_n 3, 1), (378, .iconst 2, 1), (379, .iadd, 1), (380, .iaload, 1), (381, .invokevirtual 47, 3)],
  [(384, .pop, 1), (385, .goto 446, 3), (388, .aload_n 1, 1), (389, .aload_n 0, 1), (390, .iload_n 3, 1), (391, .iconst 1, 1), (392, .iadd, 1), (393, .iaload, 1), (394, .invokevirtual 48, 3), (397, .pop, 1), (398, .aload_n 2, 1), (399, .aload_n 0, 1)],
  [(400, .iload_n 3, 1), (401, .iconst 1, 1), (402, .iadd, 1), (403, .iaload, 1), (404, .invokevirtual 51, 3), (407, .pop, 1), (408, .goto 423, 3), (411, .aload_n 1, 1), (412, .invokevirtual 52, 3), (415, .pop, 1)],
  [(416, .aload_n 2, 1), (417, .invokevirtual 55, 3), (420, .pop, 1), (421, .goto 410, 3), (424, .aload_n 1, 1), (425, .aload_n 0, 1), (426, .iload_n 3, 1), (427, .iconst 1, 1), (428, .iadd, 1), (429, .iaload, 1), (430, .invokevirtual 56, 3)],
  [(433, .pop, 1), (434, .aload_n 2, 1), (435, .aload_n 0, 1), (436, .iload_n 3, 1), (437, .iconst 1, 1), (438, .iadd, 1), (439, .iaload, 1), (440, .invokevirtual 59, 3), (443, .pop, 1), (444, .goto 387, 3), (447, .aload_n 1, 1)],
  [(448, .aload_n 0, 1), (449, .iload_n 3, 1), (450, .iconst 1, 1), (451, .iadd, 1), (452, .iaload, 1), (453, .invokevirtual 60, 3), (456, .pop, 1), (457, .aload_n 2, 1), (458, .aload_n 0, 1), (459, .iload_n 3, 1), (460, .iconst 1, 1), (461, .iadd, 1), (462, .iaload, 1), (463, .invokevirtual 63, 3)],
  [(466, .pop, 1), (467, .goto 364, 3), (470, .aload_n 1, 1), (471, .invokevirtual 64, 3), (474, .pop, 1), (475, .aload_n 2, 1), (476, .invokevirtual 67, 3), (479, .pop, 1)],
  [(480, .goto 351, 3), (483, .aload_n 1, 1), (484, .aload_n 0, 1), (485, .iload_n 3, 1), (486, .iconst 1, 1), (487, .iadd, 1), (488, .iaload, 1), (489, .invokevirtual 68, 3), (492, .pop, 1), (493, .aload_n 2, 1), (494, .aload_n 0, 1), (495, .iload_n 3, 1)],
  [(496, .iconst 1, 1), (497, .iadd, 1), (498, .iaload, 1), (499, .invokevirtual 71, 3), (502, .pop, 1), (503, .goto 328, 3), (506, .aload_n 1, 1), (507, .aload_n 0, 1), (508, .iload_n 3, 1), (509, .iconst 1, 1), (510, .iadd, 1), (511, .iaload, 1)],
  [(512, .aload_n 0, 1), (513, .iload_n 3, 1), (514, .iconst 2, 1), (515, .iadd, 1), (516, .iaload, 1), (517, .invokevirtual 72, 3), (520, .pop, 1), (521, .aload_n 2, 1), (522, .aload_n 0, 1), (523, .iload_n 3, 1), (524, .iconst 1, 1), (525, .iadd, 1), (526, .iaload, 1), (527, .aload_n 0, 1)],
  [(528, .iload_n 3, 1), (529, .iconst 2, 1), (530, .iadd, 1), (531, .iaload, 1), (532, .invokevirtual 75, 3), (535, .pop, 1), (536, .goto 295, 3), (539, .aload_n 1, 1), (540, .aload_n 0, 1), (541, .iload_n 3, 1), (542, .iconst 1, 1), (543, .iadd, 1)],
  [(544, .iaload, 1), (545, .aload_n 0, 1), (546, .iload_n 3, 1), (547, .iconst 2, 1), (548, .iadd, 1), (549, .iaload, 1), (550, .invokevirtual 76, 3), (553, .pop, 1), (554, .aload_n 2, 1), (555, .aload_n 0, 1), (556, .iload_n 3, 1), (557, .iconst 1, 1), (558, .iadd, 1), (559, .iaload, 1)],
  [(560, .aload_n 0, 1), (561, .iload_n 3, 1), (562, .iconst 2, 1), (563, .iadd, 1), (564, .iaload, 1), (565, .invokevirtual 79, 3), (568, .pop, 1), (569, .goto 262, 3), (572, .aload_n 1, 1), (573, .aload_n 0, 1), (574, .iload_n 3, 1), (575, .iconst 1, 1)],
  [(576, .iadd, 1), (577, .iaload, 1), (578, .invokevirtual 80, 3), (581, .pop, 1), (582, .aload_n 2, 1), (583, .aload_n 0, 1), (584, .iload_n 3, 1), (585, .iconst 1, 1), (586, .iadd, 1), (587, .iaload, 1), (588, .invokevirtual 83, 3), (591, .pop, 1)],
  [(592, .goto 239, 3), (595, .aload_n 1, 1), (596, .aload_n 0, 1), (597, .iload_n 3, 1), (598, .iconst 1, 1), (599, .iadd, 1), (600, .iaload, 1), (601, .invokevirtual 84, 3), (604, .pop, 1), (605, .aload_n 2, 1), (606, .aload_n 0, 1), (607, .iload_n 3, 1)],
  [(608, .iconst 1, 1), (609, .iadd, 1), (610, .iaload, 1), (611, .invokevirtual 87, 3), (614, .pop, 1), (615, .goto 216, 3), (618, .aload_n 1, 1), (619, .invokevirtual 88, 3), (622, .pop, 1), (623, .aload_n 2, 1)],
  [(624, .invokevirtual 91, 3), (627, .pop, 1), (628, .goto 203, 3), (631, .aload_n 1, 1), (632, .invokevirtual 92, 3), (635, .pop, 1), (636, .aload_n 2, 1), (637, .invokevirtual 95, 3)],
  [(640, .pop, 1), (641, .goto 190, 3), (644, .aload_n 1, 1), (645, .aload_n 0, 1), (646, .iload_n 3, 1), (647, .iconst 1, 1), (648, .iadd, 1), (649, .iaload, 1), (650, .invokevirtual 96, 3), (653, .pop, 1), (654, .aload_n 2, 1), (655, .aload_n 0, 1)],
  [(656, .iload_n 3, 1), (657, .iconst 1, 1), (658, .iadd, 1), (659, .iaload, 1), (660, .invokevirtual 99, 3), (663, .pop, 1), (664, .goto 167, 3), (667, .aload_n 1, 1), (668, .aload_n 0, 1), (669, .iload_n 3, 1), (670, .iconst 1, 1), (671, .iadd, 1)],
  [(672, .iaload, 1), (673, .invokevirtual 100, 3), (676, .pop, 1), (677, .aload_n 2, 1), (678, .aload_n 0, 1), (679, .iload_n 3, 1), (680, .iconst 1, 1), (681, .iadd, 1), (682, .iaload, 1), (683, .invokevirtual 103, 3), (686, .pop, 1), (687, .goto 144, 3)],
  [(690, .aload_n 1, 1), (691, .aload_n 0, 1), (692, .iload_n 3, 1), (693, .iconst 1, 1), (694, .iadd, 1), (695, .iaload, 1), (696, .invokevirtual 104, 3), (699, .pop, 1), (700, .aload_n 2, 1), (701, .aload_n 0, 1), (702, .iload_n 3, 1), (703, .iconst 1, 1)],
  [(704, .iadd, 1), (705, .iaload, 1), (706, .invokevirtual 107, 3), (709, .pop, 1), (710, .goto 121, 3), (713, .aload_n 1, 1), (714, .aload_n 0, 1), (715, .iload_n 3, 1), (716, .iconst 1, 1), (717, .iadd, 1), (718, .iaload, 1), (719, .invokevirtual 108, 3)],
  [(722, .pop, 1), (723, .aload_n 2, 1), (724, .aload_n 0, 1), (725, .iload_n 3, 1), (726, .iconst 1, 1), (727, .iadd, 1), (728, .iaload, 1), (729, .invokevirtual 111, 3), (732, .pop, 1), (733, .goto 98, 3)],
  [(736, .aload_n 1, 1), (737, .invokevirtual 112, 3), (740, .pop, 1), (741, .aload_n 2, 1), (742, .invokevirtual 115, 3), (745, .pop, 1), (746, .goto 85, 3), (749, .aload_n 1, 1), (750, .aload_n 0, 1), (751, .iload_n 3, 1)],
  [(752, .iconst 1, 1), (753, .iadd, 1), (754, .iaload, 1), (755, .aload_n 0, 1), (756, .iload_n 3, 1), (757, .iconst 2, 1), (758, .iadd, 1), (759, .iaload, 1), (760, .invokevirtual 116, 3), (763, .pop, 1), (764, .aload_n 2, 1), (765, .aload_n 0, 1), (766, .iload_n 3, 1), (767, .iconst 1, 1)],
  [(768, .iadd, 1), (769, .iaload, 1), (770, .aload_n 0, 1), (771, .iload_n 3, 1), (772, .iconst 2, 1), (773, .iadd, 1), (774, .iaload, 1), (775, .invokevirtual 119, 3), (778, .pop, 1), (779, .goto 52, 3), (782, .aload_n 1, 1), (783, .invokevirtual 120, 3)],
  [(786, .pop, 1), (787, .aload_n 2, 1), (788, .invokevirtual 123, 3), (791, .pop, 1), (792, .goto 39, 3), (795, .aload_n 1, 1), (796, .invokevirtual 124, 3), (799, .pop, 1)],
  [(800, .aload_n 2, 1), (801, .invokevirtual 127, 3), (804, .pop, 1), (805, .goto 26, 3), (808, .aload_n 1, 1), (809, .aload_n 0, 1), (810, .iload_n 3, 1), (811, .iconst 1, 1), (812, .iadd, 1), (813, .iaload, 1), (814, .invokevirtual 128, 3)],
  [(817, .pop, 1), (818, .aload_n 2, 1), (819, .aload_n 0, 1), (820, .iload_n 3, 1), (821, .iconst 1, 1), (822, .iadd, 1), (823, .iaload, 1), (824, .invokevirtual 131, 3), (827, .pop, 1), (828, .goto 3, 3), (831, .iinc 3 3, 3)],
  [(834, .goto (-816), 3), (837, .iconst 1, 1), (838, .ireturn, 1)]]
def mL_law : x_M := (yL_law, code, 4, some .boolean, kL_law, IL)
set_option maxRecDepth 100000 in
theorem decL_law : x_dec mL_law := by unfold x_dec; decide +kernel
theorem sL_9 : x_sI "PurseOfNineBowlsLaw" 9 mX5_init 0 false := ⟨fun _ => x_tb_in (List.mem_of_getElem? (i := 67) (by decide +kernel)) rfl, fun h => (by cases h), vX5_init, rfl, rfl, by decide +kernel⟩
theorem sL_13 : x_sV "PurseOfNineBowlsLaw" 13 mX5_letter 1 5 := ⟨x_tb_in (List.mem_of_getElem? (i := 250) (by decide +kernel)) rfl, vX5_letter.1, vX5_letter.2, by decide +kernel, (RX5, TX5, 12), rfl, rfl⟩
theorem sL_18 : x_sV "PurseOfNineBowlsLaw" 18 mX5_game 0 5 := ⟨x_tb_in (List.mem_of_getElem? (i := 262) (by decide +kernel)) rfl, vX5_game.1, vX5_game.2, by decide +kernel, (RX5, TX5, 12), rfl, rfl⟩
theorem sL_23 : x_sV "PurseOfNineBowlsLaw" 23 mX5_bowl 2 5 := ⟨x_tb_in (List.mem_of_getElem? (i := 380) (by decide +kernel)) rfl, vX5_bowl.1, vX5_bowl.2, by decide +kernel, (RX5, TX5, 12), rfl, rfl⟩
theorem sL_28 : x_sV "PurseOfNineBowlsLaw" 28 mX5_put 2 5 := ⟨x_tb_in (List.mem_of_getElem? (i := 392) (by decide +kernel)) rfl, vX5_put.1, vX5_put.2, by decide +kernel, (RX5, TX5, 12), rfl, rfl⟩
theorem sL_32 : x_sV "PurseOfNineBowlsLaw" 32 mX5_set 2 5 := ⟨x_tb_in (List.mem_of_getElem? (i := 397) (by decide +kernel)) rfl, vX5_set.1, vX5_set.2, by decide +kernel, (RX5, TX5, 12), rfl, rfl⟩
theorem sL_36 : x_sV "PurseOfNineBowlsLaw" 36 mX5_move 1 5 := ⟨x_tb_in (List.mem_of_getElem? (i := 401) (by decide +kernel)) rfl, vX5_move.1, vX5_move.2, by decide +kernel, (RX5, TX5, 12), rfl, rfl⟩
theorem sL_40 : x_sV "PurseOfNineBowlsLaw" 40 mX5_by 2 5 := ⟨x_tb_in (List.mem_of_getElem? (i := 407) (by decide +kernel)) rfl, vX5_by.1, vX5_by.2, by decide +kernel, (RX5, TX5, 12), rfl, rfl⟩
theorem sL_44 : x_sV "PurseOfNineBowlsLaw" 44 mX5_behind 2 5 := ⟨x_tb_in (List.mem_of_getElem? (i := 419) (by decide +kernel)) rfl, vX5_behind.1, vX5_behind.2, by decide +kernel, (RX5, TX5, 12), rfl, rfl⟩
theorem sL_48 : x_sV "PurseOfNineBowlsLaw" 48 mX5_empties 1 5 := ⟨x_tb_in (List.mem_of_getElem? (i := 423) (by decide +kernel)) rfl, vX5_empties.1, vX5_empties.2, by decide +kernel, (RX5, TX5, 12), rfl, rfl⟩
theorem sL_52 : x_sV "PurseOfNineBowlsLaw" 52 mX5_longest 0 5 := ⟨x_tb_in (List.mem_of_getElem? (i := 427) (by decide +kernel)) rfl, vX5_longest.1, vX5_longest.2, by decide +kernel, (RX5, TX5, 12), rfl, rfl⟩
theorem sL_56 : x_sV "PurseOfNineBowlsLaw" 56 mX5_best 1 5 := ⟨x_tb_in (List.mem_of_getElem? (i := 431) (by decide +kernel)) rfl, vX5_best.1, vX5_best.2, by decide +kernel, (RX5, TX5, 12), rfl, rfl⟩
theorem sL_60 : x_sV "PurseOfNineBowlsLaw" 60 mX5_worth 1 5 := ⟨x_tb_in (List.mem_of_getElem? (i := 452) (by decide +kernel)) rfl, vX5_worth.1, vX5_worth.2, by decide +kernel, (RX5, TX5, 12), rfl, rfl⟩
theorem sL_64 : x_sV "PurseOfNineBowlsLaw" 64 mX5_lost 0 5 := ⟨x_tb_in (List.mem_of_getElem? (i := 462) (by decide +kernel)) rfl, vX5_lost.1, vX5_lost.2, by decide +kernel, (RX5, TX5, 12), rfl, rfl⟩
theorem sL_68 : x_sV "PurseOfNineBowlsLaw" 68 mX5_back 1 5 := ⟨x_tb_in (List.mem_of_getElem? (i := 466) (by decide +kernel)) rfl, vX5_back.1, vX5_back.2, by decide +kernel, (RX5, TX5, 12), rfl, rfl⟩
theorem sL_72 : x_sV "PurseOfNineBowlsLaw" 72 mX5_loop 2 5 := ⟨x_tb_in (List.mem_of_getElem? (i := 474) (by decide +kernel)) rfl, vX5_loop.1, vX5_loop.2, by decide +kernel, (RX5, TX5, 12), rfl, rfl⟩
theorem sL_76 : x_sV "PurseOfNineBowlsLaw" 76 mX5_toEmpty 2 5 := ⟨x_tb_in (List.mem_of_getElem? (i := 487) (by decide +kernel)) rfl, vX5_toEmpty.1, vX5_toEmpty.2, by decide +kernel, (RX5, TX5, 12), rfl, rfl⟩
theorem sL_80 : x_sV "PurseOfNineBowlsLaw" 80 mX5_price 1 5 := ⟨x_tb_in (List.mem_of_getElem? (i := 520) (by decide +kernel)) rfl, vX5_price.1, vX5_price.2, by decide +kernel, (RX5, TX5, 12), rfl, rfl⟩
theorem sL_84 : x_sV "PurseOfNineBowlsLaw" 84 mX5_sold 1 5 := ⟨x_tb_in (List.mem_of_getElem? (i := 528) (by decide +kernel)) rfl, vX5_sold.1, vX5_sold.2, by decide +kernel, (RX5, TX5, 12), rfl, rfl⟩
theorem sL_88 : x_sV "PurseOfNineBowlsLaw" 88 mX5_change 0 5 := ⟨x_tb_in (List.mem_of_getElem? (i := 532) (by decide +kernel)) rfl, vX5_change.1, vX5_change.2, by decide +kernel, (RX5, TX5, 12), rfl, rfl⟩
theorem sL_92 : x_sV "PurseOfNineBowlsLaw" 92 mX5_fair 0 5 := ⟨x_tb_in (List.mem_of_getElem? (i := 537) (by decide +kernel)) rfl, vX5_fair.1, vX5_fair.2, by decide +kernel, (RX5, TX5, 12), rfl, rfl⟩
theorem sL_96 : x_sV "PurseOfNineBowlsLaw" 96 mX5_sounds 1 5 := ⟨x_tb_in (List.mem_of_getElem? (i := 541) (by decide +kernel)) rfl, vX5_sounds.1, vX5_sounds.2, by decide +kernel, (RX5, TX5, 12), rfl, rfl⟩
theorem sL_100 : x_sV "PurseOfNineBowlsLaw" 100 mX5_next 1 5 := ⟨x_tb_in (List.mem_of_getElem? (i := 569) (by decide +kernel)) rfl, vX5_next.1, vX5_next.2, by decide +kernel, (RX5, TX5, 12), rfl, rfl⟩
theorem sL_104 : x_sV "PurseOfNineBowlsLaw" 104 mX5_played 1 5 := ⟨x_tb_in (List.mem_of_getElem? (i := 581) (by decide +kernel)) rfl, vX5_played.1, vX5_played.2, by decide +kernel, (RX5, TX5, 12), rfl, rfl⟩
theorem sL_108 : x_sV "PurseOfNineBowlsLaw" 108 mX5_row 1 5 := ⟨x_tb_in (List.mem_of_getElem? (i := 593) (by decide +kernel)) rfl, vX5_row.1, vX5_row.2, by decide +kernel, (RX5, TX5, 12), rfl, rfl⟩
theorem sL_112 : x_sV "PurseOfNineBowlsLaw" 112 mX5_judge 0 5 := ⟨x_tb_in (List.mem_of_getElem? (i := 597) (by decide +kernel)) rfl, vX5_judge.1, vX5_judge.2, by decide +kernel, (RX5, TX5, 12), rfl, rfl⟩
theorem sL_116 : x_sV "PurseOfNineBowlsLaw" 116 mX5_lots 2 5 := ⟨x_tb_in (List.mem_of_getElem? (i := 601) (by decide +kernel)) rfl, vX5_lots.1, vX5_lots.2, by decide +kernel, (RX5, TX5, 12), rfl, rfl⟩
theorem sL_120 : x_sV "PurseOfNineBowlsLaw" 120 mX5_image 0 5 := ⟨x_tb_in (List.mem_of_getElem? (i := 612) (by decide +kernel)) rfl, vX5_image.1, vX5_image.2, by decide +kernel, (RX5, TX5, 12), rfl, rfl⟩
theorem sL_124 : x_sV "PurseOfNineBowlsLaw" 124 mX5_on 0 5 := ⟨x_tb_in (List.mem_of_getElem? (i := 616) (by decide +kernel)) rfl, vX5_on.1, vX5_on.2, by decide +kernel, (RX5, TX5, 12), rfl, rfl⟩
theorem sL_128 : x_sV "PurseOfNineBowlsLaw" 128 mX5_count 1 5 := ⟨x_tb_in (List.mem_of_getElem? (i := 620) (by decide +kernel)) rfl, vX5_count.1, vX5_count.2, by decide +kernel, (RX5, TX5, 12), rfl, rfl⟩
theorem sL_12 : x_sI "PurseOfNineBowlsLaw" 12 mX6_init 0 false := ⟨fun _ => x_tb_in (List.mem_of_getElem? (i := 626) (by decide +kernel)) rfl, fun h => (by cases h), vX6_init, rfl, rfl, by decide +kernel⟩
theorem sL_17 : x_sV "PurseOfNineBowlsLaw" 17 mX6_letter 1 6 := ⟨x_tb_in (List.mem_of_getElem? (i := 726) (by decide +kernel)) rfl, vX6_letter.1, vX6_letter.2, by decide +kernel, (RX6, TX6, 32), rfl, rfl⟩
theorem sL_22 : x_sV "PurseOfNineBowlsLaw" 22 mX6_game 0 6 := ⟨x_tb_in (List.mem_of_getElem? (i := 734) (by decide +kernel)) rfl, vX6_game.1, vX6_game.2, by decide +kernel, (RX6, TX6, 32), rfl, rfl⟩
theorem sL_27 : x_sV "PurseOfNineBowlsLaw" 27 mX6_bowl 2 6 := ⟨x_tb_in (List.mem_of_getElem? (i := 815) (by decide +kernel)) rfl, vX6_bowl.1, vX6_bowl.2, by decide +kernel, (RX6, TX6, 32), rfl, rfl⟩
theorem sL_31 : x_sV "PurseOfNineBowlsLaw" 31 mX6_put 2 6 := ⟨x_tb_in (List.mem_of_getElem? (i := 820) (by decide +kernel)) rfl, vX6_put.1, vX6_put.2, by decide +kernel, (RX6, TX6, 32), rfl, rfl⟩
theorem sL_35 : x_sV "PurseOfNineBowlsLaw" 35 mX6_set 2 6 := ⟨x_tb_in (List.mem_of_getElem? (i := 824) (by decide +kernel)) rfl, vX6_set.1, vX6_set.2, by decide +kernel, (RX6, TX6, 32), rfl, rfl⟩
theorem sL_39 : x_sV "PurseOfNineBowlsLaw" 39 mX6_move 1 6 := ⟨x_tb_in (List.mem_of_getElem? (i := 829) (by decide +kernel)) rfl, vX6_move.1, vX6_move.2, by decide +kernel, (RX6, TX6, 32), rfl, rfl⟩
theorem sL_43 : x_sV "PurseOfNineBowlsLaw" 43 mX6_by 2 6 := ⟨x_tb_in (List.mem_of_getElem? (i := 833) (by decide +kernel)) rfl, vX6_by.1, vX6_by.2, by decide +kernel, (RX6, TX6, 32), rfl, rfl⟩
theorem sL_47 : x_sV "PurseOfNineBowlsLaw" 47 mX6_behind 2 6 := ⟨x_tb_in (List.mem_of_getElem? (i := 842) (by decide +kernel)) rfl, vX6_behind.1, vX6_behind.2, by decide +kernel, (RX6, TX6, 32), rfl, rfl⟩
theorem sL_51 : x_sV "PurseOfNineBowlsLaw" 51 mX6_empties 1 6 := ⟨x_tb_in (List.mem_of_getElem? (i := 846) (by decide +kernel)) rfl, vX6_empties.1, vX6_empties.2, by decide +kernel, (RX6, TX6, 32), rfl, rfl⟩
theorem sL_55 : x_sV "PurseOfNineBowlsLaw" 55 mX6_longest 0 6 := ⟨x_tb_in (List.mem_of_getElem? (i := 850) (by decide +kernel)) rfl, vX6_longest.1, vX6_longest.2, by decide +kernel, (RX6, TX6, 32), rfl, rfl⟩
theorem sL_59 : x_sV "PurseOfNineBowlsLaw" 59 mX6_best 1 6 := ⟨x_tb_in (List.mem_of_getElem? (i := 854) (by decide +kernel)) rfl, vX6_best.1, vX6_best.2, by decide +kernel, (RX6, TX6, 32), rfl, rfl⟩
theorem sL_63 : x_sV "PurseOfNineBowlsLaw" 63 mX6_worth 1 6 := ⟨x_tb_in (List.mem_of_getElem? (i := 862) (by decide +kernel)) rfl, vX6_worth.1, vX6_worth.2, by decide +kernel, (RX6, TX6, 32), rfl, rfl⟩
theorem sL_67 : x_sV "PurseOfNineBowlsLaw" 67 mX6_lost 0 6 := ⟨x_tb_in (List.mem_of_getElem? (i := 875) (by decide +kernel)) rfl, vX6_lost.1, vX6_lost.2, by decide +kernel, (RX6, TX6, 32), rfl, rfl⟩
theorem sL_71 : x_sV "PurseOfNineBowlsLaw" 71 mX6_back 1 6 := ⟨x_tb_in (List.mem_of_getElem? (i := 879) (by decide +kernel)) rfl, vX6_back.1, vX6_back.2, by decide +kernel, (RX6, TX6, 32), rfl, rfl⟩
theorem sL_75 : x_sV "PurseOfNineBowlsLaw" 75 mX6_loop 2 6 := ⟨x_tb_in (List.mem_of_getElem? (i := 895) (by decide +kernel)) rfl, vX6_loop.1, vX6_loop.2, by decide +kernel, (RX6, TX6, 32), rfl, rfl⟩
theorem sL_79 : x_sV "PurseOfNineBowlsLaw" 79 mX6_toEmpty 2 6 := ⟨x_tb_in (List.mem_of_getElem? (i := 899) (by decide +kernel)) rfl, vX6_toEmpty.1, vX6_toEmpty.2, by decide +kernel, (RX6, TX6, 32), rfl, rfl⟩
theorem sL_83 : x_sV "PurseOfNineBowlsLaw" 83 mX6_price 1 6 := ⟨x_tb_in (List.mem_of_getElem? (i := 907) (by decide +kernel)) rfl, vX6_price.1, vX6_price.2, by decide +kernel, (RX6, TX6, 32), rfl, rfl⟩
theorem sL_87 : x_sV "PurseOfNineBowlsLaw" 87 mX6_sold 1 6 := ⟨x_tb_in (List.mem_of_getElem? (i := 915) (by decide +kernel)) rfl, vX6_sold.1, vX6_sold.2, by decide +kernel, (RX6, TX6, 32), rfl, rfl⟩
theorem sL_91 : x_sV "PurseOfNineBowlsLaw" 91 mX6_change 0 6 := ⟨x_tb_in (List.mem_of_getElem? (i := 919) (by decide +kernel)) rfl, vX6_change.1, vX6_change.2, by decide +kernel, (RX6, TX6, 32), rfl, rfl⟩
theorem sL_95 : x_sV "PurseOfNineBowlsLaw" 95 mX6_fair 0 6 := ⟨x_tb_in (List.mem_of_getElem? (i := 923) (by decide +kernel)) rfl, vX6_fair.1, vX6_fair.2, by decide +kernel, (RX6, TX6, 32), rfl, rfl⟩
theorem sL_99 : x_sV "PurseOfNineBowlsLaw" 99 mX6_sounds 1 6 := ⟨x_tb_in (List.mem_of_getElem? (i := 927) (by decide +kernel)) rfl, vX6_sounds.1, vX6_sounds.2, by decide +kernel, (RX6, TX6, 32), rfl, rfl⟩
theorem sL_103 : x_sV "PurseOfNineBowlsLaw" 103 mX6_next 1 6 := ⟨x_tb_in (List.mem_of_getElem? (i := 940) (by decide +kernel)) rfl, vX6_next.1, vX6_next.2, by decide +kernel, (RX6, TX6, 32), rfl, rfl⟩
theorem sL_111 : x_sV "PurseOfNineBowlsLaw" 111 mX6_row 1 6 := ⟨x_tb_in (List.mem_of_getElem? (i := 944) (by decide +kernel)) rfl, vX6_row.1, vX6_row.2, by decide +kernel, (RX6, TX6, 32), rfl, rfl⟩
theorem sL_107 : x_sV "PurseOfNineBowlsLaw" 107 mX6_played 1 6 := ⟨x_tb_in (List.mem_of_getElem? (i := 948) (by decide +kernel)) rfl, vX6_played.1, vX6_played.2, by decide +kernel, (RX6, TX6, 32), rfl, rfl⟩
theorem sL_115 : x_sV "PurseOfNineBowlsLaw" 115 mX6_judge 0 6 := ⟨x_tb_in (List.mem_of_getElem? (i := 956) (by decide +kernel)) rfl, vX6_judge.1, vX6_judge.2, by decide +kernel, (RX6, TX6, 32), rfl, rfl⟩
theorem sL_119 : x_sV "PurseOfNineBowlsLaw" 119 mX6_lots 2 6 := ⟨x_tb_in (List.mem_of_getElem? (i := 960) (by decide +kernel)) rfl, vX6_lots.1, vX6_lots.2, by decide +kernel, (RX6, TX6, 32), rfl, rfl⟩
theorem sL_123 : x_sV "PurseOfNineBowlsLaw" 123 mX6_image 0 6 := ⟨x_tb_in (List.mem_of_getElem? (i := 967) (by decide +kernel)) rfl, vX6_image.1, vX6_image.2, by decide +kernel, (RX6, TX6, 32), rfl, rfl⟩
theorem sL_127 : x_sV "PurseOfNineBowlsLaw" 127 mX6_on 0 6 := ⟨x_tb_in (List.mem_of_getElem? (i := 971) (by decide +kernel)) rfl, vX6_on.1, vX6_on.2, by decide +kernel, (RX6, TX6, 32), rfl, rfl⟩
theorem sL_131 : x_sV "PurseOfNineBowlsLaw" 131 mX6_count 1 6 := ⟨x_tb_in (List.mem_of_getElem? (i := 975) (by decide +kernel)) rfl, vX6_count.1, vX6_count.2, by decide +kernel, (RX6, TX6, 32), rfl, rfl⟩
end
section
section STEPS
variable {E : x_E} {R : Room} {me : x_M} {QQ : List Frame → Array Value → State → State → Prop} {pc : Nat} {lv : x_L} {st : List Value} {z : Nat} {f : x_H} {cl sl : Nat}
theorem x_iconst {pc' : Nat} {n : Int} {v : Int32} (hc : x_at me pc = some (.iconst n, 1)) (hp : pc + 1 = pc') (hv : Int32.ofInt n = v) (k : X E R me QQ pc' lv (.int v :: st) z f cl sl) : X E R me QQ pc lv st z f cl sl := by
  subst hp
  intro p e s m args below meth c H locs ls cx hz hP hS hl
  exact lv_iconst cx.1 cx.2.1 (x_dec_at cx.2.2.2.2.2.2.2.2.2.2.1 hc) hv (k p e s m args below meth c H locs ls cx hz hP hS hl)
theorem x_bipush {pc' : Nat} {n : Int} {v : Int32} (hc : x_at me pc = some (.bipush n, 2)) (hp : pc + 2 = pc') (hv : (Int8.ofInt n).toInt32 = v) (k : X E R me QQ pc' lv (.int v :: st) z f cl sl) : X E R me QQ pc lv st z f cl sl := by
  subst hp
  intro p e s m args below meth c H locs ls cx hz hP hS hl
  exact lv_bipush cx.1 cx.2.1 (x_dec_at cx.2.2.2.2.2.2.2.2.2.2.1 hc) hv (k p e s m args below meth c H locs ls cx hz hP hS hl)
theorem x_sipush {pc' : Nat} {n : Int} {v : Int32} (hc : x_at me pc = some (.sipush n, 3)) (hp : pc + 3 = pc') (hv : (Int16.ofInt n).toInt32 = v) (k : X E R me QQ pc' lv (.int v :: st) z f cl sl) : X E R me QQ pc lv st z f cl sl := by
  subst hp
  intro p e s m args below meth c H locs ls cx hz hP hS hl
  exact lv_sipush cx.1 cx.2.1 (x_dec_at cx.2.2.2.2.2.2.2.2.2.2.1 hc) hv (k p e s m args below meth c H locs ls cx hz hP hS hl)
theorem x_lconst {pc' : Nat} {n : Fin 2} {v : Int64} (hc : x_at me pc = some (.lconst n, 1)) (hp : pc + 1 = pc') (hv : Int64.ofNat (n : Nat) = v) (k : X E R me QQ pc' lv (.long v :: st) z f cl sl) : X E R me QQ pc lv st z f cl sl := by
  subst hp
  intro p e s m args below meth c H locs ls cx hz hP hS hl
  exact lv_lconst cx.1 cx.2.1 (x_dec_at cx.2.2.2.2.2.2.2.2.2.2.1 hc) hv (k p e s m args below meth c H locs ls cx hz hP hS hl)
theorem x_iadd {pc' : Nat} {x y : Int32} (hc : x_at me pc = some (.iadd, 1)) (hp : pc + 1 = pc')  (k : X E R me QQ pc' lv (.int (x + y) :: st) z f cl sl) : X E R me QQ pc lv (.int y :: .int x :: st) z f cl sl := by
  subst hp
  intro p e s m args below meth c H locs ls cx hz hP hS hl
  exact lv_iadd cx.1 cx.2.1 (x_dec_at cx.2.2.2.2.2.2.2.2.2.2.1 hc)  (k p e s m args below meth c H locs ls cx hz hP hS hl)
theorem x_isub {pc' : Nat} {x y : Int32} (hc : x_at me pc = some (.isub, 1)) (hp : pc + 1 = pc')  (k : X E R me QQ pc' lv (.int (x - y) :: st) z f cl sl) : X E R me QQ pc lv (.int y :: .int x :: st) z f cl sl := by
  subst hp
  intro p e s m args below meth c H locs ls cx hz hP hS hl
  exact lv_isub cx.1 cx.2.1 (x_dec_at cx.2.2.2.2.2.2.2.2.2.2.1 hc)  (k p e s m args below meth c H locs ls cx hz hP hS hl)
theorem x_imul {pc' : Nat} {x y : Int32} (hc : x_at me pc = some (.imul, 1)) (hp : pc + 1 = pc')  (k : X E R me QQ pc' lv (.int (x * y) :: st) z f cl sl) : X E R me QQ pc lv (.int y :: .int x :: st) z f cl sl := by
  subst hp
  intro p e s m args below meth c H locs ls cx hz hP hS hl
  exact lv_imul cx.1 cx.2.1 (x_dec_at cx.2.2.2.2.2.2.2.2.2.2.1 hc)  (k p e s m args below meth c H locs ls cx hz hP hS hl)
theorem x_iand {pc' : Nat} {x y : Int32} (hc : x_at me pc = some (.iand, 1)) (hp : pc + 1 = pc')  (k : X E R me QQ pc' lv (.int (x &&& y) :: st) z f cl sl) : X E R me QQ pc lv (.int y :: .int x :: st) z f cl sl := by
  subst hp
  intro p e s m args below meth c H locs ls cx hz hP hS hl
  exact lv_iand cx.1 cx.2.1 (x_dec_at cx.2.2.2.2.2.2.2.2.2.2.1 hc)  (k p e s m args below meth c H locs ls cx hz hP hS hl)
theorem x_ior {pc' : Nat} {x y : Int32} (hc : x_at me pc = some (.ior, 1)) (hp : pc + 1 = pc')  (k : X E R me QQ pc' lv (.int (x ||| y) :: st) z f cl sl) : X E R me QQ pc lv (.int y :: .int x :: st) z f cl sl := by
  subst hp
  intro p e s m args below meth c H locs ls cx hz hP hS hl
  exact lv_ior cx.1 cx.2.1 (x_dec_at cx.2.2.2.2.2.2.2.2.2.2.1 hc)  (k p e s m args below meth c H locs ls cx hz hP hS hl)
theorem x_ishl {pc' : Nat} {x y : Int32} (hc : x_at me pc = some (.ishl, 1)) (hp : pc + 1 = pc')  (k : X E R me QQ pc' lv (.int (x <<< (y &&& 31)) :: st) z f cl sl) : X E R me QQ pc lv (.int y :: .int x :: st) z f cl sl := by
  subst hp
  intro p e s m args below meth c H locs ls cx hz hP hS hl
  exact lv_ishl cx.1 cx.2.1 (x_dec_at cx.2.2.2.2.2.2.2.2.2.2.1 hc)  (k p e s m args below meth c H locs ls cx hz hP hS hl)
theorem x_ishr {pc' : Nat} {x y : Int32} (hc : x_at me pc = some (.ishr, 1)) (hp : pc + 1 = pc')  (k : X E R me QQ pc' lv (.int (x >>> (y &&& 31)) :: st) z f cl sl) : X E R me QQ pc lv (.int y :: .int x :: st) z f cl sl := by
  subst hp
  intro p e s m args below meth c H locs ls cx hz hP hS hl
  exact lv_ishr cx.1 cx.2.1 (x_dec_at cx.2.2.2.2.2.2.2.2.2.2.1 hc)  (k p e s m args below meth c H locs ls cx hz hP hS hl)
theorem x_idiv {pc' : Nat} {x y : Int32} (hc : x_at me pc = some (.idiv, 1)) (hp : pc + 1 = pc') (hne : ¬ y = 0) (k : X E R me QQ pc' lv (.int (x / y) :: st) z f cl sl) : X E R me QQ pc lv (.int y :: .int x :: st) z f cl sl := by
  subst hp
  intro p e s m args below meth c H locs ls cx hz hP hS hl
  exact lv_idiv cx.1 cx.2.1 (x_dec_at cx.2.2.2.2.2.2.2.2.2.2.1 hc) hne (k p e s m args below meth c H locs ls cx hz hP hS hl)
theorem x_irem {pc' : Nat} {x y : Int32} (hc : x_at me pc = some (.irem, 1)) (hp : pc + 1 = pc') (hne : ¬ y = 0) (k : X E R me QQ pc' lv (.int (x - x / y * y) :: st) z f cl sl) : X E R me QQ pc lv (.int y :: .int x :: st) z f cl sl := by
  subst hp
  intro p e s m args below meth c H locs ls cx hz hP hS hl
  exact lv_irem cx.1 cx.2.1 (x_dec_at cx.2.2.2.2.2.2.2.2.2.2.1 hc) hne (k p e s m args below meth c H locs ls cx hz hP hS hl)
theorem x_ineg {pc' : Nat} {x : Int32} (hc : x_at me pc = some (.ineg, 1)) (hp : pc + 1 = pc')  (k : X E R me QQ pc' lv (.int (-x) :: st) z f cl sl) : X E R me QQ pc lv (.int x :: st) z f cl sl := by
  subst hp
  intro p e s m args below meth c H locs ls cx hz hP hS hl
  exact lv_ineg cx.1 cx.2.1 (x_dec_at cx.2.2.2.2.2.2.2.2.2.2.1 hc)  (k p e s m args below meth c H locs ls cx hz hP hS hl)
theorem x_ladd {pc' : Nat} {x y : Int64} (hc : x_at me pc = some (.ladd, 1)) (hp : pc + 1 = pc')  (k : X E R me QQ pc' lv (.long (x + y) :: st) z f cl sl) : X E R me QQ pc lv (.long y :: .long x :: st) z f cl sl := by
  subst hp
  intro p e s m args below meth c H locs ls cx hz hP hS hl
  exact lv_ladd cx.1 cx.2.1 (x_dec_at cx.2.2.2.2.2.2.2.2.2.2.1 hc)  (k p e s m args below meth c H locs ls cx hz hP hS hl)
theorem x_lsub {pc' : Nat} {x y : Int64} (hc : x_at me pc = some (.lsub, 1)) (hp : pc + 1 = pc')  (k : X E R me QQ pc' lv (.long (x - y) :: st) z f cl sl) : X E R me QQ pc lv (.long y :: .long x :: st) z f cl sl := by
  subst hp
  intro p e s m args below meth c H locs ls cx hz hP hS hl
  exact lv_lsub cx.1 cx.2.1 (x_dec_at cx.2.2.2.2.2.2.2.2.2.2.1 hc)  (k p e s m args below meth c H locs ls cx hz hP hS hl)
theorem x_lmul {pc' : Nat} {x y : Int64} (hc : x_at me pc = some (.lmul, 1)) (hp : pc + 1 = pc')  (k : X E R me QQ pc' lv (.long (x * y) :: st) z f cl sl) : X E R me QQ pc lv (.long y :: .long x :: st) z f cl sl := by
  subst hp
  intro p e s m args below meth c H locs ls cx hz hP hS hl
  exact lv_lmul cx.1 cx.2.1 (x_dec_at cx.2.2.2.2.2.2.2.2.2.2.1 hc)  (k p e s m args below meth c H locs ls cx hz hP hS hl)
theorem x_land {pc' : Nat} {x y : Int64} (hc : x_at me pc = some (.land, 1)) (hp : pc + 1 = pc')  (k : X E R me QQ pc' lv (.long (x &&& y) :: st) z f cl sl) : X E R me QQ pc lv (.long y :: .long x :: st) z f cl sl := by
  subst hp
  intro p e s m args below meth c H locs ls cx hz hP hS hl
  exact lv_land cx.1 cx.2.1 (x_dec_at cx.2.2.2.2.2.2.2.2.2.2.1 hc)  (k p e s m args below meth c H locs ls cx hz hP hS hl)
theorem x_lor {pc' : Nat} {x y : Int64} (hc : x_at me pc = some (.lor, 1)) (hp : pc + 1 = pc')  (k : X E R me QQ pc' lv (.long (x ||| y) :: st) z f cl sl) : X E R me QQ pc lv (.long y :: .long x :: st) z f cl sl := by
  subst hp
  intro p e s m args below meth c H locs ls cx hz hP hS hl
  exact lv_lor cx.1 cx.2.1 (x_dec_at cx.2.2.2.2.2.2.2.2.2.2.1 hc)  (k p e s m args below meth c H locs ls cx hz hP hS hl)
theorem x_lshl {pc' : Nat} {x : Int64} {y : Int32} (hc : x_at me pc = some (.lshl, 1)) (hp : pc + 1 = pc')  (k : X E R me QQ pc' lv (.long (x <<< (y.toInt64 &&& 63)) :: st) z f cl sl) : X E R me QQ pc lv (.int y :: .long x :: st) z f cl sl := by
  subst hp
  intro p e s m args below meth c H locs ls cx hz hP hS hl
  exact lv_lshl cx.1 cx.2.1 (x_dec_at cx.2.2.2.2.2.2.2.2.2.2.1 hc) rfl (k p e s m args below meth c H locs ls cx hz hP hS hl)
theorem x_lushr {pc' : Nat} {x : Int64} {y : Int32} (hc : x_at me pc = some (.lushr, 1)) (hp : pc + 1 = pc')  (k : X E R me QQ pc' lv (.long (x.toUInt64 >>> (y.toInt64.toUInt64 &&& Int64.toUInt64 63)).toInt64 :: st) z f cl sl) : X E R me QQ pc lv (.int y :: .long x :: st) z f cl sl := by
  subst hp
  intro p e s m args below meth c H locs ls cx hz hP hS hl
  exact lv_lushr cx.1 cx.2.1 (x_dec_at cx.2.2.2.2.2.2.2.2.2.2.1 hc) rfl (k p e s m args below meth c H locs ls cx hz hP hS hl)
theorem x_i2l {pc' : Nat} {x : Int32} (hc : x_at me pc = some (.i2l, 1)) (hp : pc + 1 = pc')  (k : X E R me QQ pc' lv (.long x.toInt64 :: st) z f cl sl) : X E R me QQ pc lv (.int x :: st) z f cl sl := by
  subst hp
  intro p e s m args below meth c H locs ls cx hz hP hS hl
  exact lv_i2l cx.1 cx.2.1 (x_dec_at cx.2.2.2.2.2.2.2.2.2.2.1 hc) rfl (k p e s m args below meth c H locs ls cx hz hP hS hl)
theorem x_l2i {pc' : Nat} {x : Int64} (hc : x_at me pc = some (.l2i, 1)) (hp : pc + 1 = pc')  (k : X E R me QQ pc' lv (.int x.toInt32 :: st) z f cl sl) : X E R me QQ pc lv (.long x :: st) z f cl sl := by
  subst hp
  intro p e s m args below meth c H locs ls cx hz hP hS hl
  exact lv_l2i cx.1 cx.2.1 (x_dec_at cx.2.2.2.2.2.2.2.2.2.2.1 hc) rfl (k p e s m args below meth c H locs ls cx hz hP hS hl)
theorem x_lcmp {pc' : Nat} {x y : Int64} (hc : x_at me pc = some (.lcmp, 1)) (hp : pc + 1 = pc') (k : X E R me QQ pc' lv (.int (lg_cmp x y) :: st) z f cl sl) : X E R me QQ pc lv (.long y :: .long x :: st) z f cl sl := by
  subst hp
  intro p e s m args below meth c H locs ls cx hz hP hS hl
  exact W.lcmp cx.1 cx.2.1 (x_dec_at cx.2.2.2.2.2.2.2.2.2.2.1 hc) (k p e s m args below meth c H locs ls cx hz hP hS hl)
theorem x_dup {pc' : Nat} {v : Value} (hc : x_at me pc = some (.dup, 1)) (hp : pc + 1 = pc') (hv : v.category = 1) (k : X E R me QQ pc' lv (v :: v :: st) z f cl sl) : X E R me QQ pc lv (v :: st) z f cl sl := by
  subst hp
  intro p e s m args below meth c H locs ls cx hz hP hS hl
  exact lv_dup cx.1 cx.2.1 (x_dec_at cx.2.2.2.2.2.2.2.2.2.2.1 hc) (by rw [x_sh_cat]; exact hv) (k p e s m args below meth c H locs ls cx hz hP hS hl)
theorem x_pop {pc' : Nat} {v : Value} (hc : x_at me pc = some (.pop, 1)) (hp : pc + 1 = pc') (hv : v.category = 1) (k : X E R me QQ pc' lv st z f cl sl) : X E R me QQ pc lv (v :: st) z f cl sl := by
  subst hp
  intro p e s m args below meth c H locs ls cx hz hP hS hl
  exact lv_pop cx.1 cx.2.1 (x_dec_at cx.2.2.2.2.2.2.2.2.2.2.1 hc) (by rw [x_sh_cat]; exact hv) (k p e s m args below meth c H locs ls cx hz hP hS hl)
theorem x_dup2 {pc' : Nat} {v w : Value} (hc : x_at me pc = some (.dup2, 1)) (hp : pc + 1 = pc') (hv : v.category = 1) (hw : w.category = 1) (k : X E R me QQ pc' lv (v :: w :: v :: w :: st) z f cl sl) : X E R me QQ pc lv (v :: w :: st) z f cl sl := by
  subst hp
  intro p e s m args below meth c H locs ls cx hz hP hS hl
  exact lv_dup2_11 cx.1 cx.2.1 (x_dec_at cx.2.2.2.2.2.2.2.2.2.2.1 hc) (by rw [x_sh_cat]; exact hv) (by rw [x_sh_cat]; exact hw) (k p e s m args below meth c H locs ls cx hz hP hS hl)
theorem x_dup2l {pc' : Nat} {v : Value} (hc : x_at me pc = some (.dup2, 1)) (hp : pc + 1 = pc') (hv : v.category = 2) (k : X E R me QQ pc' lv (v :: v :: st) z f cl sl) : X E R me QQ pc lv (v :: st) z f cl sl := by
  subst hp
  intro p e s m args below meth c H locs ls cx hz hP hS hl
  exact lv_dup2_2 cx.1 cx.2.1 (x_dec_at cx.2.2.2.2.2.2.2.2.2.2.1 hc) (by rw [x_sh_cat]; exact hv) (k p e s m args below meth c H locs ls cx hz hP hS hl)
theorem x_dup_x1 {pc' : Nat} {v w : Value} (hc : x_at me pc = some (.dup_x1, 1)) (hp : pc + 1 = pc') (hv : v.category = 1) (hw : w.category = 1) (k : X E R me QQ pc' lv (v :: w :: v :: st) z f cl sl) : X E R me QQ pc lv (v :: w :: st) z f cl sl := by
  subst hp
  intro p e s m args below meth c H locs ls cx hz hP hS hl
  exact lv_dup_x1 cx.1 cx.2.1 (x_dec_at cx.2.2.2.2.2.2.2.2.2.2.1 hc) (by rw [x_sh_cat]; exact hv) (by rw [x_sh_cat]; exact hw) (k p e s m args below meth c H locs ls cx hz hP hS hl)
theorem x_goto {off : Int} {tgt : Nat} (hc : x_at me pc = some (.goto off, 3)) (ht : (pc : Int) + off = (tgt : Int)) (k : X E R me QQ tgt lv st z f cl sl) : X E R me QQ pc lv st z f cl sl := by
  intro p e s m args below meth c H locs ls cx hz hP hS hl
  exact lv_goto cx.1 cx.2.1 (x_dec_at cx.2.2.2.2.2.2.2.2.2.2.1 hc) ht (k p e s m args below meth c H locs ls cx hz hP hS hl)
theorem x_lv_at {E : x_E} {lv : x_L} {ls : Array Slot} {nL i : Nat} {v : Value} (hl : lv_has ls nL (x_lv E lv)) (h : x_lk lv i = some v) : ls[i]? = some (.val (x_sh E v)) := by
  have h1 := x_lk_mem _ _ _ h
  have h2 : (i, x_sh E v) ∈ x_lv E lv := List.mem_map.mpr ⟨_, h1, rfl⟩
  exact hl.2.2 _ h2
theorem x_iload {pc' : Nat} {i : Nat} {x : Int32} (hc : x_at me pc = some (.iload i, 2)) (hp : pc + 2 = pc') (h : x_lk lv i = some (.int x)) (k : X E R me QQ pc' lv (.int x :: st) z f cl sl) : X E R me QQ pc lv st z f cl sl := by
  subst hp
  intro p e s m args below meth c H locs ls cx hz hP hS hl
  exact lv_iload cx.1 cx.2.1 (x_dec_at cx.2.2.2.2.2.2.2.2.2.2.1 hc) (x_lv_at hl h) (k p e s m args below meth c H locs ls cx hz hP hS hl)
theorem x_iload_n {pc' : Nat} {i : Fin 4} {x : Int32} (hc : x_at me pc = some (.iload_n i, 1)) (hp : pc + 1 = pc') (h : x_lk lv i.val = some (.int x)) (k : X E R me QQ pc' lv (.int x :: st) z f cl sl) : X E R me QQ pc lv st z f cl sl := by
  subst hp
  intro p e s m args below meth c H locs ls cx hz hP hS hl
  exact lv_iload_n cx.1 cx.2.1 (x_dec_at cx.2.2.2.2.2.2.2.2.2.2.1 hc) rfl (x_lv_at hl h) (k p e s m args below meth c H locs ls cx hz hP hS hl)
theorem x_lload {pc' : Nat} {i : Nat} {x : Int64} (hc : x_at me pc = some (.lload i, 2)) (hp : pc + 2 = pc') (h : x_lk lv i = some (.long x)) (k : X E R me QQ pc' lv (.long x :: st) z f cl sl) : X E R me QQ pc lv st z f cl sl := by
  subst hp
  intro p e s m args below meth c H locs ls cx hz hP hS hl
  exact lv_lload cx.1 cx.2.1 (x_dec_at cx.2.2.2.2.2.2.2.2.2.2.1 hc) (x_lv_at hl h) (k p e s m args below meth c H locs ls cx hz hP hS hl)
theorem x_lload_n {pc' : Nat} {i : Fin 4} {x : Int64} (hc : x_at me pc = some (.lload_n i, 1)) (hp : pc + 1 = pc') (h : x_lk lv i.val = some (.long x)) (k : X E R me QQ pc' lv (.long x :: st) z f cl sl) : X E R me QQ pc lv st z f cl sl := by
  subst hp
  intro p e s m args below meth c H locs ls cx hz hP hS hl
  exact lv_lload_n cx.1 cx.2.1 (x_dec_at cx.2.2.2.2.2.2.2.2.2.2.1 hc) rfl (x_lv_at hl h) (k p e s m args below meth c H locs ls cx hz hP hS hl)
theorem x_aload {pc' : Nat} {i x : Nat} (hc : x_at me pc = some (.aload i, 2)) (hp : pc + 2 = pc') (h : x_lk lv i = some (.ref x)) (k : X E R me QQ pc' lv (.ref x :: st) z f cl sl) : X E R me QQ pc lv st z f cl sl := by
  subst hp
  intro p e s m args below meth c H locs ls cx hz hP hS hl
  exact lv_aload cx.1 cx.2.1 (x_dec_at cx.2.2.2.2.2.2.2.2.2.2.1 hc) (x_lv_at hl h) (k p e s m args below meth c H locs ls cx hz hP hS hl)
theorem x_aload_n {pc' : Nat} {i : Fin 4} {x : Nat} (hc : x_at me pc = some (.aload_n i, 1)) (hp : pc + 1 = pc') (h : x_lk lv i.val = some (.ref x)) (k : X E R me QQ pc' lv (.ref x :: st) z f cl sl) : X E R me QQ pc lv st z f cl sl := by
  subst hp
  intro p e s m args below meth c H locs ls cx hz hP hS hl
  exact lv_aload_n cx.1 cx.2.1 (x_dec_at cx.2.2.2.2.2.2.2.2.2.2.1 hc) rfl (x_lv_at hl h) (k p e s m args below meth c H locs ls cx hz hP hS hl)
theorem x_aload_ns {pc' : Nat} {i : Fin 4} {x : Nat} (hc : x_at me pc = some (.aload_n i, 1)) (hp : pc + 1 = pc') (h : x_lk lv i.val = some (.retAddr x)) (k : X E R me QQ pc' lv (.retAddr x :: st) z f cl sl) : X E R me QQ pc lv st z f cl sl := by
  subst hp
  intro p e s m args below meth c H locs ls cx hz hP hS hl
  exact lv_aload_n cx.1 cx.2.1 (x_dec_at cx.2.2.2.2.2.2.2.2.2.2.1 hc) rfl (x_lv_at hl h) (k p e s m args below meth c H locs ls cx hz hP hS hl)
def x_ls1 (lv : x_L) (i : Nat) (v : Value) : x_L := (i, v) :: lv.filter (fun q => !(q.1 == i) && !(q.1 + 1 == i && q.2.category == 2))
def x_ls2 (lv : x_L) (i : Nat) (v : Value) : x_L := (i, v) :: lv.filter (fun q => !(q.1 == i) && (!(q.1 == i + 1) && !(q.1 + 1 == i && q.2.category == 2)))
theorem x_ls1_lv (E : x_E) (lv : x_L) (i : Nat) (v : Value) : (i, x_sh E v) :: (x_lv E lv).filter (fun q => !(q.1 == i) && !(q.1 + 1 == i && q.2.category == 2)) = x_lv E (x_ls1 lv i v) := by
  unfold x_ls1 x_lv
  rw [List.map_cons, List.filter_map]
  congr 2
  congr 1
  funext q
  simp [x_sh_cat]
theorem x_ls2_lv (E : x_E) (lv : x_L) (i : Nat) (v : Value) : (i, x_sh E v) :: (x_lv E lv).filter (fun q => !(q.1 == i) && (!(q.1 == i + 1) && !(q.1 + 1 == i && q.2.category == 2))) = x_lv E (x_ls2 lv i v) := by
  unfold x_ls2 x_lv
  rw [List.map_cons, List.filter_map]
  congr 2
  congr 1
  funext q
  simp [x_sh_cat]
theorem x_istore {pc' : Nat} {i : Nat} {x : Int32} {lv' : x_L} (hc : x_at me pc = some (.istore i, 2)) (hp : pc + 2 = pc') (hi : i < me.2.2.1) (hv : x_ls1 lv i (.int x) = lv') (k : X E R me QQ pc' lv' st z f cl sl) : X E R me QQ pc lv (.int x :: st) z f cl sl := by
  subst hp
  intro p e s m args below meth c H locs ls cx hz hP hS hl
  subst hv
  exact lv_istore cx.1 cx.2.1 (x_dec_at cx.2.2.2.2.2.2.2.2.2.2.1 hc)  hl hi (x_ls1_lv E lv i (.int x)) (fun ls' hl' => k p e s m args below meth c H locs ls' cx hz hP hS hl')
theorem x_istore_n {pc' : Nat} {i : Fin 4} {x : Int32} {lv' : x_L} (hc : x_at me pc = some (.istore_n i, 1)) (hp : pc + 1 = pc') (hi : i.val < me.2.2.1) (hv : x_ls1 lv i.val (.int x) = lv') (k : X E R me QQ pc' lv' st z f cl sl) : X E R me QQ pc lv (.int x :: st) z f cl sl := by
  subst hp
  intro p e s m args below meth c H locs ls cx hz hP hS hl
  subst hv
  exact lv_istore_n cx.1 cx.2.1 (x_dec_at cx.2.2.2.2.2.2.2.2.2.2.1 hc) rfl hl hi (x_ls1_lv E lv i.val (.int x)) (fun ls' hl' => k p e s m args below meth c H locs ls' cx hz hP hS hl')
theorem x_astore {pc' : Nat} {i : Nat} {x : Nat} {lv' : x_L} (hc : x_at me pc = some (.astore i, 2)) (hp : pc + 2 = pc') (hi : i < me.2.2.1) (hv : x_ls1 lv i (.ref x) = lv') (k : X E R me QQ pc' lv' st z f cl sl) : X E R me QQ pc lv (.ref x :: st) z f cl sl := by
  subst hp
  intro p e s m args below meth c H locs ls cx hz hP hS hl
  subst hv
  exact lv_astore cx.1 cx.2.1 (x_dec_at cx.2.2.2.2.2.2.2.2.2.2.1 hc)  hl hi (x_ls1_lv E lv i (.ref x)) (fun ls' hl' => k p e s m args below meth c H locs ls' cx hz hP hS hl')
theorem x_astore_n {pc' : Nat} {i : Fin 4} {x : Nat} {lv' : x_L} (hc : x_at me pc = some (.astore_n i, 1)) (hp : pc + 1 = pc') (hi : i.val < me.2.2.1) (hv : x_ls1 lv i.val (.ref x) = lv') (k : X E R me QQ pc' lv' st z f cl sl) : X E R me QQ pc lv (.ref x :: st) z f cl sl := by
  subst hp
  intro p e s m args below meth c H locs ls cx hz hP hS hl
  subst hv
  exact lv_astore_n cx.1 cx.2.1 (x_dec_at cx.2.2.2.2.2.2.2.2.2.2.1 hc) rfl hl hi (x_ls1_lv E lv i.val (.ref x)) (fun ls' hl' => k p e s m args below meth c H locs ls' cx hz hP hS hl')
theorem x_lstore {pc' : Nat} {i : Nat} {x : Int64} {lv' : x_L} (hc : x_at me pc = some (.lstore i, 2)) (hp : pc + 2 = pc') (hi : i + 1 < me.2.2.1) (hv : x_ls2 lv i (.long x) = lv') (k : X E R me QQ pc' lv' st z f cl sl) : X E R me QQ pc lv (.long x :: st) z f cl sl := by
  subst hp
  intro p e s m args below meth c H locs ls cx hz hP hS hl
  subst hv
  exact lv_lstore cx.1 cx.2.1 (x_dec_at cx.2.2.2.2.2.2.2.2.2.2.1 hc)  hl hi (x_ls2_lv E lv i (.long x)) (fun ls' hl' => k p e s m args below meth c H locs ls' cx hz hP hS hl')
theorem x_lstore_n {pc' : Nat} {i : Fin 4} {x : Int64} {lv' : x_L} (hc : x_at me pc = some (.lstore_n i, 1)) (hp : pc + 1 = pc') (hi : i.val + 1 < me.2.2.1) (hv : x_ls2 lv i.val (.long x) = lv') (k : X E R me QQ pc' lv' st z f cl sl) : X E R me QQ pc lv (.long x :: st) z f cl sl := by
  subst hp
  intro p e s m args below meth c H locs ls cx hz hP hS hl
  subst hv
  exact lv_lstore_n cx.1 cx.2.1 (x_dec_at cx.2.2.2.2.2.2.2.2.2.2.1 hc) rfl hl hi (x_ls2_lv E lv i.val (.long x)) (fun ls' hl' => k p e s m args below meth c H locs ls' cx hz hP hS hl')
theorem x_iinc {pc' : Nat} {i : Nat} {n : Int} {x v : Int32} {lv' : x_L} (hc : x_at me pc = some (.iinc i n, 3)) (hp : pc + 3 = pc') (hi : i < me.2.2.1) (h : x_lk lv i = some (.int x)) (he : x + Int32.ofInt n = v) (hv : x_ls1 lv i (.int v) = lv') (k : X E R me QQ pc' lv' st z f cl sl) : X E R me QQ pc lv st z f cl sl := by
  subst hp
  intro p e s m args below meth c H locs ls cx hz hP hS hl
  subst hv
  have h1 : (i, Value.int x) ∈ x_lv E lv := List.mem_map.mpr ⟨_, x_lk_mem _ _ _ h, rfl⟩
  obtain ⟨q, hq⟩ := List.getElem?_of_mem h1
  exact lv_iinc cx.1 cx.2.1 (x_dec_at cx.2.2.2.2.2.2.2.2.2.2.1 hc) hl hq he hi (x_ls1_lv E lv i (.int v)) (fun ls' hl' => k p e s m args below meth c H locs ls' cx hz hP hS hl')
/-- the top by another name -/
theorem x_eqi {x y : Int32} (e : x = y) (k : X E R me QQ pc lv (.int y :: st) z f cl sl) : X E R me QQ pc lv (.int x :: st) z f cl sl := by
  subst e
  exact k
theorem x_eql {x y : Int64} (e : x = y) (k : X E R me QQ pc lv (.long y :: st) z f cl sl) : X E R me QQ pc lv (.long x :: st) z f cl sl := by
  subst e
  exact k
theorem x_if_eq {pc' : Nat} {x : Int32} {off : Int} {tgt : Nat} (hc : x_at me pc = some (.ifCond .eq off, 3)) (hp : pc + 3 = pc') (ht : (pc : Int) + off = (tgt : Int)) (kt : x = 0 → X E R me QQ tgt lv st z f cl sl) (kf : ¬ x = 0 → X E R me QQ pc' lv st z f cl sl) : X E R me QQ pc lv (.int x :: st) z f cl sl := by
  subst hp
  intro p e s m args below meth c H locs ls cx hz hP hS hl
  exact lv_if_eq cx.1 cx.2.1 (x_dec_at cx.2.2.2.2.2.2.2.2.2.2.1 hc) ht (fun h => kt h p e s m args below meth c H locs ls cx hz hP hS hl) (fun h => kf h p e s m args below meth c H locs ls cx hz hP hS hl)
theorem x_icmp_eq {pc' : Nat} {x y : Int32} {off : Int} {tgt : Nat} (hc : x_at me pc = some (.if_icmp .eq off, 3)) (hp : pc + 3 = pc') (ht : (pc : Int) + off = (tgt : Int)) (kt : x = y → X E R me QQ tgt lv st z f cl sl) (kf : ¬ x = y → X E R me QQ pc' lv st z f cl sl) : X E R me QQ pc lv (.int y :: .int x :: st) z f cl sl := by
  subst hp
  intro p e s m args below meth c H locs ls cx hz hP hS hl
  exact lv_icmp_eq cx.1 cx.2.1 (x_dec_at cx.2.2.2.2.2.2.2.2.2.2.1 hc) ht (fun h => kt h p e s m args below meth c H locs ls cx hz hP hS hl) (fun h => kf h p e s m args below meth c H locs ls cx hz hP hS hl)
theorem x_if_ne {pc' : Nat} {x : Int32} {off : Int} {tgt : Nat} (hc : x_at me pc = some (.ifCond .ne off, 3)) (hp : pc + 3 = pc') (ht : (pc : Int) + off = (tgt : Int)) (kt : ¬ x = 0 → X E R me QQ tgt lv st z f cl sl) (kf : x = 0 → X E R me QQ pc' lv st z f cl sl) : X E R me QQ pc lv (.int x :: st) z f cl sl := by
  subst hp
  intro p e s m args below meth c H locs ls cx hz hP hS hl
  exact lv_if_ne cx.1 cx.2.1 (x_dec_at cx.2.2.2.2.2.2.2.2.2.2.1 hc) ht (fun h => kt h p e s m args below meth c H locs ls cx hz hP hS hl) (fun h => kf h p e s m args below meth c H locs ls cx hz hP hS hl)
theorem x_icmp_ne {pc' : Nat} {x y : Int32} {off : Int} {tgt : Nat} (hc : x_at me pc = some (.if_icmp .ne off, 3)) (hp : pc + 3 = pc') (ht : (pc : Int) + off = (tgt : Int)) (kt : ¬ x = y → X E R me QQ tgt lv st z f cl sl) (kf : x = y → X E R me QQ pc' lv st z f cl sl) : X E R me QQ pc lv (.int y :: .int x :: st) z f cl sl := by
  subst hp
  intro p e s m args below meth c H locs ls cx hz hP hS hl
  exact lv_icmp_ne cx.1 cx.2.1 (x_dec_at cx.2.2.2.2.2.2.2.2.2.2.1 hc) ht (fun h => kt h p e s m args below meth c H locs ls cx hz hP hS hl) (fun h => kf h p e s m args below meth c H locs ls cx hz hP hS hl)
theorem x_if_lt {pc' : Nat} {x : Int32} {off : Int} {tgt : Nat} (hc : x_at me pc = some (.ifCond .lt off, 3)) (hp : pc + 3 = pc') (ht : (pc : Int) + off = (tgt : Int)) (kt : x < 0 → X E R me QQ tgt lv st z f cl sl) (kf : ¬ x < 0 → X E R me QQ pc' lv st z f cl sl) : X E R me QQ pc lv (.int x :: st) z f cl sl := by
  subst hp
  intro p e s m args below meth c H locs ls cx hz hP hS hl
  exact lv_if_lt cx.1 cx.2.1 (x_dec_at cx.2.2.2.2.2.2.2.2.2.2.1 hc) ht (fun h => kt h p e s m args below meth c H locs ls cx hz hP hS hl) (fun h => kf h p e s m args below meth c H locs ls cx hz hP hS hl)
theorem x_icmp_lt {pc' : Nat} {x y : Int32} {off : Int} {tgt : Nat} (hc : x_at me pc = some (.if_icmp .lt off, 3)) (hp : pc + 3 = pc') (ht : (pc : Int) + off = (tgt : Int)) (kt : x < y → X E R me QQ tgt lv st z f cl sl) (kf : ¬ x < y → X E R me QQ pc' lv st z f cl sl) : X E R me QQ pc lv (.int y :: .int x :: st) z f cl sl := by
  subst hp
  intro p e s m args below meth c H locs ls cx hz hP hS hl
  exact lv_icmp_lt cx.1 cx.2.1 (x_dec_at cx.2.2.2.2.2.2.2.2.2.2.1 hc) ht (fun h => kt h p e s m args below meth c H locs ls cx hz hP hS hl) (fun h => kf h p e s m args below meth c H locs ls cx hz hP hS hl)
theorem x_if_ge {pc' : Nat} {x : Int32} {off : Int} {tgt : Nat} (hc : x_at me pc = some (.ifCond .ge off, 3)) (hp : pc + 3 = pc') (ht : (pc : Int) + off = (tgt : Int)) (kt : 0 ≤ x → X E R me QQ tgt lv st z f cl sl) (kf : ¬ 0 ≤ x → X E R me QQ pc' lv st z f cl sl) : X E R me QQ pc lv (.int x :: st) z f cl sl := by
  subst hp
  intro p e s m args below meth c H locs ls cx hz hP hS hl
  exact lv_if_ge cx.1 cx.2.1 (x_dec_at cx.2.2.2.2.2.2.2.2.2.2.1 hc) ht (fun h => kt h p e s m args below meth c H locs ls cx hz hP hS hl) (fun h => kf h p e s m args below meth c H locs ls cx hz hP hS hl)
theorem x_icmp_ge {pc' : Nat} {x y : Int32} {off : Int} {tgt : Nat} (hc : x_at me pc = some (.if_icmp .ge off, 3)) (hp : pc + 3 = pc') (ht : (pc : Int) + off = (tgt : Int)) (kt : y ≤ x → X E R me QQ tgt lv st z f cl sl) (kf : ¬ y ≤ x → X E R me QQ pc' lv st z f cl sl) : X E R me QQ pc lv (.int y :: .int x :: st) z f cl sl := by
  subst hp
  intro p e s m args below meth c H locs ls cx hz hP hS hl
  exact lv_icmp_ge cx.1 cx.2.1 (x_dec_at cx.2.2.2.2.2.2.2.2.2.2.1 hc) ht (fun h => kt h p e s m args below meth c H locs ls cx hz hP hS hl) (fun h => kf h p e s m args below meth c H locs ls cx hz hP hS hl)
theorem x_if_gt {pc' : Nat} {x : Int32} {off : Int} {tgt : Nat} (hc : x_at me pc = some (.ifCond .gt off, 3)) (hp : pc + 3 = pc') (ht : (pc : Int) + off = (tgt : Int)) (kt : 0 < x → X E R me QQ tgt lv st z f cl sl) (kf : ¬ 0 < x → X E R me QQ pc' lv st z f cl sl) : X E R me QQ pc lv (.int x :: st) z f cl sl := by
  subst hp
  intro p e s m args below meth c H locs ls cx hz hP hS hl
  exact lv_if_gt cx.1 cx.2.1 (x_dec_at cx.2.2.2.2.2.2.2.2.2.2.1 hc) ht (fun h => kt h p e s m args below meth c H locs ls cx hz hP hS hl) (fun h => kf h p e s m args below meth c H locs ls cx hz hP hS hl)
theorem x_icmp_gt {pc' : Nat} {x y : Int32} {off : Int} {tgt : Nat} (hc : x_at me pc = some (.if_icmp .gt off, 3)) (hp : pc + 3 = pc') (ht : (pc : Int) + off = (tgt : Int)) (kt : y < x → X E R me QQ tgt lv st z f cl sl) (kf : ¬ y < x → X E R me QQ pc' lv st z f cl sl) : X E R me QQ pc lv (.int y :: .int x :: st) z f cl sl := by
  subst hp
  intro p e s m args below meth c H locs ls cx hz hP hS hl
  exact lv_icmp_gt cx.1 cx.2.1 (x_dec_at cx.2.2.2.2.2.2.2.2.2.2.1 hc) ht (fun h => kt h p e s m args below meth c H locs ls cx hz hP hS hl) (fun h => kf h p e s m args below meth c H locs ls cx hz hP hS hl)
theorem x_if_le {pc' : Nat} {x : Int32} {off : Int} {tgt : Nat} (hc : x_at me pc = some (.ifCond .le off, 3)) (hp : pc + 3 = pc') (ht : (pc : Int) + off = (tgt : Int)) (kt : x ≤ 0 → X E R me QQ tgt lv st z f cl sl) (kf : ¬ x ≤ 0 → X E R me QQ pc' lv st z f cl sl) : X E R me QQ pc lv (.int x :: st) z f cl sl := by
  subst hp
  intro p e s m args below meth c H locs ls cx hz hP hS hl
  exact lv_if_le cx.1 cx.2.1 (x_dec_at cx.2.2.2.2.2.2.2.2.2.2.1 hc) ht (fun h => kt h p e s m args below meth c H locs ls cx hz hP hS hl) (fun h => kf h p e s m args below meth c H locs ls cx hz hP hS hl)
theorem x_icmp_le {pc' : Nat} {x y : Int32} {off : Int} {tgt : Nat} (hc : x_at me pc = some (.if_icmp .le off, 3)) (hp : pc + 3 = pc') (ht : (pc : Int) + off = (tgt : Int)) (kt : x ≤ y → X E R me QQ tgt lv st z f cl sl) (kf : ¬ x ≤ y → X E R me QQ pc' lv st z f cl sl) : X E R me QQ pc lv (.int y :: .int x :: st) z f cl sl := by
  subst hp
  intro p e s m args below meth c H locs ls cx hz hP hS hl
  exact lv_icmp_le cx.1 cx.2.1 (x_dec_at cx.2.2.2.2.2.2.2.2.2.2.1 hc) ht (fun h => kt h p e s m args below meth c H locs ls cx hz hP hS hl) (fun h => kf h p e s m args below meth c H locs ls cx hz hP hS hl)
theorem x_ifnonnull {x : Nat} {off : Int} {tgt : Nat} (hc : x_at me pc = some (.ifnonnull off, 3)) (ht : (pc : Int) + off = (tgt : Int)) (k : X E R me QQ tgt lv st z f cl sl) : X E R me QQ pc lv (.ref x :: st) z f cl sl := by
  intro p e s m args below meth c H locs ls cx hz hP hS hl
  exact lv_ifnonnull cx.1 cx.2.1 (x_dec_at cx.2.2.2.2.2.2.2.2.2.2.1 hc) ht (k p e s m args below meth c H locs ls cx hz hP hS hl)
theorem x_tableIn {dflt lo hi : Int} {offs : Array Int} {len : Nat} {x : Int32} {off : Int} {tgt : Nat} (hc : x_at me pc = some (.tableswitch dflt lo hi offs, len)) (h1 : ¬ x.toInt < lo) (h2 : ¬ hi < x.toInt) (ho : offs[(x.toInt - lo).toNat]? = some off) (ht : (pc : Int) + off = (tgt : Int)) (k : X E R me QQ tgt lv st z f cl sl) : X E R me QQ pc lv (.int x :: st) z f cl sl := by
  intro p e s m args below meth c H locs ls cx hz hP hS hl
  exact lv_tableIn cx.1 cx.2.1 (x_dec_at cx.2.2.2.2.2.2.2.2.2.2.1 hc) h1 h2 ho ht (k p e s m args below meth c H locs ls cx hz hP hS hl)
theorem x_tableOut {dflt lo hi : Int} {offs : Array Int} {len : Nat} {x : Int32} {tgt : Nat} (hc : x_at me pc = some (.tableswitch dflt lo hi offs, len)) (h : x.toInt < lo ∨ hi < x.toInt) (ht : (pc : Int) + dflt = (tgt : Int)) (k : X E R me QQ tgt lv st z f cl sl) : X E R me QQ pc lv (.int x :: st) z f cl sl := by
  intro p e s m args below meth c H locs ls cx hz hP hS hl
  exact lv_tableOut cx.1 cx.2.1 (x_dec_at cx.2.2.2.2.2.2.2.2.2.2.1 hc) h ht (k p e s m args below meth c H locs ls cx hz hP hS hl)
theorem x_lookup {dflt : Int} {ps : Array (Int × Int)} {len : Nat} {x : Int32} {off : Int} {tgt : Nat} (hc : x_at me pc = some (.lookupswitch dflt ps, len)) (hp : (ps.toList.zip (ps.toList.drop 1)).all (fun (a, next) => a.1 < next.1) = true) (ho : Op.lookupswitch.offset ps.toList dflt x.toInt = off) (ht : (pc : Int) + off = (tgt : Int)) (k : X E R me QQ tgt lv st z f cl sl) : X E R me QQ pc lv (.int x :: st) z f cl sl := by
  intro p e s m args below meth c H locs ls cx hz hP hS hl
  exact lv_lookup cx.1 cx.2.1 (x_dec_at cx.2.2.2.2.2.2.2.2.2.2.1 hc) hp ho ht (k p e s m args below meth c H locs ls cx hz hP hS hl)
theorem x_ldc {pc' : Nat} {i : Nat} {v : Int32} (hc : x_at me pc = some (.ldc i, 2)) (hp : pc + 2 = pc') (h : x_lk me.2.2.2.2.2.2.2.1 i = some v) (k : X E R me QQ pc' lv (.int v :: st) z f cl sl) : X E R me QQ pc lv st z f cl sl := by
  subst hp
  intro p e s m args below meth c H locs ls cx hz hP hS hl
  obtain ⟨hx, hb, hr, hml, hown, hts, hlk, hK, hbs, hin, hd, hI⟩ := id cx
  exact lv_ldc hx hb hown (hts _ (hI.2.1 _ (x_lk_mem _ _ _ h))) (x_dec_at hd hc) (k p e s m args below meth c H locs ls cx hz hP hS hl)
theorem x_ldc2 {pc' : Nat} {i : Nat} {v : Int64} (hc : x_at me pc = some (.ldc2_w i, 3)) (hp : pc + 3 = pc') (h : x_lk me.2.2.2.2.2.2.2.2.1 i = some v) (k : X E R me QQ pc' lv (.long v :: st) z f cl sl) : X E R me QQ pc lv st z f cl sl := by
  subst hp
  intro p e s m args below meth c H locs ls cx hz hP hS hl
  obtain ⟨hx, hb, hr, hml, hown, hts, hlk, hK, hbs, hin, hd, hI⟩ := id cx
  exact lv_ldc2 hx hb hown (hts _ (hI.2.2.1 _ (x_lk_mem _ _ _ h))) (x_dec_at hd hc) (k p e s m args below meth c H locs ls cx hz hP hS hl)
/-- an object, an array, in the abstract heap -/
def x_o (z : Nat) (f : x_H) (r ci : Nat) (fs : List Value) : Prop := r < z ∧ f r = .inr (ci, fs)
def x_a (z : Nat) (f : x_H) (r : Nat) (a : vp_A) : Prop := r < z ∧ f r = .inl a
theorem x_o_at {E : x_E} {z : Nat} {f : x_H} {r ci : Nat} {fs : List Value} (h : x_o z f r ci fs) : (x_w E z f)[r]? = some (E.2.2.2.1 + r, .inr (ci, fs.map (x_sh E))) := by
  rw [x_w_at h.1, h.2]
  rfl
theorem x_a_at {E : x_E} {z : Nat} {f : x_H} {r : Nat} {a : vp_A} (h : x_a z f r a) : (x_w E z f)[r]? = some (E.2.2.2.1 + r, .inl (E.2.2.1 (x_kd a), x_shA E a)) := by
  rw [x_w_at h.1, h.2]
  rfl
theorem x_get {pc' : Nat} {i r ci k0 : Nat} {nest : Bool} {fs : List Value} {v : Value} (hc : x_at me pc = some (.getfield i, 3)) (hp : pc + 3 = pc') (hL : x_lk me.2.2.2.2.2.2.1 i = some (ci, k0, nest)) (ho : x_o z f r ci fs) (hv : fs[k0]? = some v) (k : X E R me QQ pc' lv (v :: st) z f cl sl) : X E R me QQ pc lv (.ref r :: st) z f cl sl := by
  subst hp
  intro p e s m args below meth c H locs ls cx hz hP hS hl
  obtain ⟨hx, hb, hr, hml, hown, hts, hlk, hK, hbs, hin, hd, hI⟩ := id cx
  obtain ⟨q, hq, hk, h1, h2⟩ := hI.1 _ (x_lk_mem _ _ _ hL)
  dsimp only at hq hk h1 h2
  cases nest with
  | false => exact va_get hx hb hts (x_ws_in _ _ hq) hown hK.1 hP r (x_o_at ho) hq k0 hk (hts _ (h1 rfl)) (fun _ h => h) (v := x_sh E v) (by rw [List.getElem?_map, hv]; rfl) (x_dec_at hd hc) (k p e s m args below meth c H locs ls cx hz hP hS hl)
  | true => exact va_getN hx hb hts (x_ws_in _ _ hq) hown hK.1 hP r (x_o_at ho) hq k0 hk (va_Nw.use rfl (hK.2.1 _ (h2 rfl))) (fun _ h => h) (v := x_sh E v) (by rw [List.getElem?_map, hv]; rfl) (x_dec_at hd hc) (k p e s m args below meth c H locs ls cx hz hP hS hl)
theorem x_put {pc' : Nat} {i r ci k0 : Nat} {nest : Bool} {fs : List Value} {v : Value} {q : vw_C} (hc : x_at me pc = some (.putfield i, 3)) (hp : pc + 3 = pc') (hL : x_lk me.2.2.2.2.2.2.1 i = some (ci, k0, nest)) (ho : x_o z f r ci fs) (hl0 : k0 < fs.length) (hq : x_cl[ci]? = some q) (hfin : (q.2.1 k0).2.2.2 = false) (hn : narrow (x_ty ci k0) v = v) (hf : fits (x_ty ci k0) v = true) (k : ∀ f' : x_H, f' = x_up f r (.inr (ci, fs.set k0 v)) → X E R me QQ pc' lv st z f' cl sl) : X E R me QQ pc lv (v :: .ref r :: st) z f cl sl := by
  subst hp
  intro p e s m args below meth c H locs ls cx hz hP hS hl
  obtain ⟨hx, hb, hr, hml, hown, hts, hlk, hK, hbs, hin, hd, hI⟩ := id cx
  obtain ⟨q', hq', hk, h1, h2⟩ := hI.1 _ (x_lk_mem _ _ _ hL)
  dsimp only at hq' hk h1 h2
  cases hq.symm.trans hq'
  have hn' : narrow (x_ty ci k0) (x_sh E v) = x_sh E v := by
    cases v <;> first | exact hn | (unfold x_sh; cases x_ty ci k0 <;> rfl)
  have hf' : fits (x_ty ci k0) (x_sh E v) = true := by
    cases v <;> first | exact hf | (revert hf; unfold x_sh; cases x_ty ci k0 <;> intro h <;> first | rfl | cases h)
  have hw : (x_w E z f).set r (E.2.2.2.1 + r, .inr (ci, (fs.map (x_sh E)).set k0 (x_sh E v))) = x_w E z (x_up f r (.inr (ci, fs.set k0 v))) := by
    rw [← x_w_set]
    show _ = List.set _ _ (_, Sum.inr (ci, (fs.set k0 v).map (x_sh E)))
    rw [List.map_set]
  cases nest with
  | false =>
    refine va_put hx hb hts (x_ws_in _ _ hq) (x_ty ci) (x_ty_ok ci q hq).1 (x_ty_ok ci q hq).2 hown hK.1 hP (x_w_D E z f) hS r (x_o_at ho) hq k0 hk (hts _ (h1 rfl)) (fun _ h => h) hfin ((x_ty_ok ci q hq).1 k0 hk) hn' hf' (by rw [List.length_map]; exact hl0) (x_dec_at hd hc) (fun H1 locs1 hP1 _ hS1 => ?_)
    rw [hw] at hP1
    exact k _ rfl p e s m args below meth c H1 locs1 ls cx hz hP1 hS1 hl
  | true =>
    refine va_putN hx hb hts (x_ws_in _ _ hq) (x_ty ci) (x_ty_ok ci q hq).1 (x_ty_ok ci q hq).2 hown hK.1 hP (x_w_D E z f) hS r (x_o_at ho) hq k0 hk (va_Nw.use rfl (hK.2.1 _ (h2 rfl))) (fun _ h => h) hfin ((x_ty_ok ci q hq).1 k0 hk) hn' hf' (by rw [List.length_map]; exact hl0) (x_dec_at hd hc) (fun H1 locs1 hP1 _ hS1 => ?_)
    rw [hw] at hP1
    exact k _ rfl p e s m args below meth c H1 locs1 ls cx hz hP1 hS1 hl
theorem x_putF {pc' : Nat} {i r ci k0 : Nat} {fs : List Value} {v : Value} {q : vw_C} (hc : x_at me pc = some (.putfield i, 3)) (hp : pc + 3 = pc') (hL : x_lk me.2.2.2.2.2.2.1 i = some (ci, k0, false)) (ho : x_o z f r ci fs) (hl0 : k0 < fs.length) (hq : x_cl[ci]? = some q) (hfin : (q.2.1 k0).2.2.2 = true) (hin2 : me.1.name = "<init>") (hdecl : (q.2.1 k0).1 = me.2.2.2.2.2.1) (hn : narrow (x_ty ci k0) v = v) (hf : fits (x_ty ci k0) v = true) (k : ∀ f' : x_H, f' = x_up f r (.inr (ci, fs.set k0 v)) → X E R me QQ pc' lv st z f' cl sl) : X E R me QQ pc lv (v :: .ref r :: st) z f cl sl := by
  subst hp
  intro p e s m args below meth c H locs ls cx hz hP hS hl
  obtain ⟨hx, hb, hr, hml, hown, hts, hlk, hK, hbs, hin, hd, hI⟩ := id cx
  obtain ⟨q', hq', hk, h1, h2⟩ := hI.1 _ (x_lk_mem _ _ _ hL)
  dsimp only at hq' hk h1 h2
  cases hq.symm.trans hq'
  have hn' : narrow (x_ty ci k0) (x_sh E v) = x_sh E v := by
    cases v <;> first | exact hn | (unfold x_sh; cases x_ty ci k0 <;> rfl)
  have hf' : fits (x_ty ci k0) (x_sh E v) = true := by
    cases v <;> first | exact hf | (revert hf; unfold x_sh; cases x_ty ci k0 <;> intro h <;> first | rfl | cases h)
  have hw : (x_w E z f).set r (E.2.2.2.1 + r, .inr (ci, (fs.map (x_sh E)).set k0 (x_sh E v))) = x_w E z (x_up f r (.inr (ci, fs.set k0 v))) := by
    rw [← x_w_set]
    show _ = List.set _ _ (_, Sum.inr (ci, (fs.set k0 v).map (x_sh E)))
    rw [List.map_set]
  refine va_putF hx hb hts (x_ws_in _ _ hq) (x_ty ci) (x_ty_ok ci q hq).1 (x_ty_ok ci q hq).2 hown hK.1 hP (x_w_D E z f) hS r (x_o_at ho) hq k0 hk (hts _ (h1 rfl)) (fun _ h => h) hfin (hin hin2) hdecl ((x_ty_ok ci q hq).1 k0 hk) hn' hf' (by rw [List.length_map]; exact hl0) (x_dec_at hd hc) (fun H1 locs1 hP1 _ hS1 => ?_)
  rw [hw] at hP1
  exact k _ rfl p e s m args below meth c H1 locs1 ls cx hz hP1 hS1 hl
theorem x_iaload {pc' : Nat} {r n : Nat} {g : Nat → Int32} {i : Int32} (hc : x_at me pc = some (.iaload, 1)) (hp : pc + 1 = pc') (ha : x_a z f r (n, .inl g)) (hi : vp_in i n) (k : X E R me QQ pc' lv (.int (g i.toNatClampNeg) :: st) z f cl sl) : X E R me QQ pc lv (.int i :: .ref r :: st) z f cl sl := by
  subst hp
  intro p e s m args below meth c H locs ls cx hz hP hS hl
  exact va_iald cx.1 cx.2.1 cx.2.2.2.2.2.2.2.1.1 hP r 0 (x_a_at ha) rfl hi (x_dec_at cx.2.2.2.2.2.2.2.2.2.2.1 hc) (k p e s m args below meth c H locs ls cx hz hP hS hl)
theorem x_laload {pc' : Nat} {r n : Nat} {g : Nat → Int64} {i : Int32} (hc : x_at me pc = some (.laload, 1)) (hp : pc + 1 = pc') (ha : x_a z f r (n, .inr (.inl g))) (hi : vp_in i n) (k : X E R me QQ pc' lv (.long (g i.toNatClampNeg) :: st) z f cl sl) : X E R me QQ pc lv (.int i :: .ref r :: st) z f cl sl := by
  subst hp
  intro p e s m args below meth c H locs ls cx hz hP hS hl
  exact va_lald cx.1 cx.2.1 cx.2.2.2.2.2.2.2.1.1 hP r 1 (x_a_at ha) rfl hi (x_dec_at cx.2.2.2.2.2.2.2.2.2.2.1 hc) (k p e s m args below meth c H locs ls cx hz hP hS hl)
theorem x_aaload {pc' : Nat} {r n x : Nat} {g : Nat → Option Nat} {i : Int32} (hc : x_at me pc = some (.aaload, 1)) (hp : pc + 1 = pc') (ha : x_a z f r (n, .inr (.inr (.inr (.inr g))))) (hi : vp_in i n) (hx0 : g i.toNatClampNeg = some x) (k : X E R me QQ pc' lv (.ref x :: st) z f cl sl) : X E R me QQ pc lv (.int i :: .ref r :: st) z f cl sl := by
  subst hp
  intro p e s m args below meth c H locs ls cx hz hP hS hl
  refine va_aldq cx.1 cx.2.1 cx.2.2.2.2.2.2.2.1.1 hP r 2 (x_a_at ha) rfl hi (x_dec_at cx.2.2.2.2.2.2.2.2.2.2.1 hc) ?_
  rw [hx0]
  exact k p e s m args below meth c H locs ls cx hz hP hS hl
theorem x_alen {pc' : Nat} {r : Nat} {a : vp_A} (hc : x_at me pc = some (.arraylength, 1)) (hp : pc + 1 = pc') (ha : x_a z f r a) (k : X E R me QQ pc' lv (.int (Int32.ofNat a.1) :: st) z f cl sl) : X E R me QQ pc lv (.ref r :: st) z f cl sl := by
  subst hp
  intro p e s m args below meth c H locs ls cx hz hP hS hl
  obtain ⟨n, g | g | g | g | g⟩ := a
  · exact va_alen cx.1 cx.2.1 cx.2.2.2.2.2.2.2.1.1 hP r 0 (x_a_at ha) rfl rfl (x_dec_at cx.2.2.2.2.2.2.2.2.2.2.1 hc) (k p e s m args below meth c H locs ls cx hz hP hS hl)
  · exact va_alen cx.1 cx.2.1 cx.2.2.2.2.2.2.2.1.1 hP r 1 (x_a_at ha) rfl rfl (x_dec_at cx.2.2.2.2.2.2.2.2.2.2.1 hc) (k p e s m args below meth c H locs ls cx hz hP hS hl)
  · exact va_alen cx.1 cx.2.1 cx.2.2.2.2.2.2.2.1.1 hP r 2 (x_a_at ha) rfl rfl (x_dec_at cx.2.2.2.2.2.2.2.2.2.2.1 hc) (k p e s m args below meth c H locs ls cx hz hP hS hl)
  · exact va_alen cx.1 cx.2.1 cx.2.2.2.2.2.2.2.1.1 hP r 2 (x_a_at ha) rfl rfl (x_dec_at cx.2.2.2.2.2.2.2.2.2.2.1 hc) (k p e s m args below meth c H locs ls cx hz hP hS hl)
  · exact va_alen cx.1 cx.2.1 cx.2.2.2.2.2.2.2.1.1 hP r 2 (x_a_at ha) rfl rfl (x_dec_at cx.2.2.2.2.2.2.2.2.2.2.1 hc) (k p e s m args below meth c H locs ls cx hz hP hS hl)
theorem x_iastore {pc' : Nat} {r n : Nat} {g : Nat → Int32} {i : Int32} {x : Int32} (hc : x_at me pc = some (.iastore, 1)) (hp : pc + 1 = pc') (ha : x_a z f r (n, .inl g)) (hi : vp_in i n) (k : ∀ f' : x_H, f' = x_up f r (.inl (n, .inl (upd g i.toNatClampNeg x))) → X E R me QQ pc' lv st z f' cl sl) : X E R me QQ pc lv (.int x :: .int i :: .ref r :: st) z f cl sl := by
  subst hp
  intro p e s m args below meth c H locs ls cx hz hP hS hl
  refine va_iast cx.1 cx.2.1 cx.2.2.2.2.2.2.2.1.1 hP (x_w_D E z f) hS r 0 (x_a_at ha) rfl hi (x_dec_at cx.2.2.2.2.2.2.2.2.2.2.1 hc) (fun H1 locs1 hP1 _ hS1 => ?_)
  have hw : (x_w E z f).set r (E.2.2.2.1 + r, .inl (E.2.2.1 0, n, .inl (upd g i.toNatClampNeg x))) = x_w E z (x_up f r (.inl (n, .inl (upd g i.toNatClampNeg x)))) := by
    rw [← x_w_set]
    rfl
  have hP2 : va_P E.2.1 x_cl ((x_w E z f).set r (E.2.2.2.1 + r, .inl (E.2.2.1 0, n, .inl (upd g i.toNatClampNeg x)))) H1 := hP1
  rw [hw] at hP2
  exact k _ rfl p e s m args below meth c H1 locs1 ls cx hz hP2 hS1 hl
theorem x_lastore {pc' : Nat} {r n : Nat} {g : Nat → Int64} {i : Int32} {x : Int64} (hc : x_at me pc = some (.lastore, 1)) (hp : pc + 1 = pc') (ha : x_a z f r (n, .inr (.inl g))) (hi : vp_in i n) (k : ∀ f' : x_H, f' = x_up f r (.inl (n, .inr (.inl (vp_updL g i.toNatClampNeg x)))) → X E R me QQ pc' lv st z f' cl sl) : X E R me QQ pc lv (.long x :: .int i :: .ref r :: st) z f cl sl := by
  subst hp
  intro p e s m args below meth c H locs ls cx hz hP hS hl
  refine va_last cx.1 cx.2.1 cx.2.2.2.2.2.2.2.1.1 hP (x_w_D E z f) hS r 1 (x_a_at ha) rfl hi (x_dec_at cx.2.2.2.2.2.2.2.2.2.2.1 hc) (fun H1 locs1 hP1 _ hS1 => ?_)
  have hw : (x_w E z f).set r (E.2.2.2.1 + r, .inl (E.2.2.1 1, n, .inr (.inl (vp_updL g i.toNatClampNeg x)))) = x_w E z (x_up f r (.inl (n, .inr (.inl (vp_updL g i.toNatClampNeg x))))) := by
    rw [← x_w_set]
    rfl
  have hP2 : va_P E.2.1 x_cl ((x_w E z f).set r (E.2.2.2.1 + r, .inl (E.2.2.1 1, n, .inr (.inl (vp_updL g i.toNatClampNeg x))))) H1 := hP1
  rw [hw] at hP2
  exact k _ rfl p e s m args below meth c H1 locs1 ls cx hz hP2 hS1 hl
end STEPS
end
section
section STEPS2
variable {E : x_E} {R : Room} {me : x_M} {QQ : List Frame → Array Value → State → State → Prop} {pc : Nat} {lv : x_L} {st : List Value} {z : Nat} {f : x_H} {cl sl : Nat}
theorem x_ireturn {mc ms : Nat} {post : Option Value → x_H → Prop} (hc : x_at me pc = some (.ireturn, 1)) {v : Int32} {ty : FieldType} (hret : me.2.2.2.1 = some ty) (hn : narrow ty (.int v) = .int v) (h1 : cl ≤ mc) (h2 : sl ≤ ms) (h : post (some (.int v)) f) : X E R me (x_QM E z mc ms post) pc lv [.int v] z f cl sl := by
  intro p e s m args below meth c H locs ls cx hz hP hS hl
  obtain ⟨hx, hb, hr, hml, hown, hts, hlk, hK, hbs, hin, hd, hI⟩ := id cx
  intro T hT hX
  have hsz := x_size hT hX hbs hz hP hS
  exact (W.widen h1 h2 (W.zret hx hb (hr.trans hret) hn (fun t ht hW => ⟨⟨some (.int v), f, rfl, h, by rw [ht]; exact hsz, by rw [ht]; exact hP, x_K.warm hW hK⟩, hS.F ht⟩) hS.2.2 (x_dec_at hd hc) hlk)) T hT hX
theorem x_lreturn {mc ms : Nat} {post : Option Value → x_H → Prop} (hc : x_at me pc = some (.lreturn, 1)) {v : Int64} (hret : me.2.2.2.1 = some .long) (h1 : cl ≤ mc) (h2 : sl ≤ ms) (h : post (some (.long v)) f) : X E R me (x_QM E z mc ms post) pc lv [.long v] z f cl sl := by
  intro p e s m args below meth c H locs ls cx hz hP hS hl
  obtain ⟨hx, hb, hr, hml, hown, hts, hlk, hK, hbs, hin, hd, hI⟩ := id cx
  intro T hT hX
  have hsz := x_size hT hX hbs hz hP hS
  exact (W.widen h1 h2 (W.lret hx hb (hr.trans hret) (fun t ht hW => ⟨⟨some (.long v), f, rfl, h, by rw [ht]; exact hsz, by rw [ht]; exact hP, x_K.warm hW hK⟩, hS.F ht⟩) hS.2.2 (x_dec_at hd hc) hlk)) T hT hX
theorem x_return {mc ms : Nat} {post : Option Value → x_H → Prop} (hc : x_at me pc = some (.return_, 1)) (hret : me.2.2.2.1 = none) (h1 : cl ≤ mc) (h2 : sl ≤ ms) (h : post none f) : X E R me (x_QM E z mc ms post) pc lv [] z f cl sl := by
  intro p e s m args below meth c H locs ls cx hz hP hS hl
  obtain ⟨hx, hb, hr, hml, hown, hts, hlk, hK, hbs, hin, hd, hI⟩ := id cx
  intro T hT hX
  have hsz := x_size hT hX hbs hz hP hS
  exact (W.widen h1 h2 (W.vret hx hb (hr.trans hret) (fun t ht hW => ⟨⟨none, f, rfl, h, by rw [ht]; exact hsz, by rw [ht]; exact hP, x_K.warm hW hK⟩, hS.F ht⟩) hS.2.2 (x_dec_at hd hc) hlk)) T hT hX
theorem x_ws_good {ce : x_M} (hg : x_good ce) : GoodIn x_tb (x_ws ce) := by
  intro w hw
  rcases List.mem_cons.mp hw with h | h
  · subst h
    exact ⟨hg.2.2.2.2.1, x_tb_good _ hg.2.2.2.2.1⟩
  · exact ⟨h, x_tb_good _ h⟩
theorem x_blind (E : x_E) (av : List Value) (z : Nat) (f : x_H) : FrameBlind (va_Pc av (x_in E z f)) := by
  intro a U g mk h
  obtain ⟨h1, h2, h3, h4⟩ := h
  exact ⟨h1, h2, h3, x_K.same (u := U) (U := U.calling g mk a) rfl h4⟩
/-- behind a call -/
theorem x_after {E : x_E} {R : Room} {me : x_M} {QQ : List Frame → Array Value → State → State → Prop} {pc : Nat} {lv : x_L} {st : List Value} {z : Nat} {cl sl mc ms : Nat} {p : Program} {e : Env} {s : State} {m : MethodId} {args : Array Value} {below : List Frame} {meth : Method} {c : Code} {H : Heap} {locs : List Loc} {ls : Array Slot} {st0 : List Value} {av : Array Value} {T : State}
    (cx : x_cx E me p s m args meth c) (hz : s.heap.size + cl = E.2.2.2.1 + z) (hS : va_S (x_A E) s.heap H locs) (hl : lv_has ls me.2.2.1 (x_lv E lv)) (hT : T.heap = H) (hX : Stand p E.1 e R s m args below meth c T locs cl sl)
    (hr : va_Run p E.1 e R s m args below meth c H locs cl sl mc ms (F0 m pc ls st0) (st.map (x_sh E)) (x_Q E (z + mc) (fun v f' => X E R me QQ (pc + 3) lv (v.toList ++ st) (z + mc) f' (cl + mc) (sl + ms)) av) (x_A E)) : ∃ t, Steps p.tables e below (T.setTop (F0 m pc ls st0)) t ∧ QQ below args s t := by
  obtain ⟨v, st₀, t, T', L, h0, X', hL, e1, e2, ⟨⟨r, f', hv, hpost, hin'⟩, hF⟩, hgo⟩ := hr T hT hX
  cases hv
  obtain ⟨g1, g2, g3⟩ := hin'
  have hbs := cx.2.2.2.2.2.2.2.2.1
  have hsz0 : H.size ≤ t.heap.size := by
    have := hF.1
    rw [h0] at this
    exact this
  have hSt : va_S (x_A E) s.heap t.heap (locs ++ L) := by
    refine ⟨Nat.le_trans hS.1 hsz0, fun q h1 h2 => ?_, fun q hq => ?_⟩
    · have h3 := hF.2 q (by rw [h0]; exact Nat.lt_of_lt_of_le h1 hS.1) h2
      rw [h3, h0]
      exact hS.2.1 q h1 h2
    · rcases List.mem_append.mp hq with h | h
      · exact hS.2.2 q h
      · exact hL q h
  obtain ⟨t2, a1, b1⟩ := hpost p e s m args below meth c t.heap (locs ++ L) ls cx (by omega) g2 hSt hl T' e1 X'
  refine ⟨t2, hgo t2 ?_, b1⟩
  cases r with
  | none => exact a1
  | some v => exact a1
theorem x_callV {pc' : Nat} {d mc ms i n ci r : Nat} {ce : x_M} {As : List Value} {fs : List Value} {stk : List Value} (hc : x_at me pc = some (.invokevirtual i, 3)) (hp : pc + 3 = pc') (hs : x_sV me.2.2.2.2.2.1 i ce n ci) (hg : x_good ce) (ho : x_o z f r ci fs)
    (hY : Y E d ce (.ref r :: As) z f mc ms (fun v f' => X E R me QQ pc' lv (v.toList ++ st) (z + mc) f' (cl + mc) (sl + ms)))
    (hn : As.length = n) (hstk : stk = As.reverse ++ .ref r :: st) (hR : d + 1 ≤ R.frames ∧ 8 + (ce.2.2.1 + 11) + 200 * d ≤ R.locals) (hw : (st.map fun v => v.category).sum ≤ 8) (hf : cl + mc ≤ R.cells ∧ sl + ms ≤ R.slots) : X E R me QQ pc lv stk z f cl sl := by
  subst hstk
  subst hp
  intro p e s m args below meth c H locs ls cx hz hP hS hl
  obtain ⟨hx, hb, hr, hml, hown, hts, hlk, hK, hbs, hin, hd, hI⟩ := id cx
  intro T hT hX
  have hsz := x_size hT hX hbs hz hP hS
  obtain ⟨s1, s2, s3, s4, q, hq, hqn⟩ := hs
  have hG : GoodIn x_tb (wsV me.2.2.2.2.2.1 i ce.1.cls ce.1 (x_ws ce)) := by
    intro w hw
    unfold wsV at hw
    rcases List.mem_append.mp hw with h | h
    · simp only [List.mem_cons, List.not_mem_nil, or_false] at h
      rcases h with h | h | h | h <;> subst h
      · exact ⟨s1, x_tb_good _ s1⟩
      · exact ⟨s2, x_tb_good _ s2⟩
      · exact ⟨s3, x_tb_good _ s3⟩
      · exact ⟨hg.2.2.2.2.2.1, x_tb_good _ hg.2.2.2.2.2.1⟩
    · exact x_ws_good hg w h
  have cw := cwV (rm := x_rm d mc ms) (mc := mc) (ms := ms) (R := R) n hts hG rfl rfl rfl ⟨rfl, hg.2.2.2.2.2.2.1, hg.2.2.2.2.2.2.2, s4⟩ hR
  have hrec := va_recv hK.1 hP hq (x_o_at ho)
  rw [hqn] at hrec
  have hr1 := va_runV (e := e) (below := below) (meth := meth) (locs := locs) (As := As.map (x_sh E)) (rest := st.map (x_sh E)) (g := F0 m pc ls ((As.reverse ++ .ref r :: st).map (x_sh E))) (b := E.2.2.2.1 + r) ⟨hx, hb, hml, hown, hts⟩ hY cw ⟨x_blind E _ z f, hrec, fun U hU hW => ⟨rfl, by rw [hU]; exact hsz, by rw [hU]; exact hP, x_K.warm hW hK⟩⟩ rfl (by rw [List.length_map]; exact hn) hl.1 (by simp [x_sh]) (lv_room (by rw [List.map_map]; simpa [Function.comp_def, x_sh_cat] using hw)) (by rw [← hb, hb]; exact x_dec_at hd hc) hf
  exact x_after cx hz hS hl hT hX hr1
theorem x_callS {pc' : Nat} {d mc ms i n : Nat} {ce : x_M} {As : List Value} {stk : List Value} (hc : x_at me pc = some (.invokestatic i, 3)) (hp : pc + 3 = pc') (hs : x_sS me.2.2.2.2.2.1 i ce n) (hg : x_good ce)
    (hY : Y E d ce As z f mc ms (fun v f' => X E R me QQ pc' lv (v.toList ++ st) (z + mc) f' (cl + mc) (sl + ms)))
    (hn : As.length = n) (hstk : stk = As.reverse ++ st) (hR : d + 1 ≤ R.frames ∧ 8 + (ce.2.2.1 + 11) + 200 * d ≤ R.locals) (hw : (st.map fun v => v.category).sum ≤ 8) (hf : cl + mc ≤ R.cells ∧ sl + ms ≤ R.slots) : X E R me QQ pc lv stk z f cl sl := by
  subst hstk
  subst hp
  intro p e s m args below meth c H locs ls cx hz hP hS hl
  obtain ⟨hx, hb, hr, hml, hown, hts, hlk, hK, hbs, hin, hd, hI⟩ := id cx
  intro T hT hX
  have hsz := x_size hT hX hbs hz hP hS
  obtain ⟨s1, s2, s4⟩ := hs
  have cw := callB_of (rm := x_rm d mc ms) (mc := mc) (ms := ms) (R := R) (own := me.2.2.2.2.2.1) (index := i) n hts (x_ws_good hg) rfl rfl rfl (hts _ hg.2.2.2.2.2.1) (hts _ s1) ⟨hg.2.2.2.2.2.2.1, hg.2.2.2.2.2.2.2, s4⟩ hR
  have hr1 := va_runS (e := e) (below := below) (meth := meth) (locs := locs) (As := As.map (x_sh E)) (rest := st.map (x_sh E)) (g := F0 m pc ls ((As.reverse ++ st).map (x_sh E))) ⟨hx, hb, hml, hown, hts⟩ hY ⟨cw, hts _ s2⟩ ⟨x_blind E _ z f, fun U hU hW => ⟨rfl, by rw [hU]; exact hsz, by rw [hU]; exact hP, x_K.warm hW hK⟩⟩ rfl (by rw [List.length_map]; exact hn) hl.1 (by simp) (lv_room (by rw [List.map_map]; simpa [Function.comp_def, x_sh_cat] using hw)) (by rw [← hb, hb]; exact x_dec_at hd hc) hf
  exact x_after cx hz hS hl hT hX hr1
theorem x_callI {pc' : Nat} {d mc ms i n r : Nat} {nest : Bool} {ce : x_M} {As : List Value} {stk : List Value} (hc : x_at me pc = some (.invokespecial i, 3)) (hp : pc + 3 = pc') (hs : x_sI me.2.2.2.2.2.1 i ce n nest) (hg : x_good ce)
    (hY : Y E d ce (.ref r :: As) z f mc ms (fun v f' => X E R me QQ pc' lv (v.toList ++ st) (z + mc) f' (cl + mc) (sl + ms)))
    (hn : As.length = n) (hstk : stk = As.reverse ++ .ref r :: st) (hR : d + 1 ≤ R.frames ∧ 8 + (ce.2.2.1 + 11) + 200 * d ≤ R.locals) (hw : (st.map fun v => v.category).sum ≤ 8) (hf : cl + mc ≤ R.cells ∧ sl + ms ≤ R.slots) : X E R me QQ pc lv stk z f cl sl := by
  subst hstk
  subst hp
  intro p e s m args below meth c H locs ls cx hz hP hS hl
  obtain ⟨hx, hb, hr, hml, hown, hts, hlk, hK, hbs, hin, hd, hI⟩ := id cx
  intro T hT hX
  have hsz := x_size hT hX hbs hz hP hS
  obtain ⟨s1, s1', s2, s3, s5, s4⟩ := hs
  have hws : x_ws ce = Cond.code ce.1 ce.2.1 ce.2.2.1 none :: x_tb := by rw [← s5]; rfl
  cases nest with
  | false =>
    have cw := cwI (rm := x_rm d mc ms) (mc := mc) (ms := ms) (R := R) (own := me.2.2.2.2.2.1) (index := i) n hts (x_ws_good hg) hws rfl rfl (hts _ hg.2.2.2.2.2.1) (hts _ (s1 rfl)) (hts _ s2) s3 ⟨hg.2.2.2.2.2.2.1, hg.2.2.2.2.2.2.2, s4⟩ hR
    have hr1 := va_runI (e := e) (below := below) (meth := meth) (locs := locs) (As := As.map (x_sh E)) (rest := st.map (x_sh E)) (g := F0 m pc ls ((As.reverse ++ .ref r :: st).map (x_sh E))) (b := E.2.2.2.1 + r) ⟨hx, hb, hml, hown, hts⟩ hY cw ⟨x_blind E _ z f, fun U hU hW => ⟨rfl, by rw [hU]; exact hsz, by rw [hU]; exact hP, x_K.warm hW hK⟩⟩ rfl (by rw [List.length_map]; exact hn) hl.1 (by simp [x_sh]) (lv_room (by rw [List.map_map]; simpa [Function.comp_def, x_sh_cat] using hw)) (by rw [← hb, hb]; exact x_dec_at hd hc) hf
    exact x_after cx hz hS hl hT hX hr1
  | true =>
    have cw := va_cnB (rm := x_rm d mc ms) (mc := mc) (ms := ms) (R := R) (own := me.2.2.2.2.2.1) (index := i) (host := RX5) n hts (x_ws_good hg) hws rfl rfl (hK.2.1 _ (s1' rfl)) (hts _ hg.2.2.2.2.2.1) ⟨hg.2.2.2.2.2.2.1, hg.2.2.2.2.2.2.2, s4⟩ hR
    have hr1 := va_runIN (e := e) (below := below) (meth := meth) (locs := locs) (As := As.map (x_sh E)) (rest := st.map (x_sh E)) (g := F0 m pc ls ((As.reverse ++ .ref r :: st).map (x_sh E))) (b := E.2.2.2.1 + r) ⟨hx, hb, hml, hown, hts⟩ hY ⟨cw, s3, hts _ s2⟩ ⟨x_blind E _ z f, fun U hU hW => ⟨rfl, by rw [hU]; exact hsz, by rw [hU]; exact hP, x_K.warm hW hK⟩⟩ rfl (by rw [List.length_map]; exact hn) hl.1 (by simp [x_sh]) (lv_room (by rw [List.map_map]; simpa [Function.comp_def, x_sh_cat] using hw)) (by rw [← hb, hb]; exact x_dec_at hd hc) hf
    exact x_after cx hz hS hl hT hX hr1
theorem x_obj {pc' : Nat} {i r : Nat} (hc : x_at me pc = some (.invokespecial i, 3)) (hp : pc + 3 = pc') (hs : Cond.methodLink me.2.2.2.2.2.1 i objectInit ∈ x_tb) (hR : 1 ≤ R.frames ∧ 20 ≤ R.locals) (hw : (st.map fun v => v.category).sum ≤ 8) (k : X E R me QQ pc' lv st z f cl sl) : X E R me QQ pc lv (.ref r :: st) z f cl sl := by
  subst hp
  intro p e s m args below meth c H locs ls cx hz hP hS hl
  obtain ⟨hx, hb, hr, hml, hown, hts, hlk, hK, hbs, hin, hd, hI⟩ := id cx
  exact W.objInit hx hb hown (hts _ hs) (hts _ x_obI) (hts _ x_obC) rfl (by rw [hml]; exact hl.1) rfl (x_dec_at hd hc) hR.1 (by have h2 := hR.2; have h3 : ((st.map (x_sh E)).map fun v => v.category).sum = (st.map fun v => v.category).sum := (by rw [List.map_map]; congr 2; funext v; exact x_sh_cat E v); show 2 * 0 + _ + 12 ≤ _; rw [h3]; omega) (k p e s m args below meth c H locs ls cx hz hP hS hl)
theorem x_new {pc' : Nat} {i ci : Nat} {q : vw_C} {fs : List Value} (hc : x_at me pc = some (.new i, 3)) (hp : pc + 3 = pc') (hL : x_lk me.2.2.2.2.2.2.2.2.2 i = some ci) (hq : x_cl[ci]? = some q) (hfs : ∀ j, j < q.2.2 → defaultValue (x_ty ci j) = vp_V fs j) (hsh : fs.map (x_sh E) = fs) (h1 : cl + 1 ≤ R.cells) (h2 : sl + q.2.2 ≤ R.slots) (k : ∀ f' : x_H, f' = x_up f z (.inr (ci, fs)) → X E R me QQ pc' lv (.ref z :: st) (z + 1) f' (cl + 1) (sl + q.2.2)) : X E R me QQ pc lv st z f cl sl := by
  subst hp
  intro p e s m args below meth c H locs ls cx hz hP hS hl
  obtain ⟨hx, hb, hr, hml, hown, hts, hlk, hK, hbs, hin, hd, hI⟩ := id cx
  intro T hT hX
  have hsz := x_size hT hX hbs hz hP hS
  obtain ⟨q', hq', hcl⟩ := hI.2.2.2 _ (x_lk_mem _ _ _ hL)
  cases hq.symm.trans hq'
  have hKn := hK.1.1 ci _ hq
  have hi := x_ini ci q hq
  refine (W.newcK hx hb hown (hts _ hcl) (hts _ hi.2) (hts _ hi.1) rfl (x_dec_at hd hc) h1 h2 hKn.2.1 hsz (fun H1 kC hkC e1 z1 o1 => ?_)) T hT hX
  have hk : ∀ (k : Nat) (x : Nat × va_E), (x_w E z f)[k]? = some x → H1[x.1]? = H[x.1]? := fun k x hx => o1 x.1 (by have h9 := (hP k x hx).lt; rw [hsz] at h9; exact h9)
  have hP1 : va_P E.2.1 x_cl (x_w E (z + 1) (x_up f z (.inr (ci, fs)))) H1 := by
    rw [← x_w_push]
    refine (hP.kept hk).app (fun k x hx => ?_)
    have hz : k < 1 := (List.getElem?_eq_some_iff.mp hx).1
    rw [show k = 0 by omega] at hx
    cases hx
    refine ⟨_, hq, (u_born (x_ty ci) hts (x_ws_in _ _ hq) hKn hkC e1 (x_ty_ok ci q hq).1).to ?_⟩
    dsimp only [x_ce]
    rw [hsh]
    exact hfs
  exact k _ rfl p e s m args below meth c H1 locs ls cx (by omega) hP1 ⟨by have := hS.1; omega, fun x g1 g2 => (o1 x (by have := hS.1; omega)).trans (hS.2.1 x g1 g2), hS.2.2⟩ hl
theorem x_newarrayI {pc' : Nat} {n : Int32} {N : Nat} (hc : x_at me pc = some (.newarray .int, 2)) (hp : pc + 2 = pc') (hn : ¬ n < 0) (hN : n.toNatClampNeg = N) (hby : N * 8 ≤ 536870912) (h1 : cl + 1 ≤ R.cells) (h2 : sl + N ≤ R.slots) (k : ∀ f' : x_H, f' = x_up f z (.inl (N, .inl (fun _ => 0))) → X E R me QQ pc' lv (.ref z :: st) (z + 1) f' (cl + 1) (sl + N)) : X E R me QQ pc lv (.int n :: st) z f cl sl := by
  subst hp
  intro p e s m args below meth c H locs ls cx hz hP hS hl
  obtain ⟨hx, hb, hr, hml, hown, hts, hlk, hK, hbs, hin, hd, hI⟩ := id cx
  intro T hT hX
  have hsz := x_size hT hX hbs hz hP hS
  refine (va_newaK (atype := .int) hx hb (hts _ x_acI) rfl (x_dec_at hd hc) rfl hn hN (by show N * componentBytes .int ≤ _; simp only [componentBytes]; omega) h1 h2 hsz (fun H1 cA e1 z1 o1 hAr hNm => ?_)) T hT hX
  have hcA : E.2.2.1 0 = cA := by
    have h9 := (hK.1.2 0 (E.2.2.1 0, .int) rfl).2
    exact Option.some.inj (h9.symm.trans hNm)
  have hk : ∀ (k : Nat) (x : Nat × va_E), (x_w E z f)[k]? = some x → H1[x.1]? = H[x.1]? := fun k x hx => o1 x.1 (by have h9 := (hP k x hx).lt; rw [hsz] at h9; exact h9)
  have hP1 : va_P E.2.1 x_cl (x_w E (z + 1) (x_up f z (.inl (N, .inl (fun _ => 0))))) H1 := by
    rw [← x_w_push]
    refine (hP.kept hk).app (fun k x hx => ?_)
    have hz : k < 1 := (List.getElem?_eq_some_iff.mp hx).1
    rw [show k = 0 by omega] at hx
    cases hx
    show H1[E.2.2.2.1 + z]? = some (vp_cell (E.2.2.1 0) (N, .inl (fun _ => 0)))
    rw [hcA]
    exact e1
  exact k _ rfl p e s m args below meth c H1 locs ls cx (by omega) hP1 ⟨by have := hS.1; omega, fun x g1 g2 => (o1 x (by have := hS.1; omega)).trans (hS.2.1 x g1 g2), hS.2.2⟩ hl
theorem x_newarrayL {pc' : Nat} {n : Int32} {N : Nat} (hc : x_at me pc = some (.newarray .long, 2)) (hp : pc + 2 = pc') (hn : ¬ n < 0) (hN : n.toNatClampNeg = N) (hby : N * 8 ≤ 536870912) (h1 : cl + 1 ≤ R.cells) (h2 : sl + N ≤ R.slots) (k : ∀ f' : x_H, f' = x_up f z (.inl (N, .inr (.inl (fun _ => 0)))) → X E R me QQ pc' lv (.ref z :: st) (z + 1) f' (cl + 1) (sl + N)) : X E R me QQ pc lv (.int n :: st) z f cl sl := by
  subst hp
  intro p e s m args below meth c H locs ls cx hz hP hS hl
  obtain ⟨hx, hb, hr, hml, hown, hts, hlk, hK, hbs, hin, hd, hI⟩ := id cx
  intro T hT hX
  have hsz := x_size hT hX hbs hz hP hS
  refine (va_newaK (atype := .long) hx hb (hts _ x_acJ) rfl (x_dec_at hd hc) rfl hn hN (by show N * componentBytes .long ≤ _; simp only [componentBytes]; omega) h1 h2 hsz (fun H1 cA e1 z1 o1 hAr hNm => ?_)) T hT hX
  have hcA : E.2.2.1 1 = cA := by
    have h9 := (hK.1.2 1 (E.2.2.1 1, .long) rfl).2
    exact Option.some.inj (h9.symm.trans hNm)
  have hk : ∀ (k : Nat) (x : Nat × va_E), (x_w E z f)[k]? = some x → H1[x.1]? = H[x.1]? := fun k x hx => o1 x.1 (by have h9 := (hP k x hx).lt; rw [hsz] at h9; exact h9)
  have hP1 : va_P E.2.1 x_cl (x_w E (z + 1) (x_up f z (.inl (N, .inr (.inl (fun _ => 0)))))) H1 := by
    rw [← x_w_push]
    refine (hP.kept hk).app (fun k x hx => ?_)
    have hz : k < 1 := (List.getElem?_eq_some_iff.mp hx).1
    rw [show k = 0 by omega] at hx
    cases hx
    show H1[E.2.2.2.1 + z]? = some (vp_cell (E.2.2.1 1) (N, .inr (.inl (fun _ => 0))))
    rw [hcA]
    exact e1
  exact k _ rfl p e s m args below meth c H1 locs ls cx (by omega) hP1 ⟨by have := hS.1; omega, fun x g1 g2 => (o1 x (by have := hS.1; omega)).trans (hS.2.1 x g1 g2), hS.2.2⟩ hl
theorem x_anew {pc' : Nat} {i : Nat} {n : Int32} {N : Nat} (hc : x_at me pc = some (.anewarray i, 3)) (hp : pc + 3 = pc') (hL : x_lk me.2.2.2.2.2.2.2.2.2 i = some 3) (hn : ¬ n < 0) (hN : n.toNatClampNeg = N) (hby : N * 4 ≤ 536870912) (h1 : cl + 1 ≤ R.cells) (h2 : sl + N ≤ R.slots) (k : ∀ f' : x_H, f' = x_up f z (.inl (N, .inr (.inr (.inr (.inr (fun _ => none)))))) → X E R me QQ pc' lv (.ref z :: st) (z + 1) f' (cl + 1) (sl + N)) : X E R me QQ pc lv (.int n :: st) z f cl sl := by
  subst hp
  intro p e s m args below meth c H locs ls cx hz hP hS hl
  obtain ⟨hx, hb, hr, hml, hown, hts, hlk, hK, hbs, hin, hd, hI⟩ := id cx
  subst hN
  intro T hT hX
  have hsz := x_size hT hX hbs hz hP hS
  obtain ⟨q', hq', hcl⟩ := hI.2.2.2 _ (x_lk_mem _ _ _ hL)
  cases hq'
  refine (W.anew hx hb hown (hts _ hcl) (va_AO.use hK.2.2) rfl (x_dec_at hd hc) rfl hn hby h1 h2 (fun cA kA comp f1 f2 f3 f4 => ?_)) T hT hX
  have hcA : E.2.2.1 2 = cA := by
    obtain ⟨kA', comp', g1, g2, g3, g4⟩ := (hK.1.2 2 (E.2.2.1 2, .object RX3) rfl).2
    exact Option.some.inj (g4.symm.trans f1)
  subst hcA
  generalize hH1 : H.push ({ cls := E.2.2.1 2, slots := Array.replicate n.toNatClampNeg .null, vm := .none } : Cell) = H1
  have z1 : H1.size = H.size + 1 := by rw [← hH1, Array.size_push]
  have e1 : H1[H.size]? = some (arrV (E.2.2.1 2) n.toNatClampNeg (fun _ => .null)) := by rw [← hH1, Array.getElem?_push_size, ← arrV_new]
  have o1 : ∀ q : Nat, q < H.size → H1[q]? = H[q]? := fun q hq => by rw [← hH1, Array.getElem?_push, if_neg (Nat.ne_of_lt hq)]
  have hk : ∀ (k : Nat) (x : Nat × va_E), (x_w E z f)[k]? = some x → H1[x.1]? = H[x.1]? := fun k x hx => o1 x.1 (hP k x hx).lt
  rw [hsz] at z1 e1 ⊢
  have hP1 : va_P E.2.1 x_cl (x_w E (z + 1) (x_up f z (.inl (n.toNatClampNeg, .inr (.inr (.inr (.inr (fun _ => none)))))))) H1 := by
    rw [← x_w_push]
    refine (hP.kept hk).app (fun k x hx => ?_)
    have hz : k < 1 := (List.getElem?_eq_some_iff.mp hx).1
    rw [show k = 0 by omega] at hx
    cases hx
    show H1[E.2.2.2.1 + z]? = some (vp_cell (E.2.2.1 2) _)
    exact e1
  exact k _ rfl p e s m args below meth c H1 locs ls cx (by omega) hP1 ⟨by have := hS.1; omega, fun x g1 g2 => (o1 x (by have := hS.1; omega)).trans (hS.2.1 x g1 g2), hS.2.2⟩ hl
theorem x_aastore {pc' : Nat} {r n x : Nat} {g : Nat → Option Nat} {i : Int32} {vs : List Value} (hc : x_at me pc = some (.aastore, 1)) (hp : pc + 1 = pc') (ha : x_a z f r (n, .inr (.inr (.inr (.inr g))))) (ho : x_o z f x 3 vs) (hi : vp_in i n) (k : ∀ f' : x_H, f' = x_up f r (.inl (n, .inr (.inr (.inr (.inr (va_up g i.toNatClampNeg (some x))))))) → X E R me QQ pc' lv st z f' cl sl) : X E R me QQ pc lv (.ref x :: .int i :: .ref r :: st) z f cl sl := by
  subst hp
  intro p e s m args below meth c H locs ls cx hz hP hS hl
  refine va_astq cx.1 cx.2.1 cx.2.2.2.2.2.2.2.1.1 hP (x_w_D E z f) hS r 2 x 3 (x_a_at ha) rfl (x_o_at ho) rfl hi (x_dec_at cx.2.2.2.2.2.2.2.2.2.2.1 hc) (fun H1 locs1 hP1 _ hS1 => ?_)
  have hg : ∀ j : Nat, va_up (fun j => (g j).map (fun k => E.2.2.2.1 + k)) i.toNatClampNeg (some (E.2.2.2.1 + x)) j = ((va_up g i.toNatClampNeg (some x)) j).map (fun k => E.2.2.2.1 + k) := by
    intro j
    by_cases h : j = i.toNatClampNeg
    · subst h
      simp [va_up]
    · simp [va_up, h]
  have hw : (x_w E z f).set r (E.2.2.2.1 + r, .inl (E.2.2.1 2, n, .inr (.inr (.inr (.inr (va_up (fun j => (g j).map (fun k => E.2.2.2.1 + k)) i.toNatClampNeg (some (E.2.2.2.1 + x)))))))) = x_w E z (x_up f r (.inl (n, .inr (.inr (.inr (.inr (va_up g i.toNatClampNeg (some x)))))))) := by
    rw [← x_w_set, funext hg]
    rfl
  have hP2 : va_P E.2.1 x_cl ((x_w E z f).set r (E.2.2.2.1 + r, .inl (E.2.2.1 2, n, .inr (.inr (.inr (.inr (va_up (fun j => (g j).map (fun k => E.2.2.2.1 + k)) i.toNatClampNeg (some (E.2.2.2.1 + x))))))))) H1 := hP1
  rw [hw] at hP2
  exact k _ rfl p e s m args below meth c H1 locs1 ls cx hz hP2 hS1 hl
theorem x_copy {pc' : Nat} {i r0 r1 n0 n1 : Nat} {g0 g1 : Nat → Int32} {sp dp n : Int32} (hc : x_at me pc = some (.invokestatic i, 3)) (hp : pc + 3 = pc') (hs : Cond.methodLink me.2.2.2.2.2.1 i arraycopyName ∈ x_tb) (ha0 : x_a z f r0 (n0, .inl g0)) (ha1 : x_a z f r1 (n1, .inl g1)) (h1 : ¬ sp < 0) (h2 : ¬ dp < 0) (h3 : ¬ n < 0) (h4 : sp.toNatClampNeg + n.toNatClampNeg ≤ n0) (h5 : dp.toNatClampNeg + n.toNatClampNeg ≤ n1)
    (hR : 1 ≤ R.frames ∧ 8 + (nativeFrameWords "java/lang/System" "arraycopy" 5 + 11) ≤ R.locals) (hw : (st.map fun v => v.category).sum ≤ 8) (k : ∀ f' : x_H, f' = x_up f r1 (.inl (n1, .inl (va_cpy g0 g1 sp.toNatClampNeg dp.toNatClampNeg n.toNatClampNeg))) → X E R me QQ pc' lv st z f' cl sl) : X E R me QQ pc lv (.int n :: .int dp :: .ref r1 :: .int sp :: .ref r0 :: st) z f cl sl := by
  subst hp
  intro p e s m args below meth c H locs ls cx hz hP hS hl
  obtain ⟨hx, hb, hr, hml, hown, hts, hlk, hK, hbs, hin, hd, hI⟩ := id cx
  have h9 : ((st.map (x_sh E)).map fun v => v.category).sum = (st.map fun v => v.category).sum := by rw [List.map_map]; congr 2; funext v; exact x_sh_cat E v
  refine va_copyi hx hb (by rw [hml]; exact hl.1.symm) hown (hts _ hs) (hts _ x_cpN) (hts _ x_cpS) (hts _ iniJ10) hK.1 hP (x_w_D E z f) hS r0 r1 0 0 (x_a_at ha0) (x_a_at ha1) rfl rfl rfl h1 h2 h3 h4 h5 (fun _ _ => rfl) hR.1 (by rw [h9]; have := hR.2; omega) (x_dec_at hd hc) (fun H1 locs1 hP1 _ hS1 => ?_)
  have hw : (x_w E z f).set r1 (E.2.2.2.1 + r1, .inl (E.2.2.1 0, n1, .inl (va_cpy g0 g1 sp.toNatClampNeg dp.toNatClampNeg n.toNatClampNeg))) = x_w E z (x_up f r1 (.inl (n1, .inl (va_cpy g0 g1 sp.toNatClampNeg dp.toNatClampNeg n.toNatClampNeg)))) := by
    rw [← x_w_set]
    rfl
  have hP2 : va_P E.2.1 x_cl ((x_w E z f).set r1 (E.2.2.2.1 + r1, .inl (E.2.2.1 0, n1, .inl (va_cpy g0 g1 sp.toNatClampNeg dp.toNatClampNeg n.toNatClampNeg)))) H1 := hP1
  rw [hw] at hP2
  exact k _ rfl p e s m args below meth c H1 locs1 ls cx hz hP2 hS1 hl
end STEPS2
end
section
section WRAP
variable {E : x_E} {R : Room} {me : x_M} {QQ : List Frame → Array Value → State → State → Prop} {pc : Nat} {lv : x_L} {st : List Value} {z : Nat} {f : x_H} {cl sl : Nat}
theorem Y.mono {E : x_E} {d : Nat} {me : x_M} {av : List Value} {z : Nat} {f : x_H} {mc ms : Nat} {P Q : Option Value → x_H → Prop} (h : Y E d me av z f mc ms P) (hPQ : ∀ v f', P v f' → Q v f') : Y E d me av z f mc ms Q := by
  intro p e ha hc hk s m args below hf happ hP hK
  obtain ⟨n, o, g1, g2, g3, ⟨⟨⟨r, f', h1, h2, h3⟩, h4⟩, h5⟩⟩ := h p e ha hc hk s m args below hf happ hP hK
  exact ⟨n, o, g1, g2, g3, ⟨⟨⟨r, f', h1, hPQ _ _ h2, h3⟩, h4⟩, h5⟩⟩
theorem x_cV0i {pc' : Nat} {d i ci r : Nat} {ce : x_M} {fs : List Value} (hc : x_at me pc = some (.invokevirtual i, 3)) (hp : pc + 3 = pc') (hs : x_sV me.2.2.2.2.2.1 i ce 0 ci) (hg : x_good ce) (ho : x_o z f r ci fs) (hR : d + 1 ≤ R.frames ∧ 8 + (ce.2.2.1 + 11) + 200 * d ≤ R.locals) (hw : (st.map fun v => v.category).sum ≤ 8) (hf : cl ≤ R.cells ∧ sl ≤ R.slots) (hY : Y E d ce [.ref r] z f 0 0 (fun v f' => ∃ r : Int32, v = some (.int r) ∧ X E R me QQ pc' lv (.int r :: st) z f' cl sl)) : X E R me QQ pc lv (.ref r :: st) z f cl sl := by
  refine x_callV (As := []) hc hp hs hg ho (Y.mono hY (fun v f' h => ?_)) rfl rfl hR hw hf
  obtain ⟨q, rfl, h⟩ := h
  exact h
theorem x_cV1i {pc' : Nat} {d i ci r : Nat} {ce : x_M} {fs : List Value} {a1 : Value} (hc : x_at me pc = some (.invokevirtual i, 3)) (hp : pc + 3 = pc') (hs : x_sV me.2.2.2.2.2.1 i ce 1 ci) (hg : x_good ce) (ho : x_o z f r ci fs) (hR : d + 1 ≤ R.frames ∧ 8 + (ce.2.2.1 + 11) + 200 * d ≤ R.locals) (hw : (st.map fun v => v.category).sum ≤ 8) (hf : cl ≤ R.cells ∧ sl ≤ R.slots) (hY : Y E d ce [.ref r, a1] z f 0 0 (fun v f' => ∃ r : Int32, v = some (.int r) ∧ X E R me QQ pc' lv (.int r :: st) z f' cl sl)) : X E R me QQ pc lv (a1 :: .ref r :: st) z f cl sl := by
  refine x_callV (As := [a1]) hc hp hs hg ho (Y.mono hY (fun v f' h => ?_)) rfl rfl hR hw hf
  obtain ⟨q, rfl, h⟩ := h
  exact h
theorem x_cV2i {pc' : Nat} {d i ci r : Nat} {ce : x_M} {fs : List Value} {a1 a2 : Value} (hc : x_at me pc = some (.invokevirtual i, 3)) (hp : pc + 3 = pc') (hs : x_sV me.2.2.2.2.2.1 i ce 2 ci) (hg : x_good ce) (ho : x_o z f r ci fs) (hR : d + 1 ≤ R.frames ∧ 8 + (ce.2.2.1 + 11) + 200 * d ≤ R.locals) (hw : (st.map fun v => v.category).sum ≤ 8) (hf : cl ≤ R.cells ∧ sl ≤ R.slots) (hY : Y E d ce [.ref r, a1, a2] z f 0 0 (fun v f' => ∃ r : Int32, v = some (.int r) ∧ X E R me QQ pc' lv (.int r :: st) z f' cl sl)) : X E R me QQ pc lv (a2 :: a1 :: .ref r :: st) z f cl sl := by
  refine x_callV (As := [a1, a2]) hc hp hs hg ho (Y.mono hY (fun v f' h => ?_)) rfl rfl hR hw hf
  obtain ⟨q, rfl, h⟩ := h
  exact h
theorem x_cV3i {pc' : Nat} {d i ci r : Nat} {ce : x_M} {fs : List Value} {a1 a2 a3 : Value} (hc : x_at me pc = some (.invokevirtual i, 3)) (hp : pc + 3 = pc') (hs : x_sV me.2.2.2.2.2.1 i ce 3 ci) (hg : x_good ce) (ho : x_o z f r ci fs) (hR : d + 1 ≤ R.frames ∧ 8 + (ce.2.2.1 + 11) + 200 * d ≤ R.locals) (hw : (st.map fun v => v.category).sum ≤ 8) (hf : cl ≤ R.cells ∧ sl ≤ R.slots) (hY : Y E d ce [.ref r, a1, a2, a3] z f 0 0 (fun v f' => ∃ r : Int32, v = some (.int r) ∧ X E R me QQ pc' lv (.int r :: st) z f' cl sl)) : X E R me QQ pc lv (a3 :: a2 :: a1 :: .ref r :: st) z f cl sl := by
  refine x_callV (As := [a1, a2, a3]) hc hp hs hg ho (Y.mono hY (fun v f' h => ?_)) rfl rfl hR hw hf
  obtain ⟨q, rfl, h⟩ := h
  exact h
theorem x_cS1i {pc' : Nat} {d i : Nat} {ce : x_M} {a1 : Value} (hc : x_at me pc = some (.invokestatic i, 3)) (hp : pc + 3 = pc') (hs : x_sS me.2.2.2.2.2.1 i ce 1) (hg : x_good ce) (hR : d + 1 ≤ R.frames ∧ 8 + (ce.2.2.1 + 11) + 200 * d ≤ R.locals) (hw : (st.map fun v => v.category).sum ≤ 8) (hf : cl ≤ R.cells ∧ sl ≤ R.slots) (hY : Y E d ce [a1] z f 0 0 (fun v f' => ∃ r : Int32, v = some (.int r) ∧ X E R me QQ pc' lv (.int r :: st) z f' cl sl)) : X E R me QQ pc lv (a1 :: st) z f cl sl := by
  refine x_callS (As := [a1]) hc hp hs hg (Y.mono hY (fun v f' h => ?_)) rfl rfl hR hw hf
  obtain ⟨q, rfl, h⟩ := h
  exact h
theorem x_cS2i {pc' : Nat} {d i : Nat} {ce : x_M} {a1 a2 : Value} (hc : x_at me pc = some (.invokestatic i, 3)) (hp : pc + 3 = pc') (hs : x_sS me.2.2.2.2.2.1 i ce 2) (hg : x_good ce) (hR : d + 1 ≤ R.frames ∧ 8 + (ce.2.2.1 + 11) + 200 * d ≤ R.locals) (hw : (st.map fun v => v.category).sum ≤ 8) (hf : cl ≤ R.cells ∧ sl ≤ R.slots) (hY : Y E d ce [a1, a2] z f 0 0 (fun v f' => ∃ r : Int32, v = some (.int r) ∧ X E R me QQ pc' lv (.int r :: st) z f' cl sl)) : X E R me QQ pc lv (a2 :: a1 :: st) z f cl sl := by
  refine x_callS (As := [a1, a2]) hc hp hs hg (Y.mono hY (fun v f' h => ?_)) rfl rfl hR hw hf
  obtain ⟨q, rfl, h⟩ := h
  exact h
theorem x_cS3i {pc' : Nat} {d i : Nat} {ce : x_M} {a1 a2 a3 : Value} (hc : x_at me pc = some (.invokestatic i, 3)) (hp : pc + 3 = pc') (hs : x_sS me.2.2.2.2.2.1 i ce 3) (hg : x_good ce) (hR : d + 1 ≤ R.frames ∧ 8 + (ce.2.2.1 + 11) + 200 * d ≤ R.locals) (hw : (st.map fun v => v.category).sum ≤ 8) (hf : cl ≤ R.cells ∧ sl ≤ R.slots) (hY : Y E d ce [a1, a2, a3] z f 0 0 (fun v f' => ∃ r : Int32, v = some (.int r) ∧ X E R me QQ pc' lv (.int r :: st) z f' cl sl)) : X E R me QQ pc lv (a3 :: a2 :: a1 :: st) z f cl sl := by
  refine x_callS (As := [a1, a2, a3]) hc hp hs hg (Y.mono hY (fun v f' h => ?_)) rfl rfl hR hw hf
  obtain ⟨q, rfl, h⟩ := h
  exact h
theorem x_cS5i {pc' : Nat} {d i : Nat} {ce : x_M} {a1 a2 a3 a4 a5 : Value} (hc : x_at me pc = some (.invokestatic i, 3)) (hp : pc + 3 = pc') (hs : x_sS me.2.2.2.2.2.1 i ce 5) (hg : x_good ce) (hR : d + 1 ≤ R.frames ∧ 8 + (ce.2.2.1 + 11) + 200 * d ≤ R.locals) (hw : (st.map fun v => v.category).sum ≤ 8) (hf : cl ≤ R.cells ∧ sl ≤ R.slots) (hY : Y E d ce [a1, a2, a3, a4, a5] z f 0 0 (fun v f' => ∃ r : Int32, v = some (.int r) ∧ X E R me QQ pc' lv (.int r :: st) z f' cl sl)) : X E R me QQ pc lv (a5 :: a4 :: a3 :: a2 :: a1 :: st) z f cl sl := by
  refine x_callS (As := [a1, a2, a3, a4, a5]) hc hp hs hg (Y.mono hY (fun v f' h => ?_)) rfl rfl hR hw hf
  obtain ⟨q, rfl, h⟩ := h
  exact h
theorem x_cS6i {pc' : Nat} {d i : Nat} {ce : x_M} {a1 a2 a3 a4 a5 a6 : Value} (hc : x_at me pc = some (.invokestatic i, 3)) (hp : pc + 3 = pc') (hs : x_sS me.2.2.2.2.2.1 i ce 6) (hg : x_good ce) (hR : d + 1 ≤ R.frames ∧ 8 + (ce.2.2.1 + 11) + 200 * d ≤ R.locals) (hw : (st.map fun v => v.category).sum ≤ 8) (hf : cl ≤ R.cells ∧ sl ≤ R.slots) (hY : Y E d ce [a1, a2, a3, a4, a5, a6] z f 0 0 (fun v f' => ∃ r : Int32, v = some (.int r) ∧ X E R me QQ pc' lv (.int r :: st) z f' cl sl)) : X E R me QQ pc lv (a6 :: a5 :: a4 :: a3 :: a2 :: a1 :: st) z f cl sl := by
  refine x_callS (As := [a1, a2, a3, a4, a5, a6]) hc hp hs hg (Y.mono hY (fun v f' h => ?_)) rfl rfl hR hw hf
  obtain ⟨q, rfl, h⟩ := h
  exact h
theorem x_cV0l {pc' : Nat} {d i ci r : Nat} {ce : x_M} {fs : List Value} (hc : x_at me pc = some (.invokevirtual i, 3)) (hp : pc + 3 = pc') (hs : x_sV me.2.2.2.2.2.1 i ce 0 ci) (hg : x_good ce) (ho : x_o z f r ci fs) (hR : d + 1 ≤ R.frames ∧ 8 + (ce.2.2.1 + 11) + 200 * d ≤ R.locals) (hw : (st.map fun v => v.category).sum ≤ 8) (hf : cl ≤ R.cells ∧ sl ≤ R.slots) (hY : Y E d ce [.ref r] z f 0 0 (fun v f' => ∃ r : Int64, v = some (.long r) ∧ X E R me QQ pc' lv (.long r :: st) z f' cl sl)) : X E R me QQ pc lv (.ref r :: st) z f cl sl := by
  refine x_callV (As := []) hc hp hs hg ho (Y.mono hY (fun v f' h => ?_)) rfl rfl hR hw hf
  obtain ⟨q, rfl, h⟩ := h
  exact h
theorem x_cV1l {pc' : Nat} {d i ci r : Nat} {ce : x_M} {fs : List Value} {a1 : Value} (hc : x_at me pc = some (.invokevirtual i, 3)) (hp : pc + 3 = pc') (hs : x_sV me.2.2.2.2.2.1 i ce 1 ci) (hg : x_good ce) (ho : x_o z f r ci fs) (hR : d + 1 ≤ R.frames ∧ 8 + (ce.2.2.1 + 11) + 200 * d ≤ R.locals) (hw : (st.map fun v => v.category).sum ≤ 8) (hf : cl ≤ R.cells ∧ sl ≤ R.slots) (hY : Y E d ce [.ref r, a1] z f 0 0 (fun v f' => ∃ r : Int64, v = some (.long r) ∧ X E R me QQ pc' lv (.long r :: st) z f' cl sl)) : X E R me QQ pc lv (a1 :: .ref r :: st) z f cl sl := by
  refine x_callV (As := [a1]) hc hp hs hg ho (Y.mono hY (fun v f' h => ?_)) rfl rfl hR hw hf
  obtain ⟨q, rfl, h⟩ := h
  exact h
theorem x_cV2l {pc' : Nat} {d i ci r : Nat} {ce : x_M} {fs : List Value} {a1 a2 : Value} (hc : x_at me pc = some (.invokevirtual i, 3)) (hp : pc + 3 = pc') (hs : x_sV me.2.2.2.2.2.1 i ce 2 ci) (hg : x_good ce) (ho : x_o z f r ci fs) (hR : d + 1 ≤ R.frames ∧ 8 + (ce.2.2.1 + 11) + 200 * d ≤ R.locals) (hw : (st.map fun v => v.category).sum ≤ 8) (hf : cl ≤ R.cells ∧ sl ≤ R.slots) (hY : Y E d ce [.ref r, a1, a2] z f 0 0 (fun v f' => ∃ r : Int64, v = some (.long r) ∧ X E R me QQ pc' lv (.long r :: st) z f' cl sl)) : X E R me QQ pc lv (a2 :: a1 :: .ref r :: st) z f cl sl := by
  refine x_callV (As := [a1, a2]) hc hp hs hg ho (Y.mono hY (fun v f' h => ?_)) rfl rfl hR hw hf
  obtain ⟨q, rfl, h⟩ := h
  exact h
theorem x_cV3l {pc' : Nat} {d i ci r : Nat} {ce : x_M} {fs : List Value} {a1 a2 a3 : Value} (hc : x_at me pc = some (.invokevirtual i, 3)) (hp : pc + 3 = pc') (hs : x_sV me.2.2.2.2.2.1 i ce 3 ci) (hg : x_good ce) (ho : x_o z f r ci fs) (hR : d + 1 ≤ R.frames ∧ 8 + (ce.2.2.1 + 11) + 200 * d ≤ R.locals) (hw : (st.map fun v => v.category).sum ≤ 8) (hf : cl ≤ R.cells ∧ sl ≤ R.slots) (hY : Y E d ce [.ref r, a1, a2, a3] z f 0 0 (fun v f' => ∃ r : Int64, v = some (.long r) ∧ X E R me QQ pc' lv (.long r :: st) z f' cl sl)) : X E R me QQ pc lv (a3 :: a2 :: a1 :: .ref r :: st) z f cl sl := by
  refine x_callV (As := [a1, a2, a3]) hc hp hs hg ho (Y.mono hY (fun v f' h => ?_)) rfl rfl hR hw hf
  obtain ⟨q, rfl, h⟩ := h
  exact h
theorem x_cS1l {pc' : Nat} {d i : Nat} {ce : x_M} {a1 : Value} (hc : x_at me pc = some (.invokestatic i, 3)) (hp : pc + 3 = pc') (hs : x_sS me.2.2.2.2.2.1 i ce 1) (hg : x_good ce) (hR : d + 1 ≤ R.frames ∧ 8 + (ce.2.2.1 + 11) + 200 * d ≤ R.locals) (hw : (st.map fun v => v.category).sum ≤ 8) (hf : cl ≤ R.cells ∧ sl ≤ R.slots) (hY : Y E d ce [a1] z f 0 0 (fun v f' => ∃ r : Int64, v = some (.long r) ∧ X E R me QQ pc' lv (.long r :: st) z f' cl sl)) : X E R me QQ pc lv (a1 :: st) z f cl sl := by
  refine x_callS (As := [a1]) hc hp hs hg (Y.mono hY (fun v f' h => ?_)) rfl rfl hR hw hf
  obtain ⟨q, rfl, h⟩ := h
  exact h
theorem x_cS2l {pc' : Nat} {d i : Nat} {ce : x_M} {a1 a2 : Value} (hc : x_at me pc = some (.invokestatic i, 3)) (hp : pc + 3 = pc') (hs : x_sS me.2.2.2.2.2.1 i ce 2) (hg : x_good ce) (hR : d + 1 ≤ R.frames ∧ 8 + (ce.2.2.1 + 11) + 200 * d ≤ R.locals) (hw : (st.map fun v => v.category).sum ≤ 8) (hf : cl ≤ R.cells ∧ sl ≤ R.slots) (hY : Y E d ce [a1, a2] z f 0 0 (fun v f' => ∃ r : Int64, v = some (.long r) ∧ X E R me QQ pc' lv (.long r :: st) z f' cl sl)) : X E R me QQ pc lv (a2 :: a1 :: st) z f cl sl := by
  refine x_callS (As := [a1, a2]) hc hp hs hg (Y.mono hY (fun v f' h => ?_)) rfl rfl hR hw hf
  obtain ⟨q, rfl, h⟩ := h
  exact h
theorem x_cS3l {pc' : Nat} {d i : Nat} {ce : x_M} {a1 a2 a3 : Value} (hc : x_at me pc = some (.invokestatic i, 3)) (hp : pc + 3 = pc') (hs : x_sS me.2.2.2.2.2.1 i ce 3) (hg : x_good ce) (hR : d + 1 ≤ R.frames ∧ 8 + (ce.2.2.1 + 11) + 200 * d ≤ R.locals) (hw : (st.map fun v => v.category).sum ≤ 8) (hf : cl ≤ R.cells ∧ sl ≤ R.slots) (hY : Y E d ce [a1, a2, a3] z f 0 0 (fun v f' => ∃ r : Int64, v = some (.long r) ∧ X E R me QQ pc' lv (.long r :: st) z f' cl sl)) : X E R me QQ pc lv (a3 :: a2 :: a1 :: st) z f cl sl := by
  refine x_callS (As := [a1, a2, a3]) hc hp hs hg (Y.mono hY (fun v f' h => ?_)) rfl rfl hR hw hf
  obtain ⟨q, rfl, h⟩ := h
  exact h
theorem x_cS5l {pc' : Nat} {d i : Nat} {ce : x_M} {a1 a2 a3 a4 a5 : Value} (hc : x_at me pc = some (.invokestatic i, 3)) (hp : pc + 3 = pc') (hs : x_sS me.2.2.2.2.2.1 i ce 5) (hg : x_good ce) (hR : d + 1 ≤ R.frames ∧ 8 + (ce.2.2.1 + 11) + 200 * d ≤ R.locals) (hw : (st.map fun v => v.category).sum ≤ 8) (hf : cl ≤ R.cells ∧ sl ≤ R.slots) (hY : Y E d ce [a1, a2, a3, a4, a5] z f 0 0 (fun v f' => ∃ r : Int64, v = some (.long r) ∧ X E R me QQ pc' lv (.long r :: st) z f' cl sl)) : X E R me QQ pc lv (a5 :: a4 :: a3 :: a2 :: a1 :: st) z f cl sl := by
  refine x_callS (As := [a1, a2, a3, a4, a5]) hc hp hs hg (Y.mono hY (fun v f' h => ?_)) rfl rfl hR hw hf
  obtain ⟨q, rfl, h⟩ := h
  exact h
theorem x_cS6l {pc' : Nat} {d i : Nat} {ce : x_M} {a1 a2 a3 a4 a5 a6 : Value} (hc : x_at me pc = some (.invokestatic i, 3)) (hp : pc + 3 = pc') (hs : x_sS me.2.2.2.2.2.1 i ce 6) (hg : x_good ce) (hR : d + 1 ≤ R.frames ∧ 8 + (ce.2.2.1 + 11) + 200 * d ≤ R.locals) (hw : (st.map fun v => v.category).sum ≤ 8) (hf : cl ≤ R.cells ∧ sl ≤ R.slots) (hY : Y E d ce [a1, a2, a3, a4, a5, a6] z f 0 0 (fun v f' => ∃ r : Int64, v = some (.long r) ∧ X E R me QQ pc' lv (.long r :: st) z f' cl sl)) : X E R me QQ pc lv (a6 :: a5 :: a4 :: a3 :: a2 :: a1 :: st) z f cl sl := by
  refine x_callS (As := [a1, a2, a3, a4, a5, a6]) hc hp hs hg (Y.mono hY (fun v f' h => ?_)) rfl rfl hR hw hf
  obtain ⟨q, rfl, h⟩ := h
  exact h
theorem x_cV0v {pc' : Nat} {d i ci r : Nat} {ce : x_M} {fs : List Value} (hc : x_at me pc = some (.invokevirtual i, 3)) (hp : pc + 3 = pc') (hs : x_sV me.2.2.2.2.2.1 i ce 0 ci) (hg : x_good ce) (ho : x_o z f r ci fs) (hR : d + 1 ≤ R.frames ∧ 8 + (ce.2.2.1 + 11) + 200 * d ≤ R.locals) (hw : (st.map fun v => v.category).sum ≤ 8) (hf : cl ≤ R.cells ∧ sl ≤ R.slots) (hY : Y E d ce [.ref r] z f 0 0 (fun v f' => v = none ∧ X E R me QQ pc' lv st z f' cl sl)) : X E R me QQ pc lv (.ref r :: st) z f cl sl := by
  refine x_callV (As := []) hc hp hs hg ho (Y.mono hY (fun v f' h => ?_)) rfl rfl hR hw hf
  obtain ⟨rfl, h⟩ := h
  exact h
theorem x_cV1v {pc' : Nat} {d i ci r : Nat} {ce : x_M} {fs : List Value} {a1 : Value} (hc : x_at me pc = some (.invokevirtual i, 3)) (hp : pc + 3 = pc') (hs : x_sV me.2.2.2.2.2.1 i ce 1 ci) (hg : x_good ce) (ho : x_o z f r ci fs) (hR : d + 1 ≤ R.frames ∧ 8 + (ce.2.2.1 + 11) + 200 * d ≤ R.locals) (hw : (st.map fun v => v.category).sum ≤ 8) (hf : cl ≤ R.cells ∧ sl ≤ R.slots) (hY : Y E d ce [.ref r, a1] z f 0 0 (fun v f' => v = none ∧ X E R me QQ pc' lv st z f' cl sl)) : X E R me QQ pc lv (a1 :: .ref r :: st) z f cl sl := by
  refine x_callV (As := [a1]) hc hp hs hg ho (Y.mono hY (fun v f' h => ?_)) rfl rfl hR hw hf
  obtain ⟨rfl, h⟩ := h
  exact h
theorem x_cV2v {pc' : Nat} {d i ci r : Nat} {ce : x_M} {fs : List Value} {a1 a2 : Value} (hc : x_at me pc = some (.invokevirtual i, 3)) (hp : pc + 3 = pc') (hs : x_sV me.2.2.2.2.2.1 i ce 2 ci) (hg : x_good ce) (ho : x_o z f r ci fs) (hR : d + 1 ≤ R.frames ∧ 8 + (ce.2.2.1 + 11) + 200 * d ≤ R.locals) (hw : (st.map fun v => v.category).sum ≤ 8) (hf : cl ≤ R.cells ∧ sl ≤ R.slots) (hY : Y E d ce [.ref r, a1, a2] z f 0 0 (fun v f' => v = none ∧ X E R me QQ pc' lv st z f' cl sl)) : X E R me QQ pc lv (a2 :: a1 :: .ref r :: st) z f cl sl := by
  refine x_callV (As := [a1, a2]) hc hp hs hg ho (Y.mono hY (fun v f' h => ?_)) rfl rfl hR hw hf
  obtain ⟨rfl, h⟩ := h
  exact h
theorem x_cV3v {pc' : Nat} {d i ci r : Nat} {ce : x_M} {fs : List Value} {a1 a2 a3 : Value} (hc : x_at me pc = some (.invokevirtual i, 3)) (hp : pc + 3 = pc') (hs : x_sV me.2.2.2.2.2.1 i ce 3 ci) (hg : x_good ce) (ho : x_o z f r ci fs) (hR : d + 1 ≤ R.frames ∧ 8 + (ce.2.2.1 + 11) + 200 * d ≤ R.locals) (hw : (st.map fun v => v.category).sum ≤ 8) (hf : cl ≤ R.cells ∧ sl ≤ R.slots) (hY : Y E d ce [.ref r, a1, a2, a3] z f 0 0 (fun v f' => v = none ∧ X E R me QQ pc' lv st z f' cl sl)) : X E R me QQ pc lv (a3 :: a2 :: a1 :: .ref r :: st) z f cl sl := by
  refine x_callV (As := [a1, a2, a3]) hc hp hs hg ho (Y.mono hY (fun v f' h => ?_)) rfl rfl hR hw hf
  obtain ⟨rfl, h⟩ := h
  exact h
theorem x_cS1v {pc' : Nat} {d i : Nat} {ce : x_M} {a1 : Value} (hc : x_at me pc = some (.invokestatic i, 3)) (hp : pc + 3 = pc') (hs : x_sS me.2.2.2.2.2.1 i ce 1) (hg : x_good ce) (hR : d + 1 ≤ R.frames ∧ 8 + (ce.2.2.1 + 11) + 200 * d ≤ R.locals) (hw : (st.map fun v => v.category).sum ≤ 8) (hf : cl ≤ R.cells ∧ sl ≤ R.slots) (hY : Y E d ce [a1] z f 0 0 (fun v f' => v = none ∧ X E R me QQ pc' lv st z f' cl sl)) : X E R me QQ pc lv (a1 :: st) z f cl sl := by
  refine x_callS (As := [a1]) hc hp hs hg (Y.mono hY (fun v f' h => ?_)) rfl rfl hR hw hf
  obtain ⟨rfl, h⟩ := h
  exact h
theorem x_cS2v {pc' : Nat} {d i : Nat} {ce : x_M} {a1 a2 : Value} (hc : x_at me pc = some (.invokestatic i, 3)) (hp : pc + 3 = pc') (hs : x_sS me.2.2.2.2.2.1 i ce 2) (hg : x_good ce) (hR : d + 1 ≤ R.frames ∧ 8 + (ce.2.2.1 + 11) + 200 * d ≤ R.locals) (hw : (st.map fun v => v.category).sum ≤ 8) (hf : cl ≤ R.cells ∧ sl ≤ R.slots) (hY : Y E d ce [a1, a2] z f 0 0 (fun v f' => v = none ∧ X E R me QQ pc' lv st z f' cl sl)) : X E R me QQ pc lv (a2 :: a1 :: st) z f cl sl := by
  refine x_callS (As := [a1, a2]) hc hp hs hg (Y.mono hY (fun v f' h => ?_)) rfl rfl hR hw hf
  obtain ⟨rfl, h⟩ := h
  exact h
theorem x_cS3v {pc' : Nat} {d i : Nat} {ce : x_M} {a1 a2 a3 : Value} (hc : x_at me pc = some (.invokestatic i, 3)) (hp : pc + 3 = pc') (hs : x_sS me.2.2.2.2.2.1 i ce 3) (hg : x_good ce) (hR : d + 1 ≤ R.frames ∧ 8 + (ce.2.2.1 + 11) + 200 * d ≤ R.locals) (hw : (st.map fun v => v.category).sum ≤ 8) (hf : cl ≤ R.cells ∧ sl ≤ R.slots) (hY : Y E d ce [a1, a2, a3] z f 0 0 (fun v f' => v = none ∧ X E R me QQ pc' lv st z f' cl sl)) : X E R me QQ pc lv (a3 :: a2 :: a1 :: st) z f cl sl := by
  refine x_callS (As := [a1, a2, a3]) hc hp hs hg (Y.mono hY (fun v f' h => ?_)) rfl rfl hR hw hf
  obtain ⟨rfl, h⟩ := h
  exact h
theorem x_cS5v {pc' : Nat} {d i : Nat} {ce : x_M} {a1 a2 a3 a4 a5 : Value} (hc : x_at me pc = some (.invokestatic i, 3)) (hp : pc + 3 = pc') (hs : x_sS me.2.2.2.2.2.1 i ce 5) (hg : x_good ce) (hR : d + 1 ≤ R.frames ∧ 8 + (ce.2.2.1 + 11) + 200 * d ≤ R.locals) (hw : (st.map fun v => v.category).sum ≤ 8) (hf : cl ≤ R.cells ∧ sl ≤ R.slots) (hY : Y E d ce [a1, a2, a3, a4, a5] z f 0 0 (fun v f' => v = none ∧ X E R me QQ pc' lv st z f' cl sl)) : X E R me QQ pc lv (a5 :: a4 :: a3 :: a2 :: a1 :: st) z f cl sl := by
  refine x_callS (As := [a1, a2, a3, a4, a5]) hc hp hs hg (Y.mono hY (fun v f' h => ?_)) rfl rfl hR hw hf
  obtain ⟨rfl, h⟩ := h
  exact h
theorem x_cS6v {pc' : Nat} {d i : Nat} {ce : x_M} {a1 a2 a3 a4 a5 a6 : Value} (hc : x_at me pc = some (.invokestatic i, 3)) (hp : pc + 3 = pc') (hs : x_sS me.2.2.2.2.2.1 i ce 6) (hg : x_good ce) (hR : d + 1 ≤ R.frames ∧ 8 + (ce.2.2.1 + 11) + 200 * d ≤ R.locals) (hw : (st.map fun v => v.category).sum ≤ 8) (hf : cl ≤ R.cells ∧ sl ≤ R.slots) (hY : Y E d ce [a1, a2, a3, a4, a5, a6] z f 0 0 (fun v f' => v = none ∧ X E R me QQ pc' lv st z f' cl sl)) : X E R me QQ pc lv (a6 :: a5 :: a4 :: a3 :: a2 :: a1 :: st) z f cl sl := by
  refine x_callS (As := [a1, a2, a3, a4, a5, a6]) hc hp hs hg (Y.mono hY (fun v f' h => ?_)) rfl rfl hR hw hf
  obtain ⟨rfl, h⟩ := h
  exact h
theorem x_cI {pc' : Nat} {d i r mc ms : Nat} {nest : Bool} {ce : x_M} (hc : x_at me pc = some (.invokespecial i, 3)) (hp : pc + 3 = pc') (hs : x_sI me.2.2.2.2.2.1 i ce 0 nest) (hg : x_good ce) (hR : d + 1 ≤ R.frames ∧ 8 + (ce.2.2.1 + 11) + 200 * d ≤ R.locals) (hw : (st.map fun v => v.category).sum ≤ 8) (hf : cl + mc ≤ R.cells ∧ sl + ms ≤ R.slots) (hY : Y E d ce [.ref r] z f mc ms (fun v f' => v = none ∧ X E R me QQ pc' lv st (z + mc) f' (cl + mc) (sl + ms))) : X E R me QQ pc lv (.ref r :: st) z f cl sl := by
  refine x_callI (As := []) hc hp hs hg (Y.mono hY (fun v f' h => ?_)) rfl rfl hR hw hf
  obtain ⟨rfl, h⟩ := h
  exact h
end WRAP
theorem bipush_m9 : (Int8.ofInt (-9)).toInt32 = (-9) := by decide +kernel
theorem bipush_m6 : (Int8.ofInt (-6)).toInt32 = (-6) := by decide +kernel
theorem bipush_m4 : (Int8.ofInt (-4)).toInt32 = (-4) := by decide +kernel
theorem bipush_m3 : (Int8.ofInt (-3)).toInt32 = (-3) := by decide +kernel
theorem bipush_m2 : (Int8.ofInt (-2)).toInt32 = (-2) := by decide +kernel
theorem bipush_6 : (Int8.ofInt 6).toInt32 = 6 := by decide +kernel
theorem bipush_7 : (Int8.ofInt 7).toInt32 = 7 := by decide +kernel
theorem bipush_8 : (Int8.ofInt 8).toInt32 = 8 := by decide +kernel
theorem bipush_9 : (Int8.ofInt 9).toInt32 = 9 := by decide +kernel
theorem bipush_10 : (Int8.ofInt 10).toInt32 = 10 := by decide +kernel
theorem bipush_11 : (Int8.ofInt 11).toInt32 = 11 := by decide +kernel
theorem bipush_12 : (Int8.ofInt 12).toInt32 = 12 := by decide +kernel
theorem bipush_16 : (Int8.ofInt 16).toInt32 = 16 := by decide +kernel
theorem bipush_20 : (Int8.ofInt 20).toInt32 = 20 := by decide +kernel
theorem bipush_21 : (Int8.ofInt 21).toInt32 = 21 := by decide +kernel
theorem bipush_31 : (Int8.ofInt 31).toInt32 = 31 := by decide +kernel
theorem bipush_40 : (Int8.ofInt 40).toInt32 = 40 := by decide +kernel
theorem bipush_41 : (Int8.ofInt 41).toInt32 = 41 := by decide +kernel
theorem bipush_48 : (Int8.ofInt 48).toInt32 = 48 := by decide +kernel
theorem bipush_50 : (Int8.ofInt 50).toInt32 = 50 := by decide +kernel
theorem bipush_57 : (Int8.ofInt 57).toInt32 = 57 := by decide +kernel
theorem bipush_59 : (Int8.ofInt 59).toInt32 = 59 := by decide +kernel
theorem bipush_60 : (Int8.ofInt 60).toInt32 = 60 := by decide +kernel
theorem bipush_96 : (Int8.ofInt 96).toInt32 = 96 := by decide +kernel
theorem bipush_98 : (Int8.ofInt 98).toInt32 = 98 := by decide +kernel
theorem bipush_99 : (Int8.ofInt 99).toInt32 = 99 := by decide +kernel
theorem bipush_100 : (Int8.ofInt 100).toInt32 = 100 := by decide +kernel
theorem bipush_102 : (Int8.ofInt 102).toInt32 = 102 := by decide +kernel
theorem bipush_104 : (Int8.ofInt 104).toInt32 = 104 := by decide +kernel
theorem bipush_108 : (Int8.ofInt 108).toInt32 = 108 := by decide +kernel
theorem bipush_110 : (Int8.ofInt 110).toInt32 = 110 := by decide +kernel
theorem bipush_111 : (Int8.ofInt 111).toInt32 = 111 := by decide +kernel
theorem bipush_113 : (Int8.ofInt 113).toInt32 = 113 := by decide +kernel
theorem bipush_115 : (Int8.ofInt 115).toInt32 = 115 := by decide +kernel
theorem bipush_116 : (Int8.ofInt 116).toInt32 = 116 := by decide +kernel
theorem bipush_119 : (Int8.ofInt 119).toInt32 = 119 := by decide +kernel
theorem iconst_m1 : Int32.ofInt (-1) = (-1) := by decide +kernel
theorem iconst_0 : Int32.ofInt 0 = 0 := by decide +kernel
theorem iconst_1 : Int32.ofInt 1 = 1 := by decide +kernel
theorem iconst_2 : Int32.ofInt 2 = 2 := by decide +kernel
theorem iconst_3 : Int32.ofInt 3 = 3 := by decide +kernel
theorem iconst_4 : Int32.ofInt 4 = 4 := by decide +kernel
theorem iconst_5 : Int32.ofInt 5 = 5 := by decide +kernel
theorem sipush_m2000 : (Int16.ofInt (-2000)).toInt32 = (-2000) := by decide +kernel
theorem sipush_m1000 : (Int16.ofInt (-1000)).toInt32 = (-1000) := by decide +kernel
theorem sipush_200 : (Int16.ofInt 200).toInt32 = 200 := by decide +kernel
theorem sipush_255 : (Int16.ofInt 255).toInt32 = 255 := by decide +kernel
theorem sipush_256 : (Int16.ofInt 256).toInt32 = 256 := by decide +kernel
theorem sipush_999 : (Int16.ofInt 999).toInt32 = 999 := by decide +kernel
theorem sipush_1000 : (Int16.ofInt 1000).toInt32 = 1000 := by decide +kernel
theorem sipush_1809 : (Int16.ofInt 1809).toInt32 = 1809 := by decide +kernel
theorem sipush_7381 : (Int16.ofInt 7381).toInt32 = 7381 := by decide +kernel
theorem sipush_16383 : (Int16.ofInt 16383).toInt32 = 16383 := by decide +kernel
theorem sipush_16384 : (Int16.ofInt 16384).toInt32 = 16384 := by decide +kernel
theorem lconst_0 : Int64.ofNat ((0 : Fin 2) : Nat) = 0 := by decide +kernel
theorem lconst_1 : Int64.ofNat ((1 : Fin 2) : Nat) = 1 := by decide +kernel
end
section
/-! Small facts on abstract heaps. -/
def x_fr (P : Nat → Prop) (f f' : x_H) : Prop := ∀ q, P q → f' q = f q
theorem x_fr.rf {P : Nat → Prop} {f : x_H} : x_fr P f f := fun _ _ => rfl
theorem x_fr.up {P : Nat → Prop} {f f1 f' : x_H} {k : Nat} {c : x_C} (h : x_fr P f f1) (e : f' = x_up f1 k c) (hk : ¬ P k) : x_fr P f f' := fun q hq => by
  subst e
  have hn : q ≠ k := fun e => hk (by rw [← e]; exact hq)
  exact (x_up_n f1 c hn).trans (h q hq)
theorem x_fr.trans {P : Nat → Prop} {f f1 f2 : x_H} (h1 : x_fr P f f1) (h2 : x_fr P f1 f2) : x_fr P f f2 := fun q hq => (h2 q hq).trans (h1 q hq)
theorem x_fr.mono {P Q : Nat → Prop} {f f1 : x_H} (h : x_fr P f f1) (hq : ∀ q, Q q → P q) : x_fr Q f f1 := fun q h1 => h q (hq q h1)
theorem x_o.fr {z : Nat} {f f' : x_H} {P : Nat → Prop} {r ci : Nat} {fs : List Value} (h : x_o z f r ci fs) (hf : x_fr P f f') (hr : P r) : x_o z f' r ci fs := ⟨h.1, (hf r hr).trans h.2⟩
theorem x_a.fr {z : Nat} {f f' : x_H} {P : Nat → Prop} {r : Nat} {a : vp_A} (h : x_a z f r a) (hf : x_fr P f f') (hr : P r) : x_a z f' r a := ⟨h.1, (hf r hr).trans h.2⟩
theorem x_o.s {z : Nat} {f f' : x_H} {r ci : Nat} {fs : List Value} (e : f' = x_up f r (.inr (ci, fs))) (h : r < z) : x_o z f' r ci fs := by
  subst e
  exact ⟨h, x_up_s _ _ _⟩
theorem x_a.s {z : Nat} {f f' : x_H} {r : Nat} {a : vp_A} (e : f' = x_up f r (.inl a)) (h : r < z) : x_a z f' r a := by
  subst e
  exact ⟨h, x_up_s _ _ _⟩
theorem x_o.n {z : Nat} {f f' : x_H} {r ci k : Nat} {fs : List Value} {c : x_C} (h : x_o z f r ci fs) (e : f' = x_up f k c) (hk : r ≠ k) : x_o z f' r ci fs := by
  subst e
  exact ⟨h.1, (x_up_n f c hk).trans h.2⟩
theorem x_a.n {z : Nat} {f f' : x_H} {r k : Nat} {a : vp_A} {c : x_C} (h : x_a z f r a) (e : f' = x_up f k c) (hk : r ≠ k) : x_a z f' r a := by
  subst e
  exact ⟨h.1, (x_up_n f c hk).trans h.2⟩
theorem x_o.zz {z z' : Nat} {f : x_H} {r ci : Nat} {fs : List Value} (h : x_o z f r ci fs) (hz : z ≤ z') : x_o z' f r ci fs := ⟨Nat.lt_of_lt_of_le h.1 hz, h.2⟩
theorem x_a.zz {z z' : Nat} {f : x_H} {r : Nat} {a : vp_A} (h : x_a z f r a) (hz : z ≤ z') : x_a z' f r a := ⟨Nat.lt_of_lt_of_le h.1 hz, h.2⟩
/-- an array's contents count below its length alone -/
theorem x_eqA {E : x_E} {R : Room} {me : x_M} {QQ : List Frame → Array Value → State → State → Prop} {pc : Nat} {lv : x_L} {st : List Value} {z : Nat} {f : x_H} {cl sl r n : Nat} {g g' : Nat → Int32} (ha : x_a z f r (n, .inl g)) (hg : ∀ j, j < n → g j = g' j) (k : ∀ f' : x_H, f' = x_up f r (.inl (n, .inl g')) → X E R me QQ pc lv st z f' cl sl) : X E R me QQ pc lv st z f cl sl := by
  intro p e s m args below meth c H locs ls cx hz hP hS hl
  refine k _ rfl p e s m args below meth c H locs ls cx hz ?_ hS hl
  have hcell : vp_cell (E.2.2.1 0) (n, .inl g) = vp_cell (E.2.2.1 0) (n, .inl g') := by
    rw [vp_cell_i, vp_cell_i]
    unfold arrV
    congr 1
    apply Array.ext
    · simp
    · intro i h1 h2
      simp only [Array.getElem_ofFn]
      rw [hg i (by simpa using h1)]
  intro i q hq
  have hi : i < z := by
    have := (List.getElem?_eq_some_iff.mp hq).1
    rw [x_w_len] at this
    exact this
  rw [x_w_at hi] at hq
  have hq' := Option.some.inj hq
  subst hq'
  by_cases hir : i = r
  · subst hir
    have h1 := hP i _ (x_w_at hi)
    rw [ha.2] at h1
    rw [x_up_s]
    have h2 : H[E.2.2.2.1 + i]? = some (vp_cell (E.2.2.1 0) (n, .inl g)) := h1
    show H[E.2.2.2.1 + i]? = some (vp_cell (E.2.2.1 0) (n, .inl g'))
    rw [← hcell]
    exact h2
  · rw [x_up_n f _ hir]
    exact hP i _ (x_w_at hi)
theorem x_eqL {E : x_E} {R : Room} {me : x_M} {QQ : List Frame → Array Value → State → State → Prop} {pc : Nat} {lv : x_L} {st : List Value} {z : Nat} {f : x_H} {cl sl r n : Nat} {g g' : Nat → Int64} (ha : x_a z f r (n, .inr (.inl g))) (hg : ∀ j, j < n → g j = g' j) (k : ∀ f' : x_H, f' = x_up f r (.inl (n, .inr (.inl g'))) → X E R me QQ pc lv st z f' cl sl) : X E R me QQ pc lv st z f cl sl := by
  intro p e s m args below meth c H locs ls cx hz hP hS hl
  refine k _ rfl p e s m args below meth c H locs ls cx hz ?_ hS hl
  have hcell : vp_cell (E.2.2.1 1) (n, .inr (.inl g)) = vp_cell (E.2.2.1 1) (n, .inr (.inl g')) := by
    rw [vp_cell_l, vp_cell_l]
    unfold arrV
    congr 1
    apply Array.ext
    · simp
    · intro i h1 h2
      simp only [Array.getElem_ofFn]
      rw [hg i (by simpa using h1)]
  intro i q hq
  have hi : i < z := by
    have := (List.getElem?_eq_some_iff.mp hq).1
    rw [x_w_len] at this
    exact this
  rw [x_w_at hi] at hq
  have hq' := Option.some.inj hq
  subst hq'
  by_cases hir : i = r
  · subst hir
    have h1 := hP i _ (x_w_at hi)
    rw [ha.2] at h1
    rw [x_up_s]
    have h2 : H[E.2.2.2.1 + i]? = some (vp_cell (E.2.2.1 1) (n, .inr (.inl g))) := h1
    show H[E.2.2.2.1 + i]? = some (vp_cell (E.2.2.1 1) (n, .inr (.inl g')))
    rw [← hcell]
    exact h2
  · rw [x_up_n f _ hir]
    exact hP i _ (x_w_at hi)
theorem x_up_up (f : x_H) (k : Nat) (c d : x_C) : x_up (x_up f k c) k d = x_up f k d := by
  funext j
  by_cases h : j = k <;> simp [x_up, h]
/-- a whole array into another -/
theorem x_copyW {E : x_E} {R : Room} {me : x_M} {QQ : List Frame → Array Value → State → State → Prop} {pc pc' : Nat} {lv : x_L} {st : List Value} {z : Nat} {f : x_H} {cl sl i r0 r1 n : Nat} {g0 g1 : Nat → Int32} {N : Int32} (hc : x_at me pc = some (.invokestatic i, 3)) (hp : pc + 3 = pc') (hs : Cond.methodLink me.2.2.2.2.2.1 i arraycopyName ∈ x_tb) (ha0 : x_a z f r0 (n, .inl g0)) (ha1 : x_a z f r1 (n, .inl g1)) (h3 : ¬ N < 0) (hN : N.toNatClampNeg = n)
    (hR : 1 ≤ R.frames ∧ 8 + (nativeFrameWords "java/lang/System" "arraycopy" 5 + 11) ≤ R.locals) (hw : (st.map fun v => v.category).sum ≤ 8) (k : ∀ f' : x_H, f' = x_up f r1 (.inl (n, .inl g0)) → X E R me QQ pc' lv st z f' cl sl) : X E R me QQ pc lv (.int N :: .int 0 :: .ref r1 :: .int 0 :: .ref r0 :: st) z f cl sl := by
  have h0 : (0 : Int32).toNatClampNeg = 0 := by decide
  refine x_copy hc hp hs ha0 ha1 (by decide) (by decide) h3 (by rw [h0, hN]; omega) (by rw [h0, hN]; omega) hR hw (fun f' e => ?_)
  refine x_eqA (g' := g0) (x_a.s e ha1.1) (fun j hj => ?_) (fun f2 e2 => ?_)
  · rw [h0, hN]
    rw [pk_cpy_in (by omega) (by omega)]
    congr 1
    omega
  · refine k f2 ?_
    rw [e2, e, x_up_up]
theorem x_tab_out {x : Int32} {lo hi : Int} (h : ∀ k : Int, lo ≤ k → k ≤ hi → x ≠ Int32.ofInt k) : x.toInt < lo ∨ hi < x.toInt := by
  by_cases h1 : x.toInt < lo
  · exact Or.inl h1
  · by_cases h2 : hi < x.toInt
    · exact Or.inr h2
    · exact absurd (Int32.ofInt_toInt x).symm (h x.toInt (by omega) (by omega))
theorem i32_ne (x : Int32) {a b : Int} (h : ∀ k : Int, a ≤ k → k ≤ b → x ≠ Int32.ofInt k) : x.toInt < a ∨ b < x.toInt := x_tab_out h
/-- the variables in another order, or fewer -/
theorem x_lvp {E : x_E} {R : Room} {me : x_M} {QQ : List Frame → Array Value → State → State → Prop} {pc : Nat} {lv lv' : x_L} {st : List Value} {z : Nat} {f : x_H} {cl sl : Nat} (ks : List Nat) (h : lv_pick lv ks = lv') (k : X E R me QQ pc lv' st z f cl sl) : X E R me QQ pc lv st z f cl sl := by
  intro p e s m args below meth c H locs ls cx hz hP hS hl
  refine k p e s m args below meth c H locs ls cx hz hP hS ⟨hl.1, hl.2.1, fun q hq => hl.2.2 q ?_⟩
  subst h
  obtain ⟨a, ha, rfl⟩ := List.mem_map.mp hq
  obtain ⟨i, -, hi⟩ := List.mem_filterMap.mp ha
  exact List.mem_map.mpr ⟨a, List.mem_of_getElem? hi, rfl⟩
end
section
/-! The class's Table: its cells, its methods. -/
/-- kinds, beans, purses, numbers (0 held, 1 fullness, 2 lent, 3 turn, 4 moves, 5 hands, 6 last, 7 sown, 8 taken) -/
abbrev x_T : Type := (Nat → Int32) × (Nat → Int32) × (Nat → Int32) × (Nat → Int32)
def x_tF (t : Nat) (s : Nat → Int32) : List Value := [.ref (t + 1), .ref (t + 2), .ref (t + 3), .int (s 0), .int (s 1), .int (s 2), .int (s 3), .int (s 4), .int (s 5), .int (s 6), .int (s 7), .int (s 8)]
def x_t (z : Nat) (f : x_H) (t : Nat) (T : x_T) : Prop := x_o z f t 3 (x_tF t T.2.2.2) ∧ x_a z f (t + 1) (9, .inl T.1) ∧ x_a z f (t + 2) (9, .inl T.2.1) ∧ x_a z f (t + 3) (2, .inl T.2.2.1)
abbrev t_has (T : x_T) (b : Int32) : Prop := ¬ b < 0 ∧ b < T.2.2.2 0 ∧ b < 9
theorem vp_in_9 {b : Int32} (h0 : ¬ b < 0) (h9 : b < 9) : vp_in b 9 := by
  have h1 : (9 : Int32).toInt = 9 := by decide
  have h2 : (0 : Int32).toInt = 0 := by decide
  rw [vp_in_iff]
  rw [Int32.lt_iff_toInt_lt] at h0 h9
  omega
theorem x_t.fr {z : Nat} {f f' : x_H} {t : Nat} {T : x_T} {P : Nat → Prop} (h : x_t z f t T) (hf : x_fr P f f') (hp : ∀ i, i < 4 → P (t + i)) : x_t z f' t T := ⟨h.1.fr hf (hp 0 (by decide)), h.2.1.fr hf (hp 1 (by decide)), h.2.2.1.fr hf (hp 2 (by decide)), h.2.2.2.fr hf (hp 3 (by decide))⟩
theorem x_t.zz {z z' : Nat} {f : x_H} {t : Nat} {T : x_T} (h : x_t z f t T) (hz : z ≤ z') : x_t z' f t T := ⟨h.1.zz hz, h.2.1.zz hz, h.2.2.1.zz hz, h.2.2.2.zz hz⟩
theorem x_t.n {z : Nat} {f f' : x_H} {t k : Nat} {T : x_T} {c : x_C} (h : x_t z f t T) (e : f' = x_up f k c) (hk : k < t ∨ t + 4 ≤ k) : x_t z f' t T := ⟨h.1.n e (by omega), h.2.1.n e (by omega), h.2.2.1.n e (by omega), h.2.2.2.n e (by omega)⟩
/-- outside a table -/
abbrev x_ot (t : Nat) : Nat → Prop := fun q => q < t ∨ t + 4 ≤ q
def x_T0 : x_T := (fun _ => 0, fun _ => 0, fun _ => 0, fun i => if i = 1 then 4 else if i = 6 then (-9) else 0)
def x_cp (T U : x_T) : x_T := (U.1, U.2.1, U.2.2.1, fun i => if i < 5 then U.2.2.2 i else T.2.2.2 i)
section TABLE
variable {E : x_E} {z : Nat} {f : x_H} {t : Nat} {T : x_T} {post : Option Value → x_H → Prop}
theorem w_has {b : Int32} (hT : x_t z f t T) (h1 : t_has T b → post (some (.int 1)) f) (h0 : ¬ t_has T b → post (some (.int 0)) f) : Y E 1 mX3_has [.ref t, .int b] z f 0 0 post := by
  refine Y.intro gX3_has (lv := [(0, .ref t), (1, .int b)]) rfl (Nat.le_of_ble_eq_true rfl) ?_
  obtain ⟨hO, hk, hb, hp⟩ := hT
  refine x_iload_n (pc' := 1) rfl rfl rfl ?_
  refine x_if_lt (tgt := 22) (pc' := 4) rfl rfl rfl (fun c1 => ?_) (fun c1 => ?_)
  · refine x_iconst (pc' := 23) rfl rfl iconst_0 ?_
    exact x_ireturn rfl rfl rfl (Nat.le_of_ble_eq_true rfl) (Nat.le_of_ble_eq_true rfl) (h0 (fun q => q.1 c1))
  · refine x_iload_n (pc' := 5) rfl rfl rfl ?_
    refine x_aload_n (pc' := 6) rfl rfl rfl ?_
    refine x_get (pc' := 9) rfl rfl rfl (hO) rfl ?_
    refine x_icmp_ge (tgt := 22) (pc' := 12) rfl rfl rfl (fun c9 => ?_) (fun c9 => ?_)
    · refine x_iconst (pc' := 23) rfl rfl iconst_0 ?_
      exact x_ireturn rfl rfl rfl (Nat.le_of_ble_eq_true rfl) (Nat.le_of_ble_eq_true rfl) (h0 (fun q => Int32.not_lt.mpr c9 q.2.1))
    · refine x_iload_n (pc' := 13) rfl rfl rfl ?_
      refine x_bipush (pc' := 15) rfl rfl bipush_9 ?_
      refine x_icmp_ge (tgt := 22) (pc' := 18) rfl rfl rfl (fun c15 => ?_) (fun c15 => ?_)
      · refine x_iconst (pc' := 23) rfl rfl iconst_0 ?_
        exact x_ireturn rfl rfl rfl (Nat.le_of_ble_eq_true rfl) (Nat.le_of_ble_eq_true rfl) (h0 (fun q => Int32.not_lt.mpr c15 q.2.2))
      · refine x_iconst (pc' := 19) rfl rfl iconst_1 ?_
        refine x_goto (tgt := 23) rfl rfl ?_
        exact x_ireturn rfl rfl rfl (Nat.le_of_ble_eq_true rfl) (Nat.le_of_ble_eq_true rfl) (h1 ⟨c1, Int32.not_le.mp c9, Int32.not_le.mp c15⟩)
theorem w_canMove {b : Int32} (hT : x_t z f t T) (h1 : (2 : Int32) ≤ T.2.2.2 0 ∧ t_has T b ∧ 0 < T.2.1 b.toNatClampNeg → post (some (.int 1)) f) (h0 : ¬ ((2 : Int32) ≤ T.2.2.2 0 ∧ t_has T b ∧ 0 < T.2.1 b.toNatClampNeg) → post (some (.int 0)) f) : Y E 2 mX3_canMove [.ref t, .int b] z f 0 0 post := by
  refine Y.intro gX3_canMove (lv := [(0, .ref t), (1, .int b)]) rfl (Nat.le_of_ble_eq_true rfl) ?_
  obtain ⟨hO, hk, hb, hp⟩ := id hT
  refine x_aload_n (pc' := 1) rfl rfl rfl ?_
  refine x_get (pc' := 4) rfl rfl rfl (hO) rfl ?_
  refine x_iconst (pc' := 5) rfl rfl iconst_2 ?_
  refine x_icmp_lt (tgt := 29) (pc' := 8) rfl rfl rfl (fun c5 => ?_) (fun c5 => ?_)
  · refine x_iconst (pc' := 30) rfl rfl iconst_0 ?_
    exact x_ireturn rfl rfl rfl (Nat.le_of_ble_eq_true rfl) (Nat.le_of_ble_eq_true rfl) (h0 (fun q => Int32.not_le.mpr c5 q.1))
  · refine x_aload_n (pc' := 9) rfl rfl rfl ?_
    refine x_iload_n (pc' := 10) rfl rfl rfl ?_
    refine x_cV1i (d := 1) (pc' := 13) rfl rfl sX3_55 gX3_has (hO) ⟨Nat.le_of_ble_eq_true rfl, Nat.le_of_ble_eq_true rfl⟩ (Nat.le_of_ble_eq_true rfl) ⟨Nat.le_of_ble_eq_true rfl, Nat.le_of_ble_eq_true rfl⟩ ?_
    refine w_has hT (fun g => ⟨_, rfl, ?_⟩) (fun g => ⟨_, rfl, ?_⟩)
    · refine x_if_eq (tgt := 29) (pc' := 16) rfl rfl rfl (fun c13 => absurd c13 (by decide)) (fun _ => ?_)
      refine x_aload_n (pc' := 17) rfl rfl rfl ?_
      refine x_get (pc' := 20) rfl rfl rfl (hO) rfl ?_
      refine x_iload_n (pc' := 21) rfl rfl rfl ?_
      refine x_iaload (pc' := 22) rfl rfl (hb) (vp_in_9 g.1 g.2.2) ?_
      refine x_if_le (tgt := 29) (pc' := 25) rfl rfl rfl (fun c22 => ?_) (fun c22 => ?_)
      · refine x_iconst (pc' := 30) rfl rfl iconst_0 ?_
        exact x_ireturn rfl rfl rfl (Nat.le_of_ble_eq_true rfl) (Nat.le_of_ble_eq_true rfl) (h0 (fun q => Int32.not_lt.mpr c22 q.2.2))
      · refine x_iconst (pc' := 26) rfl rfl iconst_1 ?_
        refine x_goto (tgt := 30) rfl rfl ?_
        exact x_ireturn rfl rfl rfl (Nat.le_of_ble_eq_true rfl) (Nat.le_of_ble_eq_true rfl) (h1 ⟨Int32.not_lt.mp c5, g, Int32.not_le.mp c22⟩)
    · refine x_if_eq (tgt := 29) (pc' := 16) rfl rfl rfl (fun _ => ?_) (fun c13 => absurd (by decide) c13)
      refine x_iconst (pc' := 30) rfl rfl iconst_0 ?_
      exact x_ireturn rfl rfl rfl (Nat.le_of_ble_eq_true rfl) (Nat.le_of_ble_eq_true rfl) (h0 (fun q => g q.2.1))
theorem w_tInit (hO : x_o (t + 1) f t 3 [.null, .null, .null, .int 0, .int 0, .int 0, .int 0, .int 0, .int 0, .int 0, .int 0, .int 0]) (h : ∀ f' : x_H, x_t (t + 4) f' t x_T0 → x_fr (fun q => q < t) f f' → post none f') : Y E 1 mX3_init [.ref t] (t + 1) f 3 20 post := by
  refine Y.intro gX3_init (lv := [(0, .ref t)]) rfl (Nat.le_of_ble_eq_true rfl) ?_
  have hF : x_fr (fun q => q < t) f f := x_fr.rf
  refine x_aload_n (pc' := 1) rfl rfl rfl ?_
  refine x_obj (pc' := 4) rfl rfl sX3_3 ⟨Nat.le_of_ble_eq_true rfl, Nat.le_of_ble_eq_true rfl⟩ (Nat.le_of_ble_eq_true rfl) ?_
  refine x_aload_n (pc' := 5) rfl rfl rfl ?_
  refine x_bipush (pc' := 7) rfl rfl bipush_9 ?_
  refine x_newarrayI (pc' := 9) (N := 9) rfl rfl (by decide) (by decide) (by decide) (Nat.le_of_ble_eq_true rfl) (Nat.le_of_ble_eq_true rfl) (fun f1 e1 => ?_)
  have hO := (hO.zz (Nat.le_succ _)).n e1 (by omega)
  have hF := hF.up e1 (Nat.not_lt.mpr (by omega))
  have hk := x_a.s e1 (Nat.lt_succ_self _)
  clear e1
  refine x_putF (pc' := 12) rfl rfl rfl (hO) (Nat.le_of_ble_eq_true rfl) rfl rfl rfl rfl rfl rfl (fun f2 e2 => ?_)
  have hO := x_o.s e2 hO.1
  have hF := hF.up e2 (Nat.lt_irrefl _)
  have hk := hk.n e2 (by omega)
  clear e2
  refine x_aload_n (pc' := 13) rfl rfl rfl ?_
  refine x_bipush (pc' := 15) rfl rfl bipush_9 ?_
  refine x_newarrayI (pc' := 17) (N := 9) rfl rfl (by decide) (by decide) (by decide) (Nat.le_of_ble_eq_true rfl) (Nat.le_of_ble_eq_true rfl) (fun f3 e3 => ?_)
  have hO := (hO.zz (Nat.le_succ _)).n e3 (by omega)
  have hF := hF.up e3 (Nat.not_lt.mpr (by omega))
  have hk := (hk.zz (Nat.le_succ _)).n e3 (by omega)
  have hb := x_a.s e3 (Nat.lt_succ_self _)
  clear e3
  refine x_putF (pc' := 20) rfl rfl rfl (hO) (Nat.le_of_ble_eq_true rfl) rfl rfl rfl rfl rfl rfl (fun f4 e4 => ?_)
  have hO := x_o.s e4 hO.1
  have hF := hF.up e4 (Nat.lt_irrefl _)
  have hk := hk.n e4 (by omega)
  have hb := hb.n e4 (by omega)
  clear e4
  refine x_aload_n (pc' := 21) rfl rfl rfl ?_
  refine x_iconst (pc' := 22) rfl rfl iconst_2 ?_
  refine x_newarrayI (pc' := 24) (N := 2) rfl rfl (by decide) (by decide) (by decide) (Nat.le_of_ble_eq_true rfl) (Nat.le_of_ble_eq_true rfl) (fun f5 e5 => ?_)
  have hO := (hO.zz (Nat.le_succ _)).n e5 (by omega)
  have hF := hF.up e5 (Nat.not_lt.mpr (by omega))
  have hk := (hk.zz (Nat.le_succ _)).n e5 (by omega)
  have hb := (hb.zz (Nat.le_succ _)).n e5 (by omega)
  have hp := x_a.s e5 (Nat.lt_succ_self _)
  clear e5
  refine x_putF (pc' := 27) rfl rfl rfl (hO) (Nat.le_of_ble_eq_true rfl) rfl rfl rfl rfl rfl rfl (fun f6 e6 => ?_)
  have hO := x_o.s e6 hO.1
  have hF := hF.up e6 (Nat.lt_irrefl _)
  have hk := hk.n e6 (by omega)
  have hb := hb.n e6 (by omega)
  have hp := hp.n e6 (by omega)
  clear e6
  refine x_aload_n (pc' := 28) rfl rfl rfl ?_
  refine x_iconst (pc' := 29) rfl rfl iconst_0 ?_
  refine x_put (pc' := 32) rfl rfl rfl (hO) (Nat.le_of_ble_eq_true rfl) rfl rfl rfl rfl (fun f7 e7 => ?_)
  have hO := x_o.s e7 hO.1
  have hF := hF.up e7 (Nat.lt_irrefl _)
  have hk := hk.n e7 (by omega)
  have hb := hb.n e7 (by omega)
  have hp := hp.n e7 (by omega)
  clear e7
  refine x_aload_n (pc' := 33) rfl rfl rfl ?_
  refine x_iconst (pc' := 34) rfl rfl iconst_4 ?_
  refine x_put (pc' := 37) rfl rfl rfl (hO) (Nat.le_of_ble_eq_true rfl) rfl rfl rfl rfl (fun f8 e8 => ?_)
  have hO := x_o.s e8 hO.1
  have hF := hF.up e8 (Nat.lt_irrefl _)
  have hk := hk.n e8 (by omega)
  have hb := hb.n e8 (by omega)
  have hp := hp.n e8 (by omega)
  clear e8
  refine x_aload_n (pc' := 38) rfl rfl rfl ?_
  refine x_iconst (pc' := 39) rfl rfl iconst_0 ?_
  refine x_put (pc' := 42) rfl rfl rfl (hO) (Nat.le_of_ble_eq_true rfl) rfl rfl rfl rfl (fun f9 e9 => ?_)
  have hO := x_o.s e9 hO.1
  have hF := hF.up e9 (Nat.lt_irrefl _)
  have hk := hk.n e9 (by omega)
  have hb := hb.n e9 (by omega)
  have hp := hp.n e9 (by omega)
  clear e9
  refine x_aload_n (pc' := 43) rfl rfl rfl ?_
  refine x_iconst (pc' := 44) rfl rfl iconst_0 ?_
  refine x_put (pc' := 47) rfl rfl rfl (hO) (Nat.le_of_ble_eq_true rfl) rfl rfl rfl rfl (fun f10 e10 => ?_)
  have hO := x_o.s e10 hO.1
  have hF := hF.up e10 (Nat.lt_irrefl _)
  have hk := hk.n e10 (by omega)
  have hb := hb.n e10 (by omega)
  have hp := hp.n e10 (by omega)
  clear e10
  refine x_aload_n (pc' := 48) rfl rfl rfl ?_
  refine x_iconst (pc' := 49) rfl rfl iconst_0 ?_
  refine x_put (pc' := 52) rfl rfl rfl (hO) (Nat.le_of_ble_eq_true rfl) rfl rfl rfl rfl (fun f11 e11 => ?_)
  have hO := x_o.s e11 hO.1
  have hF := hF.up e11 (Nat.lt_irrefl _)
  have hk := hk.n e11 (by omega)
  have hb := hb.n e11 (by omega)
  have hp := hp.n e11 (by omega)
  clear e11
  refine x_aload_n (pc' := 53) rfl rfl rfl ?_
  refine x_iconst (pc' := 54) rfl rfl iconst_0 ?_
  refine x_put (pc' := 57) rfl rfl rfl (hO) (Nat.le_of_ble_eq_true rfl) rfl rfl rfl rfl (fun f12 e12 => ?_)
  have hO := x_o.s e12 hO.1
  have hF := hF.up e12 (Nat.lt_irrefl _)
  have hk := hk.n e12 (by omega)
  have hb := hb.n e12 (by omega)
  have hp := hp.n e12 (by omega)
  clear e12
  refine x_aload_n (pc' := 58) rfl rfl rfl ?_
  refine x_bipush (pc' := 60) rfl rfl bipush_m9 ?_
  refine x_put (pc' := 63) rfl rfl rfl (hO) (Nat.le_of_ble_eq_true rfl) rfl rfl rfl rfl (fun f13 e13 => ?_)
  have hO := x_o.s e13 hO.1
  have hF := hF.up e13 (Nat.lt_irrefl _)
  have hk := hk.n e13 (by omega)
  have hb := hb.n e13 (by omega)
  have hp := hp.n e13 (by omega)
  clear e13
  refine x_aload_n (pc' := 64) rfl rfl rfl ?_
  refine x_iconst (pc' := 65) rfl rfl iconst_0 ?_
  refine x_put (pc' := 68) rfl rfl rfl (hO) (Nat.le_of_ble_eq_true rfl) rfl rfl rfl rfl (fun f14 e14 => ?_)
  have hO := x_o.s e14 hO.1
  have hF := hF.up e14 (Nat.lt_irrefl _)
  have hk := hk.n e14 (by omega)
  have hb := hb.n e14 (by omega)
  have hp := hp.n e14 (by omega)
  clear e14
  refine x_aload_n (pc' := 69) rfl rfl rfl ?_
  refine x_iconst (pc' := 70) rfl rfl iconst_0 ?_
  refine x_put (pc' := 73) rfl rfl rfl (hO) (Nat.le_of_ble_eq_true rfl) rfl rfl rfl rfl (fun f15 e15 => ?_)
  have hO := x_o.s e15 hO.1
  have hF := hF.up e15 (Nat.lt_irrefl _)
  have hk := hk.n e15 (by omega)
  have hb := hb.n e15 (by omega)
  have hp := hp.n e15 (by omega)
  clear e15
  exact x_return rfl rfl (Nat.le_of_ble_eq_true rfl) (Nat.le_of_ble_eq_true rfl) (h _ ⟨hO, hk, hb, hp⟩ hF)
theorem w_copyFrom {u : Nat} {U : x_T} (hT : x_t z f t T) (hU : x_t z f u U) (hd : t + 4 ≤ u ∨ u + 4 ≤ t) (h : ∀ f' : x_H, x_t z f' t (x_cp T U) → x_fr (x_ot t) f f' → post none f') : Y E 1 mX3_copyFrom [.ref t, .ref u] z f 0 0 post := by
  refine Y.intro gX3_copyFrom (lv := [(0, .ref t), (1, .ref u)]) rfl (Nat.le_of_ble_eq_true rfl) ?_
  obtain ⟨hO, hk, hb, hp⟩ := hT
  have hF : x_fr (x_ot t) f f := x_fr.rf
  have gU := hU
  refine x_aload_n (pc' := 1) rfl rfl rfl ?_
  refine x_ifnonnull (tgt := 5) rfl rfl ?_
  refine x_aload_n (pc' := 6) rfl rfl rfl ?_
  refine x_get (pc' := 9) rfl rfl rfl (gU.1) rfl ?_
  refine x_iconst (pc' := 10) rfl rfl iconst_0 ?_
  refine x_aload_n (pc' := 11) rfl rfl rfl ?_
  refine x_get (pc' := 14) rfl rfl rfl (hO) rfl ?_
  refine x_iconst (pc' := 15) rfl rfl iconst_0 ?_
  refine x_bipush (pc' := 17) rfl rfl bipush_9 ?_
  refine x_copyW (pc' := 20) rfl rfl sX3_49 (gU.2.1) (hk) (by decide) (by decide) ⟨Nat.le_of_ble_eq_true rfl, Nat.le_of_ble_eq_true rfl⟩ (Nat.le_of_ble_eq_true rfl) (fun f1 e1 => ?_)
  have hO := hO.n e1 (by omega)
  have hb := hb.n e1 (by omega)
  have hp := hp.n e1 (by omega)
  have hk := x_a.s e1 hk.1
  have gU := gU.n e1 (by omega)
  have hF := hF.up e1 (by unfold x_ot; omega)
  clear e1
  refine x_aload_n (pc' := 21) rfl rfl rfl ?_
  refine x_get (pc' := 24) rfl rfl rfl (gU.1) rfl ?_
  refine x_iconst (pc' := 25) rfl rfl iconst_0 ?_
  refine x_aload_n (pc' := 26) rfl rfl rfl ?_
  refine x_get (pc' := 29) rfl rfl rfl (hO) rfl ?_
  refine x_iconst (pc' := 30) rfl rfl iconst_0 ?_
  refine x_bipush (pc' := 32) rfl rfl bipush_9 ?_
  refine x_copyW (pc' := 35) rfl rfl sX3_49 (gU.2.2.1) (hb) (by decide) (by decide) ⟨Nat.le_of_ble_eq_true rfl, Nat.le_of_ble_eq_true rfl⟩ (Nat.le_of_ble_eq_true rfl) (fun f2 e2 => ?_)
  have hO := hO.n e2 (by omega)
  have hb := x_a.s e2 hb.1
  have hp := hp.n e2 (by omega)
  have hk := hk.n e2 (by omega)
  have gU := gU.n e2 (by omega)
  have hF := hF.up e2 (by unfold x_ot; omega)
  clear e2
  refine x_aload_n (pc' := 36) rfl rfl rfl ?_
  refine x_get (pc' := 39) rfl rfl rfl (gU.1) rfl ?_
  refine x_iconst (pc' := 40) rfl rfl iconst_0 ?_
  refine x_aload_n (pc' := 41) rfl rfl rfl ?_
  refine x_get (pc' := 44) rfl rfl rfl (hO) rfl ?_
  refine x_iconst (pc' := 45) rfl rfl iconst_0 ?_
  refine x_iconst (pc' := 46) rfl rfl iconst_2 ?_
  refine x_copyW (pc' := 49) rfl rfl sX3_49 (gU.2.2.2) (hp) (by decide) (by decide) ⟨Nat.le_of_ble_eq_true rfl, Nat.le_of_ble_eq_true rfl⟩ (Nat.le_of_ble_eq_true rfl) (fun f3 e3 => ?_)
  have hO := hO.n e3 (by omega)
  have hb := hb.n e3 (by omega)
  have hp := x_a.s e3 hp.1
  have hk := hk.n e3 (by omega)
  have gU := gU.n e3 (by omega)
  have hF := hF.up e3 (by unfold x_ot; omega)
  clear e3
  refine x_aload_n (pc' := 50) rfl rfl rfl ?_
  refine x_aload_n (pc' := 51) rfl rfl rfl ?_
  refine x_get (pc' := 54) rfl rfl rfl (gU.1) rfl ?_
  refine x_put (pc' := 57) rfl rfl rfl (hO) (Nat.le_of_ble_eq_true rfl) rfl rfl rfl rfl (fun f4 e4 => ?_)
  have hO := x_o.s e4 hO.1
  have hF := hF.up e4 (by unfold x_ot; omega)
  have hk := hk.n e4 (by omega)
  have hb := hb.n e4 (by omega)
  have hp := hp.n e4 (by omega)
  have gU := gU.n e4 (by omega)
  clear e4
  refine x_aload_n (pc' := 58) rfl rfl rfl ?_
  refine x_aload_n (pc' := 59) rfl rfl rfl ?_
  refine x_get (pc' := 62) rfl rfl rfl (gU.1) rfl ?_
  refine x_put (pc' := 65) rfl rfl rfl (hO) (Nat.le_of_ble_eq_true rfl) rfl rfl rfl rfl (fun f5 e5 => ?_)
  have hO := x_o.s e5 hO.1
  have hF := hF.up e5 (by unfold x_ot; omega)
  have hk := hk.n e5 (by omega)
  have hb := hb.n e5 (by omega)
  have hp := hp.n e5 (by omega)
  have gU := gU.n e5 (by omega)
  clear e5
  refine x_aload_n (pc' := 66) rfl rfl rfl ?_
  refine x_aload_n (pc' := 67) rfl rfl rfl ?_
  refine x_get (pc' := 70) rfl rfl rfl (gU.1) rfl ?_
  refine x_put (pc' := 73) rfl rfl rfl (hO) (Nat.le_of_ble_eq_true rfl) rfl rfl rfl rfl (fun f6 e6 => ?_)
  have hO := x_o.s e6 hO.1
  have hF := hF.up e6 (by unfold x_ot; omega)
  have hk := hk.n e6 (by omega)
  have hb := hb.n e6 (by omega)
  have hp := hp.n e6 (by omega)
  have gU := gU.n e6 (by omega)
  clear e6
  refine x_aload_n (pc' := 74) rfl rfl rfl ?_
  refine x_aload_n (pc' := 75) rfl rfl rfl ?_
  refine x_get (pc' := 78) rfl rfl rfl (gU.1) rfl ?_
  refine x_put (pc' := 81) rfl rfl rfl (hO) (Nat.le_of_ble_eq_true rfl) rfl rfl rfl rfl (fun f7 e7 => ?_)
  have hO := x_o.s e7 hO.1
  have hF := hF.up e7 (by unfold x_ot; omega)
  have hk := hk.n e7 (by omega)
  have hb := hb.n e7 (by omega)
  have hp := hp.n e7 (by omega)
  have gU := gU.n e7 (by omega)
  clear e7
  refine x_aload_n (pc' := 82) rfl rfl rfl ?_
  refine x_aload_n (pc' := 83) rfl rfl rfl ?_
  refine x_get (pc' := 86) rfl rfl rfl (gU.1) rfl ?_
  refine x_put (pc' := 89) rfl rfl rfl (hO) (Nat.le_of_ble_eq_true rfl) rfl rfl rfl rfl (fun f8 e8 => ?_)
  have hO := x_o.s e8 hO.1
  have hF := hF.up e8 (by unfold x_ot; omega)
  have hk := hk.n e8 (by omega)
  have hb := hb.n e8 (by omega)
  have hp := hp.n e8 (by omega)
  have gU := gU.n e8 (by omega)
  clear e8
  exact x_return rfl rfl (Nat.le_of_ble_eq_true rfl) (Nat.le_of_ble_eq_true rfl) (h _ ⟨hO, hk, hb, hp⟩ hF)
end TABLE
end
section
/-! The system's cells, the reference's cells; constructors. -/
/-- numbers (0 hasPicture, 1 toldHeld, 2 letters held, 3 rings held, 4 moves, 5 first), tables (0 now, 1 pictured, 2 trial, 3 second, 4 from, 5 to, 6 .. 10 line), int arrays (0 letters, 1 chosen, 2 firsts, 3 slots, 4 asked, 5 told, 6 refused), long arrays (0 rings, 1 ways) -/
abbrev x_S : Type := (Nat → Int32) × (Nat → x_T) × (Nat → Nat → Int32) × (Nat → Nat → Int64)
def x_tp (i : Nat) : Nat := [1, 5, 9, 13, 46, 50, 22, 26, 30, 34, 38].getD i 0
def x_ap (i : Nat) : Nat := [18, 21, 44, 45, 56, 57, 58].getD i 0
def x_an (i : Nat) : Nat := [96, 5, 7381, 16384, 12, 12, 7].getD i 0
def x_lp (i : Nat) : Nat := [43, 55].getD i 0
def x_ln (i : Nat) : Nat := [7381, 41].getD i 0
def x_line : Nat → Option Nat := fun i => if i < 5 then some (22 + 4 * i) else none
def x_oF (n : Nat → Int32) : List Value := [.ref 1, .ref 5, .int (n 0), .ref 9, .ref 13, .ref 17, .ref 19, .ref 42, .ref 54, .ref 57, .int (n 1), .ref 58]
def x_eF (n : Nat → Int32) : List Value := [.ref 43, .ref 44, .ref 45, .ref 46, .ref 50, .int (n 3), .int (n 4), .int (n 5)]
def x_Sys (z : Nat) (f : x_H) (S : x_S) : Prop :=
  x_o z f 0 5 (x_oF S.1) ∧ (∀ i, i < 11 → x_t z f (x_tp i) (S.2.1 i)) ∧ (∀ i, i < 7 → x_a z f (x_ap i) (x_an i, .inl (S.2.2.1 i))) ∧ (∀ i, i < 2 → x_a z f (x_lp i) (x_ln i, .inr (.inl (S.2.2.2 i)))) ∧
  x_o z f 17 2 [.ref 18, .int (S.1 2)] ∧ x_o z f 19 0 [.ref 20, .ref 21] ∧ x_a z f 20 (5, .inr (.inr (.inr (.inr x_line)))) ∧ x_o z f 42 1 (x_eF S.1) ∧ x_o z f 54 4 [.ref 55, .ref 56]
def x_S0 : x_S := (fun i => if i = 4 then (-9) else if i = 5 then (-9) else 0, fun _ => x_T0, fun _ _ => 0, fun _ _ => 0)
/-- the reference: numbers by slot, int arrays (0 kinds, 1 beans, 2 purses, 3 refused, 4 letters, 5 rowNow, 6 frames, 7 kindsAside, 8 been, 9 framesKept, 10 kindsKept), long arrays (0 ways, 1 waysThen) -/
abbrev x_N : Type := (Nat → Int32) × (Nat → Nat → Int32) × (Nat → Nat → Int64)
def x_mp (i : Nat) : Nat := [60, 61, 62, 63, 64, 65, 66, 67, 68, 71, 72].getD i 0
def x_mn (i : Nat) : Nat := [9, 9, 2, 6, 96, 12, 96, 9, 1809, 12, 9].getD i 0
def x_mF (n : Nat → Int32) : List Value := [.int (n 0), .ref 60, .ref 61, .int (n 3), .int (n 4), .int (n 5), .ref 62, .int (n 7), .int (n 8), .ref 63, .ref 64, .int (n 11), .ref 65, .int (n 13), .int (n 14), .int (n 15), .int (n 16), .int (n 17), .int (n 18), .ref 66, .int (n 20), .ref 67, .int (n 22), .ref 68, .ref 69, .ref 70, .ref 71, .ref 72, .int (n 28), .int (n 29), .int (n 30), .int (n 31)]
def x_Mdl (z : Nat) (f : x_H) (M : x_N) : Prop := x_o z f 59 6 (x_mF M.1) ∧ (∀ i, i < 11 → x_a z f (x_mp i) (x_mn i, .inl (M.2.1 i))) ∧ (∀ i, i < 2 → x_a z f (69 + i) (41, .inr (.inl (M.2.2 i))))
def x_M0 : x_N := (fun i => if i = 4 then 4 else if i = 28 then (-1) else 0, fun _ _ => 0, fun _ _ => 0)
theorem dfX3 : ∀ j, j < 12 → defaultValue (x_ty 3 j) = vp_V [.null, .null, .null, .int 0, .int 0, .int 0, .int 0, .int 0, .int 0, .int 0, .int 0, .int 0] j := by
  intro j hj
  rcases (show j = 0 ∨ j = 1 ∨ j = 2 ∨ j = 3 ∨ j = 4 ∨ j = 5 ∨ j = 6 ∨ j = 7 ∨ j = 8 ∨ j = 9 ∨ j = 10 ∨ j = 11 by omega) with rfl | rfl | rfl | rfl | rfl | rfl | rfl | rfl | rfl | rfl | rfl | rfl <;> rfl
theorem dfX1 : ∀ j, j < 8 → defaultValue (x_ty 1 j) = vp_V [.null, .null, .null, .null, .null, .int 0, .int 0, .int 0] j := by
  intro j hj
  rcases (show j = 0 ∨ j = 1 ∨ j = 2 ∨ j = 3 ∨ j = 4 ∨ j = 5 ∨ j = 6 ∨ j = 7 by omega) with rfl | rfl | rfl | rfl | rfl | rfl | rfl | rfl <;> rfl
theorem dfX2 : ∀ j, j < 2 → defaultValue (x_ty 2 j) = vp_V [.null, .int 0] j := by
  intro j hj
  rcases (show j = 0 ∨ j = 1 by omega) with rfl | rfl <;> rfl
theorem dfX0 : ∀ j, j < 2 → defaultValue (x_ty 0 j) = vp_V [.null, .null] j := by
  intro j hj
  rcases (show j = 0 ∨ j = 1 by omega) with rfl | rfl <;> rfl
theorem dfX4 : ∀ j, j < 2 → defaultValue (x_ty 4 j) = vp_V [.null, .null] j := by
  intro j hj
  rcases (show j = 0 ∨ j = 1 by omega) with rfl | rfl <;> rfl
theorem dfX5 : ∀ j, j < 12 → defaultValue (x_ty 5 j) = vp_V [.null, .null, .int 0, .null, .null, .null, .null, .null, .null, .null, .int 0, .null] j := by
  intro j hj
  rcases (show j = 0 ∨ j = 1 ∨ j = 2 ∨ j = 3 ∨ j = 4 ∨ j = 5 ∨ j = 6 ∨ j = 7 ∨ j = 8 ∨ j = 9 ∨ j = 10 ∨ j = 11 by omega) with rfl | rfl | rfl | rfl | rfl | rfl | rfl | rfl | rfl | rfl | rfl | rfl <;> rfl
theorem dfX6 : ∀ j, j < 32 → defaultValue (x_ty 6 j) = vp_V [.int 0, .null, .null, .int 0, .int 0, .int 0, .null, .int 0, .int 0, .null, .null, .int 0, .null, .int 0, .int 0, .int 0, .int 0, .int 0, .int 0, .null, .int 0, .null, .int 0, .null, .null, .null, .null, .null, .int 0, .int 0, .int 0, .int 0] j := by
  intro j hj
  rcases (show j = 0 ∨ j = 1 ∨ j = 2 ∨ j = 3 ∨ j = 4 ∨ j = 5 ∨ j = 6 ∨ j = 7 ∨ j = 8 ∨ j = 9 ∨ j = 10 ∨ j = 11 ∨ j = 12 ∨ j = 13 ∨ j = 14 ∨ j = 15 ∨ j = 16 ∨ j = 17 ∨ j = 18 ∨ j = 19 ∨ j = 20 ∨ j = 21 ∨ j = 22 ∨ j = 23 ∨ j = 24 ∨ j = 25 ∨ j = 26 ∨ j = 27 ∨ j = 28 ∨ j = 29 ∨ j = 30 ∨ j = 31 by omega) with rfl | rfl | rfl | rfl | rfl | rfl | rfl | rfl | rfl | rfl | rfl | rfl | rfl | rfl | rfl | rfl | rfl | rfl | rfl | rfl | rfl | rfl | rfl | rfl | rfl | rfl | rfl | rfl | rfl | rfl | rfl | rfl <;> rfl
theorem x_line_eq : (va_up (va_up (va_up (va_up (va_up (fun _ => none) (Int32.toNatClampNeg 0) (some 22)) (Int32.toNatClampNeg (0 + Int32.ofInt 1)) (some 26)) (Int32.toNatClampNeg (0 + Int32.ofInt 1 + Int32.ofInt 1)) (some 30)) (Int32.toNatClampNeg (0 + Int32.ofInt 1 + Int32.ofInt 1 + Int32.ofInt 1)) (some 34)) (Int32.toNatClampNeg (0 + Int32.ofInt 1 + Int32.ofInt 1 + Int32.ofInt 1 + Int32.ofInt 1)) (some 38)) = x_line := by
  have e0 : Int32.toNatClampNeg 0 = 0 := by decide
  have e1 : Int32.toNatClampNeg (0 + Int32.ofInt 1) = 1 := by decide
  have e2 : Int32.toNatClampNeg (0 + Int32.ofInt 1 + Int32.ofInt 1) = 2 := by decide
  have e3 : Int32.toNatClampNeg (0 + Int32.ofInt 1 + Int32.ofInt 1 + Int32.ofInt 1) = 3 := by decide
  have e4 : Int32.toNatClampNeg (0 + Int32.ofInt 1 + Int32.ofInt 1 + Int32.ofInt 1 + Int32.ofInt 1) = 4 := by decide
  rw [e0, e1, e2, e3, e4]
  funext i
  match i with
  | 0 => rfl
  | 1 => rfl
  | 2 => rfl
  | 3 => rfl
  | 4 => rfl
  | n + 5 => simp [va_up, x_line]
section INIT
variable {E : x_E} {f : x_H} {post : Option Value → x_H → Prop}
theorem w_lettersInit (hO : x_o 18 f 17 2 [.null, .int 0]) (h : ∀ f' : x_H, x_o 19 f' 17 2 [.ref 18, .int 0] → x_a 19 f' 18 (96, .inl (fun _ => 0)) → x_fr (fun q => q < 17) f f' → post none f') : Y E 1 mX2_init [.ref 17] 18 f 1 96 post := by
  refine Y.intro gX2_init (lv := [(0, .ref 17)]) rfl (Nat.le_of_ble_eq_true rfl) ?_
  have hF : x_fr (fun q => q < 17) f f := x_fr.rf
  refine x_aload_n (pc' := 1) rfl rfl rfl ?_
  refine x_obj (pc' := 4) rfl rfl sX2_3 ⟨Nat.le_of_ble_eq_true rfl, Nat.le_of_ble_eq_true rfl⟩ (Nat.le_of_ble_eq_true rfl) ?_
  refine x_aload_n (pc' := 5) rfl rfl rfl ?_
  refine x_bipush (pc' := 7) rfl rfl bipush_96 ?_
  refine x_newarrayI (pc' := 9) (N := 96) rfl rfl (by decide) (by decide) (by decide) (Nat.le_of_ble_eq_true rfl) (Nat.le_of_ble_eq_true rfl) (fun f1 e1 => ?_)
  have hO := (hO.zz (Nat.le_succ _)).n e1 (by decide)
  have hF := hF.up e1 (Nat.not_lt.mpr (by decide))
  have ha := x_a.s e1 (Nat.lt_succ_self _)
  clear e1
  refine x_putF (pc' := 12) rfl rfl rfl (hO) (Nat.le_of_ble_eq_true rfl) rfl rfl rfl rfl rfl rfl (fun f2 e2 => ?_)
  have hO := x_o.s e2 hO.1
  have ha := ha.n e2 (by decide)
  have hF := hF.up e2 (Nat.not_lt.mpr (by decide))
  clear e2
  refine x_aload_n (pc' := 13) rfl rfl rfl ?_
  refine x_iconst (pc' := 14) rfl rfl iconst_0 ?_
  refine x_put (pc' := 17) rfl rfl rfl (hO) (Nat.le_of_ble_eq_true rfl) rfl rfl rfl rfl (fun f3 e3 => ?_)
  have hO := x_o.s e3 hO.1
  have ha := ha.n e3 (by decide)
  have hF := hF.up e3 (Nat.not_lt.mpr (by decide))
  clear e3
  exact x_return rfl rfl (Nat.le_of_ble_eq_true rfl) (Nat.le_of_ble_eq_true rfl) (h _ hO ha hF)
theorem w_waysInit (hO : x_o 55 f 54 4 [.null, .null]) (h : ∀ f' : x_H, x_o 57 f' 54 4 [.ref 55, .ref 56] → x_a 57 f' 55 (41, .inr (.inl (fun _ => 0))) → x_a 57 f' 56 (12, .inl (fun _ => 0)) → x_fr (fun q => q < 54) f f' → post none f') : Y E 1 mX4_init [.ref 54] 55 f 2 53 post := by
  refine Y.intro gX4_init (lv := [(0, .ref 54)]) rfl (Nat.le_of_ble_eq_true rfl) ?_
  have hF : x_fr (fun q => q < 54) f f := x_fr.rf
  refine x_aload_n (pc' := 1) rfl rfl rfl ?_
  refine x_obj (pc' := 4) rfl rfl sX4_3 ⟨Nat.le_of_ble_eq_true rfl, Nat.le_of_ble_eq_true rfl⟩ (Nat.le_of_ble_eq_true rfl) ?_
  refine x_aload_n (pc' := 5) rfl rfl rfl ?_
  refine x_bipush (pc' := 7) rfl rfl bipush_41 ?_
  refine x_newarrayL (pc' := 9) (N := 41) rfl rfl (by decide) (by decide) (by decide) (Nat.le_of_ble_eq_true rfl) (Nat.le_of_ble_eq_true rfl) (fun f1 e1 => ?_)
  have hO := (hO.zz (Nat.le_succ _)).n e1 (by decide)
  have hF := hF.up e1 (Nat.not_lt.mpr (by decide))
  have ha := x_a.s e1 (Nat.lt_succ_self _)
  clear e1
  refine x_putF (pc' := 12) rfl rfl rfl (hO) (Nat.le_of_ble_eq_true rfl) rfl rfl rfl rfl rfl rfl (fun f2 e2 => ?_)
  have hO := x_o.s e2 hO.1
  have ha := ha.n e2 (by decide)
  have hF := hF.up e2 (Nat.not_lt.mpr (by decide))
  clear e2
  refine x_aload_n (pc' := 13) rfl rfl rfl ?_
  refine x_bipush (pc' := 15) rfl rfl bipush_12 ?_
  refine x_newarrayI (pc' := 17) (N := 12) rfl rfl (by decide) (by decide) (by decide) (Nat.le_of_ble_eq_true rfl) (Nat.le_of_ble_eq_true rfl) (fun f3 e3 => ?_)
  have hO := (hO.zz (Nat.le_succ _)).n e3 (by decide)
  have ha := (ha.zz (Nat.le_succ _)).n e3 (by decide)
  have hF := hF.up e3 (Nat.not_lt.mpr (by decide))
  have hb := x_a.s e3 (Nat.lt_succ_self _)
  clear e3
  refine x_putF (pc' := 20) rfl rfl rfl (hO) (Nat.le_of_ble_eq_true rfl) rfl rfl rfl rfl rfl rfl (fun f4 e4 => ?_)
  have hO := x_o.s e4 hO.1
  have ha := ha.n e4 (by decide)
  have hb := hb.n e4 (by decide)
  have hF := hF.up e4 (Nat.not_lt.mpr (by decide))
  clear e4
  exact x_return rfl rfl (Nat.le_of_ble_eq_true rfl) (Nat.le_of_ble_eq_true rfl) (h _ hO ha hb hF)
theorem w_emptyingInit (hO : x_o 43 f 42 1 [.null, .null, .null, .null, .null, .int 0, .int 0, .int 0]) (h : ∀ f' : x_H, x_o 54 f' 42 1 [.ref 43, .ref 44, .ref 45, .ref 46, .ref 50, .int 0, .int (-9), .int (-9)] → x_a 54 f' 43 (7381, .inr (.inl (fun _ => 0))) → x_a 54 f' 44 (7381, .inl (fun _ => 0)) → x_a 54 f' 45 (16384, .inl (fun _ => 0)) → x_t 54 f' 46 x_T0 → x_t 54 f' 50 x_T0 → x_fr (fun q => q < 42) f f' → post none f') : Y E 2 mX1_init [.ref 42] 43 f 11 31210 post := by
  refine Y.intro gX1_init (lv := [(0, .ref 42)]) rfl (Nat.le_of_ble_eq_true rfl) ?_
  have hF : x_fr (fun q => q < 42) f f := x_fr.rf
  refine x_aload_n (pc' := 1) rfl rfl rfl ?_
  refine x_obj (pc' := 4) rfl rfl sX1_5 ⟨Nat.le_of_ble_eq_true rfl, Nat.le_of_ble_eq_true rfl⟩ (Nat.le_of_ble_eq_true rfl) ?_
  refine x_aload_n (pc' := 5) rfl rfl rfl ?_
  refine x_sipush (pc' := 8) rfl rfl sipush_7381 ?_
  refine x_newarrayL (pc' := 10) (N := 7381) rfl rfl (by decide) (by decide) (by decide) (Nat.le_of_ble_eq_true rfl) (Nat.le_of_ble_eq_true rfl) (fun f1 e1 => ?_)
  have hO := (hO.zz (Nat.le_succ _)).n e1 (by decide)
  have hF := hF.up e1 (Nat.not_lt.mpr (by decide))
  have ha := x_a.s e1 (Nat.lt_succ_self _)
  clear e1
  refine x_putF (pc' := 13) rfl rfl rfl (hO) (Nat.le_of_ble_eq_true rfl) rfl rfl rfl rfl rfl rfl (fun f2 e2 => ?_)
  have hO := x_o.s e2 hO.1
  have ha := ha.n e2 (by decide)
  have hF := hF.up e2 (Nat.not_lt.mpr (by decide))
  clear e2
  refine x_aload_n (pc' := 14) rfl rfl rfl ?_
  refine x_sipush (pc' := 17) rfl rfl sipush_7381 ?_
  refine x_newarrayI (pc' := 19) (N := 7381) rfl rfl (by decide) (by decide) (by decide) (Nat.le_of_ble_eq_true rfl) (Nat.le_of_ble_eq_true rfl) (fun f3 e3 => ?_)
  have hO := (hO.zz (Nat.le_succ _)).n e3 (by decide)
  have ha := (ha.zz (Nat.le_succ _)).n e3 (by decide)
  have hF := hF.up e3 (Nat.not_lt.mpr (by decide))
  have hb := x_a.s e3 (Nat.lt_succ_self _)
  clear e3
  refine x_putF (pc' := 22) rfl rfl rfl (hO) (Nat.le_of_ble_eq_true rfl) rfl rfl rfl rfl rfl rfl (fun f4 e4 => ?_)
  have hO := x_o.s e4 hO.1
  have ha := ha.n e4 (by decide)
  have hb := hb.n e4 (by decide)
  have hF := hF.up e4 (Nat.not_lt.mpr (by decide))
  clear e4
  refine x_aload_n (pc' := 23) rfl rfl rfl ?_
  refine x_sipush (pc' := 26) rfl rfl sipush_16384 ?_
  refine x_newarrayI (pc' := 28) (N := 16384) rfl rfl (by decide) (by decide) (by decide) (Nat.le_of_ble_eq_true rfl) (Nat.le_of_ble_eq_true rfl) (fun f5 e5 => ?_)
  have hO := (hO.zz (Nat.le_succ _)).n e5 (by decide)
  have ha := (ha.zz (Nat.le_succ _)).n e5 (by decide)
  have hb := (hb.zz (Nat.le_succ _)).n e5 (by decide)
  have hF := hF.up e5 (Nat.not_lt.mpr (by decide))
  have hc := x_a.s e5 (Nat.lt_succ_self _)
  clear e5
  refine x_putF (pc' := 31) rfl rfl rfl (hO) (Nat.le_of_ble_eq_true rfl) rfl rfl rfl rfl rfl rfl (fun f6 e6 => ?_)
  have hO := x_o.s e6 hO.1
  have ha := ha.n e6 (by decide)
  have hb := hb.n e6 (by decide)
  have hc := hc.n e6 (by decide)
  have hF := hF.up e6 (Nat.not_lt.mpr (by decide))
  clear e6
  refine x_aload_n (pc' := 32) rfl rfl rfl ?_
  refine x_new (fs := [.null, .null, .null, .int 0, .int 0, .int 0, .int 0, .int 0, .int 0, .int 0, .int 0, .int 0]) (pc' := 35) rfl rfl rfl rfl (dfX3) rfl (Nat.le_of_ble_eq_true rfl) (Nat.le_of_ble_eq_true rfl) (fun f7 e7 => ?_)
  have hO := (hO.zz (Nat.le_succ _)).n e7 (by decide)
  have ha := (ha.zz (Nat.le_succ _)).n e7 (by decide)
  have hb := (hb.zz (Nat.le_succ _)).n e7 (by decide)
  have hc := (hc.zz (Nat.le_succ _)).n e7 (by decide)
  have hF := hF.up e7 (Nat.not_lt.mpr (by decide))
  have tA := x_o.s e7 (Nat.lt_succ_self _)
  clear e7
  refine x_dup (pc' := 36) rfl rfl rfl ?_
  refine x_cI (d := 1) (mc := 3) (ms := 20) (pc' := 39) rfl rfl sX1_24 gX3_init ⟨Nat.le_of_ble_eq_true rfl, Nat.le_of_ble_eq_true rfl⟩ (Nat.le_of_ble_eq_true rfl) ⟨Nat.le_of_ble_eq_true rfl, Nat.le_of_ble_eq_true rfl⟩ ?_
  refine w_tInit tA (fun g1 hA hG1 => ⟨rfl, ?_⟩)
  have hO := (hO.zz (Nat.le_add_right _ 3)).fr hG1 (by show _ < _; decide)
  have ha := (ha.zz (Nat.le_add_right _ 3)).fr hG1 (by show _ < _; decide)
  have hb := (hb.zz (Nat.le_add_right _ 3)).fr hG1 (by show _ < _; decide)
  have hc := (hc.zz (Nat.le_add_right _ 3)).fr hG1 (by show _ < _; decide)
  have hF := hF.trans (hG1.mono (fun q hq => Nat.lt_of_lt_of_le hq (by decide)))
  refine x_putF (pc' := 42) rfl rfl rfl (hO) (Nat.le_of_ble_eq_true rfl) rfl rfl rfl rfl rfl rfl (fun f8 e8 => ?_)
  have hO := x_o.s e8 hO.1
  have ha := ha.n e8 (by decide)
  have hb := hb.n e8 (by decide)
  have hc := hc.n e8 (by decide)
  have hA := hA.n e8 (by decide)
  have hF := hF.up e8 (Nat.not_lt.mpr (by decide))
  clear e8
  refine x_aload_n (pc' := 43) rfl rfl rfl ?_
  refine x_new (fs := [.null, .null, .null, .int 0, .int 0, .int 0, .int 0, .int 0, .int 0, .int 0, .int 0, .int 0]) (pc' := 46) rfl rfl rfl rfl (dfX3) rfl (Nat.le_of_ble_eq_true rfl) (Nat.le_of_ble_eq_true rfl) (fun f9 e9 => ?_)
  have hO := (hO.zz (Nat.le_succ _)).n e9 (by decide)
  have ha := (ha.zz (Nat.le_succ _)).n e9 (by decide)
  have hb := (hb.zz (Nat.le_succ _)).n e9 (by decide)
  have hc := (hc.zz (Nat.le_succ _)).n e9 (by decide)
  have hA := (hA.zz (Nat.le_succ _)).n e9 (by decide)
  have hF := hF.up e9 (Nat.not_lt.mpr (by decide))
  have tB := x_o.s e9 (Nat.lt_succ_self _)
  clear e9
  refine x_dup (pc' := 47) rfl rfl rfl ?_
  refine x_cI (d := 1) (mc := 3) (ms := 20) (pc' := 50) rfl rfl sX1_24 gX3_init ⟨Nat.le_of_ble_eq_true rfl, Nat.le_of_ble_eq_true rfl⟩ (Nat.le_of_ble_eq_true rfl) ⟨Nat.le_of_ble_eq_true rfl, Nat.le_of_ble_eq_true rfl⟩ ?_
  refine w_tInit tB (fun g2 hB hG2 => ⟨rfl, ?_⟩)
  have hO := (hO.zz (Nat.le_add_right _ 3)).fr hG2 (by show _ < _; decide)
  have ha := (ha.zz (Nat.le_add_right _ 3)).fr hG2 (by show _ < _; decide)
  have hb := (hb.zz (Nat.le_add_right _ 3)).fr hG2 (by show _ < _; decide)
  have hc := (hc.zz (Nat.le_add_right _ 3)).fr hG2 (by show _ < _; decide)
  have hA := (hA.zz (Nat.le_add_right _ 3)).fr hG2 (fun i hi => by show _ + i < _; omega)
  have hF := hF.trans (hG2.mono (fun q hq => Nat.lt_of_lt_of_le hq (by decide)))
  refine x_putF (pc' := 53) rfl rfl rfl (hO) (Nat.le_of_ble_eq_true rfl) rfl rfl rfl rfl rfl rfl (fun f10 e10 => ?_)
  have hO := x_o.s e10 hO.1
  have ha := ha.n e10 (by decide)
  have hb := hb.n e10 (by decide)
  have hc := hc.n e10 (by decide)
  have hA := hA.n e10 (by decide)
  have hB := hB.n e10 (by decide)
  have hF := hF.up e10 (Nat.not_lt.mpr (by decide))
  clear e10
  refine x_aload_n (pc' := 54) rfl rfl rfl ?_
  refine x_iconst (pc' := 55) rfl rfl iconst_0 ?_
  refine x_put (pc' := 58) rfl rfl rfl (hO) (Nat.le_of_ble_eq_true rfl) rfl rfl rfl rfl (fun f11 e11 => ?_)
  have hO := x_o.s e11 hO.1
  have ha := ha.n e11 (by decide)
  have hb := hb.n e11 (by decide)
  have hc := hc.n e11 (by decide)
  have hA := hA.n e11 (by decide)
  have hB := hB.n e11 (by decide)
  have hF := hF.up e11 (Nat.not_lt.mpr (by decide))
  clear e11
  refine x_aload_n (pc' := 59) rfl rfl rfl ?_
  refine x_bipush (pc' := 61) rfl rfl bipush_m9 ?_
  refine x_put (pc' := 64) rfl rfl rfl (hO) (Nat.le_of_ble_eq_true rfl) rfl rfl rfl rfl (fun f12 e12 => ?_)
  have hO := x_o.s e12 hO.1
  have ha := ha.n e12 (by decide)
  have hb := hb.n e12 (by decide)
  have hc := hc.n e12 (by decide)
  have hA := hA.n e12 (by decide)
  have hB := hB.n e12 (by decide)
  have hF := hF.up e12 (Nat.not_lt.mpr (by decide))
  clear e12
  refine x_aload_n (pc' := 65) rfl rfl rfl ?_
  refine x_bipush (pc' := 67) rfl rfl bipush_m9 ?_
  refine x_put (pc' := 70) rfl rfl rfl (hO) (Nat.le_of_ble_eq_true rfl) rfl rfl rfl rfl (fun f13 e13 => ?_)
  have hO := x_o.s e13 hO.1
  have ha := ha.n e13 (by decide)
  have hb := hb.n e13 (by decide)
  have hc := hc.n e13 (by decide)
  have hA := hA.n e13 (by decide)
  have hB := hB.n e13 (by decide)
  have hF := hF.up e13 (Nat.not_lt.mpr (by decide))
  clear e13
  exact x_return rfl rfl (Nat.le_of_ble_eq_true rfl) (Nat.le_of_ble_eq_true rfl) (h _ hO ha hb hc hA hB hF)
theorem w_aheadInit (hO : x_o 20 f 19 0 [.null, .null]) (h : ∀ f' : x_H, x_o 42 f' 19 0 [.ref 20, .ref 21] → x_a 42 f' 20 (5, .inr (.inr (.inr (.inr x_line)))) → x_a 42 f' 21 (5, .inl (fun _ => 0)) → x_t 42 f' 22 x_T0 → x_t 42 f' 26 x_T0 → x_t 42 f' 30 x_T0 → x_t 42 f' 34 x_T0 → x_t 42 f' 38 x_T0 → x_fr (fun q => q < 19) f f' → post none f') : Y E 2 mX0_init [.ref 19] 20 f 22 170 post := by
  refine Y.intro gX0_init (lv := [(0, .ref 19)]) rfl (Nat.le_of_ble_eq_true rfl) ?_
  have hF : x_fr (fun q => q < 19) f f := x_fr.rf
  refine x_aload_n (pc' := 1) rfl rfl rfl ?_
  refine x_obj (pc' := 4) rfl rfl sX0_3 ⟨Nat.le_of_ble_eq_true rfl, Nat.le_of_ble_eq_true rfl⟩ (Nat.le_of_ble_eq_true rfl) ?_
  refine x_aload_n (pc' := 5) rfl rfl rfl ?_
  refine x_iconst (pc' := 6) rfl rfl iconst_5 ?_
  refine x_anew (pc' := 9) (N := 5) rfl rfl rfl (by decide) (by decide) (by decide) (Nat.le_of_ble_eq_true rfl) (Nat.le_of_ble_eq_true rfl) (fun f1 e1 => ?_)
  have hO := (hO.zz (Nat.le_succ _)).n e1 (by decide)
  have hF := hF.up e1 (Nat.not_lt.mpr (by decide))
  have ha := x_a.s e1 (Nat.lt_succ_self _)
  clear e1
  refine x_putF (pc' := 12) rfl rfl rfl (hO) (Nat.le_of_ble_eq_true rfl) rfl rfl rfl rfl rfl rfl (fun f2 e2 => ?_)
  have hO := x_o.s e2 hO.1
  have ha := ha.n e2 (by decide)
  have hF := hF.up e2 (Nat.not_lt.mpr (by decide))
  clear e2
  refine x_aload_n (pc' := 13) rfl rfl rfl ?_
  refine x_iconst (pc' := 14) rfl rfl iconst_5 ?_
  refine x_newarrayI (pc' := 16) (N := 5) rfl rfl (by decide) (by decide) (by decide) (Nat.le_of_ble_eq_true rfl) (Nat.le_of_ble_eq_true rfl) (fun f3 e3 => ?_)
  have hO := (hO.zz (Nat.le_succ _)).n e3 (by decide)
  have ha := (ha.zz (Nat.le_succ _)).n e3 (by decide)
  have hF := hF.up e3 (Nat.not_lt.mpr (by decide))
  have hb := x_a.s e3 (Nat.lt_succ_self _)
  clear e3
  refine x_putF (pc' := 19) rfl rfl rfl (hO) (Nat.le_of_ble_eq_true rfl) rfl rfl rfl rfl rfl rfl (fun f4 e4 => ?_)
  have hO := x_o.s e4 hO.1
  have ha := ha.n e4 (by decide)
  have hb := hb.n e4 (by decide)
  have hF := hF.up e4 (Nat.not_lt.mpr (by decide))
  clear e4
  refine x_iconst (pc' := 20) rfl rfl iconst_0 ?_
  refine x_istore_n (pc' := 21) (lv' := [(1, _), (0, _)]) rfl rfl (Nat.le_of_ble_eq_true rfl) rfl ?_
  refine x_iload_n (pc' := 22) rfl rfl rfl ?_
  refine x_aload_n (pc' := 23) rfl rfl rfl ?_
  refine x_get (pc' := 26) rfl rfl rfl (hO) rfl ?_
  refine x_alen (pc' := 27) rfl rfl (ha) ?_
  refine x_icmp_ge (tgt := 49) (pc' := 30) rfl rfl rfl (fun c27 => absurd c27 (by decide)) (fun _ => ?_)
  refine x_aload_n (pc' := 31) rfl rfl rfl ?_
  refine x_get (pc' := 34) rfl rfl rfl (hO) rfl ?_
  refine x_iload_n (pc' := 35) rfl rfl rfl ?_
  refine x_new (fs := [.null, .null, .null, .int 0, .int 0, .int 0, .int 0, .int 0, .int 0, .int 0, .int 0, .int 0]) (pc' := 38) rfl rfl rfl rfl (dfX3) rfl (Nat.le_of_ble_eq_true rfl) (Nat.le_of_ble_eq_true rfl) (fun f5 e5 => ?_)
  have hO := (hO.zz (Nat.le_succ _)).n e5 (by decide)
  have ha := (ha.zz (Nat.le_succ _)).n e5 (by decide)
  have hb := (hb.zz (Nat.le_succ _)).n e5 (by decide)
  have hF := hF.up e5 (Nat.not_lt.mpr (by decide))
  have t0 := x_o.s e5 (Nat.lt_succ_self _)
  clear e5
  refine x_dup (pc' := 39) rfl rfl rfl ?_
  refine x_cI (d := 1) (mc := 3) (ms := 20) (pc' := 42) rfl rfl sX0_21 gX3_init ⟨Nat.le_of_ble_eq_true rfl, Nat.le_of_ble_eq_true rfl⟩ (Nat.le_of_ble_eq_true rfl) ⟨Nat.le_of_ble_eq_true rfl, Nat.le_of_ble_eq_true rfl⟩ ?_
  refine w_tInit t0 (fun g1 ht0 hG1 => ⟨rfl, ?_⟩)
  have hO := (hO.zz (Nat.le_add_right _ 3)).fr hG1 (by show _ < _; decide)
  have ha := (ha.zz (Nat.le_add_right _ 3)).fr hG1 (by show _ < _; decide)
  have hb := (hb.zz (Nat.le_add_right _ 3)).fr hG1 (by show _ < _; decide)
  have hF := hF.trans (hG1.mono (fun q hq => Nat.lt_of_lt_of_le hq (by decide)))
  refine x_aastore (pc' := 43) rfl rfl (ha) (ht0.1) (vp_in_nI (n := 0) (N := 5) (by decide) (by decide)) (fun f6 e6 => ?_)
  have ha := x_a.s e6 ha.1
  have hO := hO.n e6 (by decide)
  have hb := hb.n e6 (by decide)
  have ht0 := ht0.n e6 (by decide)
  have hF := hF.up e6 (Nat.not_lt.mpr (by decide))
  clear e6
  refine x_iinc (pc' := 46) (lv' := [(1, _), (0, _)]) rfl rfl (Nat.le_of_ble_eq_true rfl) rfl (rfl) rfl ?_
  refine x_goto (tgt := 21) rfl rfl ?_
  refine x_iload_n (pc' := 22) rfl rfl rfl ?_
  refine x_aload_n (pc' := 23) rfl rfl rfl ?_
  refine x_get (pc' := 26) rfl rfl rfl (hO) rfl ?_
  refine x_alen (pc' := 27) rfl rfl (ha) ?_
  refine x_icmp_ge (tgt := 49) (pc' := 30) rfl rfl rfl (fun c27 => absurd c27 (by decide)) (fun _ => ?_)
  refine x_aload_n (pc' := 31) rfl rfl rfl ?_
  refine x_get (pc' := 34) rfl rfl rfl (hO) rfl ?_
  refine x_iload_n (pc' := 35) rfl rfl rfl ?_
  refine x_new (fs := [.null, .null, .null, .int 0, .int 0, .int 0, .int 0, .int 0, .int 0, .int 0, .int 0, .int 0]) (pc' := 38) rfl rfl rfl rfl (dfX3) rfl (Nat.le_of_ble_eq_true rfl) (Nat.le_of_ble_eq_true rfl) (fun f7 e7 => ?_)
  have hO := (hO.zz (Nat.le_succ _)).n e7 (by decide)
  have ha := (ha.zz (Nat.le_succ _)).n e7 (by decide)
  have hb := (hb.zz (Nat.le_succ _)).n e7 (by decide)
  have ht0 := (ht0.zz (Nat.le_succ _)).n e7 (by decide)
  have hF := hF.up e7 (Nat.not_lt.mpr (by decide))
  have t1 := x_o.s e7 (Nat.lt_succ_self _)
  clear e7
  refine x_dup (pc' := 39) rfl rfl rfl ?_
  refine x_cI (d := 1) (mc := 3) (ms := 20) (pc' := 42) rfl rfl sX0_21 gX3_init ⟨Nat.le_of_ble_eq_true rfl, Nat.le_of_ble_eq_true rfl⟩ (Nat.le_of_ble_eq_true rfl) ⟨Nat.le_of_ble_eq_true rfl, Nat.le_of_ble_eq_true rfl⟩ ?_
  refine w_tInit t1 (fun g2 ht1 hG2 => ⟨rfl, ?_⟩)
  have hO := (hO.zz (Nat.le_add_right _ 3)).fr hG2 (by show _ < _; decide)
  have ha := (ha.zz (Nat.le_add_right _ 3)).fr hG2 (by show _ < _; decide)
  have hb := (hb.zz (Nat.le_add_right _ 3)).fr hG2 (by show _ < _; decide)
  have ht0 := (ht0.zz (Nat.le_add_right _ 3)).fr hG2 (fun i hi => by show _ + i < _; omega)
  have hF := hF.trans (hG2.mono (fun q hq => Nat.lt_of_lt_of_le hq (by decide)))
  refine x_aastore (pc' := 43) rfl rfl (ha) (ht1.1) (vp_in_nI (n := 1) (N := 5) (by decide) (by decide)) (fun f8 e8 => ?_)
  have ha := x_a.s e8 ha.1
  have hO := hO.n e8 (by decide)
  have hb := hb.n e8 (by decide)
  have ht0 := ht0.n e8 (by decide)
  have ht1 := ht1.n e8 (by decide)
  have hF := hF.up e8 (Nat.not_lt.mpr (by decide))
  clear e8
  refine x_iinc (pc' := 46) (lv' := [(1, _), (0, _)]) rfl rfl (Nat.le_of_ble_eq_true rfl) rfl (rfl) rfl ?_
  refine x_goto (tgt := 21) rfl rfl ?_
  refine x_iload_n (pc' := 22) rfl rfl rfl ?_
  refine x_aload_n (pc' := 23) rfl rfl rfl ?_
  refine x_get (pc' := 26) rfl rfl rfl (hO) rfl ?_
  refine x_alen (pc' := 27) rfl rfl (ha) ?_
  refine x_icmp_ge (tgt := 49) (pc' := 30) rfl rfl rfl (fun c27 => absurd c27 (by decide)) (fun _ => ?_)
  refine x_aload_n (pc' := 31) rfl rfl rfl ?_
  refine x_get (pc' := 34) rfl rfl rfl (hO) rfl ?_
  refine x_iload_n (pc' := 35) rfl rfl rfl ?_
  refine x_new (fs := [.null, .null, .null, .int 0, .int 0, .int 0, .int 0, .int 0, .int 0, .int 0, .int 0, .int 0]) (pc' := 38) rfl rfl rfl rfl (dfX3) rfl (Nat.le_of_ble_eq_true rfl) (Nat.le_of_ble_eq_true rfl) (fun f9 e9 => ?_)
  have hO := (hO.zz (Nat.le_succ _)).n e9 (by decide)
  have ha := (ha.zz (Nat.le_succ _)).n e9 (by decide)
  have hb := (hb.zz (Nat.le_succ _)).n e9 (by decide)
  have ht0 := (ht0.zz (Nat.le_succ _)).n e9 (by decide)
  have ht1 := (ht1.zz (Nat.le_succ _)).n e9 (by decide)
  have hF := hF.up e9 (Nat.not_lt.mpr (by decide))
  have t2 := x_o.s e9 (Nat.lt_succ_self _)
  clear e9
  refine x_dup (pc' := 39) rfl rfl rfl ?_
  refine x_cI (d := 1) (mc := 3) (ms := 20) (pc' := 42) rfl rfl sX0_21 gX3_init ⟨Nat.le_of_ble_eq_true rfl, Nat.le_of_ble_eq_true rfl⟩ (Nat.le_of_ble_eq_true rfl) ⟨Nat.le_of_ble_eq_true rfl, Nat.le_of_ble_eq_true rfl⟩ ?_
  refine w_tInit t2 (fun g3 ht2 hG3 => ⟨rfl, ?_⟩)
  have hO := (hO.zz (Nat.le_add_right _ 3)).fr hG3 (by show _ < _; decide)
  have ha := (ha.zz (Nat.le_add_right _ 3)).fr hG3 (by show _ < _; decide)
  have hb := (hb.zz (Nat.le_add_right _ 3)).fr hG3 (by show _ < _; decide)
  have ht0 := (ht0.zz (Nat.le_add_right _ 3)).fr hG3 (fun i hi => by show _ + i < _; omega)
  have ht1 := (ht1.zz (Nat.le_add_right _ 3)).fr hG3 (fun i hi => by show _ + i < _; omega)
  have hF := hF.trans (hG3.mono (fun q hq => Nat.lt_of_lt_of_le hq (by decide)))
  refine x_aastore (pc' := 43) rfl rfl (ha) (ht2.1) (vp_in_nI (n := 2) (N := 5) (by decide) (by decide)) (fun f10 e10 => ?_)
  have ha := x_a.s e10 ha.1
  have hO := hO.n e10 (by decide)
  have hb := hb.n e10 (by decide)
  have ht0 := ht0.n e10 (by decide)
  have ht1 := ht1.n e10 (by decide)
  have ht2 := ht2.n e10 (by decide)
  have hF := hF.up e10 (Nat.not_lt.mpr (by decide))
  clear e10
  refine x_iinc (pc' := 46) (lv' := [(1, _), (0, _)]) rfl rfl (Nat.le_of_ble_eq_true rfl) rfl (rfl) rfl ?_
  refine x_goto (tgt := 21) rfl rfl ?_
  refine x_iload_n (pc' := 22) rfl rfl rfl ?_
  refine x_aload_n (pc' := 23) rfl rfl rfl ?_
  refine x_get (pc' := 26) rfl rfl rfl (hO) rfl ?_
  refine x_alen (pc' := 27) rfl rfl (ha) ?_
  refine x_icmp_ge (tgt := 49) (pc' := 30) rfl rfl rfl (fun c27 => absurd c27 (by decide)) (fun _ => ?_)
  refine x_aload_n (pc' := 31) rfl rfl rfl ?_
  refine x_get (pc' := 34) rfl rfl rfl (hO) rfl ?_
  refine x_iload_n (pc' := 35) rfl rfl rfl ?_
  refine x_new (fs := [.null, .null, .null, .int 0, .int 0, .int 0, .int 0, .int 0, .int 0, .int 0, .int 0, .int 0]) (pc' := 38) rfl rfl rfl rfl (dfX3) rfl (Nat.le_of_ble_eq_true rfl) (Nat.le_of_ble_eq_true rfl) (fun f11 e11 => ?_)
  have hO := (hO.zz (Nat.le_succ _)).n e11 (by decide)
  have ha := (ha.zz (Nat.le_succ _)).n e11 (by decide)
  have hb := (hb.zz (Nat.le_succ _)).n e11 (by decide)
  have ht0 := (ht0.zz (Nat.le_succ _)).n e11 (by decide)
  have ht1 := (ht1.zz (Nat.le_succ _)).n e11 (by decide)
  have ht2 := (ht2.zz (Nat.le_succ _)).n e11 (by decide)
  have hF := hF.up e11 (Nat.not_lt.mpr (by decide))
  have t3 := x_o.s e11 (Nat.lt_succ_self _)
  clear e11
  refine x_dup (pc' := 39) rfl rfl rfl ?_
  refine x_cI (d := 1) (mc := 3) (ms := 20) (pc' := 42) rfl rfl sX0_21 gX3_init ⟨Nat.le_of_ble_eq_true rfl, Nat.le_of_ble_eq_true rfl⟩ (Nat.le_of_ble_eq_true rfl) ⟨Nat.le_of_ble_eq_true rfl, Nat.le_of_ble_eq_true rfl⟩ ?_
  refine w_tInit t3 (fun g4 ht3 hG4 => ⟨rfl, ?_⟩)
  have hO := (hO.zz (Nat.le_add_right _ 3)).fr hG4 (by show _ < _; decide)
  have ha := (ha.zz (Nat.le_add_right _ 3)).fr hG4 (by show _ < _; decide)
  have hb := (hb.zz (Nat.le_add_right _ 3)).fr hG4 (by show _ < _; decide)
  have ht0 := (ht0.zz (Nat.le_add_right _ 3)).fr hG4 (fun i hi => by show _ + i < _; omega)
  have ht1 := (ht1.zz (Nat.le_add_right _ 3)).fr hG4 (fun i hi => by show _ + i < _; omega)
  have ht2 := (ht2.zz (Nat.le_add_right _ 3)).fr hG4 (fun i hi => by show _ + i < _; omega)
  have hF := hF.trans (hG4.mono (fun q hq => Nat.lt_of_lt_of_le hq (by decide)))
  refine x_aastore (pc' := 43) rfl rfl (ha) (ht3.1) (vp_in_nI (n := 3) (N := 5) (by decide) (by decide)) (fun f12 e12 => ?_)
  have ha := x_a.s e12 ha.1
  have hO := hO.n e12 (by decide)
  have hb := hb.n e12 (by decide)
  have ht0 := ht0.n e12 (by decide)
  have ht1 := ht1.n e12 (by decide)
  have ht2 := ht2.n e12 (by decide)
  have ht3 := ht3.n e12 (by decide)
  have hF := hF.up e12 (Nat.not_lt.mpr (by decide))
  clear e12
  refine x_iinc (pc' := 46) (lv' := [(1, _), (0, _)]) rfl rfl (Nat.le_of_ble_eq_true rfl) rfl (rfl) rfl ?_
  refine x_goto (tgt := 21) rfl rfl ?_
  refine x_iload_n (pc' := 22) rfl rfl rfl ?_
  refine x_aload_n (pc' := 23) rfl rfl rfl ?_
  refine x_get (pc' := 26) rfl rfl rfl (hO) rfl ?_
  refine x_alen (pc' := 27) rfl rfl (ha) ?_
  refine x_icmp_ge (tgt := 49) (pc' := 30) rfl rfl rfl (fun c27 => absurd c27 (by decide)) (fun _ => ?_)
  refine x_aload_n (pc' := 31) rfl rfl rfl ?_
  refine x_get (pc' := 34) rfl rfl rfl (hO) rfl ?_
  refine x_iload_n (pc' := 35) rfl rfl rfl ?_
  refine x_new (fs := [.null, .null, .null, .int 0, .int 0, .int 0, .int 0, .int 0, .int 0, .int 0, .int 0, .int 0]) (pc' := 38) rfl rfl rfl rfl (dfX3) rfl (Nat.le_of_ble_eq_true rfl) (Nat.le_of_ble_eq_true rfl) (fun f13 e13 => ?_)
  have hO := (hO.zz (Nat.le_succ _)).n e13 (by decide)
  have ha := (ha.zz (Nat.le_succ _)).n e13 (by decide)
  have hb := (hb.zz (Nat.le_succ _)).n e13 (by decide)
  have ht0 := (ht0.zz (Nat.le_succ _)).n e13 (by decide)
  have ht1 := (ht1.zz (Nat.le_succ _)).n e13 (by decide)
  have ht2 := (ht2.zz (Nat.le_succ _)).n e13 (by decide)
  have ht3 := (ht3.zz (Nat.le_succ _)).n e13 (by decide)
  have hF := hF.up e13 (Nat.not_lt.mpr (by decide))
  have t4 := x_o.s e13 (Nat.lt_succ_self _)
  clear e13
  refine x_dup (pc' := 39) rfl rfl rfl ?_
  refine x_cI (d := 1) (mc := 3) (ms := 20) (pc' := 42) rfl rfl sX0_21 gX3_init ⟨Nat.le_of_ble_eq_true rfl, Nat.le_of_ble_eq_true rfl⟩ (Nat.le_of_ble_eq_true rfl) ⟨Nat.le_of_ble_eq_true rfl, Nat.le_of_ble_eq_true rfl⟩ ?_
  refine w_tInit t4 (fun g5 ht4 hG5 => ⟨rfl, ?_⟩)
  have hO := (hO.zz (Nat.le_add_right _ 3)).fr hG5 (by show _ < _; decide)
  have ha := (ha.zz (Nat.le_add_right _ 3)).fr hG5 (by show _ < _; decide)
  have hb := (hb.zz (Nat.le_add_right _ 3)).fr hG5 (by show _ < _; decide)
  have ht0 := (ht0.zz (Nat.le_add_right _ 3)).fr hG5 (fun i hi => by show _ + i < _; omega)
  have ht1 := (ht1.zz (Nat.le_add_right _ 3)).fr hG5 (fun i hi => by show _ + i < _; omega)
  have ht2 := (ht2.zz (Nat.le_add_right _ 3)).fr hG5 (fun i hi => by show _ + i < _; omega)
  have ht3 := (ht3.zz (Nat.le_add_right _ 3)).fr hG5 (fun i hi => by show _ + i < _; omega)
  have hF := hF.trans (hG5.mono (fun q hq => Nat.lt_of_lt_of_le hq (by decide)))
  refine x_aastore (pc' := 43) rfl rfl (ha) (ht4.1) (vp_in_nI (n := 4) (N := 5) (by decide) (by decide)) (fun f14 e14 => ?_)
  have ha := x_a.s e14 ha.1
  have hO := hO.n e14 (by decide)
  have hb := hb.n e14 (by decide)
  have ht0 := ht0.n e14 (by decide)
  have ht1 := ht1.n e14 (by decide)
  have ht2 := ht2.n e14 (by decide)
  have ht3 := ht3.n e14 (by decide)
  have ht4 := ht4.n e14 (by decide)
  have hF := hF.up e14 (Nat.not_lt.mpr (by decide))
  clear e14
  refine x_iinc (pc' := 46) (lv' := [(1, _), (0, _)]) rfl rfl (Nat.le_of_ble_eq_true rfl) rfl (rfl) rfl ?_
  refine x_goto (tgt := 21) rfl rfl ?_
  refine x_iload_n (pc' := 22) rfl rfl rfl ?_
  refine x_aload_n (pc' := 23) rfl rfl rfl ?_
  refine x_get (pc' := 26) rfl rfl rfl (hO) rfl ?_
  refine x_alen (pc' := 27) rfl rfl (ha) ?_
  refine x_icmp_ge (tgt := 49) (pc' := 30) rfl rfl rfl (fun _ => ?_) (fun c27 => absurd (by decide) c27)
  exact x_return rfl rfl (Nat.le_of_ble_eq_true rfl) (Nat.le_of_ble_eq_true rfl) (h _ hO (by have e : (va_up (va_up (va_up (va_up (va_up (fun _ => none) (Int32.toNatClampNeg 0) (some 22)) (Int32.toNatClampNeg (0 + Int32.ofInt 1)) (some 26)) (Int32.toNatClampNeg (0 + Int32.ofInt 1 + Int32.ofInt 1)) (some 30)) (Int32.toNatClampNeg (0 + Int32.ofInt 1 + Int32.ofInt 1 + Int32.ofInt 1)) (some 34)) (Int32.toNatClampNeg (0 + Int32.ofInt 1 + Int32.ofInt 1 + Int32.ofInt 1 + Int32.ofInt 1)) (some 38)) = x_line := x_line_eq; rw [← e]; exact ha) hb ht0 ht1 ht2 ht3 ht4 hF)

theorem w_sysInit (hO : x_o 1 f 0 5 [.null, .null, .int 0, .null, .null, .null, .null, .null, .null, .null, .int 0, .null]) (h : ∀ f' : x_H, x_Sys 59 f' x_S0 → x_fr (fun q => q < 0) f f' → post none f') : Y E 3 mX5_init [.ref 0] 1 f 58 31720 post := by
  refine Y.intro gX5_init (lv := [(0, .ref 0)]) rfl (Nat.le_of_ble_eq_true rfl) ?_
  have hF : x_fr (fun q => q < 0) f f := x_fr.rf
  refine x_aload_n (pc' := 1) rfl rfl rfl ?_
  refine x_obj (pc' := 4) rfl rfl sX5_1 ⟨Nat.le_of_ble_eq_true rfl, Nat.le_of_ble_eq_true rfl⟩ (Nat.le_of_ble_eq_true rfl) ?_
  refine x_aload_n (pc' := 5) rfl rfl rfl ?_
  refine x_new (fs := [.null, .null, .null, .int 0, .int 0, .int 0, .int 0, .int 0, .int 0, .int 0, .int 0, .int 0]) (pc' := 8) rfl rfl rfl rfl (dfX3) rfl (Nat.le_of_ble_eq_true rfl) (Nat.le_of_ble_eq_true rfl) (fun f1 e1 => ?_)
  have hO := (hO.zz (Nat.le_succ _)).n e1 (by decide)
  have hF := hF.up e1 (Nat.not_lt.mpr (by decide))
  have otN := x_o.s e1 (Nat.lt_succ_self _)
  clear e1
  refine x_dup (pc' := 9) rfl rfl rfl ?_
  refine x_cI (d := 1) (mc := 3) (ms := 20) (pc' := 12) rfl rfl sX5_9 gX3_init ⟨Nat.le_of_ble_eq_true rfl, Nat.le_of_ble_eq_true rfl⟩ (Nat.le_of_ble_eq_true rfl) ⟨Nat.le_of_ble_eq_true rfl, Nat.le_of_ble_eq_true rfl⟩ ?_
  refine w_tInit otN (fun g1 tN hG1 => ⟨rfl, ?_⟩)
  have hO := (hO.zz (Nat.le_add_right _ 3)).fr hG1 (by show _ < _; decide)
  have hF := hF.trans (hG1.mono (fun q hq => Nat.lt_of_lt_of_le hq (by decide)))
  refine x_putF (pc' := 15) rfl rfl rfl (hO) (Nat.le_of_ble_eq_true rfl) rfl rfl rfl rfl rfl rfl (fun f2 e2 => ?_)
  have hO := x_o.s e2 hO.1
  have tN := tN.n e2 (by decide)
  have hF := hF.up e2 (Nat.not_lt.mpr (by decide))
  clear e2
  refine x_aload_n (pc' := 16) rfl rfl rfl ?_
  refine x_new (fs := [.null, .null, .null, .int 0, .int 0, .int 0, .int 0, .int 0, .int 0, .int 0, .int 0, .int 0]) (pc' := 19) rfl rfl rfl rfl (dfX3) rfl (Nat.le_of_ble_eq_true rfl) (Nat.le_of_ble_eq_true rfl) (fun f3 e3 => ?_)
  have hO := (hO.zz (Nat.le_succ _)).n e3 (by decide)
  have tN := (tN.zz (Nat.le_succ _)).n e3 (by decide)
  have hF := hF.up e3 (Nat.not_lt.mpr (by decide))
  have otP := x_o.s e3 (Nat.lt_succ_self _)
  clear e3
  refine x_dup (pc' := 20) rfl rfl rfl ?_
  refine x_cI (d := 1) (mc := 3) (ms := 20) (pc' := 23) rfl rfl sX5_9 gX3_init ⟨Nat.le_of_ble_eq_true rfl, Nat.le_of_ble_eq_true rfl⟩ (Nat.le_of_ble_eq_true rfl) ⟨Nat.le_of_ble_eq_true rfl, Nat.le_of_ble_eq_true rfl⟩ ?_
  refine w_tInit otP (fun g2 tP hG2 => ⟨rfl, ?_⟩)
  have hO := (hO.zz (Nat.le_add_right _ 3)).fr hG2 (by show _ < _; decide)
  have tN := (tN.zz (Nat.le_add_right _ 3)).fr hG2 (fun i hi => by show _ + i < _; omega)
  have hF := hF.trans (hG2.mono (fun q hq => Nat.lt_of_lt_of_le hq (by decide)))
  refine x_putF (pc' := 26) rfl rfl rfl (hO) (Nat.le_of_ble_eq_true rfl) rfl rfl rfl rfl rfl rfl (fun f4 e4 => ?_)
  have hO := x_o.s e4 hO.1
  have tN := tN.n e4 (by decide)
  have tP := tP.n e4 (by decide)
  have hF := hF.up e4 (Nat.not_lt.mpr (by decide))
  clear e4
  refine x_aload_n (pc' := 27) rfl rfl rfl ?_
  refine x_iconst (pc' := 28) rfl rfl iconst_0 ?_
  refine x_put (pc' := 31) rfl rfl rfl (hO) (Nat.le_of_ble_eq_true rfl) rfl rfl rfl rfl (fun f5 e5 => ?_)
  have hO := x_o.s e5 hO.1
  have tN := tN.n e5 (by decide)
  have tP := tP.n e5 (by decide)
  have hF := hF.up e5 (Nat.not_lt.mpr (by decide))
  clear e5
  refine x_aload_n (pc' := 32) rfl rfl rfl ?_
  refine x_new (fs := [.null, .null, .null, .int 0, .int 0, .int 0, .int 0, .int 0, .int 0, .int 0, .int 0, .int 0]) (pc' := 35) rfl rfl rfl rfl (dfX3) rfl (Nat.le_of_ble_eq_true rfl) (Nat.le_of_ble_eq_true rfl) (fun f6 e6 => ?_)
  have hO := (hO.zz (Nat.le_succ _)).n e6 (by decide)
  have tN := (tN.zz (Nat.le_succ _)).n e6 (by decide)
  have tP := (tP.zz (Nat.le_succ _)).n e6 (by decide)
  have hF := hF.up e6 (Nat.not_lt.mpr (by decide))
  have otT := x_o.s e6 (Nat.lt_succ_self _)
  clear e6
  refine x_dup (pc' := 36) rfl rfl rfl ?_
  refine x_cI (d := 1) (mc := 3) (ms := 20) (pc' := 39) rfl rfl sX5_9 gX3_init ⟨Nat.le_of_ble_eq_true rfl, Nat.le_of_ble_eq_true rfl⟩ (Nat.le_of_ble_eq_true rfl) ⟨Nat.le_of_ble_eq_true rfl, Nat.le_of_ble_eq_true rfl⟩ ?_
  refine w_tInit otT (fun g3 tT hG3 => ⟨rfl, ?_⟩)
  have hO := (hO.zz (Nat.le_add_right _ 3)).fr hG3 (by show _ < _; decide)
  have tN := (tN.zz (Nat.le_add_right _ 3)).fr hG3 (fun i hi => by show _ + i < _; omega)
  have tP := (tP.zz (Nat.le_add_right _ 3)).fr hG3 (fun i hi => by show _ + i < _; omega)
  have hF := hF.trans (hG3.mono (fun q hq => Nat.lt_of_lt_of_le hq (by decide)))
  refine x_putF (pc' := 42) rfl rfl rfl (hO) (Nat.le_of_ble_eq_true rfl) rfl rfl rfl rfl rfl rfl (fun f7 e7 => ?_)
  have hO := x_o.s e7 hO.1
  have tN := tN.n e7 (by decide)
  have tP := tP.n e7 (by decide)
  have tT := tT.n e7 (by decide)
  have hF := hF.up e7 (Nat.not_lt.mpr (by decide))
  clear e7
  refine x_aload_n (pc' := 43) rfl rfl rfl ?_
  refine x_new (fs := [.null, .null, .null, .int 0, .int 0, .int 0, .int 0, .int 0, .int 0, .int 0, .int 0, .int 0]) (pc' := 46) rfl rfl rfl rfl (dfX3) rfl (Nat.le_of_ble_eq_true rfl) (Nat.le_of_ble_eq_true rfl) (fun f8 e8 => ?_)
  have hO := (hO.zz (Nat.le_succ _)).n e8 (by decide)
  have tN := (tN.zz (Nat.le_succ _)).n e8 (by decide)
  have tP := (tP.zz (Nat.le_succ _)).n e8 (by decide)
  have tT := (tT.zz (Nat.le_succ _)).n e8 (by decide)
  have hF := hF.up e8 (Nat.not_lt.mpr (by decide))
  have otS := x_o.s e8 (Nat.lt_succ_self _)
  clear e8
  refine x_dup (pc' := 47) rfl rfl rfl ?_
  refine x_cI (d := 1) (mc := 3) (ms := 20) (pc' := 50) rfl rfl sX5_9 gX3_init ⟨Nat.le_of_ble_eq_true rfl, Nat.le_of_ble_eq_true rfl⟩ (Nat.le_of_ble_eq_true rfl) ⟨Nat.le_of_ble_eq_true rfl, Nat.le_of_ble_eq_true rfl⟩ ?_
  refine w_tInit otS (fun g4 tS hG4 => ⟨rfl, ?_⟩)
  have hO := (hO.zz (Nat.le_add_right _ 3)).fr hG4 (by show _ < _; decide)
  have tN := (tN.zz (Nat.le_add_right _ 3)).fr hG4 (fun i hi => by show _ + i < _; omega)
  have tP := (tP.zz (Nat.le_add_right _ 3)).fr hG4 (fun i hi => by show _ + i < _; omega)
  have tT := (tT.zz (Nat.le_add_right _ 3)).fr hG4 (fun i hi => by show _ + i < _; omega)
  have hF := hF.trans (hG4.mono (fun q hq => Nat.lt_of_lt_of_le hq (by decide)))
  refine x_putF (pc' := 53) rfl rfl rfl (hO) (Nat.le_of_ble_eq_true rfl) rfl rfl rfl rfl rfl rfl (fun f9 e9 => ?_)
  have hO := x_o.s e9 hO.1
  have tN := tN.n e9 (by decide)
  have tP := tP.n e9 (by decide)
  have tT := tT.n e9 (by decide)
  have tS := tS.n e9 (by decide)
  have hF := hF.up e9 (Nat.not_lt.mpr (by decide))
  clear e9
  refine x_aload_n (pc' := 54) rfl rfl rfl ?_
  refine x_new (fs := [.null, .int 0]) (pc' := 57) rfl rfl rfl rfl (dfX2) rfl (Nat.le_of_ble_eq_true rfl) (Nat.le_of_ble_eq_true rfl) (fun f10 e10 => ?_)
  have hO := (hO.zz (Nat.le_succ _)).n e10 (by decide)
  have tN := (tN.zz (Nat.le_succ _)).n e10 (by decide)
  have tP := (tP.zz (Nat.le_succ _)).n e10 (by decide)
  have tT := (tT.zz (Nat.le_succ _)).n e10 (by decide)
  have tS := (tS.zz (Nat.le_succ _)).n e10 (by decide)
  have hF := hF.up e10 (Nat.not_lt.mpr (by decide))
  have oL := x_o.s e10 (Nat.lt_succ_self _)
  clear e10
  refine x_dup (pc' := 58) rfl rfl rfl ?_
  refine x_cI (d := 1) (mc := 1) (ms := 96) (pc' := 61) rfl rfl sX5_31 gX2_init ⟨Nat.le_of_ble_eq_true rfl, Nat.le_of_ble_eq_true rfl⟩ (Nat.le_of_ble_eq_true rfl) ⟨Nat.le_of_ble_eq_true rfl, Nat.le_of_ble_eq_true rfl⟩ ?_
  refine w_lettersInit oL (fun g5 hL aL hG5 => ⟨rfl, ?_⟩)
  have hO := (hO.zz (Nat.le_add_right _ 1)).fr hG5 (by show _ < _; decide)
  have tN := (tN.zz (Nat.le_add_right _ 1)).fr hG5 (fun i hi => by show _ + i < _; omega)
  have tP := (tP.zz (Nat.le_add_right _ 1)).fr hG5 (fun i hi => by show _ + i < _; omega)
  have tT := (tT.zz (Nat.le_add_right _ 1)).fr hG5 (fun i hi => by show _ + i < _; omega)
  have tS := (tS.zz (Nat.le_add_right _ 1)).fr hG5 (fun i hi => by show _ + i < _; omega)
  have hF := hF.trans (hG5.mono (fun q hq => Nat.lt_of_lt_of_le hq (by decide)))
  refine x_putF (pc' := 64) rfl rfl rfl (hO) (Nat.le_of_ble_eq_true rfl) rfl rfl rfl rfl rfl rfl (fun f11 e11 => ?_)
  have hO := x_o.s e11 hO.1
  have tN := tN.n e11 (by decide)
  have tP := tP.n e11 (by decide)
  have tT := tT.n e11 (by decide)
  have tS := tS.n e11 (by decide)
  have hL := hL.n e11 (by decide)
  have aL := aL.n e11 (by decide)
  have hF := hF.up e11 (Nat.not_lt.mpr (by decide))
  clear e11
  refine x_aload_n (pc' := 65) rfl rfl rfl ?_
  refine x_new (fs := [.null, .null]) (pc' := 68) rfl rfl rfl rfl (dfX0) rfl (Nat.le_of_ble_eq_true rfl) (Nat.le_of_ble_eq_true rfl) (fun f12 e12 => ?_)
  have hO := (hO.zz (Nat.le_succ _)).n e12 (by decide)
  have tN := (tN.zz (Nat.le_succ _)).n e12 (by decide)
  have tP := (tP.zz (Nat.le_succ _)).n e12 (by decide)
  have tT := (tT.zz (Nat.le_succ _)).n e12 (by decide)
  have tS := (tS.zz (Nat.le_succ _)).n e12 (by decide)
  have hL := (hL.zz (Nat.le_succ _)).n e12 (by decide)
  have aL := (aL.zz (Nat.le_succ _)).n e12 (by decide)
  have hF := hF.up e12 (Nat.not_lt.mpr (by decide))
  have oA := x_o.s e12 (Nat.lt_succ_self _)
  clear e12
  refine x_dup (pc' := 69) rfl rfl rfl ?_
  refine x_cI (d := 2) (mc := 22) (ms := 170) (pc' := 72) rfl rfl sX5_38 gX0_init ⟨Nat.le_of_ble_eq_true rfl, Nat.le_of_ble_eq_true rfl⟩ (Nat.le_of_ble_eq_true rfl) ⟨Nat.le_of_ble_eq_true rfl, Nat.le_of_ble_eq_true rfl⟩ ?_
  refine w_aheadInit oA (fun g6 hA aLine aCh t0 t1 t2 t3 t4 hG6 => ⟨rfl, ?_⟩)
  have hO := (hO.zz (Nat.le_add_right _ 22)).fr hG6 (by show _ < _; decide)
  have tN := (tN.zz (Nat.le_add_right _ 22)).fr hG6 (fun i hi => by show _ + i < _; omega)
  have tP := (tP.zz (Nat.le_add_right _ 22)).fr hG6 (fun i hi => by show _ + i < _; omega)
  have tT := (tT.zz (Nat.le_add_right _ 22)).fr hG6 (fun i hi => by show _ + i < _; omega)
  have tS := (tS.zz (Nat.le_add_right _ 22)).fr hG6 (fun i hi => by show _ + i < _; omega)
  have hL := (hL.zz (Nat.le_add_right _ 22)).fr hG6 (by show _ < _; decide)
  have aL := (aL.zz (Nat.le_add_right _ 22)).fr hG6 (by show _ < _; decide)
  have hF := hF.trans (hG6.mono (fun q hq => Nat.lt_of_lt_of_le hq (by decide)))
  refine x_putF (pc' := 75) rfl rfl rfl (hO) (Nat.le_of_ble_eq_true rfl) rfl rfl rfl rfl rfl rfl (fun f13 e13 => ?_)
  have hO := x_o.s e13 hO.1
  have tN := tN.n e13 (by decide)
  have tP := tP.n e13 (by decide)
  have tT := tT.n e13 (by decide)
  have tS := tS.n e13 (by decide)
  have hL := hL.n e13 (by decide)
  have aL := aL.n e13 (by decide)
  have hA := hA.n e13 (by decide)
  have aLine := aLine.n e13 (by decide)
  have aCh := aCh.n e13 (by decide)
  have t0 := t0.n e13 (by decide)
  have t1 := t1.n e13 (by decide)
  have t2 := t2.n e13 (by decide)
  have t3 := t3.n e13 (by decide)
  have t4 := t4.n e13 (by decide)
  have hF := hF.up e13 (Nat.not_lt.mpr (by decide))
  clear e13
  refine x_aload_n (pc' := 76) rfl rfl rfl ?_
  refine x_new (fs := [.null, .null, .null, .null, .null, .int 0, .int 0, .int 0]) (pc' := 79) rfl rfl rfl rfl (dfX1) rfl (Nat.le_of_ble_eq_true rfl) (Nat.le_of_ble_eq_true rfl) (fun f14 e14 => ?_)
  have hO := (hO.zz (Nat.le_succ _)).n e14 (by decide)
  have tN := (tN.zz (Nat.le_succ _)).n e14 (by decide)
  have tP := (tP.zz (Nat.le_succ _)).n e14 (by decide)
  have tT := (tT.zz (Nat.le_succ _)).n e14 (by decide)
  have tS := (tS.zz (Nat.le_succ _)).n e14 (by decide)
  have hL := (hL.zz (Nat.le_succ _)).n e14 (by decide)
  have aL := (aL.zz (Nat.le_succ _)).n e14 (by decide)
  have hA := (hA.zz (Nat.le_succ _)).n e14 (by decide)
  have aLine := (aLine.zz (Nat.le_succ _)).n e14 (by decide)
  have aCh := (aCh.zz (Nat.le_succ _)).n e14 (by decide)
  have t0 := (t0.zz (Nat.le_succ _)).n e14 (by decide)
  have t1 := (t1.zz (Nat.le_succ _)).n e14 (by decide)
  have t2 := (t2.zz (Nat.le_succ _)).n e14 (by decide)
  have t3 := (t3.zz (Nat.le_succ _)).n e14 (by decide)
  have t4 := (t4.zz (Nat.le_succ _)).n e14 (by decide)
  have hF := hF.up e14 (Nat.not_lt.mpr (by decide))
  have oE := x_o.s e14 (Nat.lt_succ_self _)
  clear e14
  refine x_dup (pc' := 80) rfl rfl rfl ?_
  refine x_cI (d := 2) (mc := 11) (ms := 31210) (pc' := 83) rfl rfl sX5_45 gX1_init ⟨Nat.le_of_ble_eq_true rfl, Nat.le_of_ble_eq_true rfl⟩ (Nat.le_of_ble_eq_true rfl) ⟨Nat.le_of_ble_eq_true rfl, Nat.le_of_ble_eq_true rfl⟩ ?_
  refine w_emptyingInit oE (fun g7 hE aR aFi aSl tF tO hG7 => ⟨rfl, ?_⟩)
  have hO := (hO.zz (Nat.le_add_right _ 11)).fr hG7 (by show _ < _; decide)
  have tN := (tN.zz (Nat.le_add_right _ 11)).fr hG7 (fun i hi => by show _ + i < _; omega)
  have tP := (tP.zz (Nat.le_add_right _ 11)).fr hG7 (fun i hi => by show _ + i < _; omega)
  have tT := (tT.zz (Nat.le_add_right _ 11)).fr hG7 (fun i hi => by show _ + i < _; omega)
  have tS := (tS.zz (Nat.le_add_right _ 11)).fr hG7 (fun i hi => by show _ + i < _; omega)
  have hL := (hL.zz (Nat.le_add_right _ 11)).fr hG7 (by show _ < _; decide)
  have aL := (aL.zz (Nat.le_add_right _ 11)).fr hG7 (by show _ < _; decide)
  have hA := (hA.zz (Nat.le_add_right _ 11)).fr hG7 (by show _ < _; decide)
  have aLine := (aLine.zz (Nat.le_add_right _ 11)).fr hG7 (by show _ < _; decide)
  have aCh := (aCh.zz (Nat.le_add_right _ 11)).fr hG7 (by show _ < _; decide)
  have t0 := (t0.zz (Nat.le_add_right _ 11)).fr hG7 (fun i hi => by show _ + i < _; omega)
  have t1 := (t1.zz (Nat.le_add_right _ 11)).fr hG7 (fun i hi => by show _ + i < _; omega)
  have t2 := (t2.zz (Nat.le_add_right _ 11)).fr hG7 (fun i hi => by show _ + i < _; omega)
  have t3 := (t3.zz (Nat.le_add_right _ 11)).fr hG7 (fun i hi => by show _ + i < _; omega)
  have t4 := (t4.zz (Nat.le_add_right _ 11)).fr hG7 (fun i hi => by show _ + i < _; omega)
  have hF := hF.trans (hG7.mono (fun q hq => Nat.lt_of_lt_of_le hq (by decide)))
  refine x_putF (pc' := 86) rfl rfl rfl (hO) (Nat.le_of_ble_eq_true rfl) rfl rfl rfl rfl rfl rfl (fun f15 e15 => ?_)
  have hO := x_o.s e15 hO.1
  have tN := tN.n e15 (by decide)
  have tP := tP.n e15 (by decide)
  have tT := tT.n e15 (by decide)
  have tS := tS.n e15 (by decide)
  have hL := hL.n e15 (by decide)
  have aL := aL.n e15 (by decide)
  have hA := hA.n e15 (by decide)
  have aLine := aLine.n e15 (by decide)
  have aCh := aCh.n e15 (by decide)
  have t0 := t0.n e15 (by decide)
  have t1 := t1.n e15 (by decide)
  have t2 := t2.n e15 (by decide)
  have t3 := t3.n e15 (by decide)
  have t4 := t4.n e15 (by decide)
  have hE := hE.n e15 (by decide)
  have aR := aR.n e15 (by decide)
  have aFi := aFi.n e15 (by decide)
  have aSl := aSl.n e15 (by decide)
  have tF := tF.n e15 (by decide)
  have tO := tO.n e15 (by decide)
  have hF := hF.up e15 (Nat.not_lt.mpr (by decide))
  clear e15
  refine x_aload_n (pc' := 87) rfl rfl rfl ?_
  refine x_new (fs := [.null, .null]) (pc' := 90) rfl rfl rfl rfl (dfX4) rfl (Nat.le_of_ble_eq_true rfl) (Nat.le_of_ble_eq_true rfl) (fun f16 e16 => ?_)
  have hO := (hO.zz (Nat.le_succ _)).n e16 (by decide)
  have tN := (tN.zz (Nat.le_succ _)).n e16 (by decide)
  have tP := (tP.zz (Nat.le_succ _)).n e16 (by decide)
  have tT := (tT.zz (Nat.le_succ _)).n e16 (by decide)
  have tS := (tS.zz (Nat.le_succ _)).n e16 (by decide)
  have hL := (hL.zz (Nat.le_succ _)).n e16 (by decide)
  have aL := (aL.zz (Nat.le_succ _)).n e16 (by decide)
  have hA := (hA.zz (Nat.le_succ _)).n e16 (by decide)
  have aLine := (aLine.zz (Nat.le_succ _)).n e16 (by decide)
  have aCh := (aCh.zz (Nat.le_succ _)).n e16 (by decide)
  have t0 := (t0.zz (Nat.le_succ _)).n e16 (by decide)
  have t1 := (t1.zz (Nat.le_succ _)).n e16 (by decide)
  have t2 := (t2.zz (Nat.le_succ _)).n e16 (by decide)
  have t3 := (t3.zz (Nat.le_succ _)).n e16 (by decide)
  have t4 := (t4.zz (Nat.le_succ _)).n e16 (by decide)
  have hE := (hE.zz (Nat.le_succ _)).n e16 (by decide)
  have aR := (aR.zz (Nat.le_succ _)).n e16 (by decide)
  have aFi := (aFi.zz (Nat.le_succ _)).n e16 (by decide)
  have aSl := (aSl.zz (Nat.le_succ _)).n e16 (by decide)
  have tF := (tF.zz (Nat.le_succ _)).n e16 (by decide)
  have tO := (tO.zz (Nat.le_succ _)).n e16 (by decide)
  have hF := hF.up e16 (Nat.not_lt.mpr (by decide))
  have oW := x_o.s e16 (Nat.lt_succ_self _)
  clear e16
  refine x_dup (pc' := 91) rfl rfl rfl ?_
  refine x_cI (d := 1) (mc := 2) (ms := 53) (pc' := 94) rfl rfl sX5_52 gX4_init ⟨Nat.le_of_ble_eq_true rfl, Nat.le_of_ble_eq_true rfl⟩ (Nat.le_of_ble_eq_true rfl) ⟨Nat.le_of_ble_eq_true rfl, Nat.le_of_ble_eq_true rfl⟩ ?_
  refine w_waysInit oW (fun g8 hW aW aAs hG8 => ⟨rfl, ?_⟩)
  have hO := (hO.zz (Nat.le_add_right _ 2)).fr hG8 (by show _ < _; decide)
  have tN := (tN.zz (Nat.le_add_right _ 2)).fr hG8 (fun i hi => by show _ + i < _; omega)
  have tP := (tP.zz (Nat.le_add_right _ 2)).fr hG8 (fun i hi => by show _ + i < _; omega)
  have tT := (tT.zz (Nat.le_add_right _ 2)).fr hG8 (fun i hi => by show _ + i < _; omega)
  have tS := (tS.zz (Nat.le_add_right _ 2)).fr hG8 (fun i hi => by show _ + i < _; omega)
  have hL := (hL.zz (Nat.le_add_right _ 2)).fr hG8 (by show _ < _; decide)
  have aL := (aL.zz (Nat.le_add_right _ 2)).fr hG8 (by show _ < _; decide)
  have hA := (hA.zz (Nat.le_add_right _ 2)).fr hG8 (by show _ < _; decide)
  have aLine := (aLine.zz (Nat.le_add_right _ 2)).fr hG8 (by show _ < _; decide)
  have aCh := (aCh.zz (Nat.le_add_right _ 2)).fr hG8 (by show _ < _; decide)
  have t0 := (t0.zz (Nat.le_add_right _ 2)).fr hG8 (fun i hi => by show _ + i < _; omega)
  have t1 := (t1.zz (Nat.le_add_right _ 2)).fr hG8 (fun i hi => by show _ + i < _; omega)
  have t2 := (t2.zz (Nat.le_add_right _ 2)).fr hG8 (fun i hi => by show _ + i < _; omega)
  have t3 := (t3.zz (Nat.le_add_right _ 2)).fr hG8 (fun i hi => by show _ + i < _; omega)
  have t4 := (t4.zz (Nat.le_add_right _ 2)).fr hG8 (fun i hi => by show _ + i < _; omega)
  have hE := (hE.zz (Nat.le_add_right _ 2)).fr hG8 (by show _ < _; decide)
  have aR := (aR.zz (Nat.le_add_right _ 2)).fr hG8 (by show _ < _; decide)
  have aFi := (aFi.zz (Nat.le_add_right _ 2)).fr hG8 (by show _ < _; decide)
  have aSl := (aSl.zz (Nat.le_add_right _ 2)).fr hG8 (by show _ < _; decide)
  have tF := (tF.zz (Nat.le_add_right _ 2)).fr hG8 (fun i hi => by show _ + i < _; omega)
  have tO := (tO.zz (Nat.le_add_right _ 2)).fr hG8 (fun i hi => by show _ + i < _; omega)
  have hF := hF.trans (hG8.mono (fun q hq => Nat.lt_of_lt_of_le hq (by decide)))
  refine x_putF (pc' := 97) rfl rfl rfl (hO) (Nat.le_of_ble_eq_true rfl) rfl rfl rfl rfl rfl rfl (fun f17 e17 => ?_)
  have hO := x_o.s e17 hO.1
  have tN := tN.n e17 (by decide)
  have tP := tP.n e17 (by decide)
  have tT := tT.n e17 (by decide)
  have tS := tS.n e17 (by decide)
  have hL := hL.n e17 (by decide)
  have aL := aL.n e17 (by decide)
  have hA := hA.n e17 (by decide)
  have aLine := aLine.n e17 (by decide)
  have aCh := aCh.n e17 (by decide)
  have t0 := t0.n e17 (by decide)
  have t1 := t1.n e17 (by decide)
  have t2 := t2.n e17 (by decide)
  have t3 := t3.n e17 (by decide)
  have t4 := t4.n e17 (by decide)
  have hE := hE.n e17 (by decide)
  have aR := aR.n e17 (by decide)
  have aFi := aFi.n e17 (by decide)
  have aSl := aSl.n e17 (by decide)
  have tF := tF.n e17 (by decide)
  have tO := tO.n e17 (by decide)
  have hW := hW.n e17 (by decide)
  have aW := aW.n e17 (by decide)
  have aAs := aAs.n e17 (by decide)
  have hF := hF.up e17 (Nat.not_lt.mpr (by decide))
  clear e17
  refine x_aload_n (pc' := 98) rfl rfl rfl ?_
  refine x_bipush (pc' := 100) rfl rfl bipush_12 ?_
  refine x_newarrayI (pc' := 102) (N := 12) rfl rfl (by decide) (by decide) (by decide) (Nat.le_of_ble_eq_true rfl) (Nat.le_of_ble_eq_true rfl) (fun f18 e18 => ?_)
  have hO := (hO.zz (Nat.le_succ _)).n e18 (by decide)
  have tN := (tN.zz (Nat.le_succ _)).n e18 (by decide)
  have tP := (tP.zz (Nat.le_succ _)).n e18 (by decide)
  have tT := (tT.zz (Nat.le_succ _)).n e18 (by decide)
  have tS := (tS.zz (Nat.le_succ _)).n e18 (by decide)
  have hL := (hL.zz (Nat.le_succ _)).n e18 (by decide)
  have aL := (aL.zz (Nat.le_succ _)).n e18 (by decide)
  have hA := (hA.zz (Nat.le_succ _)).n e18 (by decide)
  have aLine := (aLine.zz (Nat.le_succ _)).n e18 (by decide)
  have aCh := (aCh.zz (Nat.le_succ _)).n e18 (by decide)
  have t0 := (t0.zz (Nat.le_succ _)).n e18 (by decide)
  have t1 := (t1.zz (Nat.le_succ _)).n e18 (by decide)
  have t2 := (t2.zz (Nat.le_succ _)).n e18 (by decide)
  have t3 := (t3.zz (Nat.le_succ _)).n e18 (by decide)
  have t4 := (t4.zz (Nat.le_succ _)).n e18 (by decide)
  have hE := (hE.zz (Nat.le_succ _)).n e18 (by decide)
  have aR := (aR.zz (Nat.le_succ _)).n e18 (by decide)
  have aFi := (aFi.zz (Nat.le_succ _)).n e18 (by decide)
  have aSl := (aSl.zz (Nat.le_succ _)).n e18 (by decide)
  have tF := (tF.zz (Nat.le_succ _)).n e18 (by decide)
  have tO := (tO.zz (Nat.le_succ _)).n e18 (by decide)
  have hW := (hW.zz (Nat.le_succ _)).n e18 (by decide)
  have aW := (aW.zz (Nat.le_succ _)).n e18 (by decide)
  have aAs := (aAs.zz (Nat.le_succ _)).n e18 (by decide)
  have hF := hF.up e18 (Nat.not_lt.mpr (by decide))
  have aTo := x_a.s e18 (Nat.lt_succ_self _)
  clear e18
  refine x_putF (pc' := 105) rfl rfl rfl (hO) (Nat.le_of_ble_eq_true rfl) rfl rfl rfl rfl rfl rfl (fun f19 e19 => ?_)
  have hO := x_o.s e19 hO.1
  have tN := tN.n e19 (by decide)
  have tP := tP.n e19 (by decide)
  have tT := tT.n e19 (by decide)
  have tS := tS.n e19 (by decide)
  have hL := hL.n e19 (by decide)
  have aL := aL.n e19 (by decide)
  have hA := hA.n e19 (by decide)
  have aLine := aLine.n e19 (by decide)
  have aCh := aCh.n e19 (by decide)
  have t0 := t0.n e19 (by decide)
  have t1 := t1.n e19 (by decide)
  have t2 := t2.n e19 (by decide)
  have t3 := t3.n e19 (by decide)
  have t4 := t4.n e19 (by decide)
  have hE := hE.n e19 (by decide)
  have aR := aR.n e19 (by decide)
  have aFi := aFi.n e19 (by decide)
  have aSl := aSl.n e19 (by decide)
  have tF := tF.n e19 (by decide)
  have tO := tO.n e19 (by decide)
  have hW := hW.n e19 (by decide)
  have aW := aW.n e19 (by decide)
  have aAs := aAs.n e19 (by decide)
  have aTo := aTo.n e19 (by decide)
  have hF := hF.up e19 (Nat.not_lt.mpr (by decide))
  clear e19
  refine x_aload_n (pc' := 106) rfl rfl rfl ?_
  refine x_iconst (pc' := 107) rfl rfl iconst_0 ?_
  refine x_put (pc' := 110) rfl rfl rfl (hO) (Nat.le_of_ble_eq_true rfl) rfl rfl rfl rfl (fun f20 e20 => ?_)
  have hO := x_o.s e20 hO.1
  have tN := tN.n e20 (by decide)
  have tP := tP.n e20 (by decide)
  have tT := tT.n e20 (by decide)
  have tS := tS.n e20 (by decide)
  have hL := hL.n e20 (by decide)
  have aL := aL.n e20 (by decide)
  have hA := hA.n e20 (by decide)
  have aLine := aLine.n e20 (by decide)
  have aCh := aCh.n e20 (by decide)
  have t0 := t0.n e20 (by decide)
  have t1 := t1.n e20 (by decide)
  have t2 := t2.n e20 (by decide)
  have t3 := t3.n e20 (by decide)
  have t4 := t4.n e20 (by decide)
  have hE := hE.n e20 (by decide)
  have aR := aR.n e20 (by decide)
  have aFi := aFi.n e20 (by decide)
  have aSl := aSl.n e20 (by decide)
  have tF := tF.n e20 (by decide)
  have tO := tO.n e20 (by decide)
  have hW := hW.n e20 (by decide)
  have aW := aW.n e20 (by decide)
  have aAs := aAs.n e20 (by decide)
  have aTo := aTo.n e20 (by decide)
  have hF := hF.up e20 (Nat.not_lt.mpr (by decide))
  clear e20
  refine x_aload_n (pc' := 111) rfl rfl rfl ?_
  refine x_bipush (pc' := 113) rfl rfl bipush_7 ?_
  refine x_newarrayI (pc' := 115) (N := 7) rfl rfl (by decide) (by decide) (by decide) (Nat.le_of_ble_eq_true rfl) (Nat.le_of_ble_eq_true rfl) (fun f21 e21 => ?_)
  have hO := (hO.zz (Nat.le_succ _)).n e21 (by decide)
  have tN := (tN.zz (Nat.le_succ _)).n e21 (by decide)
  have tP := (tP.zz (Nat.le_succ _)).n e21 (by decide)
  have tT := (tT.zz (Nat.le_succ _)).n e21 (by decide)
  have tS := (tS.zz (Nat.le_succ _)).n e21 (by decide)
  have hL := (hL.zz (Nat.le_succ _)).n e21 (by decide)
  have aL := (aL.zz (Nat.le_succ _)).n e21 (by decide)
  have hA := (hA.zz (Nat.le_succ _)).n e21 (by decide)
  have aLine := (aLine.zz (Nat.le_succ _)).n e21 (by decide)
  have aCh := (aCh.zz (Nat.le_succ _)).n e21 (by decide)
  have t0 := (t0.zz (Nat.le_succ _)).n e21 (by decide)
  have t1 := (t1.zz (Nat.le_succ _)).n e21 (by decide)
  have t2 := (t2.zz (Nat.le_succ _)).n e21 (by decide)
  have t3 := (t3.zz (Nat.le_succ _)).n e21 (by decide)
  have t4 := (t4.zz (Nat.le_succ _)).n e21 (by decide)
  have hE := (hE.zz (Nat.le_succ _)).n e21 (by decide)
  have aR := (aR.zz (Nat.le_succ _)).n e21 (by decide)
  have aFi := (aFi.zz (Nat.le_succ _)).n e21 (by decide)
  have aSl := (aSl.zz (Nat.le_succ _)).n e21 (by decide)
  have tF := (tF.zz (Nat.le_succ _)).n e21 (by decide)
  have tO := (tO.zz (Nat.le_succ _)).n e21 (by decide)
  have hW := (hW.zz (Nat.le_succ _)).n e21 (by decide)
  have aW := (aW.zz (Nat.le_succ _)).n e21 (by decide)
  have aAs := (aAs.zz (Nat.le_succ _)).n e21 (by decide)
  have aTo := (aTo.zz (Nat.le_succ _)).n e21 (by decide)
  have hF := hF.up e21 (Nat.not_lt.mpr (by decide))
  have aRe := x_a.s e21 (Nat.lt_succ_self _)
  clear e21
  refine x_putF (pc' := 118) rfl rfl rfl (hO) (Nat.le_of_ble_eq_true rfl) rfl rfl rfl rfl rfl rfl (fun f22 e22 => ?_)
  have hO := x_o.s e22 hO.1
  have tN := tN.n e22 (by decide)
  have tP := tP.n e22 (by decide)
  have tT := tT.n e22 (by decide)
  have tS := tS.n e22 (by decide)
  have hL := hL.n e22 (by decide)
  have aL := aL.n e22 (by decide)
  have hA := hA.n e22 (by decide)
  have aLine := aLine.n e22 (by decide)
  have aCh := aCh.n e22 (by decide)
  have t0 := t0.n e22 (by decide)
  have t1 := t1.n e22 (by decide)
  have t2 := t2.n e22 (by decide)
  have t3 := t3.n e22 (by decide)
  have t4 := t4.n e22 (by decide)
  have hE := hE.n e22 (by decide)
  have aR := aR.n e22 (by decide)
  have aFi := aFi.n e22 (by decide)
  have aSl := aSl.n e22 (by decide)
  have tF := tF.n e22 (by decide)
  have tO := tO.n e22 (by decide)
  have hW := hW.n e22 (by decide)
  have aW := aW.n e22 (by decide)
  have aAs := aAs.n e22 (by decide)
  have aTo := aTo.n e22 (by decide)
  have aRe := aRe.n e22 (by decide)
  have hF := hF.up e22 (Nat.not_lt.mpr (by decide))
  clear e22
  refine x_return rfl rfl (Nat.le_of_ble_eq_true rfl) (Nat.le_of_ble_eq_true rfl) (h _ ?_ hF)
  refine ⟨hO, ?_, ?_, ?_, hL, hA, aLine, hE, hW⟩
  · intro i hi
    match i, hi with
    | 0, _ => exact tN
    | 1, _ => exact tP
    | 2, _ => exact tT
    | 3, _ => exact tS
    | 4, _ => exact tF
    | 5, _ => exact tO
    | 6, _ => exact t0
    | 7, _ => exact t1
    | 8, _ => exact t2
    | 9, _ => exact t3
    | 10, _ => exact t4
    | n + 11, h => exact absurd h (by omega)
  · intro i hi
    match i, hi with
    | 0, _ => exact aL
    | 1, _ => exact aCh
    | 2, _ => exact aFi
    | 3, _ => exact aSl
    | 4, _ => exact aAs
    | 5, _ => exact aTo
    | 6, _ => exact aRe
    | n + 7, h => exact absurd h (by omega)
  · intro i hi
    match i, hi with
    | 0, _ => exact aR
    | 1, _ => exact aW
    | n + 2, h => exact absurd h (by omega)
theorem w_mdlInit (hO : x_o 60 f 59 6 [.int 0, .null, .null, .int 0, .int 0, .int 0, .null, .int 0, .int 0, .null, .null, .int 0, .null, .int 0, .int 0, .int 0, .int 0, .int 0, .int 0, .null, .int 0, .null, .int 0, .null, .null, .null, .null, .null, .int 0, .int 0, .int 0, .int 0]) (h : ∀ f' : x_H, x_Mdl 73 f' x_M0 → x_fr (fun q => q < 59) f f' → post none f') : Y E 1 mX6_init [.ref 59] 60 f 13 2351 post := by
  refine Y.intro gX6_init (lv := [(0, .ref 59)]) rfl (Nat.le_of_ble_eq_true rfl) ?_
  have hF : x_fr (fun q => q < 59) f f := x_fr.rf
  refine x_aload_n (pc' := 1) rfl rfl rfl ?_
  refine x_obj (pc' := 4) rfl rfl sX6_7 ⟨Nat.le_of_ble_eq_true rfl, Nat.le_of_ble_eq_true rfl⟩ (Nat.le_of_ble_eq_true rfl) ?_
  refine x_aload_n (pc' := 5) rfl rfl rfl ?_
  refine x_bipush (pc' := 7) rfl rfl bipush_9 ?_
  refine x_newarrayI (pc' := 9) (N := 9) rfl rfl (by decide) (by decide) (by decide) (Nat.le_of_ble_eq_true rfl) (Nat.le_of_ble_eq_true rfl) (fun f1 e1 => ?_)
  have hO := (hO.zz (Nat.le_succ _)).n e1 (by decide)
  have hF := hF.up e1 (Nat.not_lt.mpr (by decide))
  have a0 := x_a.s e1 (Nat.lt_succ_self _)
  clear e1
  refine x_putF (pc' := 12) rfl rfl rfl (hO) (Nat.le_of_ble_eq_true rfl) rfl rfl rfl rfl rfl rfl (fun f2 e2 => ?_)
  have hO := x_o.s e2 hO.1
  have a0 := a0.n e2 (by decide)
  have hF := hF.up e2 (Nat.not_lt.mpr (by decide))
  clear e2
  refine x_aload_n (pc' := 13) rfl rfl rfl ?_
  refine x_bipush (pc' := 15) rfl rfl bipush_9 ?_
  refine x_newarrayI (pc' := 17) (N := 9) rfl rfl (by decide) (by decide) (by decide) (Nat.le_of_ble_eq_true rfl) (Nat.le_of_ble_eq_true rfl) (fun f3 e3 => ?_)
  have hO := (hO.zz (Nat.le_succ _)).n e3 (by decide)
  have a0 := (a0.zz (Nat.le_succ _)).n e3 (by decide)
  have hF := hF.up e3 (Nat.not_lt.mpr (by decide))
  have a1 := x_a.s e3 (Nat.lt_succ_self _)
  clear e3
  refine x_putF (pc' := 20) rfl rfl rfl (hO) (Nat.le_of_ble_eq_true rfl) rfl rfl rfl rfl rfl rfl (fun f4 e4 => ?_)
  have hO := x_o.s e4 hO.1
  have a0 := a0.n e4 (by decide)
  have a1 := a1.n e4 (by decide)
  have hF := hF.up e4 (Nat.not_lt.mpr (by decide))
  clear e4
  refine x_aload_n (pc' := 21) rfl rfl rfl ?_
  refine x_iconst (pc' := 22) rfl rfl iconst_4 ?_
  refine x_put (pc' := 25) rfl rfl rfl (hO) (Nat.le_of_ble_eq_true rfl) rfl rfl rfl rfl (fun f5 e5 => ?_)
  have hO := x_o.s e5 hO.1
  have a0 := a0.n e5 (by decide)
  have a1 := a1.n e5 (by decide)
  have hF := hF.up e5 (Nat.not_lt.mpr (by decide))
  clear e5
  refine x_aload_n (pc' := 26) rfl rfl rfl ?_
  refine x_iconst (pc' := 27) rfl rfl iconst_2 ?_
  refine x_newarrayI (pc' := 29) (N := 2) rfl rfl (by decide) (by decide) (by decide) (Nat.le_of_ble_eq_true rfl) (Nat.le_of_ble_eq_true rfl) (fun f6 e6 => ?_)
  have hO := (hO.zz (Nat.le_succ _)).n e6 (by decide)
  have a0 := (a0.zz (Nat.le_succ _)).n e6 (by decide)
  have a1 := (a1.zz (Nat.le_succ _)).n e6 (by decide)
  have hF := hF.up e6 (Nat.not_lt.mpr (by decide))
  have a2 := x_a.s e6 (Nat.lt_succ_self _)
  clear e6
  refine x_putF (pc' := 32) rfl rfl rfl (hO) (Nat.le_of_ble_eq_true rfl) rfl rfl rfl rfl rfl rfl (fun f7 e7 => ?_)
  have hO := x_o.s e7 hO.1
  have a0 := a0.n e7 (by decide)
  have a1 := a1.n e7 (by decide)
  have a2 := a2.n e7 (by decide)
  have hF := hF.up e7 (Nat.not_lt.mpr (by decide))
  clear e7
  refine x_aload_n (pc' := 33) rfl rfl rfl ?_
  refine x_bipush (pc' := 35) rfl rfl bipush_6 ?_
  refine x_newarrayI (pc' := 37) (N := 6) rfl rfl (by decide) (by decide) (by decide) (Nat.le_of_ble_eq_true rfl) (Nat.le_of_ble_eq_true rfl) (fun f8 e8 => ?_)
  have hO := (hO.zz (Nat.le_succ _)).n e8 (by decide)
  have a0 := (a0.zz (Nat.le_succ _)).n e8 (by decide)
  have a1 := (a1.zz (Nat.le_succ _)).n e8 (by decide)
  have a2 := (a2.zz (Nat.le_succ _)).n e8 (by decide)
  have hF := hF.up e8 (Nat.not_lt.mpr (by decide))
  have a3 := x_a.s e8 (Nat.lt_succ_self _)
  clear e8
  refine x_putF (pc' := 40) rfl rfl rfl (hO) (Nat.le_of_ble_eq_true rfl) rfl rfl rfl rfl rfl rfl (fun f9 e9 => ?_)
  have hO := x_o.s e9 hO.1
  have a0 := a0.n e9 (by decide)
  have a1 := a1.n e9 (by decide)
  have a2 := a2.n e9 (by decide)
  have a3 := a3.n e9 (by decide)
  have hF := hF.up e9 (Nat.not_lt.mpr (by decide))
  clear e9
  refine x_aload_n (pc' := 41) rfl rfl rfl ?_
  refine x_bipush (pc' := 43) rfl rfl bipush_96 ?_
  refine x_newarrayI (pc' := 45) (N := 96) rfl rfl (by decide) (by decide) (by decide) (Nat.le_of_ble_eq_true rfl) (Nat.le_of_ble_eq_true rfl) (fun f10 e10 => ?_)
  have hO := (hO.zz (Nat.le_succ _)).n e10 (by decide)
  have a0 := (a0.zz (Nat.le_succ _)).n e10 (by decide)
  have a1 := (a1.zz (Nat.le_succ _)).n e10 (by decide)
  have a2 := (a2.zz (Nat.le_succ _)).n e10 (by decide)
  have a3 := (a3.zz (Nat.le_succ _)).n e10 (by decide)
  have hF := hF.up e10 (Nat.not_lt.mpr (by decide))
  have a4 := x_a.s e10 (Nat.lt_succ_self _)
  clear e10
  refine x_putF (pc' := 48) rfl rfl rfl (hO) (Nat.le_of_ble_eq_true rfl) rfl rfl rfl rfl rfl rfl (fun f11 e11 => ?_)
  have hO := x_o.s e11 hO.1
  have a0 := a0.n e11 (by decide)
  have a1 := a1.n e11 (by decide)
  have a2 := a2.n e11 (by decide)
  have a3 := a3.n e11 (by decide)
  have a4 := a4.n e11 (by decide)
  have hF := hF.up e11 (Nat.not_lt.mpr (by decide))
  clear e11
  refine x_aload_n (pc' := 49) rfl rfl rfl ?_
  refine x_bipush (pc' := 51) rfl rfl bipush_12 ?_
  refine x_newarrayI (pc' := 53) (N := 12) rfl rfl (by decide) (by decide) (by decide) (Nat.le_of_ble_eq_true rfl) (Nat.le_of_ble_eq_true rfl) (fun f12 e12 => ?_)
  have hO := (hO.zz (Nat.le_succ _)).n e12 (by decide)
  have a0 := (a0.zz (Nat.le_succ _)).n e12 (by decide)
  have a1 := (a1.zz (Nat.le_succ _)).n e12 (by decide)
  have a2 := (a2.zz (Nat.le_succ _)).n e12 (by decide)
  have a3 := (a3.zz (Nat.le_succ _)).n e12 (by decide)
  have a4 := (a4.zz (Nat.le_succ _)).n e12 (by decide)
  have hF := hF.up e12 (Nat.not_lt.mpr (by decide))
  have a5 := x_a.s e12 (Nat.lt_succ_self _)
  clear e12
  refine x_putF (pc' := 56) rfl rfl rfl (hO) (Nat.le_of_ble_eq_true rfl) rfl rfl rfl rfl rfl rfl (fun f13 e13 => ?_)
  have hO := x_o.s e13 hO.1
  have a0 := a0.n e13 (by decide)
  have a1 := a1.n e13 (by decide)
  have a2 := a2.n e13 (by decide)
  have a3 := a3.n e13 (by decide)
  have a4 := a4.n e13 (by decide)
  have a5 := a5.n e13 (by decide)
  have hF := hF.up e13 (Nat.not_lt.mpr (by decide))
  clear e13
  refine x_aload_n (pc' := 57) rfl rfl rfl ?_
  refine x_bipush (pc' := 59) rfl rfl bipush_96 ?_
  refine x_newarrayI (pc' := 61) (N := 96) rfl rfl (by decide) (by decide) (by decide) (Nat.le_of_ble_eq_true rfl) (Nat.le_of_ble_eq_true rfl) (fun f14 e14 => ?_)
  have hO := (hO.zz (Nat.le_succ _)).n e14 (by decide)
  have a0 := (a0.zz (Nat.le_succ _)).n e14 (by decide)
  have a1 := (a1.zz (Nat.le_succ _)).n e14 (by decide)
  have a2 := (a2.zz (Nat.le_succ _)).n e14 (by decide)
  have a3 := (a3.zz (Nat.le_succ _)).n e14 (by decide)
  have a4 := (a4.zz (Nat.le_succ _)).n e14 (by decide)
  have a5 := (a5.zz (Nat.le_succ _)).n e14 (by decide)
  have hF := hF.up e14 (Nat.not_lt.mpr (by decide))
  have a6 := x_a.s e14 (Nat.lt_succ_self _)
  clear e14
  refine x_putF (pc' := 64) rfl rfl rfl (hO) (Nat.le_of_ble_eq_true rfl) rfl rfl rfl rfl rfl rfl (fun f15 e15 => ?_)
  have hO := x_o.s e15 hO.1
  have a0 := a0.n e15 (by decide)
  have a1 := a1.n e15 (by decide)
  have a2 := a2.n e15 (by decide)
  have a3 := a3.n e15 (by decide)
  have a4 := a4.n e15 (by decide)
  have a5 := a5.n e15 (by decide)
  have a6 := a6.n e15 (by decide)
  have hF := hF.up e15 (Nat.not_lt.mpr (by decide))
  clear e15
  refine x_aload_n (pc' := 65) rfl rfl rfl ?_
  refine x_bipush (pc' := 67) rfl rfl bipush_9 ?_
  refine x_newarrayI (pc' := 69) (N := 9) rfl rfl (by decide) (by decide) (by decide) (Nat.le_of_ble_eq_true rfl) (Nat.le_of_ble_eq_true rfl) (fun f16 e16 => ?_)
  have hO := (hO.zz (Nat.le_succ _)).n e16 (by decide)
  have a0 := (a0.zz (Nat.le_succ _)).n e16 (by decide)
  have a1 := (a1.zz (Nat.le_succ _)).n e16 (by decide)
  have a2 := (a2.zz (Nat.le_succ _)).n e16 (by decide)
  have a3 := (a3.zz (Nat.le_succ _)).n e16 (by decide)
  have a4 := (a4.zz (Nat.le_succ _)).n e16 (by decide)
  have a5 := (a5.zz (Nat.le_succ _)).n e16 (by decide)
  have a6 := (a6.zz (Nat.le_succ _)).n e16 (by decide)
  have hF := hF.up e16 (Nat.not_lt.mpr (by decide))
  have a7 := x_a.s e16 (Nat.lt_succ_self _)
  clear e16
  refine x_putF (pc' := 72) rfl rfl rfl (hO) (Nat.le_of_ble_eq_true rfl) rfl rfl rfl rfl rfl rfl (fun f17 e17 => ?_)
  have hO := x_o.s e17 hO.1
  have a0 := a0.n e17 (by decide)
  have a1 := a1.n e17 (by decide)
  have a2 := a2.n e17 (by decide)
  have a3 := a3.n e17 (by decide)
  have a4 := a4.n e17 (by decide)
  have a5 := a5.n e17 (by decide)
  have a6 := a6.n e17 (by decide)
  have a7 := a7.n e17 (by decide)
  have hF := hF.up e17 (Nat.not_lt.mpr (by decide))
  clear e17
  refine x_aload_n (pc' := 73) rfl rfl rfl ?_
  refine x_sipush (pc' := 76) rfl rfl sipush_1809 ?_
  refine x_newarrayI (pc' := 78) (N := 1809) rfl rfl (by decide) (by decide) (by decide) (Nat.le_of_ble_eq_true rfl) (Nat.le_of_ble_eq_true rfl) (fun f18 e18 => ?_)
  have hO := (hO.zz (Nat.le_succ _)).n e18 (by decide)
  have a0 := (a0.zz (Nat.le_succ _)).n e18 (by decide)
  have a1 := (a1.zz (Nat.le_succ _)).n e18 (by decide)
  have a2 := (a2.zz (Nat.le_succ _)).n e18 (by decide)
  have a3 := (a3.zz (Nat.le_succ _)).n e18 (by decide)
  have a4 := (a4.zz (Nat.le_succ _)).n e18 (by decide)
  have a5 := (a5.zz (Nat.le_succ _)).n e18 (by decide)
  have a6 := (a6.zz (Nat.le_succ _)).n e18 (by decide)
  have a7 := (a7.zz (Nat.le_succ _)).n e18 (by decide)
  have hF := hF.up e18 (Nat.not_lt.mpr (by decide))
  have a8 := x_a.s e18 (Nat.lt_succ_self _)
  clear e18
  refine x_putF (pc' := 81) rfl rfl rfl (hO) (Nat.le_of_ble_eq_true rfl) rfl rfl rfl rfl rfl rfl (fun f19 e19 => ?_)
  have hO := x_o.s e19 hO.1
  have a0 := a0.n e19 (by decide)
  have a1 := a1.n e19 (by decide)
  have a2 := a2.n e19 (by decide)
  have a3 := a3.n e19 (by decide)
  have a4 := a4.n e19 (by decide)
  have a5 := a5.n e19 (by decide)
  have a6 := a6.n e19 (by decide)
  have a7 := a7.n e19 (by decide)
  have a8 := a8.n e19 (by decide)
  have hF := hF.up e19 (Nat.not_lt.mpr (by decide))
  clear e19
  refine x_aload_n (pc' := 82) rfl rfl rfl ?_
  refine x_bipush (pc' := 84) rfl rfl bipush_41 ?_
  refine x_newarrayL (pc' := 86) (N := 41) rfl rfl (by decide) (by decide) (by decide) (Nat.le_of_ble_eq_true rfl) (Nat.le_of_ble_eq_true rfl) (fun f20 e20 => ?_)
  have hO := (hO.zz (Nat.le_succ _)).n e20 (by decide)
  have a0 := (a0.zz (Nat.le_succ _)).n e20 (by decide)
  have a1 := (a1.zz (Nat.le_succ _)).n e20 (by decide)
  have a2 := (a2.zz (Nat.le_succ _)).n e20 (by decide)
  have a3 := (a3.zz (Nat.le_succ _)).n e20 (by decide)
  have a4 := (a4.zz (Nat.le_succ _)).n e20 (by decide)
  have a5 := (a5.zz (Nat.le_succ _)).n e20 (by decide)
  have a6 := (a6.zz (Nat.le_succ _)).n e20 (by decide)
  have a7 := (a7.zz (Nat.le_succ _)).n e20 (by decide)
  have a8 := (a8.zz (Nat.le_succ _)).n e20 (by decide)
  have hF := hF.up e20 (Nat.not_lt.mpr (by decide))
  have l0 := x_a.s e20 (Nat.lt_succ_self _)
  clear e20
  refine x_putF (pc' := 89) rfl rfl rfl (hO) (Nat.le_of_ble_eq_true rfl) rfl rfl rfl rfl rfl rfl (fun f21 e21 => ?_)
  have hO := x_o.s e21 hO.1
  have a0 := a0.n e21 (by decide)
  have a1 := a1.n e21 (by decide)
  have a2 := a2.n e21 (by decide)
  have a3 := a3.n e21 (by decide)
  have a4 := a4.n e21 (by decide)
  have a5 := a5.n e21 (by decide)
  have a6 := a6.n e21 (by decide)
  have a7 := a7.n e21 (by decide)
  have a8 := a8.n e21 (by decide)
  have l0 := l0.n e21 (by decide)
  have hF := hF.up e21 (Nat.not_lt.mpr (by decide))
  clear e21
  refine x_aload_n (pc' := 90) rfl rfl rfl ?_
  refine x_bipush (pc' := 92) rfl rfl bipush_41 ?_
  refine x_newarrayL (pc' := 94) (N := 41) rfl rfl (by decide) (by decide) (by decide) (Nat.le_of_ble_eq_true rfl) (Nat.le_of_ble_eq_true rfl) (fun f22 e22 => ?_)
  have hO := (hO.zz (Nat.le_succ _)).n e22 (by decide)
  have a0 := (a0.zz (Nat.le_succ _)).n e22 (by decide)
  have a1 := (a1.zz (Nat.le_succ _)).n e22 (by decide)
  have a2 := (a2.zz (Nat.le_succ _)).n e22 (by decide)
  have a3 := (a3.zz (Nat.le_succ _)).n e22 (by decide)
  have a4 := (a4.zz (Nat.le_succ _)).n e22 (by decide)
  have a5 := (a5.zz (Nat.le_succ _)).n e22 (by decide)
  have a6 := (a6.zz (Nat.le_succ _)).n e22 (by decide)
  have a7 := (a7.zz (Nat.le_succ _)).n e22 (by decide)
  have a8 := (a8.zz (Nat.le_succ _)).n e22 (by decide)
  have l0 := (l0.zz (Nat.le_succ _)).n e22 (by decide)
  have hF := hF.up e22 (Nat.not_lt.mpr (by decide))
  have l1 := x_a.s e22 (Nat.lt_succ_self _)
  clear e22
  refine x_putF (pc' := 97) rfl rfl rfl (hO) (Nat.le_of_ble_eq_true rfl) rfl rfl rfl rfl rfl rfl (fun f23 e23 => ?_)
  have hO := x_o.s e23 hO.1
  have a0 := a0.n e23 (by decide)
  have a1 := a1.n e23 (by decide)
  have a2 := a2.n e23 (by decide)
  have a3 := a3.n e23 (by decide)
  have a4 := a4.n e23 (by decide)
  have a5 := a5.n e23 (by decide)
  have a6 := a6.n e23 (by decide)
  have a7 := a7.n e23 (by decide)
  have a8 := a8.n e23 (by decide)
  have l0 := l0.n e23 (by decide)
  have l1 := l1.n e23 (by decide)
  have hF := hF.up e23 (Nat.not_lt.mpr (by decide))
  clear e23
  refine x_aload_n (pc' := 98) rfl rfl rfl ?_
  refine x_bipush (pc' := 100) rfl rfl bipush_12 ?_
  refine x_newarrayI (pc' := 102) (N := 12) rfl rfl (by decide) (by decide) (by decide) (Nat.le_of_ble_eq_true rfl) (Nat.le_of_ble_eq_true rfl) (fun f24 e24 => ?_)
  have hO := (hO.zz (Nat.le_succ _)).n e24 (by decide)
  have a0 := (a0.zz (Nat.le_succ _)).n e24 (by decide)
  have a1 := (a1.zz (Nat.le_succ _)).n e24 (by decide)
  have a2 := (a2.zz (Nat.le_succ _)).n e24 (by decide)
  have a3 := (a3.zz (Nat.le_succ _)).n e24 (by decide)
  have a4 := (a4.zz (Nat.le_succ _)).n e24 (by decide)
  have a5 := (a5.zz (Nat.le_succ _)).n e24 (by decide)
  have a6 := (a6.zz (Nat.le_succ _)).n e24 (by decide)
  have a7 := (a7.zz (Nat.le_succ _)).n e24 (by decide)
  have a8 := (a8.zz (Nat.le_succ _)).n e24 (by decide)
  have l0 := (l0.zz (Nat.le_succ _)).n e24 (by decide)
  have l1 := (l1.zz (Nat.le_succ _)).n e24 (by decide)
  have hF := hF.up e24 (Nat.not_lt.mpr (by decide))
  have a9 := x_a.s e24 (Nat.lt_succ_self _)
  clear e24
  refine x_putF (pc' := 105) rfl rfl rfl (hO) (Nat.le_of_ble_eq_true rfl) rfl rfl rfl rfl rfl rfl (fun f25 e25 => ?_)
  have hO := x_o.s e25 hO.1
  have a0 := a0.n e25 (by decide)
  have a1 := a1.n e25 (by decide)
  have a2 := a2.n e25 (by decide)
  have a3 := a3.n e25 (by decide)
  have a4 := a4.n e25 (by decide)
  have a5 := a5.n e25 (by decide)
  have a6 := a6.n e25 (by decide)
  have a7 := a7.n e25 (by decide)
  have a8 := a8.n e25 (by decide)
  have l0 := l0.n e25 (by decide)
  have l1 := l1.n e25 (by decide)
  have a9 := a9.n e25 (by decide)
  have hF := hF.up e25 (Nat.not_lt.mpr (by decide))
  clear e25
  refine x_aload_n (pc' := 106) rfl rfl rfl ?_
  refine x_bipush (pc' := 108) rfl rfl bipush_9 ?_
  refine x_newarrayI (pc' := 110) (N := 9) rfl rfl (by decide) (by decide) (by decide) (Nat.le_of_ble_eq_true rfl) (Nat.le_of_ble_eq_true rfl) (fun f26 e26 => ?_)
  have hO := (hO.zz (Nat.le_succ _)).n e26 (by decide)
  have a0 := (a0.zz (Nat.le_succ _)).n e26 (by decide)
  have a1 := (a1.zz (Nat.le_succ _)).n e26 (by decide)
  have a2 := (a2.zz (Nat.le_succ _)).n e26 (by decide)
  have a3 := (a3.zz (Nat.le_succ _)).n e26 (by decide)
  have a4 := (a4.zz (Nat.le_succ _)).n e26 (by decide)
  have a5 := (a5.zz (Nat.le_succ _)).n e26 (by decide)
  have a6 := (a6.zz (Nat.le_succ _)).n e26 (by decide)
  have a7 := (a7.zz (Nat.le_succ _)).n e26 (by decide)
  have a8 := (a8.zz (Nat.le_succ _)).n e26 (by decide)
  have l0 := (l0.zz (Nat.le_succ _)).n e26 (by decide)
  have l1 := (l1.zz (Nat.le_succ _)).n e26 (by decide)
  have a9 := (a9.zz (Nat.le_succ _)).n e26 (by decide)
  have hF := hF.up e26 (Nat.not_lt.mpr (by decide))
  have a10 := x_a.s e26 (Nat.lt_succ_self _)
  clear e26
  refine x_putF (pc' := 113) rfl rfl rfl (hO) (Nat.le_of_ble_eq_true rfl) rfl rfl rfl rfl rfl rfl (fun f27 e27 => ?_)
  have hO := x_o.s e27 hO.1
  have a0 := a0.n e27 (by decide)
  have a1 := a1.n e27 (by decide)
  have a2 := a2.n e27 (by decide)
  have a3 := a3.n e27 (by decide)
  have a4 := a4.n e27 (by decide)
  have a5 := a5.n e27 (by decide)
  have a6 := a6.n e27 (by decide)
  have a7 := a7.n e27 (by decide)
  have a8 := a8.n e27 (by decide)
  have l0 := l0.n e27 (by decide)
  have l1 := l1.n e27 (by decide)
  have a9 := a9.n e27 (by decide)
  have a10 := a10.n e27 (by decide)
  have hF := hF.up e27 (Nat.not_lt.mpr (by decide))
  clear e27
  refine x_aload_n (pc' := 114) rfl rfl rfl ?_
  refine x_iconst (pc' := 115) rfl rfl iconst_m1 ?_
  refine x_put (pc' := 118) rfl rfl rfl (hO) (Nat.le_of_ble_eq_true rfl) rfl rfl rfl rfl (fun f28 e28 => ?_)
  have hO := x_o.s e28 hO.1
  have a0 := a0.n e28 (by decide)
  have a1 := a1.n e28 (by decide)
  have a2 := a2.n e28 (by decide)
  have a3 := a3.n e28 (by decide)
  have a4 := a4.n e28 (by decide)
  have a5 := a5.n e28 (by decide)
  have a6 := a6.n e28 (by decide)
  have a7 := a7.n e28 (by decide)
  have a8 := a8.n e28 (by decide)
  have l0 := l0.n e28 (by decide)
  have l1 := l1.n e28 (by decide)
  have a9 := a9.n e28 (by decide)
  have a10 := a10.n e28 (by decide)
  have hF := hF.up e28 (Nat.not_lt.mpr (by decide))
  clear e28
  refine x_return rfl rfl (Nat.le_of_ble_eq_true rfl) (Nat.le_of_ble_eq_true rfl) (h _ ?_ hF)
  refine ⟨hO, ?_, ?_⟩
  · intro i hi
    match i, hi with
    | 0, _ => exact a0
    | 1, _ => exact a1
    | 2, _ => exact a2
    | 3, _ => exact a3
    | 4, _ => exact a4
    | 5, _ => exact a5
    | 6, _ => exact a6
    | 7, _ => exact a7
    | 8, _ => exact a8
    | 9, _ => exact a9
    | 10, _ => exact a10
    | n + 11, h => exact absurd h (by omega)
  · intro i hi
    match i, hi with
    | 0, _ => exact l0
    | 1, _ => exact l1
    | n + 2, h => exact absurd h (by omega)
end INIT
end
section
/-! How the system's and the reference's cells change. -/
def x_ua (A : Nat → Nat → Int32) (j : Nat) (g : Nat → Int32) : Nat → Nat → Int32 := fun i => if i = j then g else A i
def x_ul (A : Nat → Nat → Int64) (j : Nat) (g : Nat → Int64) : Nat → Nat → Int64 := fun i => if i = j then g else A i
def x_ut (A : Nat → x_T) (j : Nat) (g : x_T) : Nat → x_T := fun i => if i = j then g else A i
theorem x_pos1 : ∀ j, j < 7 → (∀ i, i < 11 → x_ap j < x_tp i ∨ x_tp i + 4 ≤ x_ap j) ∧ (∀ i, i < 7 → i ≠ j → x_ap i ≠ x_ap j) ∧ (∀ i, i < 2 → x_lp i ≠ x_ap j) ∧ 0 ≠ x_ap j ∧ 17 ≠ x_ap j ∧ 19 ≠ x_ap j ∧ 20 ≠ x_ap j ∧ 42 ≠ x_ap j ∧ 54 ≠ x_ap j := by decide +kernel
theorem x_pos2 : ∀ j, j < 2 → (∀ i, i < 11 → x_lp j < x_tp i ∨ x_tp i + 4 ≤ x_lp j) ∧ (∀ i, i < 7 → x_ap i ≠ x_lp j) ∧ (∀ i, i < 2 → i ≠ j → x_lp i ≠ x_lp j) ∧ 0 ≠ x_lp j ∧ 17 ≠ x_lp j ∧ 19 ≠ x_lp j ∧ 20 ≠ x_lp j ∧ 42 ≠ x_lp j ∧ 54 ≠ x_lp j := by decide +kernel
theorem x_pos3 : ∀ j, j < 11 → (∀ i, i < 11 → i ≠ j → x_tp i + 4 ≤ x_tp j ∨ x_tp j + 4 ≤ x_tp i) ∧ (∀ i, i < 7 → x_ot (x_tp j) (x_ap i)) ∧ (∀ i, i < 2 → x_ot (x_tp j) (x_lp i)) ∧ x_ot (x_tp j) 0 ∧ x_ot (x_tp j) 17 ∧ x_ot (x_tp j) 19 ∧ x_ot (x_tp j) 20 ∧ x_ot (x_tp j) 42 ∧ x_ot (x_tp j) 54 := by decide +kernel
theorem x_pos4 : ∀ k, (k = 0 ∨ k = 17 ∨ k = 42) → (∀ i, i < 11 → k < x_tp i ∨ x_tp i + 4 ≤ k) ∧ (∀ i, i < 7 → x_ap i ≠ k) ∧ (∀ i, i < 2 → x_lp i ≠ k) := by
  intro k hk
  rcases hk with rfl | rfl | rfl <;> decide +kernel
theorem x_pos5 : (∀ i, i < 11 → x_tp i + 4 ≤ 59) ∧ (∀ i, i < 7 → x_ap i < 59) ∧ (∀ i, i < 2 → x_lp i < 59) := by decide +kernel
theorem x_pos6 : (∀ j, j < 11 → 59 < x_mp j ∧ (∀ i, i < 11 → i ≠ j → x_mp i ≠ x_mp j) ∧ (∀ i, i < 2 → 69 + i ≠ x_mp j)) ∧ (∀ j, j < 2 → (∀ i, i < 11 → x_mp i ≠ 69 + j) ∧ (∀ i, i < 2 → i ≠ j → 69 + i ≠ 69 + j)) := by decide +kernel
theorem x_mFs0 (n : Nat → Int32) (v : Int32) : (x_mF n).set 0 (.int v) = x_mF (upd n 0 v) := rfl
theorem x_mFs3 (n : Nat → Int32) (v : Int32) : (x_mF n).set 3 (.int v) = x_mF (upd n 3 v) := rfl
theorem x_mFs4 (n : Nat → Int32) (v : Int32) : (x_mF n).set 4 (.int v) = x_mF (upd n 4 v) := rfl
theorem x_mFs5 (n : Nat → Int32) (v : Int32) : (x_mF n).set 5 (.int v) = x_mF (upd n 5 v) := rfl
theorem x_mFs7 (n : Nat → Int32) (v : Int32) : (x_mF n).set 7 (.int v) = x_mF (upd n 7 v) := rfl
theorem x_mFs8 (n : Nat → Int32) (v : Int32) : (x_mF n).set 8 (.int v) = x_mF (upd n 8 v) := rfl
theorem x_mFs11 (n : Nat → Int32) (v : Int32) : (x_mF n).set 11 (.int v) = x_mF (upd n 11 v) := rfl
theorem x_mFs13 (n : Nat → Int32) (v : Int32) : (x_mF n).set 13 (.int v) = x_mF (upd n 13 v) := rfl
theorem x_mFs14 (n : Nat → Int32) (v : Int32) : (x_mF n).set 14 (.int v) = x_mF (upd n 14 v) := rfl
theorem x_mFs15 (n : Nat → Int32) (v : Int32) : (x_mF n).set 15 (.int v) = x_mF (upd n 15 v) := rfl
theorem x_mFs16 (n : Nat → Int32) (v : Int32) : (x_mF n).set 16 (.int v) = x_mF (upd n 16 v) := rfl
theorem x_mFs17 (n : Nat → Int32) (v : Int32) : (x_mF n).set 17 (.int v) = x_mF (upd n 17 v) := rfl
theorem x_mFs18 (n : Nat → Int32) (v : Int32) : (x_mF n).set 18 (.int v) = x_mF (upd n 18 v) := rfl
theorem x_mFs20 (n : Nat → Int32) (v : Int32) : (x_mF n).set 20 (.int v) = x_mF (upd n 20 v) := rfl
theorem x_mFs22 (n : Nat → Int32) (v : Int32) : (x_mF n).set 22 (.int v) = x_mF (upd n 22 v) := rfl
theorem x_mFs28 (n : Nat → Int32) (v : Int32) : (x_mF n).set 28 (.int v) = x_mF (upd n 28 v) := rfl
theorem x_mFs29 (n : Nat → Int32) (v : Int32) : (x_mF n).set 29 (.int v) = x_mF (upd n 29 v) := rfl
theorem x_mFs30 (n : Nat → Int32) (v : Int32) : (x_mF n).set 30 (.int v) = x_mF (upd n 30 v) := rfl
theorem x_mFs31 (n : Nat → Int32) (v : Int32) : (x_mF n).set 31 (.int v) = x_mF (upd n 31 v) := rfl
theorem x_tFs0 (t : Nat) (n : Nat → Int32) (v : Int32) : (x_tF t n).set 3 (.int v) = x_tF t (upd n 0 v) := rfl
theorem x_tFs1 (t : Nat) (n : Nat → Int32) (v : Int32) : (x_tF t n).set 4 (.int v) = x_tF t (upd n 1 v) := rfl
theorem x_tFs2 (t : Nat) (n : Nat → Int32) (v : Int32) : (x_tF t n).set 5 (.int v) = x_tF t (upd n 2 v) := rfl
theorem x_tFs3 (t : Nat) (n : Nat → Int32) (v : Int32) : (x_tF t n).set 6 (.int v) = x_tF t (upd n 3 v) := rfl
theorem x_tFs4 (t : Nat) (n : Nat → Int32) (v : Int32) : (x_tF t n).set 7 (.int v) = x_tF t (upd n 4 v) := rfl
theorem x_tFs5 (t : Nat) (n : Nat → Int32) (v : Int32) : (x_tF t n).set 8 (.int v) = x_tF t (upd n 5 v) := rfl
theorem x_tFs6 (t : Nat) (n : Nat → Int32) (v : Int32) : (x_tF t n).set 9 (.int v) = x_tF t (upd n 6 v) := rfl
theorem x_tFs7 (t : Nat) (n : Nat → Int32) (v : Int32) : (x_tF t n).set 10 (.int v) = x_tF t (upd n 7 v) := rfl
theorem x_tFs8 (t : Nat) (n : Nat → Int32) (v : Int32) : (x_tF t n).set 11 (.int v) = x_tF t (upd n 8 v) := rfl
theorem x_oFs0 (n : Nat → Int32) (v : Int32) : (x_oF n).set 2 (.int v) = x_oF (upd n 0 v) := rfl
theorem x_oFs1 (n : Nat → Int32) (v : Int32) : (x_oF n).set 10 (.int v) = x_oF (upd n 1 v) := rfl
theorem x_eFs3 (n : Nat → Int32) (v : Int32) : (x_eF n).set 5 (.int v) = x_eF (upd n 3 v) := rfl
theorem x_eFs4 (n : Nat → Int32) (v : Int32) : (x_eF n).set 6 (.int v) = x_eF (upd n 4 v) := rfl
theorem x_eFs5 (n : Nat → Int32) (v : Int32) : (x_eF n).set 7 (.int v) = x_eF (upd n 5 v) := rfl
section SYS
variable {z : Nat} {f f' : x_H} {S : x_S} {M : x_N}
theorem x_Sys.arr (h : x_Sys z f S) (j : Nat) {g : Nat → Int32} (hj : j < 7) (e : f' = x_up f (x_ap j) (.inl (x_an j, .inl g))) : x_Sys z f' (S.1, S.2.1, x_ua S.2.2.1 j g, S.2.2.2) := by
  obtain ⟨h1, h2, h3, h4, h5, h6, h7, h8, h9⟩ := h
  obtain ⟨p1, p2, p3, p4, p5, p6, p7, p8, p9⟩ := x_pos1 j hj
  refine ⟨h1.n e p4, fun i hi => (h2 i hi).n e (p1 i hi), fun i hi => ?_, fun i hi => (h4 i hi).n e (p3 i hi), h5.n e p5, h6.n e p6, h7.n e p7, h8.n e p8, h9.n e p9⟩
  by_cases hij : i = j
  · subst hij
    have h9 := x_a.s e (h3 i hi).1
    simp only [x_ua, if_pos]
    exact h9
  · simp only [x_ua, if_neg hij]
    exact (h3 i hi).n e (p2 i hi hij)
theorem x_Sys.lng (h : x_Sys z f S) (j : Nat) {g : Nat → Int64} (hj : j < 2) (e : f' = x_up f (x_lp j) (.inl (x_ln j, .inr (.inl g)))) : x_Sys z f' (S.1, S.2.1, S.2.2.1, x_ul S.2.2.2 j g) := by
  obtain ⟨h1, h2, h3, h4, h5, h6, h7, h8, h9⟩ := h
  obtain ⟨p1, p2, p3, p4, p5, p6, p7, p8, p9⟩ := x_pos2 j hj
  refine ⟨h1.n e p4, fun i hi => (h2 i hi).n e (p1 i hi), fun i hi => (h3 i hi).n e (p2 i hi), fun i hi => ?_, h5.n e p5, h6.n e p6, h7.n e p7, h8.n e p8, h9.n e p9⟩
  by_cases hij : i = j
  · subst hij
    have h9 := x_a.s e (h4 i hi).1
    simp only [x_ul, if_pos]
    exact h9
  · simp only [x_ul, if_neg hij]
    exact (h4 i hi).n e (p3 i hi hij)
theorem x_Sys.tab (h : x_Sys z f S) (j : Nat) {T : x_T} (hj : j < 11) (ht : x_t z f' (x_tp j) T) (hf : x_fr (x_ot (x_tp j)) f f') : x_Sys z f' (S.1, x_ut S.2.1 j T, S.2.2.1, S.2.2.2) := by
  obtain ⟨h1, h2, h3, h4, h5, h6, h7, h8, h9⟩ := h
  obtain ⟨p1, p2, p3, p4, p5, p6, p7, p8, p9⟩ := x_pos3 j hj
  refine ⟨h1.fr hf p4, fun i hi => ?_, fun i hi => (h3 i hi).fr hf (p2 i hi), fun i hi => (h4 i hi).fr hf (p3 i hi), h5.fr hf p5, h6.fr hf p6, h7.fr hf p7, h8.fr hf p8, h9.fr hf p9⟩
  by_cases hij : i = j
  · subst hij
    simp only [x_ut, if_pos]
    exact ht
  · simp only [x_ut, if_neg hij]
    refine (h2 i hi).fr hf (fun a ha => ?_)
    have := p1 i hi hij
    unfold x_ot
    omega
theorem x_Sys.num0 (h : x_Sys z f S) (n' : Nat → Int32) (e : f' = x_up f 0 (.inr (5, x_oF n'))) (h2 : ∀ i, 2 ≤ i → n' i = S.1 i) : x_Sys z f' (n', S.2.1, S.2.2.1, S.2.2.2) := by
  obtain ⟨h1, g2, h3, h4, h5, h6, h7, h8, h9⟩ := h
  obtain ⟨p1, p2, p3⟩ := x_pos4 0 (Or.inl rfl)
  refine ⟨x_o.s e h1.1, fun i hi => (g2 i hi).n e (p1 i hi), fun i hi => (h3 i hi).n e (p2 i hi), fun i hi => (h4 i hi).n e (p3 i hi), ?_, h6.n e (by decide), h7.n e (by decide), ?_, h9.n e (by decide)⟩
  · show x_o z f' 17 2 [.ref 18, .int (n' 2)]
    rw [show n' 2 = S.1 2 from h2 2 (by decide)]
    exact h5.n e (by decide)
  · have h9 : x_eF n' = x_eF S.1 := by
      unfold x_eF
      rw [h2 3 (by decide), h2 4 (by decide), h2 5 (by decide)]
    show x_o z f' 42 1 (x_eF n')
    rw [h9]
    exact h8.n e (by decide)
theorem x_Sys.num2 (h : x_Sys z f S) (v : Int32) (e : f' = x_up f 17 (.inr (2, [.ref 18, .int v]))) : x_Sys z f' (upd S.1 2 v, S.2.1, S.2.2.1, S.2.2.2) := by
  obtain ⟨h1, g2, h3, h4, h5, h6, h7, h8, h9⟩ := h
  obtain ⟨p1, p2, p3⟩ := x_pos4 17 (Or.inr (Or.inl rfl))
  exact ⟨h1.n e (by decide), fun i hi => (g2 i hi).n e (p1 i hi), fun i hi => (h3 i hi).n e (p2 i hi), fun i hi => (h4 i hi).n e (p3 i hi), x_o.s e h5.1, h6.n e (by decide), h7.n e (by decide), h8.n e (by decide), h9.n e (by decide)⟩
theorem x_Sys.fr (h : x_Sys z f S) (hf : x_fr (fun q => q < 59) f f') : x_Sys z f' S := by
  obtain ⟨h1, h2, h3, h4, h5, h6, h7, h8, h9⟩ := h
  obtain ⟨p1, p2, p3⟩ := x_pos5
  exact ⟨h1.fr hf (by decide), fun i hi => (h2 i hi).fr hf (fun a ha => by have := p1 i hi; show _ < _; omega), fun i hi => (h3 i hi).fr hf (p2 i hi), fun i hi => (h4 i hi).fr hf (p3 i hi), h5.fr hf (by decide), h6.fr hf (by decide), h7.fr hf (by decide), h8.fr hf (by decide), h9.fr hf (by decide)⟩
theorem x_Sys.zz {z' : Nat} (h : x_Sys z f S) (hz : z ≤ z') : x_Sys z' f S := by
  obtain ⟨h1, h2, h3, h4, h5, h6, h7, h8, h9⟩ := h
  exact ⟨h1.zz hz, fun i hi => (h2 i hi).zz hz, fun i hi => (h3 i hi).zz hz, fun i hi => (h4 i hi).zz hz, h5.zz hz, h6.zz hz, h7.zz hz, h8.zz hz, h9.zz hz⟩
theorem x_Mdl.num (h : x_Mdl z f M) (k : Nat) {v : Int32} (e : f' = x_up f 59 (.inr (6, (x_mF M.1).set k (.int v)))) (hk : (x_mF M.1).set k (.int v) = x_mF (upd M.1 k v)) : x_Mdl z f' (upd M.1 k v, M.2.1, M.2.2) := by
  rw [hk] at e
  have p := x_pos6.1
  exact ⟨x_o.s e h.1.1, fun i hi => (h.2.1 i hi).n e (by have := (p i hi).1; omega), fun i hi => (h.2.2 i hi).n e (by omega)⟩
theorem x_Mdl.arr (h : x_Mdl z f M) (j : Nat) {g : Nat → Int32} (hj : j < 11) (e : f' = x_up f (x_mp j) (.inl (x_mn j, .inl g))) : x_Mdl z f' (M.1, x_ua M.2.1 j g, M.2.2) := by
  obtain ⟨p1, p2, p3⟩ := x_pos6.1 j hj
  refine ⟨h.1.n e (by omega), fun i hi => ?_, fun i hi => (h.2.2 i hi).n e (p3 i hi)⟩
  by_cases hij : i = j
  · subst hij
    have h9 := x_a.s e (h.2.1 i hi).1
    simp only [x_ua, if_pos]
    exact h9
  · simp only [x_ua, if_neg hij]
    exact (h.2.1 i hi).n e (p2 i hi hij)
theorem x_Mdl.lng (h : x_Mdl z f M) (j : Nat) {g : Nat → Int64} (hj : j < 2) (e : f' = x_up f (69 + j) (.inl (41, .inr (.inl g)))) : x_Mdl z f' (M.1, M.2.1, x_ul M.2.2 j g) := by
  obtain ⟨p2, p3⟩ := x_pos6.2 j hj
  refine ⟨h.1.n e (by omega), fun i hi => (h.2.1 i hi).n e (p2 i hi), fun i hi => ?_⟩
  by_cases hij : i = j
  · subst hij
    have h9 := x_a.s e (h.2.2 i hi).1
    simp only [x_ul, if_pos]
    exact h9
  · simp only [x_ul, if_neg hij]
    exact (h.2.2 i hi).n e (p3 i hi hij)
theorem x_Mdl.fr (h : x_Mdl z f M) (hf : x_fr (fun q => 59 ≤ q) f f') : x_Mdl z f' M :=
  ⟨h.1.fr hf (Nat.le_refl _), fun i hi => (h.2.1 i hi).fr hf (Nat.le_of_lt (x_pos6.1 i hi).1), fun i hi => (h.2.2 i hi).fr hf (by show 59 ≤ _; omega)⟩
end SYS
end
section
/-! Small methods of both sides. -/
theorem lg_lt {x y : Int64} : lg_cmp x y < 0 ↔ x < y := by
  unfold lg_cmp
  by_cases h1 : x > y
  · rw [if_pos h1]
    have h2 : ¬ x < y := fun h => Int64.lt_irrefl (Int64.lt_trans h h1)
    exact ⟨fun h => absurd h (by decide), fun h => absurd h h2⟩
  · rw [if_neg h1]
    by_cases h2 : x = y
    · rw [if_pos h2]
      exact ⟨fun h => absurd h (by decide), fun h => absurd (h2 ▸ h) Int64.lt_irrefl⟩
    · rw [if_neg h2]
      exact ⟨fun _ => Int64.lt_of_le_of_ne (Int64.not_lt.mp h1) h2, fun _ => by decide⟩
theorem lg_gt {x y : Int64} : 0 < lg_cmp x y ↔ y < x := by
  unfold lg_cmp
  by_cases h1 : x > y
  · rw [if_pos h1]
    exact ⟨fun _ => h1, fun _ => by decide⟩
  · rw [if_neg h1]
    by_cases h2 : x = y
    · rw [if_pos h2]
      exact ⟨fun h => absurd h (by decide), fun h => absurd h h1⟩
    · rw [if_neg h2]
      exact ⟨fun h => absurd h (by decide), fun h => absurd h h1⟩
theorem i64_lt {x y : Int32} : x.toInt64 < y.toInt64 ↔ x < y := by
  rw [Int64.lt_iff_toInt_lt, Int32.lt_iff_toInt_lt, Int32.toInt_toInt64, Int32.toInt_toInt64]
theorem i64_0 : (0 : Int64) = (0 : Int32).toInt64 := by decide
/-- one more refused -/
def x_rf (g : Nat → Int32) (k : Nat) : Nat → Int32 := upd g k (g k + 1)
section LEAF
variable {E : x_E} {z : Nat} {f : x_H} {S : x_S} {M : x_N} {post : Option Value → x_H → Prop}
/-- the class refuses with one of its numbers -/
theorem w_refuse {n : Int32} {k : Nat} (hn : -n = nI k) (hk : k < 7) (hS : x_Sys z f S) (h : ∀ f' : x_H, x_Sys z f' (S.1, S.2.1, x_ua S.2.2.1 6 (x_rf (S.2.2.1 6) k), S.2.2.2) → x_fr (fun q => 59 ≤ q) f f' → post (some (.int n)) f') : Y E 1 mX5_refuse [.ref 0, .int n] z f 0 0 post := by
  refine Y.intro gX5_refuse (lv := [(0, .ref 0), (1, .int n)]) rfl (Nat.le_of_ble_eq_true rfl) ?_
  have hin : vp_in (nI k) 7 := vp_in_nI hk (by decide)
  have hcl : (nI k).toNatClampNeg = k := nI_clamp (by omega)
  refine x_iload_n (pc' := 1) rfl rfl rfl ?_
  refine x_ineg (pc' := 2) rfl rfl ?_
  refine x_eqi hn ?_
  refine x_istore_n (pc' := 3) (lv' := [(2, _), (0, _), (1, _)]) rfl rfl (Nat.le_of_ble_eq_true rfl) rfl ?_
  refine x_iload_n (pc' := 4) rfl rfl rfl ?_
  refine x_if_lt (tgt := 26) (pc' := 7) rfl rfl rfl (fun c4 => absurd c4 (nI_pos (by omega))) (fun _ => ?_)
  refine x_iload_n (pc' := 8) rfl rfl rfl ?_
  refine x_aload_n (pc' := 9) rfl rfl rfl ?_
  refine x_get (pc' := 12) rfl rfl rfl (hS.1) rfl ?_
  refine x_alen (pc' := 13) rfl rfl (hS.2.2.1 6 (by decide)) ?_
  refine x_icmp_ge (tgt := 26) (pc' := 16) rfl rfl rfl (fun c13 => absurd c13 (Int32.not_le.mpr (nI_lt (a := k) (b := 7) hk (by decide)))) (fun _ => ?_)
  refine x_aload_n (pc' := 17) rfl rfl rfl ?_
  refine x_get (pc' := 20) rfl rfl rfl (hS.1) rfl ?_
  refine x_iload_n (pc' := 21) rfl rfl rfl ?_
  refine x_dup2 (pc' := 22) rfl rfl rfl rfl ?_
  refine x_iaload (pc' := 23) rfl rfl (hS.2.2.1 6 (by decide)) (hin) ?_
  refine x_iconst (pc' := 24) rfl rfl iconst_1 ?_
  refine x_iadd (pc' := 25) rfl rfl ?_
  refine x_iastore (pc' := 26) rfl rfl (hS.2.2.1 6 (by decide)) (hin) (fun f1 e1 => ?_)
  have hS1 := hS.arr 6 (by decide) e1
  rw [hcl] at hS1
  refine x_iload_n (pc' := 27) rfl rfl rfl ?_
  exact x_ireturn rfl rfl rfl (Nat.le_of_ble_eq_true rfl) (Nat.le_of_ble_eq_true rfl) (h _ hS1 (x_fr.rf.up e1 (by decide)))
theorem w_refuseFar {n : Int32} {k : Nat} (hn : -n = nI k) (hk : k < 7) (hS : x_Sys z f S) (h : ∀ f' : x_H, x_Sys z f' (S.1, S.2.1, x_ua S.2.2.1 6 (x_rf (S.2.2.1 6) k), S.2.2.2) → x_fr (fun q => 59 ≤ q) f f' → post (some (.int (1000000000 - n))) f') : Y E 2 mX5_refuseFar [.ref 0, .int n] z f 0 0 post := by
  refine Y.intro gX5_refuseFar (lv := [(0, .ref 0), (1, .int n)]) rfl (Nat.le_of_ble_eq_true rfl) ?_
  refine x_ldc (pc' := 2) rfl rfl rfl ?_
  refine x_aload_n (pc' := 3) rfl rfl rfl ?_
  refine x_iload_n (pc' := 4) rfl rfl rfl ?_
  refine x_cV1i (d := 1) (pc' := 7) rfl rfl sX5_68 gX5_refuse (hS.1) ⟨Nat.le_of_ble_eq_true rfl, Nat.le_of_ble_eq_true rfl⟩ (Nat.le_of_ble_eq_true rfl) ⟨Nat.le_of_ble_eq_true rfl, Nat.le_of_ble_eq_true rfl⟩ ?_
  refine w_refuse hn hk hS (fun f1 hS1 hF1 => ⟨_, rfl, ?_⟩)
  refine x_isub (pc' := 8) rfl rfl ?_
  exact x_ireturn rfl rfl rfl (Nat.le_of_ble_eq_true rfl) (Nat.le_of_ble_eq_true rfl) (h _ hS1 hF1)
theorem w_in {v a b : Int64} (h1 : ¬ v < a ∧ ¬ b < v → post (some (.int 1)) f) (h0 : ¬ (¬ v < a ∧ ¬ b < v) → post (some (.int 0)) f) : Y E 1 mX6_in [.long v, .long a, .long b] z f 0 0 post := by
  refine Y.intro gX6_in (lv := [(0, .long v), (2, .long a), (4, .long b)]) rfl (Nat.le_of_ble_eq_true rfl) ?_
  refine x_lload_n (pc' := 1) rfl rfl rfl ?_
  refine x_lload_n (pc' := 2) rfl rfl rfl ?_
  refine x_lcmp (pc' := 3) rfl rfl ?_
  refine x_if_lt (tgt := 17) (pc' := 6) rfl rfl rfl (fun c3 => ?_) (fun c3 => ?_)
  · refine x_iconst (pc' := 18) rfl rfl iconst_0 ?_
    exact x_ireturn rfl rfl rfl (Nat.le_of_ble_eq_true rfl) (Nat.le_of_ble_eq_true rfl) (h0 (fun q => q.1 (lg_lt.mp c3)))
  · refine x_lload_n (pc' := 7) rfl rfl rfl ?_
    refine x_lload (pc' := 9) rfl rfl rfl ?_
    refine x_lcmp (pc' := 10) rfl rfl ?_
    refine x_if_gt (tgt := 17) (pc' := 13) rfl rfl rfl (fun c10 => ?_) (fun c10 => ?_)
    · refine x_iconst (pc' := 18) rfl rfl iconst_0 ?_
      exact x_ireturn rfl rfl rfl (Nat.le_of_ble_eq_true rfl) (Nat.le_of_ble_eq_true rfl) (h0 (fun q => q.2 (lg_gt.mp c10)))
    · refine x_iconst (pc' := 14) rfl rfl iconst_1 ?_
      refine x_goto (tgt := 18) rfl rfl ?_
      exact x_ireturn rfl rfl rfl (Nat.le_of_ble_eq_true rfl) (Nat.le_of_ble_eq_true rfl) (h1 ⟨fun q => c3 (lg_lt.mpr q), fun q => c10 (lg_gt.mpr q)⟩)
theorem w_isBowl {b : Int32} (hM : x_Mdl z f M) (h1 : ¬ b < 0 ∧ ¬ M.1 3 - 1 < b → post (some (.int 1)) f) (h0 : ¬ (¬ b < 0 ∧ ¬ M.1 3 - 1 < b) → post (some (.int 0)) f) : Y E 2 mX6_isBowl [.ref 59, .int b] z f 0 0 post := by
  refine Y.intro gX6_isBowl (lv := [(0, .ref 59), (1, .int b)]) rfl (Nat.le_of_ble_eq_true rfl) ?_
  refine x_iload_n (pc' := 1) rfl rfl rfl ?_
  refine x_i2l (pc' := 2) rfl rfl ?_
  refine x_lconst (pc' := 3) rfl rfl lconst_0 ?_
  refine x_aload_n (pc' := 4) rfl rfl rfl ?_
  refine x_get (pc' := 7) rfl rfl rfl (hM.1) rfl ?_
  refine x_iconst (pc' := 8) rfl rfl iconst_1 ?_
  refine x_isub (pc' := 9) rfl rfl ?_
  refine x_i2l (pc' := 10) rfl rfl ?_
  refine x_cS3i (d := 1) (pc' := 13) rfl rfl sX6_63 gX6_in ⟨Nat.le_of_ble_eq_true rfl, Nat.le_of_ble_eq_true rfl⟩ (Nat.le_of_ble_eq_true rfl) ⟨Nat.le_of_ble_eq_true rfl, Nat.le_of_ble_eq_true rfl⟩ ?_
  refine w_in (fun g => ⟨_, rfl, ?_⟩) (fun g => ⟨_, rfl, ?_⟩)
  all_goals rw [i64_0, i64_lt, i64_lt] at g
  · exact x_ireturn rfl rfl rfl (Nat.le_of_ble_eq_true rfl) (Nat.le_of_ble_eq_true rfl) (h1 g)
  · exact x_ireturn rfl rfl rfl (Nat.le_of_ble_eq_true rfl) (Nat.le_of_ble_eq_true rfl) (h0 g)
theorem w_mRefuse {n : Int32} {k : Nat} (hn : -n - 1 = nI k) (hk : k < 6) (hM : x_Mdl z f M) (h : ∀ f' : x_H, x_Mdl z f' (M.1, x_ua M.2.1 3 (x_rf (M.2.1 3) k), M.2.2) → x_fr (fun q => q < 59) f f' → post (some (.int n)) f') : Y E 1 mX6_refuse [.ref 59, .int n] z f 0 0 post := by
  refine Y.intro gX6_refuse (lv := [(0, .ref 59), (1, .int n)]) rfl (Nat.le_of_ble_eq_true rfl) ?_
  have hin : vp_in (nI k) 6 := vp_in_nI hk (by decide)
  have hcl : (nI k).toNatClampNeg = k := nI_clamp (by omega)
  refine x_aload_n (pc' := 1) rfl rfl rfl ?_
  refine x_get (pc' := 4) rfl rfl rfl (hM.1) rfl ?_
  refine x_iload_n (pc' := 5) rfl rfl rfl ?_
  refine x_ineg (pc' := 6) rfl rfl ?_
  refine x_iconst (pc' := 7) rfl rfl iconst_1 ?_
  refine x_isub (pc' := 8) rfl rfl ?_
  refine x_eqi hn ?_
  refine x_dup2 (pc' := 9) rfl rfl rfl rfl ?_
  refine x_iaload (pc' := 10) rfl rfl (hM.2.1 3 (by decide)) (hin) ?_
  refine x_iconst (pc' := 11) rfl rfl iconst_1 ?_
  refine x_iadd (pc' := 12) rfl rfl ?_
  refine x_iastore (pc' := 13) rfl rfl (hM.2.1 3 (by decide)) (hin) (fun f1 e1 => ?_)
  have hM1 := hM.arr 3 (by decide) e1
  rw [hcl] at hM1
  refine x_iload_n (pc' := 14) rfl rfl rfl ?_
  exact x_ireturn rfl rfl rfl (Nat.le_of_ble_eq_true rfl) (Nat.le_of_ble_eq_true rfl) (h _ hM1 (x_fr.rf.up e1 (by decide)))
theorem w_told {n : Int32} {k : Nat} (hn : -n - 1 = nI k) (hk : k < 6) (hM : x_Mdl z f M) (h : ∀ f' : x_H, x_Mdl z f' (M.1, x_ua M.2.1 3 (x_rf (M.2.1 3) k), M.2.2) → x_fr (fun q => q < 59) f f' → post (some (.int (1000000000 - n))) f') : Y E 2 mX6_told [.ref 59, .int n] z f 0 0 post := by
  refine Y.intro gX6_told (lv := [(0, .ref 59), (1, .int n)]) rfl (Nat.le_of_ble_eq_true rfl) ?_
  refine x_ldc (pc' := 2) rfl rfl rfl ?_
  refine x_aload_n (pc' := 3) rfl rfl rfl ?_
  refine x_iload_n (pc' := 4) rfl rfl rfl ?_
  refine x_cV1i (d := 1) (pc' := 7) rfl rfl sX6_110 gX6_refuse (hM.1) ⟨Nat.le_of_ble_eq_true rfl, Nat.le_of_ble_eq_true rfl⟩ (Nat.le_of_ble_eq_true rfl) ⟨Nat.le_of_ble_eq_true rfl, Nat.le_of_ble_eq_true rfl⟩ ?_
  refine w_mRefuse hn hk hM (fun f1 hM1 hF1 => ⟨_, rfl, ?_⟩)
  refine x_isub (pc' := 8) rfl rfl ?_
  exact x_ireturn rfl rfl rfl (Nat.le_of_ble_eq_true rfl) (Nat.le_of_ble_eq_true rfl) (h _ hM1 hF1)
end LEAF
end
section
/-! The reference keeps a frame, and lays it. -/
def x_kpB (l b : Nat) (bs old : Nat → Int32) : Nat → Int32 := fun j => if 12 * l ≤ j ∧ j < 12 * l + b then bs (j - 12 * l) else old j
/-- a frame kept -/
def x_kp (l : Nat) (bs : Nat → Int32) (p0 p1 t : Int32) (old : Nat → Int32) : Nat → Int32 := upd (upd (upd (x_kpB l 9 bs old) (12 * l + 9) p0) (12 * l + 10) p1) (12 * l + 11) t
theorem x_kpB_0 (l : Nat) (bs old : Nat → Int32) : x_kpB l 0 bs old = old := by
  funext j
  unfold x_kpB
  rw [if_neg (by omega)]
theorem x_kpB_s (l b : Nat) (bs old : Nat → Int32) : upd (x_kpB l b bs old) (12 * l + b) (bs b) = x_kpB l (b + 1) bs old := by
  funext j
  unfold upd x_kpB
  by_cases h : j = 12 * l + b
  · rw [if_pos h, if_pos (by omega), h]
    congr 1
    omega
  · rw [if_neg h]
    by_cases h2 : 12 * l ≤ j ∧ j < 12 * l + b
    · rw [if_pos h2, if_pos (by omega)]
    · rw [if_neg h2, if_neg (by omega)]
def x_lyB (l b : Nat) (fr old : Nat → Int32) : Nat → Int32 := fun j => if j < b then fr (12 * l + j) else old j
theorem x_lyB_0 (l : Nat) (fr old : Nat → Int32) : x_lyB l 0 fr old = old := by
  funext j
  unfold x_lyB
  rw [if_neg (by omega)]
theorem x_lyB_s (l b : Nat) (fr old : Nat → Int32) : upd (x_lyB l b fr old) b (fr (12 * l + b)) = x_lyB l (b + 1) fr old := by
  funext j
  unfold upd x_lyB
  by_cases h : j = b
  · rw [if_pos h, if_pos (by omega), h]
  · rw [if_neg h]
    by_cases h2 : j < b
    · rw [if_pos h2, if_pos (by omega)]
    · rw [if_neg h2, if_neg (by omega)]
section KEEPS
variable {E : x_E} {z : Nat} {f : x_H} {M : x_N} {post : Option Value → x_H → Prop}
theorem x_mul12 (l : Nat) : (12 : Int32) * nI l = nI (12 * l) := by
  rw [show (12 : Int32) = nI 12 from by decide]
  exact pk_mul 12 l
theorem w_keepsL {l : Nat} (hl : l ≤ 7) (h : ∀ f' : x_H, x_Mdl z f' (M.1, x_ua M.2.1 6 (x_kp l (M.2.1 1) (M.2.1 2 0) (M.2.1 2 1) (M.1 7) (M.2.1 6)), M.2.2) → x_fr (fun q => q < 59) f f' → post none f') :
    ∀ (n b : Nat) (g : x_H), b + n = 9 → x_Mdl z g (M.1, x_ua M.2.1 6 (x_kpB l b (M.2.1 1) (M.2.1 6)), M.2.2) → x_fr (fun q => q < 59) f g → X E (x_rm 1 0 0) mX6_keeps (x_QM E z 0 0 post) 7 [(3, .int (nI b)), (2, .int (nI (12 * l))), (0, .ref 59), (1, .int (nI l))] [] z g 0 0 := by
  intro n
  induction n with
  | zero =>
    intro b g hbn hM hF
    have hb : b = 9 := by omega
    subst hb
    refine x_iload_n (pc' := 8) rfl rfl rfl ?_
    refine x_bipush (pc' := 10) rfl rfl bipush_9 ?_
    refine x_icmp_ge (tgt := 33) (pc' := 13) rfl rfl rfl (fun _ => ?_) (fun c10 => absurd ((by decide : (9 : Int32) ≤ nI 9)) c10)
    refine x_aload_n (pc' := 34) rfl rfl rfl ?_
    refine x_get (pc' := 37) rfl rfl rfl (hM.1) rfl ?_
    refine x_iload_n (pc' := 38) rfl rfl rfl ?_
    refine x_bipush (pc' := 40) rfl rfl bipush_9 ?_
    refine x_iadd (pc' := 41) rfl rfl ?_
    refine x_eqi (show nI (12 * l) + 9 = nI (12 * l + 9) from nI_add (12 * l) 9) ?_
    refine x_aload_n (pc' := 42) rfl rfl rfl ?_
    refine x_get (pc' := 45) rfl rfl rfl (hM.1) rfl ?_
    refine x_iconst (pc' := 46) rfl rfl iconst_0 ?_
    refine x_iaload (pc' := 47) rfl rfl (hM.2.1 2 (by decide)) (vp_in_nI (n := 0) (N := 2) (by decide) (by decide)) ?_
    refine x_iastore (pc' := 48) rfl rfl (hM.2.1 6 (by decide)) (vp_in_nI (n := 12 * l + 9) (N := 96) (by omega) (by decide)) (fun f1 e1 => ?_)
    have hM1 := hM.arr 6 (by decide) e1
    have hF1 := hF.up e1 (by decide)
    refine x_aload_n (pc' := 49) rfl rfl rfl ?_
    refine x_get (pc' := 52) rfl rfl rfl (hM1.1) rfl ?_
    refine x_iload_n (pc' := 53) rfl rfl rfl ?_
    refine x_bipush (pc' := 55) rfl rfl bipush_10 ?_
    refine x_iadd (pc' := 56) rfl rfl ?_
    refine x_eqi (show nI (12 * l) + 10 = nI (12 * l + 10) from nI_add (12 * l) 10) ?_
    refine x_aload_n (pc' := 57) rfl rfl rfl ?_
    refine x_get (pc' := 60) rfl rfl rfl (hM1.1) rfl ?_
    refine x_iconst (pc' := 61) rfl rfl iconst_1 ?_
    refine x_iaload (pc' := 62) rfl rfl (hM1.2.1 2 (by decide)) (vp_in_nI (n := 1) (N := 2) (by decide) (by decide)) ?_
    refine x_iastore (pc' := 63) rfl rfl (hM1.2.1 6 (by decide)) (vp_in_nI (n := 12 * l + 10) (N := 96) (by omega) (by decide)) (fun f2 e2 => ?_)
    have hM2 := hM1.arr 6 (by decide) e2
    have hF2 := hF1.up e2 (by decide)
    refine x_aload_n (pc' := 64) rfl rfl rfl ?_
    refine x_get (pc' := 67) rfl rfl rfl (hM2.1) rfl ?_
    refine x_iload_n (pc' := 68) rfl rfl rfl ?_
    refine x_bipush (pc' := 70) rfl rfl bipush_11 ?_
    refine x_iadd (pc' := 71) rfl rfl ?_
    refine x_eqi (show nI (12 * l) + 11 = nI (12 * l + 11) from nI_add (12 * l) 11) ?_
    refine x_aload_n (pc' := 72) rfl rfl rfl ?_
    refine x_get (pc' := 75) rfl rfl rfl (hM2.1) rfl ?_
    refine x_iastore (pc' := 76) rfl rfl (hM2.2.1 6 (by decide)) (vp_in_nI (n := 12 * l + 11) (N := 96) (by omega) (by decide)) (fun f3 e3 => ?_)
    have hM3 := hM2.arr 6 (by decide) e3
    have hF3 := hF2.up e3 (by decide)
    refine x_return rfl rfl (Nat.le_refl _) (Nat.le_refl _) (h _ ?_ hF3)
    refine ⟨hM3.1, fun i hi => ?_, hM3.2.2⟩
    have h9 := hM3.2.1 i hi
    by_cases h6 : i = 6
    · subst h6
      rw [nI_clamp (by omega), nI_clamp (by omega), nI_clamp (by omega)] at h9
      exact h9
    · simp only [x_ua, if_neg h6] at h9 ⊢
      exact h9
  | succ n ih =>
    intro b g hbn hM hF
    refine x_iload_n (pc' := 8) rfl rfl rfl ?_
    refine x_bipush (pc' := 10) rfl rfl bipush_9 ?_
    refine x_icmp_ge (tgt := 33) (pc' := 13) rfl rfl rfl (fun c10 => absurd c10 (Int32.not_le.mpr (nI_lt (a := b) (b := 9) (by omega) (by decide)))) (fun _ => ?_)
    refine x_aload_n (pc' := 14) rfl rfl rfl ?_
    refine x_get (pc' := 17) rfl rfl rfl (hM.1) rfl ?_
    refine x_iload_n (pc' := 18) rfl rfl rfl ?_
    refine x_iload_n (pc' := 19) rfl rfl rfl ?_
    refine x_iadd (pc' := 20) rfl rfl ?_
    refine x_eqi (nI_add (12 * l) b) ?_
    refine x_aload_n (pc' := 21) rfl rfl rfl ?_
    refine x_get (pc' := 24) rfl rfl rfl (hM.1) rfl ?_
    refine x_iload_n (pc' := 25) rfl rfl rfl ?_
    refine x_iaload (pc' := 26) rfl rfl (hM.2.1 1 (by decide)) (vp_in_nI (n := b) (N := 9) (by omega) (by decide)) ?_
    refine x_iastore (pc' := 27) rfl rfl (hM.2.1 6 (by decide)) (vp_in_nI (n := 12 * l + b) (N := 96) (by omega) (by decide)) (fun f1 e1 => ?_)
    have hM1 := hM.arr 6 (by decide) e1
    have hF1 := hF.up e1 (by decide)
    refine x_iinc (pc' := 30) (lv' := [(3, _), (2, _), (0, _), (1, _)]) rfl rfl (Nat.le_of_ble_eq_true rfl) rfl (nI_1 b) rfl ?_
    refine x_goto (tgt := 7) rfl rfl ?_
    refine ih (b + 1) _ (by omega) ?_ hF1
    refine ⟨hM1.1, fun i hi => ?_, hM1.2.2⟩
    have h9 := hM1.2.1 i hi
    by_cases h6 : i = 6
    · subst h6
      rw [nI_clamp (by omega), nI_clamp (by omega)] at h9
      simp only [x_ua, if_pos] at h9 ⊢
      rw [← x_kpB_s]
      exact h9
    · simp only [x_ua, if_neg h6] at h9 ⊢
      exact h9
theorem w_keeps {l : Nat} (hl : l ≤ 7) (hM : x_Mdl z f M) (h : ∀ f' : x_H, x_Mdl z f' (M.1, x_ua M.2.1 6 (x_kp l (M.2.1 1) (M.2.1 2 0) (M.2.1 2 1) (M.1 7) (M.2.1 6)), M.2.2) → x_fr (fun q => q < 59) f f' → post none f') : Y E 1 mX6_keeps [.ref 59, .int (nI l)] z f 0 0 post := by
  refine Y.intro gX6_keeps (lv := [(0, .ref 59), (1, .int (nI l))]) rfl (Nat.le_of_ble_eq_true rfl) ?_
  refine x_bipush (pc' := 2) rfl rfl bipush_12 ?_
  refine x_iload_n (pc' := 3) rfl rfl rfl ?_
  refine x_imul (pc' := 4) rfl rfl ?_
  refine x_eqi (x_mul12 l) ?_
  refine x_istore_n (pc' := 5) (lv' := [(2, _), (0, _), (1, _)]) rfl rfl (Nat.le_of_ble_eq_true rfl) rfl ?_
  refine x_iconst (pc' := 6) rfl rfl iconst_0 ?_
  refine x_istore_n (pc' := 7) (lv' := [(3, _), (2, _), (0, _), (1, _)]) rfl rfl (Nat.le_of_ble_eq_true rfl) rfl ?_
  refine w_keepsL hl h 9 0 _ rfl ?_ x_fr.rf
  refine ⟨hM.1, fun i hi => ?_, hM.2.2⟩
  have h9 := hM.2.1 i hi
  by_cases h6 : i = 6
  · subst h6
    simp only [x_ua, if_pos]
    rw [x_kpB_0]
    exact h9
  · simp only [x_ua, if_neg h6]
    exact h9
/-- what a laid frame leaves: beans, purses, turn -/
def x_ly (l : Nat) (M : x_N) : x_N := (upd M.1 7 (M.2.1 6 (12 * l + 11)), x_ua (x_ua M.2.1 1 (x_lyB l 9 (M.2.1 6) (M.2.1 1))) 2 (upd (upd (M.2.1 2) 0 (M.2.1 6 (12 * l + 9))) 1 (M.2.1 6 (12 * l + 10))), M.2.2)
theorem w_laysL {l : Nat} (hl : l ≤ 7) (h : ∀ f' : x_H, x_Mdl z f' (x_ly l M) → x_fr (fun q => q < 59) f f' → post none f') :
    ∀ (n b : Nat) (g : x_H), b + n = 9 → x_Mdl z g (M.1, x_ua M.2.1 1 (x_lyB l b (M.2.1 6) (M.2.1 1)), M.2.2) → x_fr (fun q => q < 59) f g → X E (x_rm 1 0 0) mX6_lays (x_QM E z 0 0 post) 7 [(3, .int (nI b)), (2, .int (nI (12 * l))), (0, .ref 59), (1, .int (nI l))] [] z g 0 0 := by
  intro n
  induction n with
  | zero =>
    intro b g hbn hM hF
    have hb : b = 9 := by omega
    subst hb
    refine x_iload_n (pc' := 8) rfl rfl rfl ?_
    refine x_bipush (pc' := 10) rfl rfl bipush_9 ?_
    refine x_icmp_ge (tgt := 33) (pc' := 13) rfl rfl rfl (fun _ => ?_) (fun c10 => absurd ((by decide : (9 : Int32) ≤ nI 9)) c10)
    refine x_aload_n (pc' := 34) rfl rfl rfl ?_
    refine x_get (pc' := 37) rfl rfl rfl (hM.1) rfl ?_
    refine x_iconst (pc' := 38) rfl rfl iconst_0 ?_
    refine x_aload_n (pc' := 39) rfl rfl rfl ?_
    refine x_get (pc' := 42) rfl rfl rfl (hM.1) rfl ?_
    refine x_iload_n (pc' := 43) rfl rfl rfl ?_
    refine x_bipush (pc' := 45) rfl rfl bipush_9 ?_
    refine x_iadd (pc' := 46) rfl rfl ?_
    refine x_eqi (show nI (12 * l) + 9 = nI (12 * l + 9) from nI_add (12 * l) 9) ?_
    refine x_iaload (pc' := 47) rfl rfl (hM.2.1 6 (by decide)) (vp_in_nI (n := 12 * l + 9) (N := 96) (by omega) (by decide)) ?_
    refine x_iastore (pc' := 48) rfl rfl (hM.2.1 2 (by decide)) (vp_in_nI (n := 0) (N := 2) (by decide) (by decide)) (fun f1 e1 => ?_)
    have hM1 := hM.arr 2 (by decide) e1
    have hF1 := hF.up e1 (by decide)
    refine x_aload_n (pc' := 49) rfl rfl rfl ?_
    refine x_get (pc' := 52) rfl rfl rfl (hM1.1) rfl ?_
    refine x_iconst (pc' := 53) rfl rfl iconst_1 ?_
    refine x_aload_n (pc' := 54) rfl rfl rfl ?_
    refine x_get (pc' := 57) rfl rfl rfl (hM1.1) rfl ?_
    refine x_iload_n (pc' := 58) rfl rfl rfl ?_
    refine x_bipush (pc' := 60) rfl rfl bipush_10 ?_
    refine x_iadd (pc' := 61) rfl rfl ?_
    refine x_eqi (show nI (12 * l) + 10 = nI (12 * l + 10) from nI_add (12 * l) 10) ?_
    refine x_iaload (pc' := 62) rfl rfl (hM1.2.1 6 (by decide)) (vp_in_nI (n := 12 * l + 10) (N := 96) (by omega) (by decide)) ?_
    refine x_iastore (pc' := 63) rfl rfl (hM1.2.1 2 (by decide)) (vp_in_nI (n := 1) (N := 2) (by decide) (by decide)) (fun f2 e2 => ?_)
    have hM2 := hM1.arr 2 (by decide) e2
    have hF2 := hF1.up e2 (by decide)
    refine x_aload_n (pc' := 64) rfl rfl rfl ?_
    refine x_aload_n (pc' := 65) rfl rfl rfl ?_
    refine x_get (pc' := 68) rfl rfl rfl (hM2.1) rfl ?_
    refine x_iload_n (pc' := 69) rfl rfl rfl ?_
    refine x_bipush (pc' := 71) rfl rfl bipush_11 ?_
    refine x_iadd (pc' := 72) rfl rfl ?_
    refine x_eqi (show nI (12 * l) + 11 = nI (12 * l + 11) from nI_add (12 * l) 11) ?_
    refine x_iaload (pc' := 73) rfl rfl (hM2.2.1 6 (by decide)) (vp_in_nI (n := 12 * l + 11) (N := 96) (by omega) (by decide)) ?_
    refine x_put (pc' := 76) rfl rfl rfl (hM2.1) (Nat.le_of_ble_eq_true rfl) rfl rfl rfl rfl (fun f3 e3 => ?_)
    have hM3 := hM2.num 7 e3 (x_mFs7 _ _)
    have hF3 := hF2.up e3 (by decide)
    refine x_return rfl rfl (Nat.le_refl _) (Nat.le_refl _) (h _ ?_ hF3)
    refine ⟨?_, fun i hi => ?_, hM3.2.2⟩
    · have h9 := hM3.1
      simp only [x_ua, if_pos, if_neg (show ¬ (6 = 2) by decide), if_neg (show ¬ (6 = 1) by decide)] at h9
      rw [nI_clamp (by omega)] at h9
      exact h9
    · have h9 := hM3.2.1 i hi
      by_cases h6 : i = 2
      · subst h6
        simp only [x_ua, if_pos, if_neg (show ¬ (6 = 2) by decide), if_neg (show ¬ (6 = 1) by decide), if_neg (show ¬ (2 = 1) by decide)] at h9
        rw [nI_clamp (by omega), nI_clamp (by omega)] at h9
        exact h9
      · simp only [x_ly, x_ua, if_neg h6] at h9 ⊢
        exact h9
  | succ n ih =>
    intro b g hbn hM hF
    refine x_iload_n (pc' := 8) rfl rfl rfl ?_
    refine x_bipush (pc' := 10) rfl rfl bipush_9 ?_
    refine x_icmp_ge (tgt := 33) (pc' := 13) rfl rfl rfl (fun c10 => absurd c10 (Int32.not_le.mpr (nI_lt (a := b) (b := 9) (by omega) (by decide)))) (fun _ => ?_)
    refine x_aload_n (pc' := 14) rfl rfl rfl ?_
    refine x_get (pc' := 17) rfl rfl rfl (hM.1) rfl ?_
    refine x_iload_n (pc' := 18) rfl rfl rfl ?_
    refine x_aload_n (pc' := 19) rfl rfl rfl ?_
    refine x_get (pc' := 22) rfl rfl rfl (hM.1) rfl ?_
    refine x_iload_n (pc' := 23) rfl rfl rfl ?_
    refine x_iload_n (pc' := 24) rfl rfl rfl ?_
    refine x_iadd (pc' := 25) rfl rfl ?_
    refine x_eqi (nI_add (12 * l) b) ?_
    refine x_iaload (pc' := 26) rfl rfl (hM.2.1 6 (by decide)) (vp_in_nI (n := 12 * l + b) (N := 96) (by omega) (by decide)) ?_
    refine x_iastore (pc' := 27) rfl rfl (hM.2.1 1 (by decide)) (vp_in_nI (n := b) (N := 9) (by omega) (by decide)) (fun f1 e1 => ?_)
    have hM1 := hM.arr 1 (by decide) e1
    have hF1 := hF.up e1 (by decide)
    refine x_iinc (pc' := 30) (lv' := [(3, _), (2, _), (0, _), (1, _)]) rfl rfl (Nat.le_of_ble_eq_true rfl) rfl (nI_1 b) rfl ?_
    refine x_goto (tgt := 7) rfl rfl ?_
    refine ih (b + 1) _ (by omega) ?_ hF1
    refine ⟨hM1.1, fun i hi => ?_, hM1.2.2⟩
    have h9 := hM1.2.1 i hi
    by_cases h6 : i = 1
    · subst h6
      rw [nI_clamp (by omega), nI_clamp (by omega)] at h9
      simp only [x_ua, if_pos, if_neg (show ¬ (6 = 1) by decide)] at h9 ⊢
      rw [← x_lyB_s]
      exact h9
    · simp only [x_ua, if_neg h6] at h9 ⊢
      exact h9
theorem w_lays {l : Nat} (hl : l ≤ 7) (hM : x_Mdl z f M) (h : ∀ f' : x_H, x_Mdl z f' (x_ly l M) → x_fr (fun q => q < 59) f f' → post none f') : Y E 1 mX6_lays [.ref 59, .int (nI l)] z f 0 0 post := by
  refine Y.intro gX6_lays (lv := [(0, .ref 59), (1, .int (nI l))]) rfl (Nat.le_of_ble_eq_true rfl) ?_
  refine x_bipush (pc' := 2) rfl rfl bipush_12 ?_
  refine x_iload_n (pc' := 3) rfl rfl rfl ?_
  refine x_imul (pc' := 4) rfl rfl ?_
  refine x_eqi (x_mul12 l) ?_
  refine x_istore_n (pc' := 5) (lv' := [(2, _), (0, _), (1, _)]) rfl rfl (Nat.le_of_ble_eq_true rfl) rfl ?_
  refine x_iconst (pc' := 6) rfl rfl iconst_0 ?_
  refine x_istore_n (pc' := 7) (lv' := [(3, _), (2, _), (0, _), (1, _)]) rfl rfl (Nat.le_of_ble_eq_true rfl) rfl ?_
  refine w_laysL hl h 9 0 _ rfl ?_ x_fr.rf
  refine ⟨hM.1, fun i hi => ?_, hM.2.2⟩
  have h9 := hM.2.1 i hi
  by_cases h6 : i = 1
  · subst h6
    simp only [x_ua, if_pos]
    rw [x_lyB_0]
    exact h9
  · simp only [x_ua, if_neg h6]
    exact h9
end KEEPS
end
section
/-! Helpers of the class. -/
theorem x_tpq (i : Nat) (hi : i < 11) {q : Nat} (hq : 59 ≤ q) : x_ot (x_tp i) q := by
  have := x_pos5.1 i hi
  unfold x_ot
  omega
def x_sum (g : Nat → Int32) : Nat → Int32
  | 0 => 0
  | n + 1 => x_sum g n + g n
section HELP
variable {E : x_E} {z : Nat} {f : x_H} {S : x_S} {M : x_N} {t : Nat} {T : x_T} {post : Option Value → x_H → Prop}
theorem x_Sys.lt (h : x_Sys z f S) : x_o z f 17 2 [.ref 18, .int (S.1 2)] := h.2.2.2.2.1
theorem x_Sys.ah (h : x_Sys z f S) : x_o z f 19 0 [.ref 20, .ref 21] := h.2.2.2.2.2.1
theorem x_Sys.li (h : x_Sys z f S) : x_a z f 20 (5, .inr (.inr (.inr (.inr x_line)))) := h.2.2.2.2.2.2.1
theorem x_Sys.em (h : x_Sys z f S) : x_o z f 42 1 (x_eF S.1) := h.2.2.2.2.2.2.2.1
theorem x_Sys.wy (h : x_Sys z f S) : x_o z f 54 4 [.ref 55, .ref 56] := h.2.2.2.2.2.2.2.2
theorem w_purseOf {b : Int32} (hT : x_t z f t T) (h1 : ¬ b < 0 ∧ b < 2 → post (some (.int (T.2.2.1 b.toNatClampNeg))) f) (h0 : ¬ (¬ b < 0 ∧ b < 2) → post (some (.int 0)) f) : Y E 1 mX3_purseOf [.ref t, .int b] z f 0 0 post := by
  refine Y.intro gX3_purseOf (lv := [(0, .ref t), (1, .int b)]) rfl (Nat.le_of_ble_eq_true rfl) ?_
  refine x_iload_n (pc' := 1) rfl rfl rfl ?_
  refine x_if_lt (tgt := 22) (pc' := 4) rfl rfl rfl (fun c1 => ?_) (fun c1 => ?_)
  · refine x_iconst (pc' := 23) rfl rfl iconst_0 ?_
    exact x_ireturn rfl rfl rfl (Nat.le_of_ble_eq_true rfl) (Nat.le_of_ble_eq_true rfl) (h0 (fun q => q.1 c1))
  · refine x_iload_n (pc' := 5) rfl rfl rfl ?_
    refine x_aload_n (pc' := 6) rfl rfl rfl ?_
    refine x_get (pc' := 9) rfl rfl rfl (hT.1) rfl ?_
    refine x_alen (pc' := 10) rfl rfl (hT.2.2.2) ?_
    refine x_icmp_ge (tgt := 22) (pc' := 13) rfl rfl rfl (fun c10 => ?_) (fun c10 => ?_)
    · refine x_iconst (pc' := 23) rfl rfl iconst_0 ?_
      exact x_ireturn rfl rfl rfl (Nat.le_of_ble_eq_true rfl) (Nat.le_of_ble_eq_true rfl) (h0 (fun q => Int32.not_lt.mpr c10 q.2))
    · refine x_aload_n (pc' := 14) rfl rfl rfl ?_
      refine x_get (pc' := 17) rfl rfl rfl (hT.1) rfl ?_
      refine x_iload_n (pc' := 18) rfl rfl rfl ?_
      refine x_iaload (pc' := 19) rfl rfl (hT.2.2.2) ((by have h2 : (2 : Int32).toInt = 2 := (by decide); have h3 : (0 : Int32).toInt = 0 := (by decide); rw [vp_in_iff]; rw [Int32.lt_iff_toInt_lt] at c1; have c11 := c10; rw [show Int32.ofNat (2, (Sum.inl T.2.2.1 : (Nat → Int32) ⊕ (Nat → Int64) ⊕ (Nat → UInt32) ⊕ (Nat → UInt64) ⊕ (Nat → Option Nat))).1 = 2 from rfl, Int32.not_le, Int32.lt_iff_toInt_lt] at c11; omega)) ?_
      refine x_goto (tgt := 23) rfl rfl ?_
      exact x_ireturn rfl rfl rfl (Nat.le_of_ble_eq_true rfl) (Nat.le_of_ble_eq_true rfl) (h1 ⟨c1, Int32.not_le.mp c10⟩)
theorem w_beansOf {b : Int32} (hT : x_t z f t T) (h1 : t_has T b → post (some (.int (T.2.1 b.toNatClampNeg))) f) (h0 : ¬ t_has T b → post (some (.int 0)) f) : Y E 2 mX3_beansOf [.ref t, .int b] z f 0 0 post := by
  refine Y.intro gX3_beansOf (lv := [(0, .ref t), (1, .int b)]) rfl (Nat.le_of_ble_eq_true rfl) ?_
  refine x_aload_n (pc' := 1) rfl rfl rfl ?_
  refine x_iload_n (pc' := 2) rfl rfl rfl ?_
  refine x_cV1i (d := 1) (pc' := 5) rfl rfl sX3_55 gX3_has (hT.1) ⟨Nat.le_of_ble_eq_true rfl, Nat.le_of_ble_eq_true rfl⟩ (Nat.le_of_ble_eq_true rfl) ⟨Nat.le_of_ble_eq_true rfl, Nat.le_of_ble_eq_true rfl⟩ ?_
  refine w_has hT (fun g => ⟨_, rfl, ?_⟩) (fun g => ⟨_, rfl, ?_⟩)
  · refine x_if_eq (tgt := 17) (pc' := 8) rfl rfl rfl (fun c5 => absurd c5 (by decide)) (fun _ => ?_)
    refine x_aload_n (pc' := 9) rfl rfl rfl ?_
    refine x_get (pc' := 12) rfl rfl rfl (hT.1) rfl ?_
    refine x_iload_n (pc' := 13) rfl rfl rfl ?_
    refine x_iaload (pc' := 14) rfl rfl (hT.2.2.1) (vp_in_9 g.1 g.2.2) ?_
    refine x_goto (tgt := 18) rfl rfl ?_
    exact x_ireturn rfl rfl rfl (Nat.le_of_ble_eq_true rfl) (Nat.le_of_ble_eq_true rfl) (h1 g)
  · refine x_if_eq (tgt := 17) (pc' := 8) rfl rfl rfl (fun _ => ?_) (fun c5 => absurd (by decide) c5)
    refine x_iconst (pc' := 18) rfl rfl iconst_0 ?_
    exact x_ireturn rfl rfl rfl (Nat.le_of_ble_eq_true rfl) (Nat.le_of_ble_eq_true rfl) (h0 g)
theorem t_has_nI {n i : Nat} (hn : T.2.2.2 0 = nI n) (hn9 : n ≤ 9) (hi : i < n) : t_has T (nI i) := ⟨nI_pos (by omega), by rw [hn]; exact nI_lt hi (by omega), nI_lt (a := i) (b := 9) (by omega) (by decide)⟩
theorem w_allL {n : Nat} (hT : x_t z f t T) (hn : T.2.2.2 0 = nI n) (hn9 : n ≤ 9) (h : post (some (.int (x_sum T.2.1 n))) f) : ∀ (k i : Nat), i + k = n → X E (x_rm 3 0 0) mX3_allBeans (x_QM E z 0 0 post) 4 [(2, .int (nI i)), (1, .int (x_sum T.2.1 i)), (0, .ref t)] [] z f 0 0 := by
  intro k
  induction k with
  | zero =>
    intro i hi
    have hi2 : i = n := by omega
    subst hi2
    refine x_iload_n (pc' := 5) rfl rfl rfl ?_
    refine x_aload_n (pc' := 6) rfl rfl rfl ?_
    refine x_get (pc' := 9) rfl rfl rfl (hT.1) rfl ?_
    refine x_icmp_ge (tgt := 26) (pc' := 12) rfl rfl rfl (fun _ => ?_) (fun c9 => absurd ((by rw [hn]; exact Int32.le_refl _)) c9)
    refine x_iload_n (pc' := 27) rfl rfl rfl ?_
    exact x_ireturn rfl rfl rfl (Nat.le_of_ble_eq_true rfl) (Nat.le_of_ble_eq_true rfl) (h)
  | succ k ih =>
    intro i hi
    refine x_iload_n (pc' := 5) rfl rfl rfl ?_
    refine x_aload_n (pc' := 6) rfl rfl rfl ?_
    refine x_get (pc' := 9) rfl rfl rfl (hT.1) rfl ?_
    refine x_icmp_ge (tgt := 26) (pc' := 12) rfl rfl rfl (fun c9 => absurd c9 ((by rw [hn]; exact Int32.not_le.mpr (nI_lt (by omega) (by omega))))) (fun _ => ?_)
    refine x_iload_n (pc' := 13) rfl rfl rfl ?_
    refine x_aload_n (pc' := 14) rfl rfl rfl ?_
    refine x_iload_n (pc' := 15) rfl rfl rfl ?_
    refine x_cV1i (d := 2) (pc' := 18) rfl rfl sX3_59 gX3_beansOf (hT.1) ⟨Nat.le_of_ble_eq_true rfl, Nat.le_of_ble_eq_true rfl⟩ (Nat.le_of_ble_eq_true rfl) ⟨Nat.le_of_ble_eq_true rfl, Nat.le_of_ble_eq_true rfl⟩ ?_
    refine w_beansOf hT (fun g => ⟨_, rfl, ?_⟩) (fun g => absurd (t_has_nI hn hn9 (by omega)) g)
    rw [nI_clamp (by omega)]
    refine x_iadd (pc' := 19) rfl rfl ?_
    refine x_istore_n (pc' := 20) (lv' := [(1, _), (2, _), (0, _)]) rfl rfl (Nat.le_of_ble_eq_true rfl) rfl ?_
    refine x_iinc (pc' := 23) (lv' := [(2, _), (1, _), (0, _)]) rfl rfl (Nat.le_of_ble_eq_true rfl) rfl (nI_1 i) rfl ?_
    refine x_goto (tgt := 4) rfl rfl ?_
    exact ih (i + 1) (by omega)
theorem w_allBeans {n : Nat} (hT : x_t z f t T) (hn : T.2.2.2 0 = nI n) (hn9 : n ≤ 9) (h : post (some (.int (x_sum T.2.1 n))) f) : Y E 3 mX3_allBeans [.ref t] z f 0 0 post := by
  refine Y.intro gX3_allBeans (lv := [(0, .ref t)]) rfl (Nat.le_of_ble_eq_true rfl) ?_
  refine x_iconst (pc' := 1) rfl rfl iconst_0 ?_
  refine x_istore_n (pc' := 2) (lv' := [(1, _), (0, _)]) rfl rfl (Nat.le_of_ble_eq_true rfl) rfl ?_
  refine x_iconst (pc' := 3) rfl rfl iconst_0 ?_
  refine x_istore_n (pc' := 4) (lv' := [(2, _), (1, _), (0, _)]) rfl rfl (Nat.le_of_ble_eq_true rfl) rfl ?_
  exact w_allL hT hn hn9 h n 0 (by omega)
-- letters
theorem w_letterAt {p : Int32} (hS : x_Sys z f S) (h1 : ¬ p < 0 ∧ p < S.1 2 ∧ p < 96 → post (some (.int (S.2.2.1 0 p.toNatClampNeg))) f) (h0 : ¬ (¬ p < 0 ∧ p < S.1 2 ∧ p < 96) → post (some (.int (-1))) f) : Y E 1 mX2_letterAt [.ref 17, .int p] z f 0 0 post := by
  refine Y.intro gX2_letterAt (lv := [(0, .ref 17), (1, .int p)]) rfl (Nat.le_of_ble_eq_true rfl) ?_
  refine x_iload_n (pc' := 1) rfl rfl rfl ?_
  refine x_if_lt (tgt := 27) (pc' := 4) rfl rfl rfl (fun c1 => ?_) (fun c1 => ?_)
  · refine x_iconst (pc' := 28) rfl rfl iconst_m1 ?_
    exact x_ireturn rfl rfl rfl (Nat.le_of_ble_eq_true rfl) (Nat.le_of_ble_eq_true rfl) (h0 (fun q => q.1 c1))
  · refine x_iload_n (pc' := 5) rfl rfl rfl ?_
    refine x_aload_n (pc' := 6) rfl rfl rfl ?_
    refine x_get (pc' := 9) rfl rfl rfl (hS.lt) rfl ?_
    refine x_icmp_ge (tgt := 27) (pc' := 12) rfl rfl rfl (fun c9 => ?_) (fun c9 => ?_)
    · refine x_iconst (pc' := 28) rfl rfl iconst_m1 ?_
      exact x_ireturn rfl rfl rfl (Nat.le_of_ble_eq_true rfl) (Nat.le_of_ble_eq_true rfl) (h0 (fun q => Int32.not_lt.mpr c9 q.2.1))
    · refine x_iload_n (pc' := 13) rfl rfl rfl ?_
      refine x_bipush (pc' := 15) rfl rfl bipush_96 ?_
      refine x_icmp_ge (tgt := 27) (pc' := 18) rfl rfl rfl (fun c15 => ?_) (fun c15 => ?_)
      · refine x_iconst (pc' := 28) rfl rfl iconst_m1 ?_
        exact x_ireturn rfl rfl rfl (Nat.le_of_ble_eq_true rfl) (Nat.le_of_ble_eq_true rfl) (h0 (fun q => Int32.not_lt.mpr c15 q.2.2))
      · refine x_aload_n (pc' := 19) rfl rfl rfl ?_
        refine x_get (pc' := 22) rfl rfl rfl (hS.lt) rfl ?_
        refine x_iload_n (pc' := 23) rfl rfl rfl ?_
        refine x_iaload (pc' := 24) rfl rfl (hS.2.2.1 0 (by decide)) ((by have h2 : (96 : Int32).toInt = 96 := (by decide); have h3 : (0 : Int32).toInt = 0 := (by decide); rw [vp_in_iff]; rw [Int32.lt_iff_toInt_lt] at c1; have c16 := c15; rw [Int32.not_le, Int32.lt_iff_toInt_lt] at c16; exact ⟨by omega, by show _ < ((96 : Nat) : Int); omega⟩)) ?_
        refine x_goto (tgt := 28) rfl rfl ?_
        exact x_ireturn rfl rfl rfl (Nat.le_of_ble_eq_true rfl) (Nat.le_of_ble_eq_true rfl) (h1 ⟨c1, Int32.not_le.mp c9, Int32.not_le.mp c15⟩)
theorem w_add {c : Int32} {n : Nat} (hS : x_Sys z f S) (hn : S.1 2 = nI n) (h1 : n < 96 → ∀ f' : x_H, x_Sys z f' (upd S.1 2 (nI (n + 1)), S.2.1, x_ua S.2.2.1 0 (upd (S.2.2.1 0) n c), S.2.2.2) → x_fr (fun q => 59 ≤ q) f f' → post (some (.int 1)) f') (h0 : 96 ≤ n → n < 2 ^ 31 → post (some (.int 0)) f) (hn2 : n < 2 ^ 31) : Y E 1 mX2_add [.ref 17, .int c] z f 0 0 post := by
  refine Y.intro gX2_add (lv := [(0, .ref 17), (1, .int c)]) rfl (Nat.le_of_ble_eq_true rfl) ?_
  refine x_aload_n (pc' := 1) rfl rfl rfl ?_
  refine x_get (pc' := 4) rfl rfl rfl (hS.lt) rfl ?_
  refine x_eqi hn ?_
  refine x_if_lt (tgt := 16) (pc' := 7) rfl rfl rfl (fun c4 => absurd c4 (nI_pos hn2)) (fun _ => ?_)
  refine x_aload_n (pc' := 8) rfl rfl rfl ?_
  refine x_get (pc' := 11) rfl rfl rfl (hS.lt) rfl ?_
  refine x_eqi hn ?_
  refine x_bipush (pc' := 13) rfl rfl bipush_96 ?_
  refine x_icmp_lt (tgt := 18) (pc' := 16) rfl rfl rfl (fun c13 => ?_) (fun c13 => ?_)
  · have hn96 : n < 96 := Nat.not_le.mp (fun q => Int32.not_lt.mpr (nI_le (a := 96) (b := n) q hn2) c13)
    refine x_aload_n (pc' := 19) rfl rfl rfl ?_
    refine x_get (pc' := 22) rfl rfl rfl (hS.lt) rfl ?_
    refine x_aload_n (pc' := 23) rfl rfl rfl ?_
    refine x_get (pc' := 26) rfl rfl rfl (hS.lt) rfl ?_
    refine x_eqi hn ?_
    refine x_iload_n (pc' := 27) rfl rfl rfl ?_
    refine x_iastore (pc' := 28) rfl rfl (hS.2.2.1 0 (by decide)) (vp_in_nI (n := n) (N := 96) hn96 (by decide)) (fun f1 e1 => ?_)
    have hS1 := hS.arr 0 (by decide) e1
    have hF1 := (x_fr.rf (P := fun q => 59 ≤ q)).up e1 (by decide)
    refine x_aload_n (pc' := 29) rfl rfl rfl ?_
    refine x_dup (pc' := 30) rfl rfl rfl ?_
    refine x_get (pc' := 33) rfl rfl rfl (hS1.lt) rfl ?_
    refine x_eqi hn ?_
    refine x_iconst (pc' := 34) rfl rfl iconst_1 ?_
    refine x_iadd (pc' := 35) rfl rfl ?_
    refine x_eqi (nI_1 n) ?_
    refine x_put (pc' := 38) rfl rfl rfl (hS1.lt) (Nat.le_of_ble_eq_true rfl) rfl rfl rfl rfl (fun f2 e2 => ?_)
    have hS2 := hS1.num2 _ e2
    have hF2 := hF1.up e2 (by decide)
    rw [nI_clamp hn2] at hS2
    refine x_iconst (pc' := 39) rfl rfl iconst_1 ?_
    exact x_ireturn rfl rfl rfl (Nat.le_of_ble_eq_true rfl) (Nat.le_of_ble_eq_true rfl) (h1 hn96 _ hS2 hF2)
  · refine x_iconst (pc' := 17) rfl rfl iconst_0 ?_
    exact x_ireturn rfl rfl rfl (Nat.le_of_ble_eq_true rfl) (Nat.le_of_ble_eq_true rfl) (h0 (Nat.not_lt.mp (fun q => c13 (nI_lt (a := n) (b := 96) q (by decide)))) hn2)
theorem w_clear (hS : x_Sys z f S) (h : ∀ f' : x_H, x_Sys z f' (upd S.1 2 0, S.2.1, S.2.2.1, S.2.2.2) → x_fr (fun q => 59 ≤ q) f f' → post none f') : Y E 1 mX2_clear [.ref 17] z f 0 0 post := by
  refine Y.intro gX2_clear (lv := [(0, .ref 17)]) rfl (Nat.le_of_ble_eq_true rfl) ?_
  refine x_aload_n (pc' := 1) rfl rfl rfl ?_
  refine x_iconst (pc' := 2) rfl rfl iconst_0 ?_
  refine x_put (pc' := 5) rfl rfl rfl (hS.lt) (Nat.le_of_ble_eq_true rfl) rfl rfl rfl rfl (fun f1 e1 => ?_)
  have hS2 := hS.num2 _ e1
  have hF2 := (x_fr.rf (P := fun q => 59 ≤ q)).up e1 (by decide)
  exact x_return rfl rfl (Nat.le_of_ble_eq_true rfl) (Nat.le_of_ble_eq_true rfl) (h _ hS2 hF2)
end HELP
end
section
/-! The class's larger helpers where no bowl is held. -/
section FRESH
variable {E : x_E} {z : Nat} {f : x_H} {S : x_S} {post : Option Value → x_H → Prop}
theorem w_mostM1 (h : post (some (.int 0)) f) : Y E 1 mX2_mostDigits [.int (-1)] z f 0 0 post := by
  refine Y.intro gX2_mostDigits (lv := [(0, .int (-1))]) rfl (Nat.le_of_ble_eq_true rfl) ?_
  refine x_iload_n (pc' := 1) rfl rfl rfl ?_
  refine x_tableOut (tgt := 99) rfl ((by decide)) rfl ?_
  refine x_iconst (pc' := 100) rfl rfl iconst_0 ?_
  exact x_ireturn rfl rfl rfl (Nat.le_of_ble_eq_true rfl) (Nat.le_of_ble_eq_true rfl) (h)
theorem w_stuckIn0 (hS : x_Sys z f S) (h2 : S.1 2 = 0) (h : post (some (.int 0)) f) : Y E 2 mX2_stuckIn [.ref 17, .int 0] z f 0 0 post := by
  refine Y.intro gX2_stuckIn (lv := [(0, .ref 17), (1, .int 0)]) rfl (Nat.le_of_ble_eq_true rfl) ?_
  refine x_aload_n (pc' := 1) rfl rfl rfl ?_
  refine x_iload_n (pc' := 2) rfl rfl rfl ?_
  refine x_cV1i (d := 1) (pc' := 5) rfl rfl sX2_34 gX2_letterAt (hS.lt) ⟨Nat.le_of_ble_eq_true rfl, Nat.le_of_ble_eq_true rfl⟩ (Nat.le_of_ble_eq_true rfl) ⟨Nat.le_of_ble_eq_true rfl, Nat.le_of_ble_eq_true rfl⟩ ?_
  refine w_letterAt hS (fun q => absurd q.2.1 (by rw [h2]; decide)) (fun q => ⟨_, rfl, ?_⟩)
  refine x_istore_n (pc' := 6) (lv' := [(2, _), (0, _), (1, _)]) rfl rfl (Nat.le_of_ble_eq_true rfl) rfl ?_
  refine x_iload_n (pc' := 7) rfl rfl rfl ?_
  refine x_cS1i (d := 1) (pc' := 10) rfl rfl sX2_37 gX2_mostDigits ⟨Nat.le_of_ble_eq_true rfl, Nat.le_of_ble_eq_true rfl⟩ (Nat.le_of_ble_eq_true rfl) ⟨Nat.le_of_ble_eq_true rfl, Nat.le_of_ble_eq_true rfl⟩ ?_
  refine w_mostM1 ⟨_, rfl, ?_⟩
  refine x_if_ne (tgt := 15) (pc' := 13) rfl rfl rfl (fun c10 => absurd ((by decide)) c10) (fun _ => ?_)
  refine x_iload_n (pc' := 14) rfl rfl rfl ?_
  exact x_ireturn rfl rfl rfl (Nat.le_of_ble_eq_true rfl) (Nat.le_of_ble_eq_true rfl) (h)
theorem w_stuckAt0 (hS : x_Sys z f S) (h2 : S.1 2 = 0) (h : post (some (.int 0)) f) : Y E 3 mX2_stuckAt [.ref 17] z f 0 0 post := by
  refine Y.intro gX2_stuckAt (lv := [(0, .ref 17)]) rfl (Nat.le_of_ble_eq_true rfl) ?_
  refine x_iconst (pc' := 1) rfl rfl iconst_0 ?_
  refine x_istore_n (pc' := 2) (lv' := [(1, _), (0, _)]) rfl rfl (Nat.le_of_ble_eq_true rfl) rfl ?_
  refine x_iconst (pc' := 3) rfl rfl iconst_0 ?_
  refine x_istore_n (pc' := 4) (lv' := [(2, _), (1, _), (0, _)]) rfl rfl (Nat.le_of_ble_eq_true rfl) rfl ?_
  refine x_iload_n (pc' := 5) rfl rfl rfl ?_
  refine x_if_eq (tgt := 22) (pc' := 8) rfl rfl rfl (fun _ => ?_) (fun c5 => absurd ((by decide)) c5)
  refine x_aload_n (pc' := 23) rfl rfl rfl ?_
  refine x_iload_n (pc' := 24) rfl rfl rfl ?_
  refine x_cV1i (d := 2) (pc' := 27) rfl rfl sX2_31 gX2_stuckIn (hS.lt) ⟨Nat.le_of_ble_eq_true rfl, Nat.le_of_ble_eq_true rfl⟩ (Nat.le_of_ble_eq_true rfl) ⟨Nat.le_of_ble_eq_true rfl, Nat.le_of_ble_eq_true rfl⟩ ?_
  refine w_stuckIn0 hS h2 ⟨_, rfl, ?_⟩
  refine x_istore_n (pc' := 28) (lv' := [(3, _), (2, _), (1, _), (0, _)]) rfl rfl (Nat.le_of_ble_eq_true rfl) rfl ?_
  refine x_iload_n (pc' := 29) rfl rfl rfl ?_
  refine x_bipush (pc' := 31) rfl rfl bipush_m9 ?_
  refine x_icmp_eq (tgt := 36) (pc' := 34) rfl rfl rfl (fun c31 => absurd c31 ((by decide))) (fun _ => ?_)
  refine x_iload_n (pc' := 35) rfl rfl rfl ?_
  exact x_ireturn rfl rfl rfl (Nat.le_of_ble_eq_true rfl) (Nat.le_of_ble_eq_true rfl) (h)
theorem w_playOn0 {t : Nat} (hS : x_Sys z f S) (h2 : S.1 2 = 0) (h : post (some (.int (-1000))) f) : Y E 4 mX2_playOn [.ref 17, .ref t] z f 0 0 post := by
  refine Y.intro gX2_playOn (lv := [(0, .ref 17), (1, .ref t)]) rfl (Nat.le_of_ble_eq_true rfl) ?_
  refine x_aload_n (pc' := 1) rfl rfl rfl ?_
  refine x_cV0i (d := 3) (pc' := 4) rfl rfl sX2_19 gX2_stuckAt (hS.lt) ⟨Nat.le_of_ble_eq_true rfl, Nat.le_of_ble_eq_true rfl⟩ (Nat.le_of_ble_eq_true rfl) ⟨Nat.le_of_ble_eq_true rfl, Nat.le_of_ble_eq_true rfl⟩ ?_
  refine w_stuckAt0 hS h2 ⟨_, rfl, ?_⟩
  refine x_istore_n (pc' := 5) (lv' := [(2, _), (0, _), (1, _)]) rfl rfl (Nat.le_of_ble_eq_true rfl) rfl ?_
  refine x_iload_n (pc' := 6) rfl rfl rfl ?_
  refine x_bipush (pc' := 8) rfl rfl bipush_m9 ?_
  refine x_icmp_eq (tgt := 17) (pc' := 11) rfl rfl rfl (fun c8 => absurd c8 ((by decide))) (fun _ => ?_)
  refine x_sipush (pc' := 14) rfl rfl sipush_m1000 ?_
  refine x_iload_n (pc' := 15) rfl rfl rfl ?_
  refine x_isub (pc' := 16) rfl rfl ?_
  exact x_ireturn rfl rfl rfl (Nat.le_of_ble_eq_true rfl) (Nat.le_of_ble_eq_true rfl) (h)
theorem w_gain0 {n lo hi : Int32} (hS : x_Sys z f S) (hn : 0 < n) (h0 : (S.2.1 6).2.2.2 0 ≤ 0) (h : ∀ f' : x_H, x_Sys z f' (S.1, S.2.1, x_ua S.2.2.1 1 (upd (S.2.2.1 1) 0 (-9)), S.2.2.2) → x_fr (fun q => 59 ≤ q) f f' → post (some (.int 0)) f') : Y E 2 mX0_gainOf [.ref 20, .ref 21, .int 0, .int n, .int lo, .int hi] z f 0 0 post := by
  refine Y.intro gX0_gainOf (lv := [(0, .ref 20), (1, .ref 21), (2, .int 0), (3, .int n), (4, .int lo), (5, .int hi)]) rfl (Nat.le_of_ble_eq_true rfl) ?_
  refine x_iload_n (pc' := 1) rfl rfl rfl ?_
  refine x_if_le (tgt := 22) (pc' := 4) rfl rfl rfl (fun c1 => absurd c1 (Int32.not_le.mpr hn)) (fun _ => ?_)
  refine x_iload_n (pc' := 5) rfl rfl rfl ?_
  refine x_if_lt (tgt := 22) (pc' := 8) rfl rfl rfl (fun c5 => absurd c5 ((by decide))) (fun _ => ?_)
  refine x_iload_n (pc' := 9) rfl rfl rfl ?_
  refine x_iconst (pc' := 10) rfl rfl iconst_1 ?_
  refine x_iadd (pc' := 11) rfl rfl ?_
  refine x_aload_n (pc' := 12) rfl rfl rfl ?_
  refine x_alen (pc' := 13) rfl rfl (hS.li) ?_
  refine x_icmp_ge (tgt := 22) (pc' := 16) rfl rfl rfl (fun c13 => absurd c13 ((by decide))) (fun _ => ?_)
  refine x_iload_n (pc' := 17) rfl rfl rfl ?_
  refine x_aload_n (pc' := 18) rfl rfl rfl ?_
  refine x_alen (pc' := 19) rfl rfl (hS.2.2.1 1 (by decide)) ?_
  refine x_icmp_lt (tgt := 24) (pc' := 22) rfl rfl rfl (fun _ => ?_) (fun c19 => absurd ((show (0 : Int32) < Int32.ofNat 5 from by decide)) c19)
  refine x_aload_n (pc' := 25) rfl rfl rfl ?_
  refine x_iload_n (pc' := 26) rfl rfl rfl ?_
  refine x_aaload (pc' := 27) rfl rfl (hS.li) (vp_in_nI (n := 0) (N := 5) (by decide) (by decide)) ((rfl : x_line (Int32.toNatClampNeg 0) = some 22)) ?_
  refine x_astore (pc' := 29) (lv' := [(6, _), (0, _), (1, _), (2, _), (3, _), (4, _), (5, _)]) rfl rfl (Nat.le_of_ble_eq_true rfl) rfl ?_
  refine x_aload_n (pc' := 30) rfl rfl rfl ?_
  refine x_iload_n (pc' := 31) rfl rfl rfl ?_
  refine x_iconst (pc' := 32) rfl rfl iconst_1 ?_
  refine x_iadd (pc' := 33) rfl rfl ?_
  refine x_aaload (pc' := 34) rfl rfl (hS.li) ((vp_in_nI (n := 1) (N := 5) (by decide) (by decide))) ((rfl : x_line (Int32.toNatClampNeg (0 + 1)) = some 26)) ?_
  refine x_astore (pc' := 36) (lv' := [(7, _), (6, _), (0, _), (1, _), (2, _), (3, _), (4, _), (5, _)]) rfl rfl (Nat.le_of_ble_eq_true rfl) rfl ?_
  refine x_iload (pc' := 38) rfl rfl rfl ?_
  refine x_iload_n (pc' := 39) rfl rfl rfl ?_
  refine x_iconst (pc' := 40) rfl rfl iconst_1 ?_
  refine x_iadd (pc' := 41) rfl rfl ?_
  refine x_iconst (pc' := 42) rfl rfl iconst_2 ?_
  refine x_idiv (pc' := 43) rfl rfl (by decide) ?_
  refine x_mmin (pc' := 46) rfl rfl sX0_34 ⟨Nat.le_of_ble_eq_true rfl, Nat.le_of_ble_eq_true rfl⟩ (Nat.le_of_ble_eq_true rfl) (Nat.le_of_ble_eq_true rfl) (Nat.le_of_ble_eq_true rfl) ?_
  refine x_istore (pc' := 48) (lv' := [(8, _), (7, _), (6, _), (0, _), (1, _), (2, _), (3, _), (4, _), (5, _)]) rfl rfl (Nat.le_of_ble_eq_true rfl) rfl ?_
  refine x_iload (pc' := 50) rfl rfl rfl ?_
  refine x_iconst (pc' := 51) rfl rfl iconst_1 ?_
  refine x_isub (pc' := 52) rfl rfl ?_
  refine x_istore (pc' := 54) (lv' := [(9, _), (8, _), (7, _), (6, _), (0, _), (1, _), (2, _), (3, _), (4, _), (5, _)]) rfl rfl (Nat.le_of_ble_eq_true rfl) rfl ?_
  refine x_aload_n (pc' := 55) rfl rfl rfl ?_
  refine x_iload_n (pc' := 56) rfl rfl rfl ?_
  refine x_bipush (pc' := 58) rfl rfl bipush_m9 ?_
  refine x_iastore (pc' := 59) rfl rfl (hS.2.2.1 1 (by decide)) (vp_in_nI (n := 0) (N := 5) (by decide) (by decide)) (fun f1 e1 => ?_)
  have hS1 := hS.arr 1 (by decide) e1
  have hF1 := (x_fr.rf (P := fun q => 59 ≤ q)).up e1 (by decide)
  refine x_iconst (pc' := 60) rfl rfl iconst_0 ?_
  refine x_istore (pc' := 62) (lv' := [(10, _), (9, _), (8, _), (7, _), (6, _), (0, _), (1, _), (2, _), (3, _), (4, _), (5, _)]) rfl rfl (Nat.le_of_ble_eq_true rfl) rfl ?_
  refine x_iload (pc' := 64) rfl rfl rfl ?_
  refine x_aload (pc' := 66) rfl rfl rfl ?_
  refine x_get (pc' := 69) rfl rfl rfl ((hS1.2.1 6 (by decide)).1) rfl ?_
  refine x_icmp_ge (tgt := 174) (pc' := 72) rfl rfl rfl (fun _ => ?_) (fun c69 => absurd (h0) c69)
  refine x_aload_n (pc' := 175) rfl rfl rfl ?_
  refine x_iload_n (pc' := 176) rfl rfl rfl ?_
  refine x_iaload (pc' := 177) rfl rfl (hS1.2.2.1 1 (by decide)) (vp_in_nI (n := 0) (N := 5) (by decide) (by decide)) ?_
  refine x_bipush (pc' := 179) rfl rfl bipush_m9 ?_
  refine x_icmp_ne (tgt := 186) (pc' := 182) rfl rfl rfl (fun c179 => absurd (rfl) c179) (fun _ => ?_)
  refine x_iconst (pc' := 183) rfl rfl iconst_0 ?_
  refine x_goto (tgt := 188) rfl rfl ?_
  exact x_ireturn rfl rfl rfl (Nat.le_of_ble_eq_true rfl) (Nat.le_of_ble_eq_true rfl) (h _ hS1 hF1)
theorem w_gainFor0 {n : Int32} (j : Nat) (hj : j < 11) (hj6 : j ≠ 6) (hS : x_Sys z f S) (hn : 0 < n) (h0 : (S.2.1 j).2.2.2 0 ≤ 0) (h : ∀ (f' : x_H) (S' : x_S), x_Sys z f' S' → S'.1 = S.1 → (∀ i, i ≠ 6 → S'.2.1 i = S.2.1 i) → S'.2.2.1 1 0 = -9 → (∀ i, i ≠ 1 → S'.2.2.1 i = S.2.2.1 i) → x_fr (fun q => 59 ≤ q) f f' → post (some (.int 0)) f') : Y E 3 mX0_gainFor [.ref 19, .ref (x_tp j), .int n] z f 0 0 post := by
  refine Y.intro gX0_gainFor (lv := [(0, .ref 19), (1, .ref (x_tp j)), (2, .int n)]) rfl (Nat.le_of_ble_eq_true rfl) ?_
  refine x_aload_n (pc' := 1) rfl rfl rfl ?_
  refine x_get (pc' := 4) rfl rfl rfl (hS.ah) rfl ?_
  refine x_iconst (pc' := 5) rfl rfl iconst_0 ?_
  refine x_aaload (pc' := 6) rfl rfl (hS.li) (vp_in_nI (n := 0) (N := 5) (by decide) (by decide)) ((rfl : x_line (Int32.toNatClampNeg 0) = some 22)) ?_
  refine x_aload_n (pc' := 7) rfl rfl rfl ?_
  refine x_cV1v (d := 1) (pc' := 10) rfl rfl sX0_22 gX3_copyFrom ((hS.2.1 6 (by decide)).1) ⟨Nat.le_of_ble_eq_true rfl, Nat.le_of_ble_eq_true rfl⟩ (Nat.le_of_ble_eq_true rfl) ⟨Nat.le_of_ble_eq_true rfl, Nat.le_of_ble_eq_true rfl⟩ ?_
  refine w_copyFrom (hS.2.1 6 (by decide)) (hS.2.1 j hj) ((x_pos3 j hj).1 6 (by decide) (Ne.symm hj6)) (fun f1 hT1 hF1 => ⟨rfl, ?_⟩)
  have hS1 := hS.tab 6 (by decide) hT1 hF1
  refine x_aload_n (pc' := 11) rfl rfl rfl ?_
  refine x_get (pc' := 14) rfl rfl rfl (hS1.ah) rfl ?_
  refine x_aload_n (pc' := 15) rfl rfl rfl ?_
  refine x_get (pc' := 18) rfl rfl rfl (hS1.ah) rfl ?_
  refine x_iconst (pc' := 19) rfl rfl iconst_0 ?_
  refine x_iload_n (pc' := 20) rfl rfl rfl ?_
  refine x_iload_n (pc' := 21) rfl rfl rfl ?_
  refine x_ineg (pc' := 22) rfl rfl ?_
  refine x_iload_n (pc' := 23) rfl rfl rfl ?_
  refine x_cS6i (d := 2) (pc' := 26) rfl rfl sX0_26 gX0_gainOf ⟨Nat.le_of_ble_eq_true rfl, Nat.le_of_ble_eq_true rfl⟩ (Nat.le_of_ble_eq_true rfl) ⟨Nat.le_of_ble_eq_true rfl, Nat.le_of_ble_eq_true rfl⟩ ?_
  refine w_gain0 hS1 hn h0 (fun f2 hS2 hF2 => ⟨_, rfl, ?_⟩)
  exact x_ireturn rfl rfl rfl (Nat.le_of_ble_eq_true rfl) (Nat.le_of_ble_eq_true rfl) (h _ _ hS2 rfl (fun i hi => if_neg hi) rfl (fun i hi => if_neg hi) ((hF1.mono (fun q hq => x_tpq 6 (by decide) hq)).trans hF2))
theorem w_bowlFor0 {n : Int32} (j : Nat) (hj : j < 11) (hj6 : j ≠ 6) (hS : x_Sys z f S) (hn : 0 < n) (h0 : (S.2.1 j).2.2.2 0 ≤ 0) (h : ∀ f' : x_H, x_fr (fun q => 59 ≤ q) f f' → post (some (.int (-9))) f') : Y E 4 mX0_bowlFor [.ref 19, .ref (x_tp j), .int n] z f 0 0 post := by
  refine Y.intro gX0_bowlFor (lv := [(0, .ref 19), (1, .ref (x_tp j)), (2, .int n)]) rfl (Nat.le_of_ble_eq_true rfl) ?_
  refine x_aload_n (pc' := 1) rfl rfl rfl ?_
  refine x_aload_n (pc' := 2) rfl rfl rfl ?_
  refine x_iload_n (pc' := 3) rfl rfl rfl ?_
  refine x_cV2i (d := 3) (pc' := 6) rfl rfl sX0_30 gX0_gainFor (hS.ah) ⟨Nat.le_of_ble_eq_true rfl, Nat.le_of_ble_eq_true rfl⟩ (Nat.le_of_ble_eq_true rfl) ⟨Nat.le_of_ble_eq_true rfl, Nat.le_of_ble_eq_true rfl⟩ ?_
  refine w_gainFor0 j hj hj6 hS hn h0 (fun f1 S1 hS1 g1 g2 g3 g4 hF1 => ⟨_, rfl, ?_⟩)
  refine x_pop (pc' := 7) rfl rfl rfl ?_
  refine x_aload_n (pc' := 8) rfl rfl rfl ?_
  refine x_get (pc' := 11) rfl rfl rfl (hS1.ah) rfl ?_
  refine x_iconst (pc' := 12) rfl rfl iconst_0 ?_
  refine x_iaload (pc' := 13) rfl rfl (hS1.2.2.1 1 (by decide)) (vp_in_nI (n := 0) (N := 5) (by decide) (by decide)) ?_
  refine x_eqi (show S1.2.2.1 1 (Int32.toNatClampNeg 0) = -9 from g3) ?_
  exact x_ireturn rfl rfl rfl (Nat.le_of_ble_eq_true rfl) (Nat.le_of_ble_eq_true rfl) (h _ hF1)
theorem w_fillL {r n : Nat} {v : Int64} (hn : n < 2 ^ 31) (h : ∀ f' : x_H, x_a z f' r (n, .inr (.inl (fun _ => v))) → x_fr (fun q => q ≠ r) f f' → post none f') : ∀ (k i : Nat) (g : x_H) (a : Nat → Int64), i + k = n → x_a z g r (n, .inr (.inl a)) → (∀ j, j < i → a j = v) → x_fr (fun q => q ≠ r) f g → X E (x_rm 1 0 0) mJ7_fill_d0a16 (x_QM E z 0 0 post) 6 [(3, .int (nI i)), (4, .int (nI n)), (0, .ref r), (1, .long v)] [] z g 0 0 := by
  intro k
  induction k with
  | zero =>
    intro i g a hi ha hv hF
    have hi2 : i = n := by omega
    subst hi2
    refine x_iload_n (pc' := 7) rfl rfl rfl ?_
    refine x_iload (pc' := 9) rfl rfl rfl ?_
    refine x_icmp_ge (tgt := 22) (pc' := 12) rfl rfl rfl (fun _ => ?_) (fun c9 => absurd (Int32.le_refl _) c9)
    refine x_eqL ha (g' := fun _ => v) hv (fun f1 e1 => ?_)
    exact x_return rfl rfl (Nat.le_refl _) (Nat.le_refl _) (h _ (x_a.s e1 ha.1) (hF.up e1 (fun q => q rfl)))
  | succ k ih =>
    intro i g a hi ha hv hF
    refine x_iload_n (pc' := 7) rfl rfl rfl ?_
    refine x_iload (pc' := 9) rfl rfl rfl ?_
    refine x_icmp_ge (tgt := 22) (pc' := 12) rfl rfl rfl (fun c9 => absurd c9 (Int32.not_le.mpr (nI_lt (by omega) hn))) (fun _ => ?_)
    refine x_aload_n (pc' := 13) rfl rfl rfl ?_
    refine x_iload_n (pc' := 14) rfl rfl rfl ?_
    refine x_lload_n (pc' := 15) rfl rfl rfl ?_
    refine x_lastore (pc' := 16) rfl rfl (ha) (vp_in_nI (by omega) hn) (fun f1 e1 => ?_)
    refine x_iinc (pc' := 19) (lv' := [(3, _), (4, _), (0, _), (1, _)]) rfl rfl (Nat.le_of_ble_eq_true rfl) rfl (nI_1 i) rfl ?_
    refine x_goto (tgt := 6) rfl rfl ?_
    refine ih (i + 1) _ _ (by omega) (x_a.s e1 ha.1) ?_ (hF.up e1 (fun q => q rfl))
    intro j hj
    rw [nI_clamp (by omega)]
    unfold vp_updL
    by_cases hji : j = i
    · rw [if_pos hji]
    · rw [if_neg hji]
      exact hv j (by omega)
theorem w_fill {r n : Nat} {v : Int64} {a : Nat → Int64} (hn : n < 2 ^ 31) (ha : x_a z f r (n, .inr (.inl a))) (h : ∀ f' : x_H, x_a z f' r (n, .inr (.inl (fun _ => v))) → x_fr (fun q => q ≠ r) f f' → post none f') : Y E 1 mJ7_fill_d0a16 [.ref r, .long v] z f 0 0 post := by
  refine Y.intro gJ7_fill_d0a16 (lv := [(0, .ref r), (1, .long v)]) rfl (Nat.le_of_ble_eq_true rfl) ?_
  refine x_iconst (pc' := 1) rfl rfl iconst_0 ?_
  refine x_istore_n (pc' := 2) (lv' := [(3, _), (0, _), (1, _)]) rfl rfl (Nat.le_of_ble_eq_true rfl) rfl ?_
  refine x_aload_n (pc' := 3) rfl rfl rfl ?_
  refine x_alen (pc' := 4) rfl rfl (ha) ?_
  refine x_istore (pc' := 6) (lv' := [(4, _), (3, _), (0, _), (1, _)]) rfl rfl (Nat.le_of_ble_eq_true rfl) rfl ?_
  refine x_lvp [1, 0, 2, 3] rfl ?_
  exact w_fillL hn h n 0 _ a (by omega) ha (fun j hj => absurd hj (Nat.not_lt_zero j)) x_fr.rf
theorem w_toLay0 {n : Nat} {t : Nat} {T : x_T} {r : Nat} (hn : n ≤ 40) (hS : x_Sys z f S) (hT : x_t z f t T) (ht : t + 4 ≤ 55) (h0 : T.2.2.2 0 ≤ 0) (h : ∀ f' : x_H, x_fr (fun q => 59 ≤ q) f f' → post (some (.long (if n = 0 then 1 else 0))) f') : Y E 2 mX4_toLay [.ref 54, .ref t, .ref r, .int (nI n)] z f 0 0 post := by
  refine Y.intro gX4_toLay (lv := [(0, .ref 54), (1, .ref t), (2, .ref r), (3, .int (nI n))]) rfl (Nat.le_of_ble_eq_true rfl) ?_
  refine x_iload_n (pc' := 1) rfl rfl rfl ?_
  refine x_if_lt (tgt := 10) (pc' := 4) rfl rfl rfl (fun c1 => absurd c1 (nI_pos (by omega))) (fun _ => ?_)
  refine x_iload_n (pc' := 5) rfl rfl rfl ?_
  refine x_bipush (pc' := 7) rfl rfl bipush_40 ?_
  refine x_icmp_le (tgt := 12) (pc' := 10) rfl rfl rfl (fun _ => ?_) (fun c7 => absurd ((nI_le (a := n) (b := 40) hn (by decide))) c7)
  refine x_aload_n (pc' := 13) rfl rfl rfl ?_
  refine x_get (pc' := 16) rfl rfl rfl (hS.wy) rfl ?_
  refine x_lconst (pc' := 17) rfl rfl lconst_0 ?_
  refine x_cS2v (d := 1) (pc' := 20) rfl rfl sX4_19 gJ7_fill_d0a16 ⟨Nat.le_of_ble_eq_true rfl, Nat.le_of_ble_eq_true rfl⟩ (Nat.le_of_ble_eq_true rfl) ⟨Nat.le_of_ble_eq_true rfl, Nat.le_of_ble_eq_true rfl⟩ ?_
  refine w_fill (by decide) (hS.2.2.2.1 1 (by decide)) (fun f1 ha1 hF1 => ⟨rfl, ?_⟩)
  refine x_aload_n (pc' := 21) rfl rfl rfl ?_
  refine x_get (pc' := 24) rfl rfl rfl (hS.wy.fr hF1 (by decide)) rfl ?_
  refine x_iconst (pc' := 25) rfl rfl iconst_0 ?_
  refine x_lconst (pc' := 26) rfl rfl lconst_1 ?_
  refine x_lastore (pc' := 27) rfl rfl (ha1) (vp_in_nI (n := 0) (N := 41) (by decide) (by decide)) (fun f1 e1 => ?_)
  refine x_iconst (pc' := 28) rfl rfl iconst_0 ?_
  refine x_istore (pc' := 30) (lv' := [(4, _), (0, _), (1, _), (2, _), (3, _)]) rfl rfl (Nat.le_of_ble_eq_true rfl) rfl ?_
  refine x_iload (pc' := 32) rfl rfl rfl ?_
  refine x_aload_n (pc' := 33) rfl rfl rfl ?_
  refine x_get (pc' := 36) rfl rfl rfl (((hT.fr hF1 (fun i hi => by show t + i ≠ 55; omega)).n e1 (Or.inr (by show t + 4 ≤ 55; omega))).1) rfl ?_
  refine x_icmp_ge (tgt := 123) (pc' := 39) rfl rfl rfl (fun _ => ?_) (fun c36 => absurd (h0) c36)
  refine x_aload_n (pc' := 124) rfl rfl rfl ?_
  refine x_get (pc' := 127) rfl rfl rfl ((hS.wy.fr hF1 (by decide)).n e1 (by decide)) rfl ?_
  refine x_iload_n (pc' := 128) rfl rfl rfl ?_
  refine x_laload (pc' := 129) rfl rfl (x_a.s e1 ha1.1) (vp_in_nI (n := n) (N := 41) (by omega) (by decide)) ?_
  refine x_eql (show vp_updL (fun _ => (0 : Int64)) (Int32.toNatClampNeg 0) 1 (nI n).toNatClampNeg = (if n = 0 then 1 else 0) from by rw [nI_clamp (by omega)]; rfl) ?_
  exact x_lreturn rfl rfl (Nat.le_of_ble_eq_true rfl) (Nat.le_of_ble_eq_true rfl) (h _ ((hF1.mono (fun q hq => by have : 59 ≤ q := hq; show q ≠ 55; omega)).up e1 (by decide)))
theorem w_ask0 {n : Int32} (hS : x_Sys z f S) (h0 : (S.2.1 0).2.2.2 0 ≤ 0) (h : ∀ f' : x_H, x_fr (fun q => 59 ≤ q) f f' → post (some (.int (-9))) f') : Y E 3 mX4_bowlToAsk [.ref 54, .ref 1, .ref 57, .int n] z f 0 0 post := by
  refine Y.intro gX4_bowlToAsk (lv := [(0, .ref 54), (1, .ref 1), (2, .ref 57), (3, .int n)]) rfl (Nat.le_of_ble_eq_true rfl) ?_
  refine x_bipush (pc' := 2) rfl rfl bipush_m9 ?_
  refine x_istore (pc' := 4) (lv' := [(4, _), (0, _), (1, _), (2, _), (3, _)]) rfl rfl (Nat.le_of_ble_eq_true rfl) rfl ?_
  refine x_ldc2 (pc' := 7) rfl rfl rfl ?_
  refine x_lstore (pc' := 9) (lv' := [(5, _), (4, _), (0, _), (1, _), (2, _), (3, _)]) rfl rfl (Nat.le_of_ble_eq_true rfl) rfl ?_
  refine x_aload_n (pc' := 10) rfl rfl rfl ?_
  refine x_iconst (pc' := 11) rfl rfl iconst_0 ?_
  refine x_aload_n (pc' := 12) rfl rfl rfl ?_
  refine x_get (pc' := 15) rfl rfl rfl (hS.wy) rfl ?_
  refine x_iconst (pc' := 16) rfl rfl iconst_0 ?_
  refine x_aload_n (pc' := 17) rfl rfl rfl ?_
  refine x_alen (pc' := 18) rfl rfl (hS.2.2.1 5 (by decide)) ?_
  refine x_bipush (pc' := 20) rfl rfl bipush_12 ?_
  refine x_mmin (pc' := 23) rfl rfl sX4_35 ⟨Nat.le_of_ble_eq_true rfl, Nat.le_of_ble_eq_true rfl⟩ (Nat.le_of_ble_eq_true rfl) (Nat.le_of_ble_eq_true rfl) (Nat.le_of_ble_eq_true rfl) ?_
  refine x_eqi (show (if (12 : Int32) < Int32.ofNat 12 then (12 : Int32) else Int32.ofNat 12) = 12 from by decide) ?_
  refine x_copyW (pc' := 26) rfl rfl sX4_50 (hS.2.2.1 5 (by decide)) (hS.2.2.1 4 (by decide)) (by decide) (by decide) ⟨Nat.le_of_ble_eq_true rfl, Nat.le_of_ble_eq_true rfl⟩ (Nat.le_of_ble_eq_true rfl) (fun f1 e1 => ?_)
  have hS1 := hS.arr 4 (by decide) e1
  refine x_iconst (pc' := 27) rfl rfl iconst_0 ?_
  refine x_istore (pc' := 29) (lv' := [(7, _), (5, _), (4, _), (0, _), (1, _), (2, _), (3, _)]) rfl rfl (Nat.le_of_ble_eq_true rfl) rfl ?_
  refine x_iload (pc' := 31) rfl rfl rfl ?_
  refine x_aload_n (pc' := 32) rfl rfl rfl ?_
  refine x_get (pc' := 35) rfl rfl rfl ((hS1.2.1 0 (by decide)).1) rfl ?_
  refine x_icmp_ge (tgt := 131) (pc' := 38) rfl rfl rfl (fun _ => ?_) (fun c35 => absurd (h0) c35)
  refine x_iload (pc' := 133) rfl rfl rfl ?_
  exact x_ireturn rfl rfl rfl (Nat.le_of_ble_eq_true rfl) (Nat.le_of_ble_eq_true rfl) (h _ (x_fr.rf.up e1 (by decide)))
end FRESH
end
section
/-! THE CLAIM OUT OF ONE WALK OF THE LAW'S BODY. Your part is whole_start (and what it stands on); all else here is the same for every law, but numbers. -/
def R_law : String := "PurseOfNineBowlsLaw"
def lw_P (b : Addr) (xs : List Int32) (args : Array Value) (s : State) : Prop := args = #[.ref b] ∧ s.IntsAt b xs ∧ xs.length ≤ 1536 ∧ (Jvm.Cond.and given_1 narrow_1).before args s = true
def lw_Q (_ : Array Value) (s : State) (o : Outcome) (t : State) : Prop := o = .returned (some (.int 1)) ∧ Framed s o t [] 600000 7302250
def lw_Z (below : List Frame) (a : Array Value) (s : State) : State → Prop := fun t => ∃ o, t.status = .running ∧ Ended t below o ∧ lw_Q a s o t
/-- the law's own end, with 1 on the stack, nothing written that was there before, its room as the claim has it -/
theorem lw_ret {p : Program} {l : Launch} {e : Env} {s : State} {m : MethodId} {below : List Frame} {meth : Method} {c : Code} {b : Nat} (hx : p.tables.exec = Jvm.exec) (hb : c.code = code) (hr : meth.sig.returnType = ret) (hlocks : meth.locks = false) {pc : Nat} {H : Heap} {ls : Array Slot} (hdg : decode code pc = .ok (.ireturn, 1)) : W p l e room_1 s m #[Value.ref b] below meth c H [] 600000 7302250 (lw_Z below #[Value.ref b] s) (F0 m pc ls [.int 1]) := by
  intro T hT X
  obtain ⟨fs, hret, hrun, hended, hW, hframe⟩ := X.leave (v := some (.int 1)) (hlocks := hlocks) (fun h => by rw [hr] at h; cases h)
  have hmeth' : T.vm.method? m = some meth := X.method'
  refine ⟨T.setFrames fs, ?_, .returned (some (.int 1)), hrun, hended, rfl, ⟨_, rfl⟩, hW, hframe⟩
  jvm_step X.here [X.here.top, hx, hb, hdg, hmeth', hr, ret, narrow_b1]
  (try refine ⟨rfl, ?_⟩); (try refine ⟨rfl, ?_⟩)
  first | (intro acts; rw [hret _ acts rfl rfl rfl]) | rw [hret _ _ rfl rfl rfl]
  exact Steps.refl _
/-- what holds at the law's entry: the machine, the code, the tables' words (any of lw_tbl by 'hts w (by decide +kernel)'), the script of L ints xs at the cell b, what the Statement gives of the start (any of its parts by flat_of_before) -/
def lw_At (p : Program) (s : State) (m : MethodId) (meth : Method) (c : Code) (b L : Nat) (xs : Nat → Int32) : Prop :=
  p.tables.exec = Jvm.exec ∧ c.code = code ∧ meth.sig.returnType = ret ∧ c.maxLocals = 4 ∧ s.vm.findClass R_law = some m.cls ∧ (∀ w ∈ lw_tbl, w.before #[Value.ref b] s = true) ∧ va_X b L xs s s.heap ∧ b < s.heap.size ∧ meth.locks = false ∧ (Jvm.Cond.and given_1 narrow_1).before #[Value.ref b] s = true
end
section
/-! The game over Nat: a hand, the hands of a move, a move. -/
def q_up (f : Nat → Nat) (k v : Nat) : Nat → Nat := fun j => if j = k then v else f j
theorem q_up_s (f : Nat → Nat) (k v : Nat) : q_up f k v k = v := if_pos rfl
theorem q_up_n (f : Nat → Nat) {k j : Nat} (v : Nat) (h : j ≠ k) : q_up f k v j = f j := if_neg h
theorem q_up_I (f : Nat → Nat) (k v : Nat) : upd (fun i => nI (f i)) k (nI v) = fun i => nI (q_up f k v i) := by
  funext i
  unfold q_up upd
  split <;> rfl
theorem q_up_le {f : Nat → Nat} {k v B : Nat} (h : ∀ i, f i ≤ B) (hv : v ≤ B) : ∀ i, q_up f k v i ≤ B := by
  intro i
  unfold q_up
  split
  · exact hv
  · exact h i
def q_nx (n ln p : Nat) : Nat := if ln = 1 then (if p = 0 then n - 1 else p - 1) else (if n ≤ p + 1 then 0 else p + 1)
theorem q_nx_lt {n ln p : Nat} (hp : p < n) : q_nx n ln p < n := by
  unfold q_nx
  split <;> split <;> omega
abbrev q_tk (κ β : Nat → Nat) (fu i : Nat) : Prop := β i < 99 ∧ (κ i = 4 → β i < fu)
/-- beans, place, in hand, passed, sown, last -/
abbrev q_W : Type := (Nat → Nat) × Nat × Nat × Nat × Nat × Option Nat
def q_st (κ : Nat → Nat) (n fu ln : Nat) (w : q_W) : q_W :=
  if q_tk κ w.1 fu (q_nx n ln w.2.1) then (q_up w.1 (q_nx n ln w.2.1) (w.1 (q_nx n ln w.2.1) + 1), q_nx n ln w.2.1, w.2.2.1 - 1, 0, w.2.2.2.2.1 + 1, some (q_nx n ln w.2.1))
  else (w.1, q_nx n ln w.2.1, w.2.2.1, w.2.2.2.1 + 1, w.2.2.2.2.1, w.2.2.2.2.2)
def q_run (κ : Nat → Nat) (n fu ln : Nat) : Nat → q_W → q_W
  | 0, w => w
  | k + 1, w => if 0 < w.2.2.1 ∧ w.2.2.2.1 < n then q_run κ n fu ln k (q_st κ n fu ln w) else w
def q_ms (n : Nat) (w : q_W) : Nat := w.2.2.1 * n + (n - w.2.2.2.1)
theorem q_ms_st {κ : Nat → Nat} {n fu ln : Nat} {w : q_W} (h : 0 < w.2.2.1) (hq : w.2.2.2.1 < n) : q_ms n (q_st κ n fu ln w) < q_ms n w := by
  unfold q_st q_ms
  split
  · show (w.2.2.1 - 1) * n + (n - 0) < _
    obtain ⟨m, hm⟩ : ∃ m, w.2.2.1 = m + 1 := ⟨w.2.2.1 - 1, by omega⟩
    rw [hm, Nat.add_sub_cancel, Nat.add_mul]
    omega
  · show w.2.2.1 * n + (n - (w.2.2.2.1 + 1)) < _
    omega
theorem q_run_stop {κ : Nat → Nat} {n fu ln k : Nat} {w : q_W} (h : ¬ (0 < w.2.2.1 ∧ w.2.2.2.1 < n)) : q_run κ n fu ln k w = w := by
  cases k with
  | zero => rfl
  | succ k =>
    unfold q_run
    rw [if_neg h]
theorem q_run_go {κ : Nat → Nat} {n fu ln k : Nat} {w : q_W} (h : 0 < w.2.2.1 ∧ w.2.2.2.1 < n) : q_run κ n fu ln (k + 1) w = q_run κ n fu ln k (q_st κ n fu ln w) := by
  rw [q_run, if_pos h]
/-- what stays while a hand is sown -/
def q_ok (n B : Nat) (w : q_W) : Prop := w.2.1 < n ∧ (∀ i, w.1 i ≤ 100) ∧ w.2.2.2.1 ≤ n ∧ w.2.2.2.2.1 + w.2.2.1 ≤ B ∧ (∀ l, w.2.2.2.2.2 = some l → l < n)
theorem q_ok_st {κ : Nat → Nat} {n fu ln B : Nat} {w : q_W} (h : q_ok n B w) (h1 : 0 < w.2.2.1) (h2 : w.2.2.2.1 < n) : q_ok n B (q_st κ n fu ln w) := by
  obtain ⟨a1, a2, a3, a4, a5⟩ := h
  have a6 := q_nx_lt (ln := ln) a1
  unfold q_st
  split
  · rename_i ht
    refine ⟨a6, q_up_le a2 (by have := ht.1; omega), Nat.zero_le _, ?_, ?_⟩
    · show w.2.2.2.2.1 + 1 + (w.2.2.1 - 1) ≤ B
      omega
    · intro l hl
      have := Option.some.inj hl
      omega
  · exact ⟨a6, a2, h2, a4, a5⟩
theorem q_ok_run {κ : Nat → Nat} {n fu ln B : Nat} : ∀ (k : Nat) (w : q_W), q_ok n B w → q_ok n B (q_run κ n fu ln k w)
  | 0, w, h => h
  | k + 1, w, h => by
    by_cases hg : 0 < w.2.2.1 ∧ w.2.2.2.1 < n
    · rw [q_run_go hg]
      exact q_ok_run k _ (q_ok_st h hg.1 hg.2)
    · rw [q_run_stop hg]
      exact h
theorem q_run_more {κ : Nat → Nat} {n fu ln : Nat} : ∀ (k k' : Nat) (w : q_W), q_ms n w ≤ k → q_ms n w ≤ k' → q_run κ n fu ln k w = q_run κ n fu ln k' w := by
  intro k
  induction k with
  | zero =>
    intro k' w h h'
    by_cases hg : 0 < w.2.2.1 ∧ w.2.2.2.1 < n
    · have := q_ms_st (κ := κ) (fu := fu) (ln := ln) hg.1 hg.2
      omega
    · rw [q_run_stop hg, q_run_stop hg]
  | succ k ih =>
    intro k' w h h'
    by_cases hg : 0 < w.2.2.1 ∧ w.2.2.2.1 < n
    · have h1 := q_ms_st (κ := κ) (fu := fu) (ln := ln) hg.1 hg.2
      cases k' with
      | zero => omega
      | succ k' =>
        rw [q_run_go hg, q_run_go hg]
        exact ih k' _ (by omega) (by omega)
    · rw [q_run_stop hg, q_run_stop hg]
/-- a hand out of b: beans, sown, last -/
def q_hand (κ : Nat → Nat) (n fu ln : Nat) (β : Nat → Nat) (b : Nat) (l : Option Nat) : (Nat → Nat) × Nat × Option Nat :=
  let w := q_run κ n fu ln 1000 (q_up β b 0, b, β b, 0, 0, l)
  (q_up w.1 b (w.1 b + w.2.2.1), w.2.2.2.2.1, w.2.2.2.2.2)
def q_from (k fu : Nat) : Nat := if k = 0 then fu else if k = 3 then 2 * fu else if k = 5 then 12 else (fu + 1) / 2
abbrev q_full (κ β : Nat → Nat) (fu i : Nat) : Prop := κ i ≠ 2 ∧ q_from (κ i) fu ≤ β i
/-- the hands of a move: beans, hands, sown, last; k hands at the most -/
def q_hands (κ : Nat → Nat) (n fu ln : Nat) : Nat → (Nat → Nat) → Nat → Nat → Nat → Option Nat → (Nat → Nat) × Nat × Nat × Option Nat
  | 0, β, _, hs, s, l => (β, hs, s, l)
  | k + 1, β, b, hs, s, l =>
    let r := q_hand κ n fu ln β b l
    if 0 < r.2.1 ∧ q_full κ r.1 fu (r.2.2.getD 0) then q_hands κ n fu ln k r.1 (r.2.2.getD 0) (hs + 1) (s + r.2.1) r.2.2
    else (r.1, hs + 1, s + r.2.1, r.2.2)
def q_lI (l : Option Nat) : Int32 := match l with
  | none => (-9)
  | some p => nI p
end
section
/-! The class's Table, over any state. -/
theorem x_t.num {z : Nat} {f f' : x_H} {t : Nat} {T : x_T} (h : x_t z f t T) (k : Nat) {v : Int32} (e : f' = x_up f t (.inr (3, (x_tF t T.2.2.2).set (k + 3) (.int v)))) (hk : (x_tF t T.2.2.2).set (k + 3) (.int v) = x_tF t (upd T.2.2.2 k v)) : x_t z f' t (T.1, T.2.1, T.2.2.1, upd T.2.2.2 k v) := by
  rw [hk] at e
  exact ⟨x_o.s e h.1.1, h.2.1.n e (by omega), h.2.2.1.n e (by omega), h.2.2.2.n e (by omega)⟩
theorem x_t.bean {z : Nat} {f f' : x_H} {t : Nat} {T : x_T} {g : Nat → Int32} (h : x_t z f t T) (e : f' = x_up f (t + 2) (.inl (9, .inl g))) : x_t z f' t (T.1, g, T.2.2.1, T.2.2.2) :=
  ⟨h.1.n e (by omega), h.2.1.n e (by omega), x_a.s e h.2.2.1.1, h.2.2.2.n e (by omega)⟩
theorem x_t.kind {z : Nat} {f f' : x_H} {t : Nat} {T : x_T} {g : Nat → Int32} (h : x_t z f t T) (e : f' = x_up f (t + 1) (.inl (9, .inl g))) : x_t z f' t (g, T.2.1, T.2.2.1, T.2.2.2) :=
  ⟨h.1.n e (by omega), x_a.s e h.2.1.1, h.2.2.1.n e (by omega), h.2.2.2.n e (by omega)⟩
theorem x_t.purse {z : Nat} {f f' : x_H} {t : Nat} {T : x_T} {g : Nat → Int32} (h : x_t z f t T) (e : f' = x_up f (t + 3) (.inl (2, .inl g))) : x_t z f' t (T.1, T.2.1, g, T.2.2.2) :=
  ⟨h.1.n e (by omega), h.2.1.n e (by omega), h.2.2.1.n e (by omega), x_a.s e h.2.2.2.1⟩
theorem x_t.cast {z : Nat} {f : x_H} {t : Nat} {T T' : x_T} (h : x_t z f t T) (e : T = T') : x_t z f t T' := e ▸ h
theorem x_ot_in {t k : Nat} (h : t ≤ k) (h2 : k < t + 4) : ¬ x_ot t k := by
  unfold x_ot
  omega
theorem nI_in9 {T : x_T} {n i : Nat} (hn : T.2.2.2 0 = nI n) (hn9 : n ≤ 9) (hi : i < n) : vp_in (nI i) 9 := vp_in_nI (by omega) (by decide)
theorem t_has_no {T : x_T} {n : Nat} {i : Nat} (hn : T.2.2.2 0 = nI n) (hn9 : n ≤ 9) (hi : i < 2 ^ 31) (h : ¬ t_has T (nI i)) : n ≤ i := Nat.not_lt.mp (fun q => h (t_has_nI hn hn9 q))
section TAB
variable {E : x_E} {z : Nat} {f : x_H} {t : Nat} {T : x_T} {post : Option Value → x_H → Prop}
theorem w_kindOf {b : Int32} (hT : x_t z f t T) (h1 : t_has T b → post (some (.int (T.1 b.toNatClampNeg))) f) (h0 : ¬ t_has T b → post (some (.int (-9))) f) : Y E 2 mX3_kindOf [.ref t, .int b] z f 0 0 post := by
  refine Y.intro gX3_kindOf (lv := [(0, .ref t), (1, .int b)]) rfl (Nat.le_of_ble_eq_true rfl) ?_
  refine x_aload_n (pc' := 1) rfl rfl rfl ?_
  refine x_iload_n (pc' := 2) rfl rfl rfl ?_
  refine x_cV1i (d := 1) (pc' := 5) rfl rfl sX3_55 gX3_has (hT.1) ⟨Nat.le_of_ble_eq_true rfl, Nat.le_of_ble_eq_true rfl⟩ (Nat.le_of_ble_eq_true rfl) ⟨Nat.le_of_ble_eq_true rfl, Nat.le_of_ble_eq_true rfl⟩ ?_
  refine w_has hT (fun g => ⟨_, rfl, ?_⟩) (fun g => ⟨_, rfl, ?_⟩)
  · refine x_if_eq (tgt := 17) (pc' := 8) rfl rfl rfl (fun c5 => absurd c5 (by decide)) (fun _ => ?_)
    refine x_aload_n (pc' := 9) rfl rfl rfl ?_
    refine x_get (pc' := 12) rfl rfl rfl (hT.1) rfl ?_
    refine x_iload_n (pc' := 13) rfl rfl rfl ?_
    refine x_iaload (pc' := 14) rfl rfl (hT.2.1) (vp_in_9 g.1 g.2.2) ?_
    refine x_goto (tgt := 19) rfl rfl ?_
    exact x_ireturn rfl rfl rfl (Nat.le_of_ble_eq_true rfl) (Nat.le_of_ble_eq_true rfl) (h1 g)
  · refine x_if_eq (tgt := 17) (pc' := 8) rfl rfl rfl (fun _ => ?_) (fun c5 => absurd (by decide) c5)
    refine x_bipush (pc' := 19) rfl rfl bipush_m9 ?_
    exact x_ireturn rfl rfl rfl (Nat.le_of_ble_eq_true rfl) (Nat.le_of_ble_eq_true rfl) (h0 g)
theorem w_lay {b v : Int32} (hT : x_t z f t T) (h1 : t_has T b → ∀ f' : x_H, x_t z f' t (T.1, upd T.2.1 b.toNatClampNeg v, T.2.2.1, T.2.2.2) → x_fr (x_ot t) f f' → post none f') (h0 : ¬ t_has T b → post none f) : Y E 2 mX3_lay [.ref t, .int b, .int v] z f 0 0 post := by
  refine Y.intro gX3_lay (lv := [(0, .ref t), (1, .int b), (2, .int v)]) rfl (Nat.le_of_ble_eq_true rfl) ?_
  refine x_aload_n (pc' := 1) rfl rfl rfl ?_
  refine x_iload_n (pc' := 2) rfl rfl rfl ?_
  refine x_cV1i (d := 1) (pc' := 5) rfl rfl sX3_55 gX3_has (hT.1) ⟨Nat.le_of_ble_eq_true rfl, Nat.le_of_ble_eq_true rfl⟩ (Nat.le_of_ble_eq_true rfl) ⟨Nat.le_of_ble_eq_true rfl, Nat.le_of_ble_eq_true rfl⟩ ?_
  refine w_has hT (fun g => ⟨_, rfl, ?_⟩) (fun g => ⟨_, rfl, ?_⟩)
  · refine x_if_eq (tgt := 15) (pc' := 8) rfl rfl rfl (fun c5 => absurd c5 (by decide)) (fun _ => ?_)
    refine x_aload_n (pc' := 9) rfl rfl rfl ?_
    refine x_get (pc' := 12) rfl rfl rfl (hT.1) rfl ?_
    refine x_iload_n (pc' := 13) rfl rfl rfl ?_
    refine x_iload_n (pc' := 14) rfl rfl rfl ?_
    refine x_iastore (pc' := 15) rfl rfl (hT.2.2.1) (vp_in_9 g.1 g.2.2) (fun f1 e1 => ?_)
    have hT1 := hT.bean e1
    have hF1 := x_fr.rf.up e1 (x_ot_in (t := t) (by omega) (by omega))
    exact x_return rfl rfl (Nat.le_of_ble_eq_true rfl) (Nat.le_of_ble_eq_true rfl) (h1 g _ hT1 hF1)
  · refine x_if_eq (tgt := 15) (pc' := 8) rfl rfl rfl (fun _ => ?_) (fun c5 => absurd (by decide) c5)
    exact x_return rfl rfl (Nat.le_of_ble_eq_true rfl) (Nat.le_of_ble_eq_true rfl) (h0 g)
theorem w_takes {i n fu : Nat} {κ β : Nat → Nat} (hT : x_t z f t T) (hn : T.2.2.2 0 = nI n) (hn9 : n ≤ 9) (hfu : T.2.2.2 1 = nI fu) (hfu9 : fu < 2 ^ 31) (hκ : T.1 = fun i => nI (κ i)) (hβ : T.2.1 = fun i => nI (β i)) (hκ5 : ∀ i, κ i ≤ 5) (hβ5 : ∀ i, β i ≤ 100) (hi : i < n) (h1 : q_tk κ β fu i → post (some (.int 1)) f) (h0 : ¬ q_tk κ β fu i → post (some (.int 0)) f) : Y E 2 mX3_takes [.ref t, .int (nI i)] z f 0 0 post := by
  refine Y.intro gX3_takes (lv := [(0, .ref t), (1, .int (nI i))]) rfl (Nat.le_of_ble_eq_true rfl) ?_
  have hcl : (nI i).toNatClampNeg = i := nI_clamp (by omega)
  have e1 : T.2.1 (nI i).toNatClampNeg = nI (β i) := by rw [hcl, hβ]
  have e2 : T.1 (nI i).toNatClampNeg = nI (κ i) := by rw [hcl, hκ]
  have b1 := hβ5 i
  have b2 := hκ5 i
  refine x_aload_n (pc' := 1) rfl rfl rfl ?_
  refine x_iload_n (pc' := 2) rfl rfl rfl ?_
  refine x_cV1i (d := 1) (pc' := 5) rfl rfl sX3_55 gX3_has (hT.1) ⟨Nat.le_of_ble_eq_true rfl, Nat.le_of_ble_eq_true rfl⟩ (Nat.le_of_ble_eq_true rfl) ⟨Nat.le_of_ble_eq_true rfl, Nat.le_of_ble_eq_true rfl⟩ ?_
  refine w_has hT (fun g => ⟨_, rfl, ?_⟩) (fun g => absurd (t_has_nI hn hn9 hi) g)
  refine x_if_eq (tgt := 19) (pc' := 8) rfl rfl rfl (fun c5 => absurd c5 ((by decide))) (fun _ => ?_)
  refine x_aload_n (pc' := 9) rfl rfl rfl ?_
  refine x_get (pc' := 12) rfl rfl rfl (hT.1) rfl ?_
  refine x_iload_n (pc' := 13) rfl rfl rfl ?_
  refine x_iaload (pc' := 14) rfl rfl (hT.2.2.1) (nI_in9 hn hn9 hi) ?_
  refine x_eqi e1 ?_
  refine x_bipush (pc' := 16) rfl rfl bipush_99 ?_
  by_cases d1 : β i < 99
  · refine x_icmp_lt (tgt := 21) (pc' := 19) rfl rfl rfl (fun _ => ?_) (fun q => absurd (nI_lt (a := β i) (b := 99) d1 (by decide)) q)
    refine x_aload_n (pc' := 22) rfl rfl rfl ?_
    refine x_get (pc' := 25) rfl rfl rfl (hT.1) rfl ?_
    refine x_iload_n (pc' := 26) rfl rfl rfl ?_
    refine x_iaload (pc' := 27) rfl rfl (hT.2.1) (nI_in9 hn hn9 hi) ?_
    refine x_eqi e2 ?_
    refine x_iconst (pc' := 28) rfl rfl iconst_4 ?_
    by_cases d2 : κ i = 4
    · refine x_icmp_ne (tgt := 44) (pc' := 31) rfl rfl rfl (fun q => absurd (show nI (κ i) = 4 by rw [d2]; decide) q) (fun _ => ?_)
      refine x_aload_n (pc' := 32) rfl rfl rfl ?_
      refine x_get (pc' := 35) rfl rfl rfl (hT.1) rfl ?_
      refine x_iload_n (pc' := 36) rfl rfl rfl ?_
      refine x_iaload (pc' := 37) rfl rfl (hT.2.2.1) (nI_in9 hn hn9 hi) ?_
      refine x_eqi e1 ?_
      refine x_aload_n (pc' := 38) rfl rfl rfl ?_
      refine x_get (pc' := 41) rfl rfl rfl (hT.1) rfl ?_
      refine x_eqi hfu ?_
      by_cases d3 : β i < fu
      · refine x_icmp_ge (tgt := 48) (pc' := 44) rfl rfl rfl (fun q => absurd q (nI_ge d3 hfu9)) (fun _ => ?_)
        refine x_iconst (pc' := 45) rfl rfl iconst_1 ?_
        refine x_goto (tgt := 49) rfl rfl ?_
        exact x_ireturn rfl rfl rfl (Nat.le_of_ble_eq_true rfl) (Nat.le_of_ble_eq_true rfl) (h1 ⟨d1, fun _ => d3⟩)
      · refine x_icmp_ge (tgt := 48) (pc' := 44) rfl rfl rfl (fun _ => ?_) (fun q => absurd (nI_le (a := fu) (b := β i) (by omega) (by omega)) q)
        refine x_iconst (pc' := 49) rfl rfl iconst_0 ?_
        exact x_ireturn rfl rfl rfl (Nat.le_of_ble_eq_true rfl) (Nat.le_of_ble_eq_true rfl) (h0 (fun q => d3 (q.2 d2)))
    · refine x_icmp_ne (tgt := 44) (pc' := 31) rfl rfl rfl (fun _ => ?_) (fun q => absurd ((nI_eq (a := κ i) (b := 4) (by omega) (by decide)).mp q) d2)
      refine x_iconst (pc' := 45) rfl rfl iconst_1 ?_
      refine x_goto (tgt := 49) rfl rfl ?_
      exact x_ireturn rfl rfl rfl (Nat.le_of_ble_eq_true rfl) (Nat.le_of_ble_eq_true rfl) (h1 ⟨d1, fun q => absurd q d2⟩)
  · refine x_icmp_lt (tgt := 21) (pc' := 19) rfl rfl rfl (fun q => absurd q (nI_nlt (a := β i) (b := 99) (by omega) (by omega))) (fun _ => ?_)
    refine x_iconst (pc' := 20) rfl rfl iconst_0 ?_
    exact x_ireturn rfl rfl rfl (Nat.le_of_ble_eq_true rfl) (Nat.le_of_ble_eq_true rfl) (h0 (fun q => d1 q.1))
theorem w_nx {p n ln : Nat} (hT : x_t z f t T) (hn : T.2.2.2 0 = nI n) (hn9 : n ≤ 9) (hln : T.2.2.2 2 = nI ln) (hln1 : ln < 2 ^ 31) (hp : p < n) (h : post (some (.int (nI (q_nx n ln p)))) f) : Y E 1 mX3_rightOrLeftOf [.ref t, .int (nI p)] z f 0 0 post := by
  refine Y.intro gX3_rightOrLeftOf (lv := [(0, .ref t), (1, .int (nI p))]) rfl (Nat.le_of_ble_eq_true rfl) ?_
  by_cases d1 : ln = 1
  · by_cases d2 : p = 0
    · have e : q_nx n ln p = n - 1 := by unfold q_nx; rw [if_pos d1, if_pos d2]
      rw [e] at h
      subst d2
      refine x_aload_n (pc' := 1) rfl rfl rfl ?_
      refine x_get (pc' := 4) rfl rfl rfl (hT.1) rfl ?_
      refine x_eqi hln ?_
      refine x_iconst (pc' := 5) rfl rfl iconst_1 ?_
      refine x_icmp_ne (tgt := 25) (pc' := 8) rfl rfl rfl (fun c5 => absurd ((by rw [d1]; rfl)) c5) (fun _ => ?_)
      refine x_iload_n (pc' := 9) rfl rfl rfl ?_
      refine x_if_gt (tgt := 21) (pc' := 12) rfl rfl rfl (fun c9 => absurd c9 ((by decide : ¬ (0 : Int32) < nI 0))) (fun _ => ?_)
      refine x_aload_n (pc' := 13) rfl rfl rfl ?_
      refine x_get (pc' := 16) rfl rfl rfl (hT.1) rfl ?_
      refine x_eqi hn ?_
      refine x_iconst (pc' := 17) rfl rfl iconst_1 ?_
      refine x_isub (pc' := 18) rfl rfl ?_
      refine x_eqi (show nI n - 1 = nI (n - 1) from pk_sub (a := n) (b := 1) (by omega)) ?_
      refine x_goto (tgt := 24) rfl rfl ?_
      exact x_ireturn rfl rfl rfl (Nat.le_of_ble_eq_true rfl) (Nat.le_of_ble_eq_true rfl) (h)
    · have e : q_nx n ln p = p - 1 := by unfold q_nx; rw [if_pos d1, if_neg d2]
      rw [e] at h
      refine x_aload_n (pc' := 1) rfl rfl rfl ?_
      refine x_get (pc' := 4) rfl rfl rfl (hT.1) rfl ?_
      refine x_eqi hln ?_
      refine x_iconst (pc' := 5) rfl rfl iconst_1 ?_
      refine x_icmp_ne (tgt := 25) (pc' := 8) rfl rfl rfl (fun c5 => absurd ((by rw [d1]; rfl)) c5) (fun _ => ?_)
      refine x_iload_n (pc' := 9) rfl rfl rfl ?_
      refine x_if_gt (tgt := 21) (pc' := 12) rfl rfl rfl (fun _ => ?_) (fun c9 => absurd (nI_lt (a := 0) (b := p) (by omega) (by omega)) c9)
      refine x_iload_n (pc' := 22) rfl rfl rfl ?_
      refine x_iconst (pc' := 23) rfl rfl iconst_1 ?_
      refine x_isub (pc' := 24) rfl rfl ?_
      refine x_eqi (show nI p - 1 = nI (p - 1) from pk_sub (a := p) (b := 1) (by omega)) ?_
      exact x_ireturn rfl rfl rfl (Nat.le_of_ble_eq_true rfl) (Nat.le_of_ble_eq_true rfl) (h)
  · have hne : ¬ nI ln = 1 := fun q => d1 ((nI_eq (a := ln) (b := 1) hln1 (by decide)).mp q)
    by_cases d2 : n ≤ p + 1
    · have e : q_nx n ln p = 0 := by unfold q_nx; rw [if_neg d1, if_pos d2]
      rw [e] at h
      refine x_aload_n (pc' := 1) rfl rfl rfl ?_
      refine x_get (pc' := 4) rfl rfl rfl (hT.1) rfl ?_
      refine x_eqi hln ?_
      refine x_iconst (pc' := 5) rfl rfl iconst_1 ?_
      refine x_icmp_ne (tgt := 25) (pc' := 8) rfl rfl rfl (fun _ => ?_) (fun c5 => absurd c5 (hne))
      refine x_iload_n (pc' := 26) rfl rfl rfl ?_
      refine x_iconst (pc' := 27) rfl rfl iconst_1 ?_
      refine x_iadd (pc' := 28) rfl rfl ?_
      refine x_eqi (nI_1 p) ?_
      refine x_aload_n (pc' := 29) rfl rfl rfl ?_
      refine x_get (pc' := 32) rfl rfl rfl (hT.1) rfl ?_
      refine x_eqi hn ?_
      refine x_icmp_lt (tgt := 39) (pc' := 35) rfl rfl rfl (fun c32 => absurd c32 (nI_nlt (a := p + 1) (b := n) d2 (by omega))) (fun _ => ?_)
      refine x_iconst (pc' := 36) rfl rfl iconst_0 ?_
      refine x_goto (tgt := 42) rfl rfl ?_
      exact x_ireturn rfl rfl rfl (Nat.le_of_ble_eq_true rfl) (Nat.le_of_ble_eq_true rfl) (h)
    · have e : q_nx n ln p = p + 1 := by unfold q_nx; rw [if_neg d1, if_neg d2]
      rw [e] at h
      refine x_aload_n (pc' := 1) rfl rfl rfl ?_
      refine x_get (pc' := 4) rfl rfl rfl (hT.1) rfl ?_
      refine x_eqi hln ?_
      refine x_iconst (pc' := 5) rfl rfl iconst_1 ?_
      refine x_icmp_ne (tgt := 25) (pc' := 8) rfl rfl rfl (fun _ => ?_) (fun c5 => absurd c5 (hne))
      refine x_iload_n (pc' := 26) rfl rfl rfl ?_
      refine x_iconst (pc' := 27) rfl rfl iconst_1 ?_
      refine x_iadd (pc' := 28) rfl rfl ?_
      refine x_eqi (nI_1 p) ?_
      refine x_aload_n (pc' := 29) rfl rfl rfl ?_
      refine x_get (pc' := 32) rfl rfl rfl (hT.1) rfl ?_
      refine x_eqi hn ?_
      refine x_icmp_lt (tgt := 39) (pc' := 35) rfl rfl rfl (fun _ => ?_) (fun c32 => absurd (nI_lt (a := p + 1) (b := n) (by omega) (by omega)) c32)
      refine x_iload_n (pc' := 40) rfl rfl rfl ?_
      refine x_iconst (pc' := 41) rfl rfl iconst_1 ?_
      refine x_iadd (pc' := 42) rfl rfl ?_
      refine x_eqi (nI_1 p) ?_
      exact x_ireturn rfl rfl rfl (Nat.le_of_ble_eq_true rfl) (Nat.le_of_ble_eq_true rfl) (h)
theorem w_sounds {i n fu : Nat} {κ : Nat → Nat} (hT : x_t z f t T) (hn : T.2.2.2 0 = nI n) (hn9 : n ≤ 9) (hfu : T.2.2.2 1 = nI fu) (hfu9 : fu < 2 ^ 20) (hκ : T.1 = fun i => nI (κ i)) (hκ5 : ∀ i, κ i ≤ 5) (hi : i < n) (h : post (some (.int (if κ i = 2 then (-9) else nI (q_from (κ i) fu)))) f) : Y E 2 mX3_soundsFrom [.ref t, .int (nI i)] z f 0 0 post := by
  refine Y.intro gX3_soundsFrom (lv := [(0, .ref t), (1, .int (nI i))]) rfl (Nat.le_of_ble_eq_true rfl) ?_
  have hcl : (nI i).toNatClampNeg = i := nI_clamp (by omega)
  have e2 : T.1 (nI i).toNatClampNeg = nI (κ i) := by rw [hcl, hκ]
  have b2 := hκ5 i
  have hh : nI fu + 1 = nI (fu + 1) := nI_1 fu
  have hd : nI (fu + 1) / 2 = nI ((fu + 1) / 2) := pk_div (a := fu + 1) (d := 2) (by omega) (by decide) (by decide)
  have hm : (2 : Int32) * nI fu = nI (2 * fu) := pk_mul 2 fu
  have hk : κ i = 0 ∨ κ i = 1 ∨ κ i = 2 ∨ κ i = 3 ∨ κ i = 4 ∨ κ i = 5 := by omega
  rcases hk with d | d | d | d | d | d
  all_goals rw [d] at e2 h
  ·
    refine x_aload_n (pc' := 1) rfl rfl rfl ?_
    refine x_iload_n (pc' := 2) rfl rfl rfl ?_
    refine x_cV1i (d := 1) (pc' := 5) rfl rfl sX3_55 gX3_has (hT.1) ⟨Nat.le_of_ble_eq_true rfl, Nat.le_of_ble_eq_true rfl⟩ (Nat.le_of_ble_eq_true rfl) ⟨Nat.le_of_ble_eq_true rfl, Nat.le_of_ble_eq_true rfl⟩ ?_
    refine w_has hT (fun g => ⟨_, rfl, ?_⟩) (fun g => absurd (t_has_nI hn hn9 hi) g)
    refine x_if_ne (tgt := 11) (pc' := 8) rfl rfl rfl (fun _ => ?_) (fun c5 => absurd c5 ((by decide)))
    refine x_aload_n (pc' := 12) rfl rfl rfl ?_
    refine x_get (pc' := 15) rfl rfl rfl (hT.1) rfl ?_
    refine x_iload_n (pc' := 16) rfl rfl rfl ?_
    refine x_iaload (pc' := 17) rfl rfl (hT.2.1) (nI_in9 hn hn9 hi) ?_
    refine x_eqi e2 ?_
    refine x_tableIn (tgt := 52) rfl (by decide) (by decide) rfl rfl ?_
    refine x_aload_n (pc' := 53) rfl rfl rfl ?_
    refine x_get (pc' := 56) rfl rfl rfl (hT.1) rfl ?_
    refine x_eqi hfu ?_
    exact x_ireturn rfl rfl rfl (Nat.le_of_ble_eq_true rfl) (Nat.le_of_ble_eq_true rfl) (h)
  ·
    refine x_aload_n (pc' := 1) rfl rfl rfl ?_
    refine x_iload_n (pc' := 2) rfl rfl rfl ?_
    refine x_cV1i (d := 1) (pc' := 5) rfl rfl sX3_55 gX3_has (hT.1) ⟨Nat.le_of_ble_eq_true rfl, Nat.le_of_ble_eq_true rfl⟩ (Nat.le_of_ble_eq_true rfl) ⟨Nat.le_of_ble_eq_true rfl, Nat.le_of_ble_eq_true rfl⟩ ?_
    refine w_has hT (fun g => ⟨_, rfl, ?_⟩) (fun g => absurd (t_has_nI hn hn9 hi) g)
    refine x_if_ne (tgt := 11) (pc' := 8) rfl rfl rfl (fun _ => ?_) (fun c5 => absurd c5 ((by decide)))
    refine x_aload_n (pc' := 12) rfl rfl rfl ?_
    refine x_get (pc' := 15) rfl rfl rfl (hT.1) rfl ?_
    refine x_iload_n (pc' := 16) rfl rfl rfl ?_
    refine x_iaload (pc' := 17) rfl rfl (hT.2.1) (nI_in9 hn hn9 hi) ?_
    refine x_eqi e2 ?_
    refine x_tableIn (tgt := 57) rfl (by decide) (by decide) rfl rfl ?_
    refine x_aload_n (pc' := 58) rfl rfl rfl ?_
    refine x_get (pc' := 61) rfl rfl rfl (hT.1) rfl ?_
    refine x_eqi hfu ?_
    refine x_iconst (pc' := 62) rfl rfl iconst_1 ?_
    refine x_iadd (pc' := 63) rfl rfl ?_
    refine x_eqi hh ?_
    refine x_iconst (pc' := 64) rfl rfl iconst_2 ?_
    refine x_idiv (pc' := 65) rfl rfl (by decide) ?_
    refine x_eqi hd ?_
    exact x_ireturn rfl rfl rfl (Nat.le_refl _) (Nat.le_refl _) h
  ·
    refine x_aload_n (pc' := 1) rfl rfl rfl ?_
    refine x_iload_n (pc' := 2) rfl rfl rfl ?_
    refine x_cV1i (d := 1) (pc' := 5) rfl rfl sX3_55 gX3_has (hT.1) ⟨Nat.le_of_ble_eq_true rfl, Nat.le_of_ble_eq_true rfl⟩ (Nat.le_of_ble_eq_true rfl) ⟨Nat.le_of_ble_eq_true rfl, Nat.le_of_ble_eq_true rfl⟩ ?_
    refine w_has hT (fun g => ⟨_, rfl, ?_⟩) (fun g => absurd (t_has_nI hn hn9 hi) g)
    refine x_if_ne (tgt := 11) (pc' := 8) rfl rfl rfl (fun _ => ?_) (fun c5 => absurd c5 ((by decide)))
    refine x_aload_n (pc' := 12) rfl rfl rfl ?_
    refine x_get (pc' := 15) rfl rfl rfl (hT.1) rfl ?_
    refine x_iload_n (pc' := 16) rfl rfl rfl ?_
    refine x_iaload (pc' := 17) rfl rfl (hT.2.1) (nI_in9 hn hn9 hi) ?_
    refine x_eqi e2 ?_
    refine x_tableIn (tgt := 66) rfl (by decide) (by decide) rfl rfl ?_
    refine x_bipush (pc' := 68) rfl rfl bipush_m9 ?_
    exact x_ireturn rfl rfl rfl (Nat.le_of_ble_eq_true rfl) (Nat.le_of_ble_eq_true rfl) (h)
  ·
    refine x_aload_n (pc' := 1) rfl rfl rfl ?_
    refine x_iload_n (pc' := 2) rfl rfl rfl ?_
    refine x_cV1i (d := 1) (pc' := 5) rfl rfl sX3_55 gX3_has (hT.1) ⟨Nat.le_of_ble_eq_true rfl, Nat.le_of_ble_eq_true rfl⟩ (Nat.le_of_ble_eq_true rfl) ⟨Nat.le_of_ble_eq_true rfl, Nat.le_of_ble_eq_true rfl⟩ ?_
    refine w_has hT (fun g => ⟨_, rfl, ?_⟩) (fun g => absurd (t_has_nI hn hn9 hi) g)
    refine x_if_ne (tgt := 11) (pc' := 8) rfl rfl rfl (fun _ => ?_) (fun c5 => absurd c5 ((by decide)))
    refine x_aload_n (pc' := 12) rfl rfl rfl ?_
    refine x_get (pc' := 15) rfl rfl rfl (hT.1) rfl ?_
    refine x_iload_n (pc' := 16) rfl rfl rfl ?_
    refine x_iaload (pc' := 17) rfl rfl (hT.2.1) (nI_in9 hn hn9 hi) ?_
    refine x_eqi e2 ?_
    refine x_tableIn (tgt := 69) rfl (by decide) (by decide) rfl rfl ?_
    refine x_iconst (pc' := 70) rfl rfl iconst_2 ?_
    refine x_aload_n (pc' := 71) rfl rfl rfl ?_
    refine x_get (pc' := 74) rfl rfl rfl (hT.1) rfl ?_
    refine x_eqi hfu ?_
    refine x_imul (pc' := 75) rfl rfl ?_
    refine x_eqi hm ?_
    exact x_ireturn rfl rfl rfl (Nat.le_of_ble_eq_true rfl) (Nat.le_of_ble_eq_true rfl) (h)
  ·
    refine x_aload_n (pc' := 1) rfl rfl rfl ?_
    refine x_iload_n (pc' := 2) rfl rfl rfl ?_
    refine x_cV1i (d := 1) (pc' := 5) rfl rfl sX3_55 gX3_has (hT.1) ⟨Nat.le_of_ble_eq_true rfl, Nat.le_of_ble_eq_true rfl⟩ (Nat.le_of_ble_eq_true rfl) ⟨Nat.le_of_ble_eq_true rfl, Nat.le_of_ble_eq_true rfl⟩ ?_
    refine w_has hT (fun g => ⟨_, rfl, ?_⟩) (fun g => absurd (t_has_nI hn hn9 hi) g)
    refine x_if_ne (tgt := 11) (pc' := 8) rfl rfl rfl (fun _ => ?_) (fun c5 => absurd c5 ((by decide)))
    refine x_aload_n (pc' := 12) rfl rfl rfl ?_
    refine x_get (pc' := 15) rfl rfl rfl (hT.1) rfl ?_
    refine x_iload_n (pc' := 16) rfl rfl rfl ?_
    refine x_iaload (pc' := 17) rfl rfl (hT.2.1) (nI_in9 hn hn9 hi) ?_
    refine x_eqi e2 ?_
    refine x_tableIn (tgt := 57) rfl (by decide) (by decide) rfl rfl ?_
    refine x_aload_n (pc' := 58) rfl rfl rfl ?_
    refine x_get (pc' := 61) rfl rfl rfl (hT.1) rfl ?_
    refine x_eqi hfu ?_
    refine x_iconst (pc' := 62) rfl rfl iconst_1 ?_
    refine x_iadd (pc' := 63) rfl rfl ?_
    refine x_eqi hh ?_
    refine x_iconst (pc' := 64) rfl rfl iconst_2 ?_
    refine x_idiv (pc' := 65) rfl rfl (by decide) ?_
    refine x_eqi hd ?_
    exact x_ireturn rfl rfl rfl (Nat.le_refl _) (Nat.le_refl _) h
  ·
    refine x_aload_n (pc' := 1) rfl rfl rfl ?_
    refine x_iload_n (pc' := 2) rfl rfl rfl ?_
    refine x_cV1i (d := 1) (pc' := 5) rfl rfl sX3_55 gX3_has (hT.1) ⟨Nat.le_of_ble_eq_true rfl, Nat.le_of_ble_eq_true rfl⟩ (Nat.le_of_ble_eq_true rfl) ⟨Nat.le_of_ble_eq_true rfl, Nat.le_of_ble_eq_true rfl⟩ ?_
    refine w_has hT (fun g => ⟨_, rfl, ?_⟩) (fun g => absurd (t_has_nI hn hn9 hi) g)
    refine x_if_ne (tgt := 11) (pc' := 8) rfl rfl rfl (fun _ => ?_) (fun c5 => absurd c5 ((by decide)))
    refine x_aload_n (pc' := 12) rfl rfl rfl ?_
    refine x_get (pc' := 15) rfl rfl rfl (hT.1) rfl ?_
    refine x_iload_n (pc' := 16) rfl rfl rfl ?_
    refine x_iaload (pc' := 17) rfl rfl (hT.2.1) (nI_in9 hn hn9 hi) ?_
    refine x_eqi e2 ?_
    refine x_tableOut (tgt := 76) rfl ((by decide)) rfl ?_
    refine x_bipush (pc' := 78) rfl rfl bipush_12 ?_
    exact x_ireturn rfl rfl rfl (Nat.le_of_ble_eq_true rfl) (Nat.le_of_ble_eq_true rfl) (h)
theorem w_isFull {i n fu : Nat} {κ β : Nat → Nat} (hT : x_t z f t T) (hn : T.2.2.2 0 = nI n) (hn9 : n ≤ 9) (hfu : T.2.2.2 1 = nI fu) (hfu9 : fu < 2 ^ 20) (hκ : T.1 = fun i => nI (κ i)) (hβ : T.2.1 = fun i => nI (β i)) (hκ5 : ∀ i, κ i ≤ 5) (hβ5 : ∀ i, β i ≤ 100) (hi : i < n) (h1 : q_full κ β fu i → post (some (.int 1)) f) (h0 : ¬ q_full κ β fu i → post (some (.int 0)) f) : Y E 3 mX3_isFull [.ref t, .int (nI i)] z f 0 0 post := by
  refine Y.intro gX3_isFull (lv := [(0, .ref t), (1, .int (nI i))]) rfl (Nat.le_of_ble_eq_true rfl) ?_
  have hcl : (nI i).toNatClampNeg = i := nI_clamp (by omega)
  have e1 : T.2.1 (nI i).toNatClampNeg = nI (β i) := by rw [hcl, hβ]
  have b1 := hβ5 i
  have hq : q_from (κ i) fu < 2 ^ 31 := by
    unfold q_from
    repeat' split
    all_goals omega
  by_cases d1 : κ i = 2
  ·
    refine x_aload_n (pc' := 1) rfl rfl rfl ?_
    refine x_iload_n (pc' := 2) rfl rfl rfl ?_
    refine x_cV1i (d := 2) (pc' := 5) rfl rfl sX3_67 gX3_soundsFrom (hT.1) ⟨Nat.le_of_ble_eq_true rfl, Nat.le_of_ble_eq_true rfl⟩ (Nat.le_of_ble_eq_true rfl) ⟨Nat.le_of_ble_eq_true rfl, Nat.le_of_ble_eq_true rfl⟩ ?_
    refine w_sounds hT hn hn9 hfu hfu9 hκ hκ5 hi ⟨_, rfl, ?_⟩
    rw [if_pos d1]
    refine x_istore_n (pc' := 6) (lv' := [(2, _), (0, _), (1, _)]) rfl rfl (Nat.le_of_ble_eq_true rfl) rfl ?_
    refine x_iload_n (pc' := 7) rfl rfl rfl ?_
    refine x_bipush (pc' := 9) rfl rfl bipush_m9 ?_
    refine x_icmp_eq (tgt := 25) (pc' := 12) rfl rfl rfl (fun _ => ?_) (fun c9 => absurd (rfl) c9)
    refine x_iconst (pc' := 26) rfl rfl iconst_0 ?_
    exact x_ireturn rfl rfl rfl (Nat.le_of_ble_eq_true rfl) (Nat.le_of_ble_eq_true rfl) (h0 (fun q => q.1 d1))
  · have hne : ¬ nI (q_from (κ i) fu) = -9 := fun q => by
      have h2 := nI_pos hq
      rw [q] at h2
      exact h2 (by decide)
    by_cases d2 : q_from (κ i) fu ≤ β i
    ·
      refine x_aload_n (pc' := 1) rfl rfl rfl ?_
      refine x_iload_n (pc' := 2) rfl rfl rfl ?_
      refine x_cV1i (d := 2) (pc' := 5) rfl rfl sX3_67 gX3_soundsFrom (hT.1) ⟨Nat.le_of_ble_eq_true rfl, Nat.le_of_ble_eq_true rfl⟩ (Nat.le_of_ble_eq_true rfl) ⟨Nat.le_of_ble_eq_true rfl, Nat.le_of_ble_eq_true rfl⟩ ?_
      refine w_sounds hT hn hn9 hfu hfu9 hκ hκ5 hi ⟨_, rfl, ?_⟩
      rw [if_neg d1]
      refine x_istore_n (pc' := 6) (lv' := [(2, _), (0, _), (1, _)]) rfl rfl (Nat.le_of_ble_eq_true rfl) rfl ?_
      refine x_iload_n (pc' := 7) rfl rfl rfl ?_
      refine x_bipush (pc' := 9) rfl rfl bipush_m9 ?_
      refine x_icmp_eq (tgt := 25) (pc' := 12) rfl rfl rfl (fun c9 => absurd c9 (hne)) (fun _ => ?_)
      refine x_aload_n (pc' := 13) rfl rfl rfl ?_
      refine x_iload_n (pc' := 14) rfl rfl rfl ?_
      refine x_cV1i (d := 2) (pc' := 17) rfl rfl sX3_59 gX3_beansOf (hT.1) ⟨Nat.le_of_ble_eq_true rfl, Nat.le_of_ble_eq_true rfl⟩ (Nat.le_of_ble_eq_true rfl) ⟨Nat.le_of_ble_eq_true rfl, Nat.le_of_ble_eq_true rfl⟩ ?_
      refine w_beansOf hT (fun g => ⟨_, rfl, ?_⟩) (fun g => absurd (t_has_nI hn hn9 hi) g)
      refine x_eqi e1 ?_
      refine x_iload_n (pc' := 18) rfl rfl rfl ?_
      refine x_icmp_lt (tgt := 25) (pc' := 21) rfl rfl rfl (fun c18 => absurd c18 (nI_nlt d2 (by omega))) (fun _ => ?_)
      refine x_iconst (pc' := 22) rfl rfl iconst_1 ?_
      refine x_goto (tgt := 26) rfl rfl ?_
      exact x_ireturn rfl rfl rfl (Nat.le_of_ble_eq_true rfl) (Nat.le_of_ble_eq_true rfl) (h1 ⟨d1, d2⟩)
    ·
      refine x_aload_n (pc' := 1) rfl rfl rfl ?_
      refine x_iload_n (pc' := 2) rfl rfl rfl ?_
      refine x_cV1i (d := 2) (pc' := 5) rfl rfl sX3_67 gX3_soundsFrom (hT.1) ⟨Nat.le_of_ble_eq_true rfl, Nat.le_of_ble_eq_true rfl⟩ (Nat.le_of_ble_eq_true rfl) ⟨Nat.le_of_ble_eq_true rfl, Nat.le_of_ble_eq_true rfl⟩ ?_
      refine w_sounds hT hn hn9 hfu hfu9 hκ hκ5 hi ⟨_, rfl, ?_⟩
      rw [if_neg d1]
      refine x_istore_n (pc' := 6) (lv' := [(2, _), (0, _), (1, _)]) rfl rfl (Nat.le_of_ble_eq_true rfl) rfl ?_
      refine x_iload_n (pc' := 7) rfl rfl rfl ?_
      refine x_bipush (pc' := 9) rfl rfl bipush_m9 ?_
      refine x_icmp_eq (tgt := 25) (pc' := 12) rfl rfl rfl (fun c9 => absurd c9 (hne)) (fun _ => ?_)
      refine x_aload_n (pc' := 13) rfl rfl rfl ?_
      refine x_iload_n (pc' := 14) rfl rfl rfl ?_
      refine x_cV1i (d := 2) (pc' := 17) rfl rfl sX3_59 gX3_beansOf (hT.1) ⟨Nat.le_of_ble_eq_true rfl, Nat.le_of_ble_eq_true rfl⟩ (Nat.le_of_ble_eq_true rfl) ⟨Nat.le_of_ble_eq_true rfl, Nat.le_of_ble_eq_true rfl⟩ ?_
      refine w_beansOf hT (fun g => ⟨_, rfl, ?_⟩) (fun g => absurd (t_has_nI hn hn9 hi) g)
      refine x_eqi e1 ?_
      refine x_iload_n (pc' := 18) rfl rfl rfl ?_
      refine x_icmp_lt (tgt := 25) (pc' := 21) rfl rfl rfl (fun _ => ?_) (fun c18 => absurd (nI_lt (by omega) hq) c18)
      refine x_iconst (pc' := 26) rfl rfl iconst_0 ?_
      exact x_ireturn rfl rfl rfl (Nat.le_of_ble_eq_true rfl) (Nat.le_of_ble_eq_true rfl) (h0 (fun q => d2 q.2))
end TAB
end
section
/-! The class's Table sows a hand, takes a single one. -/
theorem q_msN {n : Nat} {w : q_W} (h : q_ms n w = 0) (hn : 0 < n) : w.2.2.1 = 0 := by
  unfold q_ms at h
  have h1 : w.2.2.1 * n = 0 := by omega
  rcases Nat.mul_eq_zero.mp h1 with h2 | h2
  · exact h2
  · omega
/-- what was sown has a last one -/
def q_lst (n : Nat) (w : q_W) : Prop := 0 < w.2.2.2.2.1 → ∃ p, w.2.2.2.2.2 = some p ∧ p < n
theorem q_lst_run {κ : Nat → Nat} {n fu ln B : Nat} : ∀ (k : Nat) (w : q_W), q_ok n B w → q_lst n w → q_lst n (q_run κ n fu ln k w)
  | 0, w, _, h => h
  | k + 1, w, ho, h => by
    by_cases hg : 0 < w.2.2.1 ∧ w.2.2.2.1 < n
    · rw [q_run_go hg]
      refine q_lst_run k _ (q_ok_st ho hg.1 hg.2) ?_
      unfold q_st
      split
      · intro _
        exact ⟨_, rfl, q_nx_lt ho.1⟩
      · exact h
    · rw [q_run_stop hg]
      exact h
def q_R (T T' : x_T) (β : Nat → Nat) (l : Option Nat) (s : Nat) : Prop := T'.1 = T.1 ∧ T'.2.1 = (fun i => nI (β i)) ∧ T'.2.2.1 = T.2.2.1 ∧ (∀ i, i ≠ 6 → i ≠ 7 → T'.2.2.2 i = T.2.2.2 i) ∧ T'.2.2.2 6 = q_lI l ∧ T'.2.2.2 7 = nI s
theorem nI_m1 {h : Nat} (h0 : 0 < h) : nI h + Int32.ofInt (-1) = nI (h - 1) := by
  obtain ⟨m, rfl⟩ : ∃ m, h = m + 1 := ⟨h - 1, by omega⟩
  rw [show Int32.ofInt (-1) = -1 from by decide, pk_m1]
  rfl
section SOW
variable {E : x_E} {z : Nat} {f : x_H} {t : Nat} {T : x_T} {post : Option Value → x_H → Prop} {n fu ln b s0 : Nat} {κ β : Nat → Nat} {l : Option Nat}
theorem w_sowL (hn : T.2.2.2 0 = nI n) (hn9 : n ≤ 9) (hfu : T.2.2.2 1 = nI fu) (hfu9 : fu < 2 ^ 20) (hln : T.2.2.2 2 = nI ln) (hln9 : ln < 2 ^ 31) (hκ : T.1 = fun i => nI (κ i)) (hκ5 : ∀ i, κ i ≤ 5) (hb : b < n) (hs0 : s0 ≤ 1000000) (wf : q_W)
    (K : ∀ (i : Nat) (g : x_H) (Tg : x_T), x_t z g t Tg → q_R T Tg wf.1 wf.2.2.2.2.2 (s0 + wf.2.2.2.2.1) → x_fr (x_ot t) f g → X E (x_rm 3 0 0) mX3_sowHand (x_QM E z 0 0 post) 109 [(6, .int (nI i)), (4, .int (nI wf.2.2.2.1)), (5, .int (nI wf.2.1)), (2, .int (nI wf.2.2.1)), (3, .int (nI s0)), (0, .ref t), (1, .int (nI b))] [] z g 0 0) :
    ∀ (k i : Nat) (w : q_W) (g : x_H) (Tg : x_T), q_ms n w ≤ k → i + k ≤ 1000 → q_ok n 100 w → q_run κ n fu ln k w = wf → x_t z g t Tg → q_R T Tg w.1 w.2.2.2.2.2 (s0 + w.2.2.2.2.1) → x_fr (x_ot t) f g → X E (x_rm 3 0 0) mX3_sowHand (x_QM E z 0 0 post) 26 [(6, .int (nI i)), (4, .int (nI w.2.2.2.1)), (5, .int (nI w.2.1)), (2, .int (nI w.2.2.1)), (3, .int (nI s0)), (0, .ref t), (1, .int (nI b))] [] z g 0 0 := by
  intro k
  induction k with
  | zero =>
    intro i w g Tg hk hi ho hw hT hR hF
    have hw0 : w = wf := hw
    subst hw0
    have h0 := q_msN (Nat.le_zero.mp hk) (by omega)
    by_cases d1 : 1000 ≤ i
    ·
      refine x_iload (pc' := 28) rfl rfl rfl ?_
      refine x_sipush (pc' := 31) rfl rfl sipush_1000 ?_
      refine x_icmp_ge (tgt := 109) (pc' := 34) rfl rfl rfl (fun _ => ?_) (fun c31 => absurd (nI_le (a := 1000) (b := i) d1 (by omega)) c31)
      exact K i g Tg hT hR hF
    ·
      refine x_iload (pc' := 28) rfl rfl rfl ?_
      refine x_sipush (pc' := 31) rfl rfl sipush_1000 ?_
      refine x_icmp_ge (tgt := 109) (pc' := 34) rfl rfl rfl (fun c31 => absurd c31 (nI_ge (a := i) (b := 1000) (by omega) (by decide))) (fun _ => ?_)
      refine x_iload_n (pc' := 35) rfl rfl rfl ?_
      refine x_if_le (tgt := 109) (pc' := 38) rfl rfl rfl (fun _ => ?_) (fun c35 => absurd ((by rw [h0]; decide)) c35)
      exact K i g Tg hT hR hF
  | succ k ih =>
    intro i w g Tg hk hi ho hw hT hR hF
    obtain ⟨o1, o2, o3, o4, o5⟩ := id ho
    obtain ⟨r1, r2, r3, r4, r5, r6⟩ := id hR
    have hn' : Tg.2.2.2 0 = nI n := (r4 0 (by decide) (by decide)).trans hn
    have hfu' : Tg.2.2.2 1 = nI fu := (r4 1 (by decide) (by decide)).trans hfu
    have hln' : Tg.2.2.2 2 = nI ln := (r4 2 (by decide) (by decide)).trans hln
    have hκ' : Tg.1 = fun i => nI (κ i) := r1.trans hκ
    have hp' := q_nx_lt (ln := ln) o1
    by_cases d2 : 0 < w.2.2.1
    · by_cases d3 : w.2.2.2.1 < n
      · have hgo : q_run κ n fu ln (k + 1) w = q_run κ n fu ln k (q_st κ n fu ln w) := q_run_go ⟨d2, d3⟩
        have hms := q_ms_st (κ := κ) (fu := fu) (ln := ln) d2 d3
        have hok := q_ok_st (κ := κ) (fu := fu) (ln := ln) ho d2 d3
        have hcl : (nI (q_nx n ln w.2.1)).toNatClampNeg = q_nx n ln w.2.1 := nI_clamp (by omega)
        refine x_iload (pc' := 28) rfl rfl rfl ?_
        refine x_sipush (pc' := 31) rfl rfl sipush_1000 ?_
        refine x_icmp_ge (tgt := 109) (pc' := 34) rfl rfl rfl (fun c31 => absurd c31 (nI_ge (a := i) (b := 1000) (by omega) (by decide))) (fun _ => ?_)
        refine x_iload_n (pc' := 35) rfl rfl rfl ?_
        refine x_if_le (tgt := 109) (pc' := 38) rfl rfl rfl (fun c35 => absurd c35 (Int32.not_le.mpr (nI_lt (a := 0) (b := w.2.2.1) d2 (by omega)))) (fun _ => ?_)
        refine x_iload (pc' := 40) rfl rfl rfl ?_
        refine x_aload_n (pc' := 41) rfl rfl rfl ?_
        refine x_get (pc' := 44) rfl rfl rfl (hT.1) rfl ?_
        refine x_eqi hn' ?_
        refine x_icmp_ge (tgt := 109) (pc' := 47) rfl rfl rfl (fun c44 => absurd c44 (nI_ge d3 (by omega))) (fun _ => ?_)
        refine x_aload_n (pc' := 48) rfl rfl rfl ?_
        refine x_iload (pc' := 50) rfl rfl rfl ?_
        refine x_cV1i (d := 1) (pc' := 53) rfl rfl sX3_83 gX3_rightOrLeftOf (hT.1) ⟨Nat.le_of_ble_eq_true rfl, Nat.le_of_ble_eq_true rfl⟩ (Nat.le_of_ble_eq_true rfl) ⟨Nat.le_of_ble_eq_true rfl, Nat.le_of_ble_eq_true rfl⟩ ?_
        refine w_nx hT hn' hn9 hln' hln9 o1 ⟨_, rfl, ?_⟩
        refine x_istore (pc' := 55) (lv' := [(5, _), (6, _), (4, _), (2, _), (3, _), (0, _), (1, _)]) rfl rfl (Nat.le_of_ble_eq_true rfl) rfl ?_
        refine x_aload_n (pc' := 56) rfl rfl rfl ?_
        refine x_iload (pc' := 58) rfl rfl rfl ?_
        refine x_cV1i (d := 2) (pc' := 61) rfl rfl sX3_86 gX3_takes (hT.1) ⟨Nat.le_of_ble_eq_true rfl, Nat.le_of_ble_eq_true rfl⟩ (Nat.le_of_ble_eq_true rfl) ⟨Nat.le_of_ble_eq_true rfl, Nat.le_of_ble_eq_true rfl⟩ ?_
        refine w_takes hT hn' hn9 hfu' (by omega) hκ' r2 hκ5 o2 hp' (fun d4 => ⟨_, rfl, ?_⟩) (fun d4 => ⟨_, rfl, ?_⟩)
        · have est : q_st κ n fu ln w = (q_up w.1 (q_nx n ln w.2.1) (w.1 (q_nx n ln w.2.1) + 1), q_nx n ln w.2.1, w.2.2.1 - 1, 0, w.2.2.2.2.1 + 1, some (q_nx n ln w.2.1)) := by unfold q_st; rw [if_pos d4]
          rw [hgo, est] at hw
          rw [est] at hms hok
          refine x_if_eq (tgt := 100) (pc' := 64) rfl rfl rfl (fun c61 => absurd c61 ((by decide))) (fun _ => ?_)
          refine x_aload_n (pc' := 65) rfl rfl rfl ?_
          refine x_get (pc' := 68) rfl rfl rfl (hT.1) rfl ?_
          refine x_iload (pc' := 70) rfl rfl rfl ?_
          refine x_dup2 (pc' := 71) rfl rfl rfl rfl ?_
          refine x_iaload (pc' := 72) rfl rfl (hT.2.2.1) (nI_in9 hn' hn9 hp') ?_
          refine x_eqi (show Tg.2.1 (nI (q_nx n ln w.2.1)).toNatClampNeg = nI (w.1 (q_nx n ln w.2.1)) from by rw [hcl, r2]) ?_
          refine x_iconst (pc' := 73) rfl rfl iconst_1 ?_
          refine x_iadd (pc' := 74) rfl rfl ?_
          refine x_eqi (nI_1 _) ?_
          refine x_iastore (pc' := 75) rfl rfl (hT.2.2.1) (nI_in9 hn' hn9 hp') (fun f1 e1 => ?_)
          have hT1 := hT.bean e1
          have hF1 := hF.up e1 (x_ot_in (by omega) (by omega))
          rw [hcl, r2, q_up_I] at hT1
          refine x_iinc (pc' := 78) (lv' := [(2, _), (5, _), (6, _), (4, _), (3, _), (0, _), (1, _)]) rfl rfl (Nat.le_of_ble_eq_true rfl) rfl (nI_m1 d2) rfl ?_
          refine x_aload_n (pc' := 79) rfl rfl rfl ?_
          refine x_dup (pc' := 80) rfl rfl rfl ?_
          refine x_get (pc' := 83) rfl rfl rfl (hT1.1) rfl ?_
          refine x_eqi r6 ?_
          refine x_iconst (pc' := 84) rfl rfl iconst_1 ?_
          refine x_iadd (pc' := 85) rfl rfl ?_
          refine x_eqi (nI_1 _) ?_
          refine x_put (pc' := 88) rfl rfl rfl (hT1.1) (Nat.le_of_ble_eq_true rfl) rfl rfl rfl rfl (fun f2 e2 => ?_)
          have hT2 := hT1.num 7 e2 (x_tFs7 _ _ _)
          have hF2 := hF1.up e2 (x_ot_in (by omega) (by omega))
          refine x_aload_n (pc' := 89) rfl rfl rfl ?_
          refine x_iload (pc' := 91) rfl rfl rfl ?_
          refine x_put (pc' := 94) rfl rfl rfl (hT2.1) (Nat.le_of_ble_eq_true rfl) rfl rfl rfl rfl (fun f3 e3 => ?_)
          have hT3 := hT2.num 6 e3 (x_tFs6 _ _ _)
          have hF3 := hF2.up e3 (x_ot_in (by omega) (by omega))
          refine x_iconst (pc' := 95) rfl rfl iconst_0 ?_
          refine x_istore (pc' := 97) (lv' := [(4, _), (2, _), (5, _), (6, _), (3, _), (0, _), (1, _)]) rfl rfl (Nat.le_of_ble_eq_true rfl) rfl ?_
          refine x_goto (tgt := 103) rfl rfl ?_
          refine x_iinc (pc' := 106) (lv' := [(6, _), (4, _), (2, _), (5, _), (3, _), (0, _), (1, _)]) rfl rfl (Nat.le_of_ble_eq_true rfl) rfl (nI_1 i) rfl ?_
          refine x_goto (tgt := 26) rfl rfl ?_
          refine x_lvp [0, 1, 3, 2, 4, 5, 6] rfl ?_
          refine ih (i + 1) _ _ _ (by omega) (by omega) hok hw hT3 ⟨r1, rfl, r3, fun j h6 h7 => ?_, rfl, rfl⟩ hF3
          show upd (upd Tg.2.2.2 7 _) 6 _ j = _
          rw [pk_un h6, pk_un h7]
          exact r4 j h6 h7
        · have est : q_st κ n fu ln w = (w.1, q_nx n ln w.2.1, w.2.2.1, w.2.2.2.1 + 1, w.2.2.2.2.1, w.2.2.2.2.2) := by unfold q_st; rw [if_neg d4]
          rw [hgo, est] at hw
          rw [est] at hms hok
          refine x_if_eq (tgt := 100) (pc' := 64) rfl rfl rfl (fun _ => ?_) (fun c61 => absurd ((by decide)) c61)
          refine x_iinc (pc' := 103) (lv' := [(4, _), (5, _), (6, _), (2, _), (3, _), (0, _), (1, _)]) rfl rfl (Nat.le_of_ble_eq_true rfl) rfl (nI_1 _) rfl ?_
          refine x_iinc (pc' := 106) (lv' := [(6, _), (4, _), (5, _), (2, _), (3, _), (0, _), (1, _)]) rfl rfl (Nat.le_of_ble_eq_true rfl) rfl (nI_1 i) rfl ?_
          refine x_goto (tgt := 26) rfl rfl ?_
          refine x_lvp [0, 1, 2, 3, 4, 5, 6] rfl ?_
          exact ih (i + 1) _ _ _ (by omega) (by omega) hok hw hT hR hF
      · have hst : q_run κ n fu ln (k + 1) w = w := q_run_stop (fun q => d3 q.2)
        rw [hst] at hw
        subst hw
        refine x_iload (pc' := 28) rfl rfl rfl ?_
        refine x_sipush (pc' := 31) rfl rfl sipush_1000 ?_
        refine x_icmp_ge (tgt := 109) (pc' := 34) rfl rfl rfl (fun c31 => absurd c31 (nI_ge (a := i) (b := 1000) (by omega) (by decide))) (fun _ => ?_)
        refine x_iload_n (pc' := 35) rfl rfl rfl ?_
        refine x_if_le (tgt := 109) (pc' := 38) rfl rfl rfl (fun c35 => absurd c35 (Int32.not_le.mpr (nI_lt (a := 0) (b := w.2.2.1) d2 (by omega)))) (fun _ => ?_)
        refine x_iload (pc' := 40) rfl rfl rfl ?_
        refine x_aload_n (pc' := 41) rfl rfl rfl ?_
        refine x_get (pc' := 44) rfl rfl rfl (hT.1) rfl ?_
        refine x_eqi hn' ?_
        refine x_icmp_ge (tgt := 109) (pc' := 47) rfl rfl rfl (fun _ => ?_) (fun c44 => absurd (nI_le (by omega) (by omega)) c44)
        exact K i g Tg hT hR hF
    · have hst : q_run κ n fu ln (k + 1) w = w := q_run_stop (fun q => d2 q.1)
      rw [hst] at hw
      subst hw
      have h0 : w.2.2.1 = 0 := by omega
      refine x_iload (pc' := 28) rfl rfl rfl ?_
      refine x_sipush (pc' := 31) rfl rfl sipush_1000 ?_
      refine x_icmp_ge (tgt := 109) (pc' := 34) rfl rfl rfl (fun c31 => absurd c31 (nI_ge (a := i) (b := 1000) (by omega) (by decide))) (fun _ => ?_)
      refine x_iload_n (pc' := 35) rfl rfl rfl ?_
      refine x_if_le (tgt := 109) (pc' := 38) rfl rfl rfl (fun _ => ?_) (fun c35 => absurd ((by rw [h0]; decide)) c35)
      exact K i g Tg hT hR hF
theorem w_sowHand (hT : x_t z f t T) (hn : T.2.2.2 0 = nI n) (hn9 : n ≤ 9) (hfu : T.2.2.2 1 = nI fu) (hfu9 : fu < 2 ^ 20) (hln : T.2.2.2 2 = nI ln) (hln9 : ln < 2 ^ 31) (hκ : T.1 = fun i => nI (κ i)) (hκ5 : ∀ i, κ i ≤ 5) (hβ : T.2.1 = fun i => nI (β i)) (hβ5 : ∀ i, β i ≤ 100) (hb : b < n) (hl : T.2.2.2 6 = q_lI l) (hl5 : ∀ p, l = some p → p < n) (h7 : T.2.2.2 7 = nI s0) (hs0 : s0 ≤ 1000000)
    (h : ∀ (f' : x_H) (T' : x_T), x_t z f' t T' → q_R T T' (q_hand κ n fu ln β b l).1 (q_hand κ n fu ln β b l).2.2 (s0 + (q_hand κ n fu ln β b l).2.1) → x_fr (x_ot t) f f' → post (some (.int (if 0 < (q_hand κ n fu ln β b l).2.1 then 1 else 0))) f') : Y E 3 mX3_sowHand [.ref t, .int (nI b)] z f 0 0 post := by
  refine Y.intro gX3_sowHand (lv := [(0, .ref t), (1, .int (nI b))]) rfl (Nat.le_of_ble_eq_true rfl) ?_
  have hcl : (nI b).toNatClampNeg = b := nI_clamp (by omega)
  have e1 : T.2.1 (nI b).toNatClampNeg = nI (β b) := by rw [hcl, hβ]
  have hb100 := hβ5 b
  have hok : q_ok n 100 (q_up β b 0, b, β b, 0, 0, l) := ⟨hb, q_up_le hβ5 (by omega), Nat.zero_le _, by show 0 + β b ≤ 100; omega, hl5⟩
  have hokf := q_ok_run (κ := κ) (fu := fu) (ln := ln) 1000 _ hok
  have hms : q_ms n (q_up β b 0, b, β b, 0, 0, l) ≤ 1000 := by
    show β b * n + (n - 0) ≤ 1000
    have := Nat.mul_le_mul hb100 hn9
    omega
  refine x_aload_n (pc' := 1) rfl rfl rfl ?_
  refine x_iload_n (pc' := 2) rfl rfl rfl ?_
  refine x_cV1i (d := 2) (pc' := 5) rfl rfl sX3_59 gX3_beansOf (hT.1) ⟨Nat.le_of_ble_eq_true rfl, Nat.le_of_ble_eq_true rfl⟩ (Nat.le_of_ble_eq_true rfl) ⟨Nat.le_of_ble_eq_true rfl, Nat.le_of_ble_eq_true rfl⟩ ?_
  refine w_beansOf hT (fun g => ⟨_, rfl, ?_⟩) (fun g => absurd (t_has_nI hn hn9 hb) g)
  refine x_eqi e1 ?_
  refine x_istore_n (pc' := 6) (lv' := [(2, _), (0, _), (1, _)]) rfl rfl (Nat.le_of_ble_eq_true rfl) rfl ?_
  refine x_aload_n (pc' := 7) rfl rfl rfl ?_
  refine x_get (pc' := 10) rfl rfl rfl (hT.1) rfl ?_
  refine x_eqi h7 ?_
  refine x_istore_n (pc' := 11) (lv' := [(3, _), (2, _), (0, _), (1, _)]) rfl rfl (Nat.le_of_ble_eq_true rfl) rfl ?_
  refine x_iconst (pc' := 12) rfl rfl iconst_0 ?_
  refine x_istore (pc' := 14) (lv' := [(4, _), (3, _), (2, _), (0, _), (1, _)]) rfl rfl (Nat.le_of_ble_eq_true rfl) rfl ?_
  refine x_iload_n (pc' := 15) rfl rfl rfl ?_
  refine x_istore (pc' := 17) (lv' := [(5, _), (4, _), (3, _), (2, _), (0, _), (1, _)]) rfl rfl (Nat.le_of_ble_eq_true rfl) rfl ?_
  refine x_aload_n (pc' := 18) rfl rfl rfl ?_
  refine x_iload_n (pc' := 19) rfl rfl rfl ?_
  refine x_iconst (pc' := 20) rfl rfl iconst_0 ?_
  refine x_cV2v (d := 2) (pc' := 23) rfl rfl sX3_63 gX3_lay (hT.1) ⟨Nat.le_of_ble_eq_true rfl, Nat.le_of_ble_eq_true rfl⟩ (Nat.le_of_ble_eq_true rfl) ⟨Nat.le_of_ble_eq_true rfl, Nat.le_of_ble_eq_true rfl⟩ ?_
  refine w_lay hT (fun _ f1 hT1 hF1 => ⟨rfl, ?_⟩) (fun g => absurd (t_has_nI hn hn9 hb) g)
  rw [hcl, hβ, show (0 : Int32) = nI 0 from by decide, q_up_I] at hT1
  refine x_iconst (pc' := 24) rfl rfl iconst_0 ?_
  refine x_istore (pc' := 26) (lv' := [(6, _), (5, _), (4, _), (3, _), (2, _), (0, _), (1, _)]) rfl rfl (Nat.le_of_ble_eq_true rfl) rfl ?_
  refine x_lvp [0, 2, 1, 4, 3, 5, 6] rfl ?_
  refine w_sowL (T := T) (f := f) hn hn9 hfu hfu9 hln hln9 hκ hκ5 hb hs0 (q_run κ n fu ln 1000 (q_up β b 0, b, β b, 0, 0, l)) ?_ 1000 0 (q_up β b 0, b, β b, 0, 0, l) f1 _ hms (by omega) hok rfl hT1 ⟨rfl, rfl, rfl, fun _ _ _ => rfl, hl, h7⟩ hF1
  intro i g Tg hTg hRg hFg
  obtain ⟨o1, o2, o3, o4, o5⟩ := hokf
  obtain ⟨r1, r2, r3, r4, r5, r6⟩ := id hRg
  have hn' : Tg.2.2.2 0 = nI n := (r4 0 (by decide) (by decide)).trans hn
  generalize hwf : q_run κ n fu ln 1000 (q_up β b 0, b, β b, 0, 0, l) = wf at *
  have eh : q_hand κ n fu ln β b l = (q_up wf.1 b (wf.1 b + wf.2.2.1), wf.2.2.2.2.1, wf.2.2.2.2.2) := by unfold q_hand; rw [hwf]
  rw [eh] at h
  refine x_aload_n (pc' := 110) rfl rfl rfl ?_
  refine x_iload_n (pc' := 111) rfl rfl rfl ?_
  refine x_aload_n (pc' := 112) rfl rfl rfl ?_
  refine x_iload_n (pc' := 113) rfl rfl rfl ?_
  refine x_cV1i (d := 2) (pc' := 116) rfl rfl sX3_59 gX3_beansOf (hTg.1) ⟨Nat.le_of_ble_eq_true rfl, Nat.le_of_ble_eq_true rfl⟩ (Nat.le_of_ble_eq_true rfl) ⟨Nat.le_of_ble_eq_true rfl, Nat.le_of_ble_eq_true rfl⟩ ?_
  refine w_beansOf hTg (fun g => ⟨_, rfl, ?_⟩) (fun g => absurd (t_has_nI hn' hn9 hb) g)
  refine x_eqi (show Tg.2.1 (nI b).toNatClampNeg = nI (wf.1 b) from by rw [hcl, r2]) ?_
  refine x_iload_n (pc' := 117) rfl rfl rfl ?_
  refine x_iadd (pc' := 118) rfl rfl ?_
  refine x_eqi (nI_add _ _) ?_
  refine x_cV2v (d := 2) (pc' := 121) rfl rfl sX3_63 gX3_lay (hTg.1) ⟨Nat.le_of_ble_eq_true rfl, Nat.le_of_ble_eq_true rfl⟩ (Nat.le_of_ble_eq_true rfl) ⟨Nat.le_of_ble_eq_true rfl, Nat.le_of_ble_eq_true rfl⟩ ?_
  refine w_lay hTg (fun _ f2 hT2 hF2 => ⟨rfl, ?_⟩) (fun g => absurd (t_has_nI hn' hn9 hb) g)
  rw [hcl, r2, q_up_I] at hT2
  refine x_aload_n (pc' := 122) rfl rfl rfl ?_
  refine x_get (pc' := 125) rfl rfl rfl (hT2.1) rfl ?_
  refine x_eqi (show Tg.2.2.2 7 = nI (s0 + wf.2.2.2.2.1) from r6) ?_
  refine x_iload_n (pc' := 126) rfl rfl rfl ?_
  by_cases d1 : 0 < wf.2.2.2.2.1
  · have h2 := h f2 _ hT2 ⟨r1, rfl, r3, r4, r5, r6⟩ (hFg.trans hF2)
    rw [if_pos d1] at h2
    refine x_icmp_le (tgt := 133) (pc' := 129) rfl rfl rfl (fun q => absurd q (nI_ge (by omega) (by omega))) (fun _ => ?_)
    refine x_iconst (pc' := 130) rfl rfl iconst_1 ?_
    refine x_goto (tgt := 134) rfl rfl ?_
    exact x_ireturn rfl rfl rfl (Nat.le_of_ble_eq_true rfl) (Nat.le_of_ble_eq_true rfl) (h2)
  · have h2 := h f2 _ hT2 ⟨r1, rfl, r3, r4, r5, r6⟩ (hFg.trans hF2)
    rw [if_neg d1] at h2
    refine x_icmp_le (tgt := 133) (pc' := 129) rfl rfl rfl (fun _ => ?_) (fun q => absurd (nI_le (by omega) (by omega)) q)
    refine x_iconst (pc' := 134) rfl rfl iconst_0 ?_
    exact x_ireturn rfl rfl rfl (Nat.le_of_ble_eq_true rfl) (Nat.le_of_ble_eq_true rfl) (h2)
end SOW
end
section
/-! The reference sows. -/
theorem q_rem1 {p n : Nat} (hp : p < n) : (p + 1) % n = if n ≤ p + 1 then 0 else p + 1 := by
  by_cases h : n ≤ p + 1
  · rw [if_pos h, show p + 1 = n by omega, Nat.mod_self]
  · rw [if_neg h, Nat.mod_eq_of_lt (by omega)]
theorem q_rem2 {p n : Nat} (hp : p < n) : (p + n - 1) % n = if p = 0 then n - 1 else p - 1 := by
  by_cases h : p = 0
  · subst h
    rw [if_pos rfl, show 0 + n - 1 = n - 1 by omega, Nat.mod_eq_of_lt (by omega)]
  · rw [if_neg h, show p + n - 1 = (p - 1) + n by omega, Nat.add_mod_right, Nat.mod_eq_of_lt (by omega)]
/-- beans and last are new, hands and sown count on, all else stays -/
def q_N (M M' : x_N) (β : Nat → Nat) (l : Option Nat) : Prop := M'.2.1 1 = (fun i => nI (β i)) ∧ (∀ j, j ≠ 1 → M'.2.1 j = M.2.1 j) ∧ M'.2.2 = M.2.2 ∧ (∀ i, i ≠ 14 → i ≠ 15 → i ≠ 16 → M'.1 i = M.1 i) ∧ M'.1 15 = q_lI l
section MSOW
variable {E : x_E} {z : Nat} {f : x_H} {M : x_N} {post : Option Value → x_H → Prop} {n fu ln b : Nat} {κ β : Nat → Nat} {l : Option Nat}
theorem m_sounds1 {k : Nat} (hM : x_Mdl z f M) (hfu : M.1 4 = nI fu) (hfu9 : fu < 2 ^ 20) (hk : k ≤ 5) (h : post (some (.int (if k = 2 then 1000 else nI (q_from k fu)))) f) : Y E 1 mX6_soundsFrom [.ref 59, .int (nI k)] z f 0 0 post := by
  refine Y.intro gX6_soundsFrom (lv := [(0, .ref 59), (1, .int (nI k))]) rfl (Nat.le_of_ble_eq_true rfl) ?_
  have hh : nI fu + 1 = nI (fu + 1) := nI_1 fu
  have hd : nI (fu + 1) / 2 = nI ((fu + 1) / 2) := pk_div (a := fu + 1) (d := 2) (by omega) (by decide) (by decide)
  have hm : (2 : Int32) * nI fu = nI (2 * fu) := pk_mul 2 fu
  have hk6 : k = 0 ∨ k = 1 ∨ k = 2 ∨ k = 3 ∨ k = 4 ∨ k = 5 := by omega
  rcases hk6 with rfl | rfl | rfl | rfl | rfl | rfl
  ·
    refine x_iload_n (pc' := 1) rfl rfl rfl ?_
    refine x_iconst (pc' := 2) rfl rfl iconst_2 ?_
    refine x_icmp_ne (tgt := 9) (pc' := 5) rfl rfl rfl (fun _ => ?_) (fun c2 => absurd c2 ((by decide)))
    refine x_iload_n (pc' := 10) rfl rfl rfl ?_
    refine x_if_ne (tgt := 18) (pc' := 13) rfl rfl rfl (fun c10 => absurd (rfl) c10) (fun _ => ?_)
    refine x_aload_n (pc' := 14) rfl rfl rfl ?_
    refine x_get (pc' := 17) rfl rfl rfl (hM.1) rfl ?_
    refine x_eqi hfu ?_
    exact x_ireturn rfl rfl rfl (Nat.le_of_ble_eq_true rfl) (Nat.le_of_ble_eq_true rfl) (h)
  ·
    refine x_iload_n (pc' := 1) rfl rfl rfl ?_
    refine x_iconst (pc' := 2) rfl rfl iconst_2 ?_
    refine x_icmp_ne (tgt := 9) (pc' := 5) rfl rfl rfl (fun _ => ?_) (fun c2 => absurd c2 ((by decide)))
    refine x_iload_n (pc' := 10) rfl rfl rfl ?_
    refine x_if_ne (tgt := 18) (pc' := 13) rfl rfl rfl (fun _ => ?_) (fun c10 => absurd c10 ((by decide)))
    refine x_iload_n (pc' := 19) rfl rfl rfl ?_
    refine x_iconst (pc' := 20) rfl rfl iconst_3 ?_
    refine x_icmp_ne (tgt := 32) (pc' := 23) rfl rfl rfl (fun _ => ?_) (fun c20 => absurd c20 ((by decide)))
    refine x_iload_n (pc' := 33) rfl rfl rfl ?_
    refine x_iconst (pc' := 34) rfl rfl iconst_5 ?_
    refine x_icmp_ne (tgt := 42) (pc' := 37) rfl rfl rfl (fun _ => ?_) (fun c34 => absurd c34 ((by decide)))
    refine x_aload_n (pc' := 43) rfl rfl rfl ?_
    refine x_get (pc' := 46) rfl rfl rfl (hM.1) rfl ?_
    refine x_eqi hfu ?_
    refine x_iconst (pc' := 47) rfl rfl iconst_1 ?_
    refine x_iadd (pc' := 48) rfl rfl ?_
    refine x_eqi hh ?_
    refine x_iconst (pc' := 49) rfl rfl iconst_2 ?_
    refine x_idiv (pc' := 50) rfl rfl (by decide) ?_
    refine x_eqi hd ?_
    exact x_ireturn rfl rfl rfl (Nat.le_refl _) (Nat.le_refl _) h
  ·
    refine x_iload_n (pc' := 1) rfl rfl rfl ?_
    refine x_iconst (pc' := 2) rfl rfl iconst_2 ?_
    refine x_icmp_ne (tgt := 9) (pc' := 5) rfl rfl rfl (fun c2 => absurd (rfl) c2) (fun _ => ?_)
    refine x_sipush (pc' := 8) rfl rfl sipush_1000 ?_
    exact x_ireturn rfl rfl rfl (Nat.le_of_ble_eq_true rfl) (Nat.le_of_ble_eq_true rfl) (h)
  ·
    refine x_iload_n (pc' := 1) rfl rfl rfl ?_
    refine x_iconst (pc' := 2) rfl rfl iconst_2 ?_
    refine x_icmp_ne (tgt := 9) (pc' := 5) rfl rfl rfl (fun _ => ?_) (fun c2 => absurd c2 ((by decide)))
    refine x_iload_n (pc' := 10) rfl rfl rfl ?_
    refine x_if_ne (tgt := 18) (pc' := 13) rfl rfl rfl (fun _ => ?_) (fun c10 => absurd c10 ((by decide)))
    refine x_iload_n (pc' := 19) rfl rfl rfl ?_
    refine x_iconst (pc' := 20) rfl rfl iconst_3 ?_
    refine x_icmp_ne (tgt := 32) (pc' := 23) rfl rfl rfl (fun c20 => absurd (rfl) c20) (fun _ => ?_)
    refine x_iconst (pc' := 24) rfl rfl iconst_2 ?_
    refine x_aload_n (pc' := 25) rfl rfl rfl ?_
    refine x_get (pc' := 28) rfl rfl rfl (hM.1) rfl ?_
    refine x_eqi hfu ?_
    refine x_imul (pc' := 29) rfl rfl ?_
    refine x_eqi hm ?_
    refine x_goto (tgt := 50) rfl rfl ?_
    exact x_ireturn rfl rfl rfl (Nat.le_of_ble_eq_true rfl) (Nat.le_of_ble_eq_true rfl) (h)
  ·
    refine x_iload_n (pc' := 1) rfl rfl rfl ?_
    refine x_iconst (pc' := 2) rfl rfl iconst_2 ?_
    refine x_icmp_ne (tgt := 9) (pc' := 5) rfl rfl rfl (fun _ => ?_) (fun c2 => absurd c2 ((by decide)))
    refine x_iload_n (pc' := 10) rfl rfl rfl ?_
    refine x_if_ne (tgt := 18) (pc' := 13) rfl rfl rfl (fun _ => ?_) (fun c10 => absurd c10 ((by decide)))
    refine x_iload_n (pc' := 19) rfl rfl rfl ?_
    refine x_iconst (pc' := 20) rfl rfl iconst_3 ?_
    refine x_icmp_ne (tgt := 32) (pc' := 23) rfl rfl rfl (fun _ => ?_) (fun c20 => absurd c20 ((by decide)))
    refine x_iload_n (pc' := 33) rfl rfl rfl ?_
    refine x_iconst (pc' := 34) rfl rfl iconst_5 ?_
    refine x_icmp_ne (tgt := 42) (pc' := 37) rfl rfl rfl (fun _ => ?_) (fun c34 => absurd c34 ((by decide)))
    refine x_aload_n (pc' := 43) rfl rfl rfl ?_
    refine x_get (pc' := 46) rfl rfl rfl (hM.1) rfl ?_
    refine x_eqi hfu ?_
    refine x_iconst (pc' := 47) rfl rfl iconst_1 ?_
    refine x_iadd (pc' := 48) rfl rfl ?_
    refine x_eqi hh ?_
    refine x_iconst (pc' := 49) rfl rfl iconst_2 ?_
    refine x_idiv (pc' := 50) rfl rfl (by decide) ?_
    refine x_eqi hd ?_
    exact x_ireturn rfl rfl rfl (Nat.le_refl _) (Nat.le_refl _) h
  ·
    refine x_iload_n (pc' := 1) rfl rfl rfl ?_
    refine x_iconst (pc' := 2) rfl rfl iconst_2 ?_
    refine x_icmp_ne (tgt := 9) (pc' := 5) rfl rfl rfl (fun _ => ?_) (fun c2 => absurd c2 ((by decide)))
    refine x_iload_n (pc' := 10) rfl rfl rfl ?_
    refine x_if_ne (tgt := 18) (pc' := 13) rfl rfl rfl (fun _ => ?_) (fun c10 => absurd c10 ((by decide)))
    refine x_iload_n (pc' := 19) rfl rfl rfl ?_
    refine x_iconst (pc' := 20) rfl rfl iconst_3 ?_
    refine x_icmp_ne (tgt := 32) (pc' := 23) rfl rfl rfl (fun _ => ?_) (fun c20 => absurd c20 ((by decide)))
    refine x_iload_n (pc' := 33) rfl rfl rfl ?_
    refine x_iconst (pc' := 34) rfl rfl iconst_5 ?_
    refine x_icmp_ne (tgt := 42) (pc' := 37) rfl rfl rfl (fun c34 => absurd (rfl) c34) (fun _ => ?_)
    refine x_bipush (pc' := 39) rfl rfl bipush_12 ?_
    refine x_goto (tgt := 50) rfl rfl ?_
    exact x_ireturn rfl rfl rfl (Nat.le_of_ble_eq_true rfl) (Nat.le_of_ble_eq_true rfl) (h)
theorem m_takes {i : Nat} (hM : x_Mdl z f M) (hn9 : n ≤ 9) (hfu : M.1 4 = nI fu) (hfu9 : fu < 2 ^ 31) (hκ : M.2.1 0 = fun i => nI (κ i)) (hβ : M.2.1 1 = fun i => nI (β i)) (hκ5 : ∀ i, κ i ≤ 5) (hβ5 : ∀ i, β i ≤ 100) (hi : i < n) (h1 : q_tk κ β fu i → post (some (.int 1)) f) (h0 : ¬ q_tk κ β fu i → post (some (.int 0)) f) : Y E 1 mX6_takes [.ref 59, .int (nI i)] z f 0 0 post := by
  refine Y.intro gX6_takes (lv := [(0, .ref 59), (1, .int (nI i))]) rfl (Nat.le_of_ble_eq_true rfl) ?_
  have hcl : (nI i).toNatClampNeg = i := nI_clamp (by omega)
  have e1 : M.2.1 1 (nI i).toNatClampNeg = nI (β i) := by rw [hcl, hβ]
  have e2 : M.2.1 0 (nI i).toNatClampNeg = nI (κ i) := by rw [hcl, hκ]
  have b1 := hβ5 i
  have b2 := hκ5 i
  have hv : vp_in (nI i) 9 := vp_in_nI (by omega) (by decide)
  refine x_aload_n (pc' := 1) rfl rfl rfl ?_
  refine x_get (pc' := 4) rfl rfl rfl (hM.1) rfl ?_
  refine x_iload_n (pc' := 5) rfl rfl rfl ?_
  refine x_iaload (pc' := 6) rfl rfl (hM.2.1 1 (by decide)) (hv) ?_
  refine x_eqi e1 ?_
  refine x_bipush (pc' := 8) rfl rfl bipush_99 ?_
  by_cases d1 : β i < 99
  · refine x_icmp_ge (tgt := 38) (pc' := 11) rfl rfl rfl (fun q => absurd q (nI_ge (b := 99) d1 (by decide))) (fun _ => ?_)
    refine x_aload_n (pc' := 12) rfl rfl rfl ?_
    refine x_get (pc' := 15) rfl rfl rfl (hM.1) rfl ?_
    refine x_iload_n (pc' := 16) rfl rfl rfl ?_
    refine x_iaload (pc' := 17) rfl rfl (hM.2.1 0 (by decide)) (hv) ?_
    refine x_eqi e2 ?_
    refine x_iconst (pc' := 18) rfl rfl iconst_4 ?_
    by_cases d2 : κ i = 4
    · refine x_icmp_ne (tgt := 34) (pc' := 21) rfl rfl rfl (fun q => absurd (show nI (κ i) = 4 by rw [d2]; decide) q) (fun _ => ?_)
      refine x_aload_n (pc' := 22) rfl rfl rfl ?_
      refine x_get (pc' := 25) rfl rfl rfl (hM.1) rfl ?_
      refine x_iload_n (pc' := 26) rfl rfl rfl ?_
      refine x_iaload (pc' := 27) rfl rfl (hM.2.1 1 (by decide)) (hv) ?_
      refine x_eqi e1 ?_
      refine x_aload_n (pc' := 28) rfl rfl rfl ?_
      refine x_get (pc' := 31) rfl rfl rfl (hM.1) rfl ?_
      refine x_eqi hfu ?_
      by_cases d3 : β i < fu
      · refine x_icmp_ge (tgt := 38) (pc' := 34) rfl rfl rfl (fun q => absurd q (nI_ge d3 hfu9)) (fun _ => ?_)
        refine x_iconst (pc' := 35) rfl rfl iconst_1 ?_
        refine x_goto (tgt := 39) rfl rfl ?_
        exact x_ireturn rfl rfl rfl (Nat.le_of_ble_eq_true rfl) (Nat.le_of_ble_eq_true rfl) (h1 ⟨d1, fun _ => d3⟩)
      · refine x_icmp_ge (tgt := 38) (pc' := 34) rfl rfl rfl (fun _ => ?_) (fun q => absurd (nI_le (a := fu) (b := β i) (by omega) (by omega)) q)
        refine x_iconst (pc' := 39) rfl rfl iconst_0 ?_
        exact x_ireturn rfl rfl rfl (Nat.le_of_ble_eq_true rfl) (Nat.le_of_ble_eq_true rfl) (h0 (fun q => d3 (q.2 d2)))
    · refine x_icmp_ne (tgt := 34) (pc' := 21) rfl rfl rfl (fun _ => ?_) (fun q => absurd ((nI_eq (a := κ i) (b := 4) (by omega) (by decide)).mp q) d2)
      refine x_iconst (pc' := 35) rfl rfl iconst_1 ?_
      refine x_goto (tgt := 39) rfl rfl ?_
      exact x_ireturn rfl rfl rfl (Nat.le_of_ble_eq_true rfl) (Nat.le_of_ble_eq_true rfl) (h1 ⟨d1, fun q => absurd q d2⟩)
  · refine x_icmp_ge (tgt := 38) (pc' := 11) rfl rfl rfl (fun _ => ?_) (fun q => absurd (nI_le (a := 99) (b := β i) (by omega) (by omega)) q)
    refine x_iconst (pc' := 39) rfl rfl iconst_0 ?_
    exact x_ireturn rfl rfl rfl (Nat.le_of_ble_eq_true rfl) (Nat.le_of_ble_eq_true rfl) (h0 (fun q => d1 q.1))
theorem m_beside {p : Nat} (hM : x_Mdl z f M) (hn : M.1 3 = nI n) (hn9 : n ≤ 9) (hln : M.1 5 = nI ln) (hln1 : ln < 2 ^ 31) (hp : p < n) (h : post (some (.int (nI (q_nx n ln p)))) f) : Y E 1 mX6_beside [.ref 59, .int (nI p)] z f 0 0 post := by
  refine Y.intro gX6_beside (lv := [(0, .ref 59), (1, .int (nI p))]) rfl (Nat.le_of_ble_eq_true rfl) ?_
  have hnz : ¬ nI n = 0 := nI_ne0 (by omega) (by omega)
  by_cases d1 : ln = 1
  · have e : q_nx n ln p = (p + n - 1) % n := by unfold q_nx; rw [if_pos d1, q_rem2 hp]
    rw [e] at h
    refine x_aload_n (pc' := 1) rfl rfl rfl ?_
    refine x_get (pc' := 4) rfl rfl rfl (hM.1) rfl ?_
    refine x_eqi hln ?_
    refine x_iconst (pc' := 5) rfl rfl iconst_1 ?_
    refine x_icmp_ne (tgt := 24) (pc' := 8) rfl rfl rfl (fun c5 => absurd ((by rw [d1]; rfl)) c5) (fun _ => ?_)
    refine x_iload_n (pc' := 9) rfl rfl rfl ?_
    refine x_aload_n (pc' := 10) rfl rfl rfl ?_
    refine x_get (pc' := 13) rfl rfl rfl (hM.1) rfl ?_
    refine x_eqi hn ?_
    refine x_iadd (pc' := 14) rfl rfl ?_
    refine x_eqi (nI_add p n) ?_
    refine x_iconst (pc' := 15) rfl rfl iconst_1 ?_
    refine x_isub (pc' := 16) rfl rfl ?_
    refine x_eqi (show nI (p + n) - 1 = nI (p + n - 1) from pk_sub (a := p + n) (b := 1) (by omega)) ?_
    refine x_aload_n (pc' := 17) rfl rfl rfl ?_
    refine x_get (pc' := 20) rfl rfl rfl (hM.1) rfl ?_
    refine x_eqi hn ?_
    refine x_irem (pc' := 21) rfl rfl (hnz) ?_
    refine x_goto (tgt := 32) rfl rfl ?_
    refine x_eqi (pk_rem (a := p + n - 1) (d := n) (by omega) (by omega) (by omega)) ?_
    exact x_ireturn rfl rfl rfl (Nat.le_refl _) (Nat.le_refl _) h
  · have hne : ¬ nI ln = 1 := fun q => d1 ((nI_eq (a := ln) (b := 1) hln1 (by decide)).mp q)
    have e : q_nx n ln p = (p + 1) % n := by unfold q_nx; rw [if_neg d1, q_rem1 hp]
    rw [e] at h
    refine x_aload_n (pc' := 1) rfl rfl rfl ?_
    refine x_get (pc' := 4) rfl rfl rfl (hM.1) rfl ?_
    refine x_eqi hln ?_
    refine x_iconst (pc' := 5) rfl rfl iconst_1 ?_
    refine x_icmp_ne (tgt := 24) (pc' := 8) rfl rfl rfl (fun _ => ?_) (fun c5 => absurd c5 (hne))
    refine x_iload_n (pc' := 25) rfl rfl rfl ?_
    refine x_iconst (pc' := 26) rfl rfl iconst_1 ?_
    refine x_iadd (pc' := 27) rfl rfl ?_
    refine x_eqi (nI_1 p) ?_
    refine x_aload_n (pc' := 28) rfl rfl rfl ?_
    refine x_get (pc' := 31) rfl rfl rfl (hM.1) rfl ?_
    refine x_eqi hn ?_
    refine x_irem (pc' := 32) rfl rfl (hnz) ?_
    refine x_eqi (pk_rem (a := p + 1) (d := n) (by omega) (by omega) (by omega)) ?_
    exact x_ireturn rfl rfl rfl (Nat.le_refl _) (Nat.le_refl _) h
theorem m_sowL (hn : M.1 3 = nI n) (hn9 : n ≤ 9) (hfu : M.1 4 = nI fu) (hfu9 : fu < 2 ^ 20) (hln : M.1 5 = nI ln) (hln9 : ln < 2 ^ 31) (hκ : M.2.1 0 = fun i => nI (κ i)) (hκ5 : ∀ i, κ i ≤ 5) (hb : b < n) (wf : q_W)
    (K : ∀ (g : x_H) (Mg : x_N), x_Mdl z g Mg → q_N M Mg wf.1 wf.2.2.2.2.2 → Mg.1 14 = M.1 14 → Mg.1 16 = M.1 16 → x_fr (fun q => q < 59) f g → X E (x_rm 2 0 0) mX6_sowsHand (x_QM E z 0 0 post) 87 [(4, .int (nI wf.2.2.2.1)), (5, .int (nI wf.2.1)), (3, .int (nI wf.2.2.2.2.1)), (2, .int (nI wf.2.2.1)), (0, .ref 59), (1, .int (nI b))] [] z g 0 0) :
    ∀ (k : Nat) (w : q_W) (g : x_H) (Mg : x_N), q_ms n w ≤ k → q_ok n 100 w → q_run κ n fu ln k w = wf → x_Mdl z g Mg → q_N M Mg w.1 w.2.2.2.2.2 → Mg.1 14 = M.1 14 → Mg.1 16 = M.1 16 → x_fr (fun q => q < 59) f g → X E (x_rm 2 0 0) mX6_sowsHand (x_QM E z 0 0 post) 22 [(4, .int (nI w.2.2.2.1)), (5, .int (nI w.2.1)), (3, .int (nI w.2.2.2.2.1)), (2, .int (nI w.2.2.1)), (0, .ref 59), (1, .int (nI b))] [] z g 0 0 := by
  intro k
  induction k with
  | zero =>
    intro w g Mg hk ho hw hM hN h14 h16 hF
    have hw0 : w = wf := hw
    subst hw0
    have h0 := q_msN (Nat.le_zero.mp hk) (by omega)
    refine x_iload_n (pc' := 23) rfl rfl rfl ?_
    refine x_if_le (tgt := 87) (pc' := 26) rfl rfl rfl (fun _ => ?_) (fun c23 => absurd ((by rw [h0]; decide)) c23)
    exact K g Mg hM hN h14 h16 hF
  | succ k ih =>
    intro w g Mg hk ho hw hM hN h14 h16 hF
    obtain ⟨o1, o2, o3, o4, o5⟩ := id ho
    obtain ⟨r1, r2, r3, r4, r5⟩ := id hN
    have hn' : Mg.1 3 = nI n := (r4 3 (by decide) (by decide) (by decide)).trans hn
    have hfu' : Mg.1 4 = nI fu := (r4 4 (by decide) (by decide) (by decide)).trans hfu
    have hln' : Mg.1 5 = nI ln := (r4 5 (by decide) (by decide) (by decide)).trans hln
    have hκ' : Mg.2.1 0 = fun i => nI (κ i) := (r2 0 (by decide)).trans hκ
    have hp' := q_nx_lt (ln := ln) o1
    by_cases d2 : 0 < w.2.2.1
    · by_cases d3 : w.2.2.2.1 < n
      · have hgo : q_run κ n fu ln (k + 1) w = q_run κ n fu ln k (q_st κ n fu ln w) := q_run_go ⟨d2, d3⟩
        have hms := q_ms_st (κ := κ) (fu := fu) (ln := ln) d2 d3
        have hok := q_ok_st (κ := κ) (fu := fu) (ln := ln) ho d2 d3
        have hcl : (nI (q_nx n ln w.2.1)).toNatClampNeg = q_nx n ln w.2.1 := nI_clamp (by omega)
        have hv : vp_in (nI (q_nx n ln w.2.1)) 9 := vp_in_nI (by omega) (by decide)
        refine x_iload_n (pc' := 23) rfl rfl rfl ?_
        refine x_if_le (tgt := 87) (pc' := 26) rfl rfl rfl (fun c23 => absurd c23 (Int32.not_le.mpr (nI_lt (a := 0) (b := w.2.2.1) d2 (by omega)))) (fun _ => ?_)
        refine x_iload (pc' := 28) rfl rfl rfl ?_
        refine x_aload_n (pc' := 29) rfl rfl rfl ?_
        refine x_get (pc' := 32) rfl rfl rfl (hM.1) rfl ?_
        refine x_eqi hn' ?_
        refine x_icmp_ge (tgt := 87) (pc' := 35) rfl rfl rfl (fun c32 => absurd c32 (nI_ge d3 (by omega))) (fun _ => ?_)
        refine x_aload_n (pc' := 36) rfl rfl rfl ?_
        refine x_iload (pc' := 38) rfl rfl rfl ?_
        refine x_cV1i (d := 1) (pc' := 41) rfl rfl sX6_70 gX6_beside (hM.1) ⟨Nat.le_of_ble_eq_true rfl, Nat.le_of_ble_eq_true rfl⟩ (Nat.le_of_ble_eq_true rfl) ⟨Nat.le_of_ble_eq_true rfl, Nat.le_of_ble_eq_true rfl⟩ ?_
        refine m_beside hM hn' hn9 hln' hln9 o1 ⟨_, rfl, ?_⟩
        refine x_istore (pc' := 43) (lv' := [(5, _), (4, _), (3, _), (2, _), (0, _), (1, _)]) rfl rfl (Nat.le_of_ble_eq_true rfl) rfl ?_
        refine x_aload_n (pc' := 44) rfl rfl rfl ?_
        refine x_iload (pc' := 46) rfl rfl rfl ?_
        refine x_cV1i (d := 1) (pc' := 49) rfl rfl sX6_74 gX6_takes (hM.1) ⟨Nat.le_of_ble_eq_true rfl, Nat.le_of_ble_eq_true rfl⟩ (Nat.le_of_ble_eq_true rfl) ⟨Nat.le_of_ble_eq_true rfl, Nat.le_of_ble_eq_true rfl⟩ ?_
        refine m_takes hM hn9 hfu' (by omega) hκ' r1 hκ5 o2 hp' (fun d4 => ⟨_, rfl, ?_⟩) (fun d4 => ⟨_, rfl, ?_⟩)
        · have est : q_st κ n fu ln w = (q_up w.1 (q_nx n ln w.2.1) (w.1 (q_nx n ln w.2.1) + 1), q_nx n ln w.2.1, w.2.2.1 - 1, 0, w.2.2.2.2.1 + 1, some (q_nx n ln w.2.1)) := by unfold q_st; rw [if_pos d4]
          rw [hgo, est] at hw
          rw [est] at hms hok
          refine x_if_eq (tgt := 81) (pc' := 52) rfl rfl rfl (fun c49 => absurd c49 ((by decide))) (fun _ => ?_)
          refine x_aload_n (pc' := 53) rfl rfl rfl ?_
          refine x_get (pc' := 56) rfl rfl rfl (hM.1) rfl ?_
          refine x_iload (pc' := 58) rfl rfl rfl ?_
          refine x_dup2 (pc' := 59) rfl rfl rfl rfl ?_
          refine x_iaload (pc' := 60) rfl rfl (hM.2.1 1 (by decide)) (hv) ?_
          refine x_eqi (show Mg.2.1 1 (nI (q_nx n ln w.2.1)).toNatClampNeg = nI (w.1 (q_nx n ln w.2.1)) from by rw [hcl, r1]) ?_
          refine x_iconst (pc' := 61) rfl rfl iconst_1 ?_
          refine x_iadd (pc' := 62) rfl rfl ?_
          refine x_eqi (nI_1 _) ?_
          refine x_iastore (pc' := 63) rfl rfl (hM.2.1 1 (by decide)) (hv) (fun f1 e1 => ?_)
          have hM1 := hM.arr 1 (by decide) e1
          have hF1 := hF.up e1 (by decide)
          rw [hcl, r1, q_up_I] at hM1
          refine x_iinc (pc' := 66) (lv' := [(2, _), (5, _), (4, _), (3, _), (0, _), (1, _)]) rfl rfl (Nat.le_of_ble_eq_true rfl) rfl (nI_m1 d2) rfl ?_
          refine x_iinc (pc' := 69) (lv' := [(3, _), (2, _), (5, _), (4, _), (0, _), (1, _)]) rfl rfl (Nat.le_of_ble_eq_true rfl) rfl (nI_1 _) rfl ?_
          refine x_iconst (pc' := 70) rfl rfl iconst_0 ?_
          refine x_istore (pc' := 72) (lv' := [(4, _), (3, _), (2, _), (5, _), (0, _), (1, _)]) rfl rfl (Nat.le_of_ble_eq_true rfl) rfl ?_
          refine x_aload_n (pc' := 73) rfl rfl rfl ?_
          refine x_iload (pc' := 75) rfl rfl rfl ?_
          refine x_put (pc' := 78) rfl rfl rfl (hM1.1) (Nat.le_of_ble_eq_true rfl) rfl rfl rfl rfl (fun f2 e2 => ?_)
          have hM2 := hM1.num 15 e2 (x_mFs15 _ _)
          have hF2 := hF1.up e2 (by decide)
          refine x_goto (tgt := 22) rfl rfl ?_
          refine x_lvp [0, 3, 1, 2, 4, 5] rfl ?_
          refine ih _ _ _ (by omega) hok hw hM2 ⟨rfl, fun j hj => ?_, r3, fun j g1 g2 g3 => ?_, rfl⟩ h14 h16 hF2
          · show x_ua Mg.2.1 1 _ j = _
            unfold x_ua
            rw [if_neg hj]
            exact r2 j hj
          · show upd Mg.1 15 _ j = _
            rw [pk_un g2]
            exact r4 j g1 g2 g3
        · have est : q_st κ n fu ln w = (w.1, q_nx n ln w.2.1, w.2.2.1, w.2.2.2.1 + 1, w.2.2.2.2.1, w.2.2.2.2.2) := by unfold q_st; rw [if_neg d4]
          rw [hgo, est] at hw
          rw [est] at hms hok
          refine x_if_eq (tgt := 81) (pc' := 52) rfl rfl rfl (fun _ => ?_) (fun c49 => absurd ((by decide)) c49)
          refine x_iinc (pc' := 84) (lv' := [(4, _), (5, _), (3, _), (2, _), (0, _), (1, _)]) rfl rfl (Nat.le_of_ble_eq_true rfl) rfl (nI_1 _) rfl ?_
          refine x_goto (tgt := 22) rfl rfl ?_
          exact ih _ _ _ (by omega) hok hw hM hN h14 h16 hF
      · have hst : q_run κ n fu ln (k + 1) w = w := q_run_stop (fun q => d3 q.2)
        rw [hst] at hw
        subst hw
        refine x_iload_n (pc' := 23) rfl rfl rfl ?_
        refine x_if_le (tgt := 87) (pc' := 26) rfl rfl rfl (fun c23 => absurd c23 (Int32.not_le.mpr (nI_lt (a := 0) (b := w.2.2.1) d2 (by omega)))) (fun _ => ?_)
        refine x_iload (pc' := 28) rfl rfl rfl ?_
        refine x_aload_n (pc' := 29) rfl rfl rfl ?_
        refine x_get (pc' := 32) rfl rfl rfl (hM.1) rfl ?_
        refine x_eqi hn' ?_
        refine x_icmp_ge (tgt := 87) (pc' := 35) rfl rfl rfl (fun _ => ?_) (fun c32 => absurd (nI_le (by omega) (by omega)) c32)
        exact K g Mg hM hN h14 h16 hF
    · have hst : q_run κ n fu ln (k + 1) w = w := q_run_stop (fun q => d2 q.1)
      rw [hst] at hw
      subst hw
      have h0 : w.2.2.1 = 0 := by omega
      refine x_iload_n (pc' := 23) rfl rfl rfl ?_
      refine x_if_le (tgt := 87) (pc' := 26) rfl rfl rfl (fun _ => ?_) (fun c23 => absurd ((by rw [h0]; decide)) c23)
      exact K g Mg hM hN h14 h16 hF
theorem m_sowsHand {hs s0 : Nat} (hM : x_Mdl z f M) (hn : M.1 3 = nI n) (hn9 : n ≤ 9) (hfu : M.1 4 = nI fu) (hfu9 : fu < 2 ^ 20) (hln : M.1 5 = nI ln) (hln9 : ln < 2 ^ 31) (hκ : M.2.1 0 = fun i => nI (κ i)) (hκ5 : ∀ i, κ i ≤ 5) (hβ : M.2.1 1 = fun i => nI (β i)) (hβ5 : ∀ i, β i ≤ 100) (hb : b < n) (hl : M.1 15 = q_lI l) (hl5 : ∀ p, l = some p → p < n) (h14 : M.1 14 = nI hs) (h16 : M.1 16 = nI s0)
    (h : ∀ (f' : x_H) (M' : x_N), x_Mdl z f' M' → q_N M M' (q_hand κ n fu ln β b l).1 (q_hand κ n fu ln β b l).2.2 → M'.1 14 = nI (hs + 1) → M'.1 16 = nI (s0 + (q_hand κ n fu ln β b l).2.1) → x_fr (fun q => q < 59) f f' → post (some (.int (nI (q_hand κ n fu ln β b l).2.1))) f') : Y E 2 mX6_sowsHand [.ref 59, .int (nI b)] z f 0 0 post := by
  refine Y.intro gX6_sowsHand (lv := [(0, .ref 59), (1, .int (nI b))]) rfl (Nat.le_of_ble_eq_true rfl) ?_
  have hcl : (nI b).toNatClampNeg = b := nI_clamp (by omega)
  have e1 : M.2.1 1 (nI b).toNatClampNeg = nI (β b) := by rw [hcl, hβ]
  have hv : vp_in (nI b) 9 := vp_in_nI (by omega) (by decide)
  have hb100 := hβ5 b
  have hok : q_ok n 100 (q_up β b 0, b, β b, 0, 0, l) := ⟨hb, q_up_le hβ5 (by omega), Nat.zero_le _, by show 0 + β b ≤ 100; omega, hl5⟩
  have hokf := q_ok_run (κ := κ) (fu := fu) (ln := ln) 1000 _ hok
  have hms : q_ms n (q_up β b 0, b, β b, 0, 0, l) ≤ 1000 := by
    show β b * n + (n - 0) ≤ 1000
    have := Nat.mul_le_mul hb100 hn9
    omega
  refine x_aload_n (pc' := 1) rfl rfl rfl ?_
  refine x_get (pc' := 4) rfl rfl rfl (hM.1) rfl ?_
  refine x_iload_n (pc' := 5) rfl rfl rfl ?_
  refine x_iaload (pc' := 6) rfl rfl (hM.2.1 1 (by decide)) (hv) ?_
  refine x_eqi e1 ?_
  refine x_istore_n (pc' := 7) (lv' := [(2, _), (0, _), (1, _)]) rfl rfl (Nat.le_of_ble_eq_true rfl) rfl ?_
  refine x_iconst (pc' := 8) rfl rfl iconst_0 ?_
  refine x_istore_n (pc' := 9) (lv' := [(3, _), (2, _), (0, _), (1, _)]) rfl rfl (Nat.le_of_ble_eq_true rfl) rfl ?_
  refine x_iconst (pc' := 10) rfl rfl iconst_0 ?_
  refine x_istore (pc' := 12) (lv' := [(4, _), (3, _), (2, _), (0, _), (1, _)]) rfl rfl (Nat.le_of_ble_eq_true rfl) rfl ?_
  refine x_iload_n (pc' := 13) rfl rfl rfl ?_
  refine x_istore (pc' := 15) (lv' := [(5, _), (4, _), (3, _), (2, _), (0, _), (1, _)]) rfl rfl (Nat.le_of_ble_eq_true rfl) rfl ?_
  refine x_aload_n (pc' := 16) rfl rfl rfl ?_
  refine x_get (pc' := 19) rfl rfl rfl (hM.1) rfl ?_
  refine x_iload_n (pc' := 20) rfl rfl rfl ?_
  refine x_iconst (pc' := 21) rfl rfl iconst_0 ?_
  refine x_iastore (pc' := 22) rfl rfl (hM.2.1 1 (by decide)) (hv) (fun f1 e1 => ?_)
  have hM1 := hM.arr 1 (by decide) e1
  have hF1 := (x_fr.rf (P := fun q => q < 59)).up e1 (by decide)
  rw [hcl, hβ, show (0 : Int32) = nI 0 from by decide, q_up_I] at hM1
  refine x_lvp [1, 0, 2, 3, 4, 5] rfl ?_
  refine m_sowL (M := M) (f := f) hn hn9 hfu hfu9 hln hln9 hκ hκ5 hb (q_run κ n fu ln 1000 (q_up β b 0, b, β b, 0, 0, l)) ?_ 1000 (q_up β b 0, b, β b, 0, 0, l) f1 _ hms hok rfl hM1 ⟨rfl, fun j hj => if_neg hj, rfl, fun _ _ _ _ => rfl, hl⟩ rfl rfl hF1
  intro g Mg hMg hNg g14 g16 hFg
  obtain ⟨o1, o2, o3, o4, o5⟩ := hokf
  obtain ⟨r1, r2, r3, r4, r5⟩ := id hNg
  generalize hwf : q_run κ n fu ln 1000 (q_up β b 0, b, β b, 0, 0, l) = wf at *
  have eh : q_hand κ n fu ln β b l = (q_up wf.1 b (wf.1 b + wf.2.2.1), wf.2.2.2.2.1, wf.2.2.2.2.2) := by unfold q_hand; rw [hwf]
  rw [eh] at h
  refine x_aload_n (pc' := 88) rfl rfl rfl ?_
  refine x_get (pc' := 91) rfl rfl rfl (hMg.1) rfl ?_
  refine x_iload_n (pc' := 92) rfl rfl rfl ?_
  refine x_dup2 (pc' := 93) rfl rfl rfl rfl ?_
  refine x_iaload (pc' := 94) rfl rfl (hMg.2.1 1 (by decide)) (hv) ?_
  refine x_eqi (show Mg.2.1 1 (nI b).toNatClampNeg = nI (wf.1 b) from by rw [hcl, r1]) ?_
  refine x_iload_n (pc' := 95) rfl rfl rfl ?_
  refine x_iadd (pc' := 96) rfl rfl ?_
  refine x_eqi (nI_add _ _) ?_
  refine x_iastore (pc' := 97) rfl rfl (hMg.2.1 1 (by decide)) (hv) (fun f2 e2 => ?_)
  have hM2 := hMg.arr 1 (by decide) e2
  have hF2 := hFg.up e2 (by decide)
  rw [hcl, r1, q_up_I] at hM2
  refine x_aload_n (pc' := 98) rfl rfl rfl ?_
  refine x_dup (pc' := 99) rfl rfl rfl ?_
  refine x_get (pc' := 102) rfl rfl rfl (hM2.1) rfl ?_
  refine x_eqi (show Mg.1 14 = nI hs from g14.trans h14) ?_
  refine x_iconst (pc' := 103) rfl rfl iconst_1 ?_
  refine x_iadd (pc' := 104) rfl rfl ?_
  refine x_eqi (nI_1 _) ?_
  refine x_put (pc' := 107) rfl rfl rfl (hM2.1) (Nat.le_of_ble_eq_true rfl) rfl rfl rfl rfl (fun f3 e3 => ?_)
  have hM3 := hM2.num 14 e3 (x_mFs14 _ _)
  have hF3 := hF2.up e3 (by decide)
  refine x_aload_n (pc' := 108) rfl rfl rfl ?_
  refine x_dup (pc' := 109) rfl rfl rfl ?_
  refine x_get (pc' := 112) rfl rfl rfl (hM3.1) rfl ?_
  refine x_eqi (show Mg.1 16 = nI s0 from g16.trans h16) ?_
  refine x_iload_n (pc' := 113) rfl rfl rfl ?_
  refine x_iadd (pc' := 114) rfl rfl ?_
  refine x_eqi (nI_add _ _) ?_
  refine x_put (pc' := 117) rfl rfl rfl (hM3.1) (Nat.le_of_ble_eq_true rfl) rfl rfl rfl rfl (fun f4 e4 => ?_)
  have hM4 := hM3.num 16 e4 (x_mFs16 _ _)
  have hF4 := hF3.up e4 (by decide)
  refine x_iload_n (pc' := 118) rfl rfl rfl ?_
  exact x_ireturn rfl rfl rfl (Nat.le_of_ble_eq_true rfl) (Nat.le_of_ble_eq_true rfl) (h _ _ hM4 ⟨rfl, fun j hj => (if_neg hj).trans (r2 j hj), r3, fun j a1 a2 a3 => (pk_un a3).trans ((pk_un a1).trans (r4 j a1 a2 a3)), r5⟩ rfl rfl hF4)
end MSOW
end
section
/-! A move: pure facts, the class's Table. -/
/-- beans stay below a bound; the bowl emptied has no more than was sown -/
def q_bd (C b : Nat) (w : q_W) : Prop := (∀ i, w.1 i ≤ C) ∧ w.1 b ≤ w.2.2.2.2.1
theorem q_bd_run {κ : Nat → Nat} {n fu ln C b : Nat} (hC : 99 ≤ C) : ∀ (k : Nat) (w : q_W), q_bd C b w → q_bd C b (q_run κ n fu ln k w)
  | 0, w, h => h
  | k + 1, w, h => by
    by_cases hg : 0 < w.2.2.1 ∧ w.2.2.2.1 < n
    · rw [q_run_go hg]
      refine q_bd_run hC k _ ?_
      unfold q_st
      split
      · rename_i ht
        refine ⟨q_up_le h.1 (by have := ht.1; omega), ?_⟩
        show q_up w.1 (q_nx n ln w.2.1) _ b ≤ w.2.2.2.2.1 + 1
        by_cases hb : b = q_nx n ln w.2.1
        · rw [hb, q_up_s, ← hb]
          have := h.2
          omega
        · rw [q_up_n _ _ hb]
          have := h.2
          omega
      · exact h
    · rw [q_run_stop hg]
      exact h
/-- sown and in hand are what was taken -/
def q_sm (B : Nat) (w : q_W) : Prop := w.2.2.2.2.1 + w.2.2.1 = B
theorem q_sm_run {κ : Nat → Nat} {n fu ln B : Nat} : ∀ (k : Nat) (w : q_W), q_sm B w → q_sm B (q_run κ n fu ln k w)
  | 0, w, h => h
  | k + 1, w, h => by
    by_cases hg : 0 < w.2.2.1 ∧ w.2.2.2.1 < n
    · rw [q_run_go hg]
      refine q_sm_run k _ ?_
      unfold q_st q_sm at *
      split
      · show w.2.2.2.2.1 + 1 + (w.2.2.1 - 1) = B
        omega
      · exact h
    · rw [q_run_stop hg]
      exact h
theorem q_hand_le {κ β : Nat → Nat} {n fu ln b C : Nat} {l : Option Nat} (hC : 99 ≤ C) (hβ : ∀ i, β i ≤ C) : (∀ i, (q_hand κ n fu ln β b l).1 i ≤ C) ∧ (q_hand κ n fu ln β b l).2.1 ≤ C := by
  have h1 := q_bd_run (κ := κ) (n := n) (fu := fu) (ln := ln) (b := b) hC 1000 (q_up β b 0, b, β b, 0, 0, l) ⟨q_up_le hβ (by omega), by show q_up β b 0 b ≤ 0; rw [q_up_s]; exact Nat.le_refl _⟩
  have h2 := q_sm_run (κ := κ) (n := n) (fu := fu) (ln := ln) (B := β b) 1000 (q_up β b 0, b, β b, 0, 0, l) (by show 0 + β b = β b; omega)
  have hb := hβ b
  unfold q_hand
  generalize q_run κ n fu ln 1000 (q_up β b 0, b, β b, 0, 0, l) = w at *
  unfold q_sm at h2
  have h3 := h1.2
  exact ⟨q_up_le h1.1 (by omega), by show w.2.2.2.2.1 ≤ C; omega⟩
theorem q_hand_l {κ β : Nat → Nat} {n fu ln b : Nat} {l : Option Nat} (hb : b < n) (hβ : ∀ i, β i ≤ 100) (hl : ∀ p, l = some p → p < n) : (∀ p, (q_hand κ n fu ln β b l).2.2 = some p → p < n) ∧ (0 < (q_hand κ n fu ln β b l).2.1 → ∃ p, (q_hand κ n fu ln β b l).2.2 = some p ∧ p < n) := by
  have hok : q_ok n 100 (q_up β b 0, b, β b, 0, 0, l) := ⟨hb, q_up_le hβ (by omega), Nat.zero_le _, by show 0 + β b ≤ 100; have := hβ b; omega, hl⟩
  have h1 := q_ok_run (κ := κ) (fu := fu) (ln := ln) 1000 _ hok
  have h2 := q_lst_run (κ := κ) (fu := fu) (ln := ln) 1000 _ hok (fun h => absurd h (Nat.lt_irrefl 0))
  exact ⟨h1.2.2.2.2, h2⟩
/-- what the hands of a move leave -/
theorem q_hands_ok {κ : Nat → Nat} {n fu ln C : Nat} (hC : 99 ≤ C) (hC2 : C ≤ 100) : ∀ (k : Nat) (β : Nat → Nat) (b hs s : Nat) (l : Option Nat), b < n → (∀ i, β i ≤ C) → (∀ p, l = some p → p < n) →
    (∀ i, (q_hands κ n fu ln k β b hs s l).1 i ≤ C) ∧ (∀ p, (q_hands κ n fu ln k β b hs s l).2.2.2 = some p → p < n)
  | 0, β, b, hs, s, l, hb, hβ, hl => ⟨hβ, hl⟩
  | k + 1, β, b, hs, s, l, hb, hβ, hl => by
    have h1 := q_hand_le (κ := κ) (n := n) (fu := fu) (ln := ln) (b := b) (l := l) hC hβ
    have h2 := q_hand_l (κ := κ) (fu := fu) (ln := ln) hb (fun i => Nat.le_trans (hβ i) hC2) hl
    rw [q_hands]
    split
    · rename_i hg
      obtain ⟨p, hp, hpn⟩ := h2.2 hg.1
      refine q_hands_ok hC hC2 k _ _ _ _ _ ?_ h1.1 h2.1
      rw [hp]
      exact hpn
    · exact ⟨h1.1, h2.1⟩
/-- beans, hands, sown, last of a move, before the single one is taken -/
def q_mv (κ : Nat → Nat) (n fu ln : Nat) (β : Nat → Nat) (b : Nat) : (Nat → Nat) × Nat × Nat × Option Nat := if 2 ≤ n ∧ 0 < β b then q_hands κ n fu ln 60 β b 0 0 none else (β, 0, 0, none)
def q_tk1 (β : Nat → Nat) (pt : Nat) (l : Option Nat) : Bool := match l with
  | none => false
  | some p => decide (β p = 1) && decide (pt < 999)
def q_b1 (β : Nat → Nat) (pt : Nat) (l : Option Nat) : Nat → Nat := if q_tk1 β pt l = true then q_up β (l.getD 0) 0 else β
def q_p1 (β π : Nat → Nat) (tu : Nat) (l : Option Nat) : Nat → Nat := if q_tk1 β (π tu) l = true then q_up π tu (π tu + 1) else π
section MOVE
variable {E : x_E} {z : Nat} {f : x_H} {t : Nat} {T : x_T} {post : Option Value → x_H → Prop} {n fu ln b tu : Nat} {κ β π : Nat → Nat} {l : Option Nat}
theorem t_has_m9 {n : Nat} (hn : T.2.2.2 0 = nI n) : ¬ t_has T (-9) := fun h => h.1 (by decide)
theorem w_takeSingle (hT : x_t z f t T) (hn : T.2.2.2 0 = nI n) (hn9 : n ≤ 9) (hβ : T.2.1 = fun i => nI (β i)) (hβ5 : ∀ i, β i ≤ 100) (hl : T.2.2.2 6 = q_lI l) (hl5 : ∀ p, l = some p → p < n) (htu : T.2.2.2 3 = nI tu) (htu1 : tu ≤ 1) (hπ : T.2.2.1 = fun i => nI (π i)) (hπ5 : ∀ i, π i < 2 ^ 30)
    (h : ∀ f' : x_H, x_t z f' t (T.1, (fun i => nI (q_b1 β (π tu) l i)), (fun i => nI (q_p1 β π tu l i)), T.2.2.2) → x_fr (x_ot t) f f' → post (some (.int (if q_tk1 β (π tu) l = true then 1 else 0))) f') : Y E 3 mX3_takeSingle [.ref t] z f 0 0 post := by
  refine Y.intro gX3_takeSingle (lv := [(0, .ref t)]) rfl (Nat.le_of_ble_eq_true rfl) ?_
  have hclt : (nI tu).toNatClampNeg = tu := nI_clamp (by omega)
  have hvt : vp_in (nI tu) 2 := vp_in_nI (by omega) (by decide)
  have eπ : T.2.2.1 (nI tu).toNatClampNeg = nI (π tu) := by rw [hclt, hπ]
  have hno : q_tk1 β (π tu) l = false → post (some (.int 0)) f := by
    intro hq
    have hb : (fun i => nI (q_b1 β (π tu) l i)) = T.2.1 := by
      rw [hβ]
      unfold q_b1
      rw [hq]
      rfl
    have hp : (fun i => nI (q_p1 β π tu l i)) = T.2.2.1 := by
      rw [hπ]
      unfold q_p1
      rw [hq]
      rfl
    have h2 := h f (hT.cast (by rw [hb, hp])) x_fr.rf
    rw [hq] at h2
    exact h2
  cases l with
  | none =>
    refine x_aload_n (pc' := 1) rfl rfl rfl ?_
    refine x_aload_n (pc' := 2) rfl rfl rfl ?_
    refine x_get (pc' := 5) rfl rfl rfl (hT.1) rfl ?_
    refine x_eqi hl ?_
    refine x_cV1i (d := 2) (pc' := 8) rfl rfl sX3_59 gX3_beansOf (hT.1) ⟨Nat.le_of_ble_eq_true rfl, Nat.le_of_ble_eq_true rfl⟩ (Nat.le_of_ble_eq_true rfl) ⟨Nat.le_of_ble_eq_true rfl, Nat.le_of_ble_eq_true rfl⟩ ?_
    refine w_beansOf hT (fun g => absurd g (t_has_m9 hn)) (fun g => ⟨_, rfl, ?_⟩)
    refine x_iconst (pc' := 9) rfl rfl iconst_1 ?_
    refine x_icmp_ne (tgt := 46) (pc' := 12) rfl rfl rfl (fun _ => ?_) (fun c9 => absurd c9 ((by decide)))
    refine x_iconst (pc' := 47) rfl rfl iconst_0 ?_
    exact x_ireturn rfl rfl rfl (Nat.le_of_ble_eq_true rfl) (Nat.le_of_ble_eq_true rfl) (hno rfl)
  | some p =>
    have hp := hl5 p rfl
    have hl' : T.2.2.2 6 = nI p := hl
    have hcl : (nI p).toNatClampNeg = p := nI_clamp (by omega)
    have e1 : T.2.1 (nI p).toNatClampNeg = nI (β p) := by rw [hcl, hβ]
    have b1 := hβ5 p
    have p1 := hπ5 tu
    by_cases d1 : β p = 1
    · by_cases d2 : π tu < 999
      · have hq : q_tk1 β (π tu) (some p) = true := by simp [q_tk1, d1, d2]
        refine x_aload_n (pc' := 1) rfl rfl rfl ?_
        refine x_aload_n (pc' := 2) rfl rfl rfl ?_
        refine x_get (pc' := 5) rfl rfl rfl (hT.1) rfl ?_
        refine x_eqi hl' ?_
        refine x_cV1i (d := 2) (pc' := 8) rfl rfl sX3_59 gX3_beansOf (hT.1) ⟨Nat.le_of_ble_eq_true rfl, Nat.le_of_ble_eq_true rfl⟩ (Nat.le_of_ble_eq_true rfl) ⟨Nat.le_of_ble_eq_true rfl, Nat.le_of_ble_eq_true rfl⟩ ?_
        refine w_beansOf hT (fun g => ⟨_, rfl, ?_⟩) (fun g => absurd (t_has_nI hn hn9 hp) g)
        refine x_eqi e1 ?_
        refine x_iconst (pc' := 9) rfl rfl iconst_1 ?_
        refine x_icmp_ne (tgt := 46) (pc' := 12) rfl rfl rfl (fun c9 => absurd ((by rw [d1]; rfl)) c9) (fun _ => ?_)
        refine x_aload_n (pc' := 13) rfl rfl rfl ?_
        refine x_get (pc' := 16) rfl rfl rfl (hT.1) rfl ?_
        refine x_eqi htu ?_
        refine x_if_lt (tgt := 46) (pc' := 19) rfl rfl rfl (fun c16 => absurd c16 (nI_pos (by omega))) (fun _ => ?_)
        refine x_aload_n (pc' := 20) rfl rfl rfl ?_
        refine x_get (pc' := 23) rfl rfl rfl (hT.1) rfl ?_
        refine x_eqi htu ?_
        refine x_aload_n (pc' := 24) rfl rfl rfl ?_
        refine x_get (pc' := 27) rfl rfl rfl (hT.1) rfl ?_
        refine x_alen (pc' := 28) rfl rfl (hT.2.2.2) ?_
        refine x_icmp_ge (tgt := 46) (pc' := 31) rfl rfl rfl (fun c28 => absurd c28 (Int32.not_le.mpr (nI_lt (a := tu) (b := 2) (by omega) (by decide)))) (fun _ => ?_)
        refine x_aload_n (pc' := 32) rfl rfl rfl ?_
        refine x_get (pc' := 35) rfl rfl rfl (hT.1) rfl ?_
        refine x_aload_n (pc' := 36) rfl rfl rfl ?_
        refine x_get (pc' := 39) rfl rfl rfl (hT.1) rfl ?_
        refine x_eqi htu ?_
        refine x_iaload (pc' := 40) rfl rfl (hT.2.2.2) (hvt) ?_
        refine x_eqi eπ ?_
        refine x_sipush (pc' := 43) rfl rfl sipush_999 ?_
        refine x_icmp_lt (tgt := 48) (pc' := 46) rfl rfl rfl (fun _ => ?_) (fun c43 => absurd (nI_lt (a := π tu) (b := 999) d2 (by decide)) c43)
        refine x_aload_n (pc' := 49) rfl rfl rfl ?_
        refine x_aload_n (pc' := 50) rfl rfl rfl ?_
        refine x_get (pc' := 53) rfl rfl rfl (hT.1) rfl ?_
        refine x_eqi hl' ?_
        refine x_iconst (pc' := 54) rfl rfl iconst_0 ?_
        refine x_cV2v (d := 2) (pc' := 57) rfl rfl sX3_63 gX3_lay (hT.1) ⟨Nat.le_of_ble_eq_true rfl, Nat.le_of_ble_eq_true rfl⟩ (Nat.le_of_ble_eq_true rfl) ⟨Nat.le_of_ble_eq_true rfl, Nat.le_of_ble_eq_true rfl⟩ ?_
        refine w_lay hT (fun _ f1 hT1 hF1 => ⟨rfl, ?_⟩) (fun g => absurd (t_has_nI hn hn9 hp) g)
        rw [hcl, hβ, show (0 : Int32) = nI 0 from by decide, q_up_I] at hT1
        refine x_aload_n (pc' := 58) rfl rfl rfl ?_
        refine x_get (pc' := 61) rfl rfl rfl (hT1.1) rfl ?_
        refine x_aload_n (pc' := 62) rfl rfl rfl ?_
        refine x_get (pc' := 65) rfl rfl rfl (hT1.1) rfl ?_
        refine x_eqi htu ?_
        refine x_dup2 (pc' := 66) rfl rfl rfl rfl ?_
        refine x_iaload (pc' := 67) rfl rfl (hT1.2.2.2) (hvt) ?_
        refine x_eqi eπ ?_
        refine x_iconst (pc' := 68) rfl rfl iconst_1 ?_
        refine x_iadd (pc' := 69) rfl rfl ?_
        refine x_eqi (nI_1 _) ?_
        refine x_iastore (pc' := 70) rfl rfl (hT1.2.2.2) (hvt) (fun f1 e1 => ?_)
        have hT2 := hT1.purse e1
        have hF2 := hF1.up e1 (x_ot_in (by omega) (by omega))
        rw [hclt] at hT2
        refine x_iconst (pc' := 71) rfl rfl iconst_1 ?_
        have hb2 : (fun i => nI (q_b1 β (π tu) (some p) i)) = fun i => nI (q_up β p 0 i) := by
          unfold q_b1
          rw [hq]
          rfl
        have hp2 : (fun i => nI (q_p1 β π tu (some p) i)) = upd T.2.2.1 tu (nI (π tu + 1)) := by
          rw [hπ, q_up_I]
          unfold q_p1
          rw [hq]
          rfl
        have h2 := h _ (hT2.cast (by rw [hb2, hp2])) hF2
        rw [hq] at h2
        exact x_ireturn rfl rfl rfl (Nat.le_refl _) (Nat.le_refl _) h2
      · have hq : q_tk1 β (π tu) (some p) = false := by simp [q_tk1, d2]
        refine x_aload_n (pc' := 1) rfl rfl rfl ?_
        refine x_aload_n (pc' := 2) rfl rfl rfl ?_
        refine x_get (pc' := 5) rfl rfl rfl (hT.1) rfl ?_
        refine x_eqi hl' ?_
        refine x_cV1i (d := 2) (pc' := 8) rfl rfl sX3_59 gX3_beansOf (hT.1) ⟨Nat.le_of_ble_eq_true rfl, Nat.le_of_ble_eq_true rfl⟩ (Nat.le_of_ble_eq_true rfl) ⟨Nat.le_of_ble_eq_true rfl, Nat.le_of_ble_eq_true rfl⟩ ?_
        refine w_beansOf hT (fun g => ⟨_, rfl, ?_⟩) (fun g => absurd (t_has_nI hn hn9 hp) g)
        refine x_eqi e1 ?_
        refine x_iconst (pc' := 9) rfl rfl iconst_1 ?_
        refine x_icmp_ne (tgt := 46) (pc' := 12) rfl rfl rfl (fun c9 => absurd ((by rw [d1]; rfl)) c9) (fun _ => ?_)
        refine x_aload_n (pc' := 13) rfl rfl rfl ?_
        refine x_get (pc' := 16) rfl rfl rfl (hT.1) rfl ?_
        refine x_eqi htu ?_
        refine x_if_lt (tgt := 46) (pc' := 19) rfl rfl rfl (fun c16 => absurd c16 (nI_pos (by omega))) (fun _ => ?_)
        refine x_aload_n (pc' := 20) rfl rfl rfl ?_
        refine x_get (pc' := 23) rfl rfl rfl (hT.1) rfl ?_
        refine x_eqi htu ?_
        refine x_aload_n (pc' := 24) rfl rfl rfl ?_
        refine x_get (pc' := 27) rfl rfl rfl (hT.1) rfl ?_
        refine x_alen (pc' := 28) rfl rfl (hT.2.2.2) ?_
        refine x_icmp_ge (tgt := 46) (pc' := 31) rfl rfl rfl (fun c28 => absurd c28 (Int32.not_le.mpr (nI_lt (a := tu) (b := 2) (by omega) (by decide)))) (fun _ => ?_)
        refine x_aload_n (pc' := 32) rfl rfl rfl ?_
        refine x_get (pc' := 35) rfl rfl rfl (hT.1) rfl ?_
        refine x_aload_n (pc' := 36) rfl rfl rfl ?_
        refine x_get (pc' := 39) rfl rfl rfl (hT.1) rfl ?_
        refine x_eqi htu ?_
        refine x_iaload (pc' := 40) rfl rfl (hT.2.2.2) (hvt) ?_
        refine x_eqi eπ ?_
        refine x_sipush (pc' := 43) rfl rfl sipush_999 ?_
        refine x_icmp_lt (tgt := 48) (pc' := 46) rfl rfl rfl (fun c43 => absurd c43 (nI_nlt (a := π tu) (b := 999) (by omega) (by omega))) (fun _ => ?_)
        refine x_iconst (pc' := 47) rfl rfl iconst_0 ?_
        exact x_ireturn rfl rfl rfl (Nat.le_of_ble_eq_true rfl) (Nat.le_of_ble_eq_true rfl) (hno hq)
    · have hq : q_tk1 β (π tu) (some p) = false := by simp [q_tk1, d1]
      refine x_aload_n (pc' := 1) rfl rfl rfl ?_
      refine x_aload_n (pc' := 2) rfl rfl rfl ?_
      refine x_get (pc' := 5) rfl rfl rfl (hT.1) rfl ?_
      refine x_eqi hl' ?_
      refine x_cV1i (d := 2) (pc' := 8) rfl rfl sX3_59 gX3_beansOf (hT.1) ⟨Nat.le_of_ble_eq_true rfl, Nat.le_of_ble_eq_true rfl⟩ (Nat.le_of_ble_eq_true rfl) ⟨Nat.le_of_ble_eq_true rfl, Nat.le_of_ble_eq_true rfl⟩ ?_
      refine w_beansOf hT (fun g => ⟨_, rfl, ?_⟩) (fun g => absurd (t_has_nI hn hn9 hp) g)
      refine x_eqi e1 ?_
      refine x_iconst (pc' := 9) rfl rfl iconst_1 ?_
      refine x_icmp_ne (tgt := 46) (pc' := 12) rfl rfl rfl (fun _ => ?_) (fun c9 => absurd c9 ((fun q => d1 ((nI_eq (a := β p) (b := 1) (by omega) (by decide)).mp q))))
      refine x_iconst (pc' := 47) rfl rfl iconst_0 ?_
      exact x_ireturn rfl rfl rfl (Nat.le_of_ble_eq_true rfl) (Nat.le_of_ble_eq_true rfl) (hno hq)
end MOVE
end
section
/-! The class's Table makes a move. -/
def q_V (T T' : x_T) (β : Nat → Nat) (hs s : Nat) (l : Option Nat) : Prop := T'.1 = T.1 ∧ T'.2.1 = (fun i => nI (β i)) ∧ T'.2.2.1 = T.2.2.1 ∧ (∀ i, i ≠ 5 → i ≠ 6 → i ≠ 7 → T'.2.2.2 i = T.2.2.2 i) ∧ T'.2.2.2 5 = nI hs ∧ T'.2.2.2 6 = q_lI l ∧ T'.2.2.2 7 = nI s
/-- behind a move: v is q_mv -/
def q_Fin (T T' : x_T) (v : (Nat → Nat) × Nat × Nat × Option Nat) (π : Nat → Nat) (tu : Nat) : Prop := T'.1 = T.1 ∧ T'.2.1 = (fun i => nI (q_b1 v.1 (π tu) v.2.2.2 i)) ∧ T'.2.2.1 = (fun i => nI (q_p1 v.1 π tu v.2.2.2 i)) ∧ T'.2.2.2 0 = T.2.2.2 0 ∧ T'.2.2.2 1 = T.2.2.2 1 ∧ T'.2.2.2 2 = T.2.2.2 2 ∧ T'.2.2.2 3 = nI (1 - tu) ∧ T'.2.2.2 4 = T.2.2.2 4 + 1 ∧ T'.2.2.2 5 = nI v.2.1 ∧ T'.2.2.2 6 = q_lI v.2.2.2 ∧ T'.2.2.2 7 = nI v.2.2.1 ∧ T'.2.2.2 8 = (if q_tk1 v.1 (π tu) v.2.2.2 = true then 1 else 0)
section MAKE
variable {E : x_E} {z : Nat} {f : x_H} {t : Nat} {T : x_T} {post : Option Value → x_H → Prop} {n fu ln b tu : Nat} {κ β π : Nat → Nat} {l : Option Nat}
theorem w_mvL {b0 : Nat} (hn : T.2.2.2 0 = nI n) (hn9 : n ≤ 9) (hfu : T.2.2.2 1 = nI fu) (hfu9 : fu < 2 ^ 20) (hln : T.2.2.2 2 = nI ln) (hln9 : ln < 2 ^ 31) (hκ : T.1 = fun i => nI (κ i)) (hκ5 : ∀ i, κ i ≤ 5) (vf : (Nat → Nat) × Nat × Nat × Option Nat)
    (K : ∀ (g : x_H) (Tg : x_T) (v2 v3 : Int32), x_t z g t Tg → q_V T Tg vf.1 vf.2.1 vf.2.2.1 vf.2.2.2 → x_fr (x_ot t) f g → X E (x_rm 4 0 0) mX3_makeMove (x_QM E z 0 0 post) 80 [(2, .int v2), (3, .int v3), (0, .ref t), (1, .int (nI b0))] [] z g 0 0) :
    ∀ (k : Nat) (β : Nat → Nat) (b hs s : Nat) (l : Option Nat) (g : x_H) (Tg : x_T), hs + k = 60 → s ≤ 100 * hs → b < n → (∀ i, β i ≤ 100) → (∀ p, l = some p → p < n) → q_hands κ n fu ln k β b hs s l = vf → x_t z g t Tg → q_V T Tg β hs s l → x_fr (x_ot t) f g → X E (x_rm 4 0 0) mX3_makeMove (x_QM E z 0 0 post) 24 [(2, .int (nI b)), (3, .int 1), (0, .ref t), (1, .int (nI b0))] [] z g 0 0 := by
  intro k
  induction k with
  | zero =>
    intro β b hs s l g Tg hk hs2 hb hβ hl hv hT hV hF
    have hs60 : hs = 60 := by omega
    subst hs60
    have hv0 : (β, 60, s, l) = vf := hv
    subst hv0
    refine x_iload_n (pc' := 25) rfl rfl rfl ?_
    refine x_if_eq (tgt := 80) (pc' := 28) rfl rfl rfl (fun c25 => absurd c25 ((by decide))) (fun _ => ?_)
    refine x_aload_n (pc' := 29) rfl rfl rfl ?_
    refine x_get (pc' := 32) rfl rfl rfl (hT.1) rfl ?_
    refine x_eqi hV.2.2.2.2.1 ?_
    refine x_bipush (pc' := 34) rfl rfl bipush_60 ?_
    refine x_icmp_ge (tgt := 80) (pc' := 37) rfl rfl rfl (fun _ => ?_) (fun c34 => absurd ((by decide : (60 : Int32) ≤ nI 60)) c34)
    exact K g Tg _ _ hT hV hF
  | succ k ih =>
    intro β b hs s l g Tg hk hs2 hb hβ hl hv hT hV hF
    obtain ⟨r1, r2, r3, r4, r5, r6, r7⟩ := id hV
    have hn' : Tg.2.2.2 0 = nI n := (r4 0 (by decide) (by decide) (by decide)).trans hn
    have hfu' : Tg.2.2.2 1 = nI fu := (r4 1 (by decide) (by decide) (by decide)).trans hfu
    have hln' : Tg.2.2.2 2 = nI ln := (r4 2 (by decide) (by decide) (by decide)).trans hln
    have hκ' : Tg.1 = fun i => nI (κ i) := r1.trans hκ
    have hle := q_hand_le (κ := κ) (n := n) (fu := fu) (ln := ln) (b := b) (l := l) (C := 100) (by decide) hβ
    have hla := q_hand_l (κ := κ) (fu := fu) (ln := ln) hb hβ hl
    have eq1 : q_hands κ n fu ln (k + 1) β b hs s l = (if 0 < (q_hand κ n fu ln β b l).2.1 ∧ q_full κ (q_hand κ n fu ln β b l).1 fu ((q_hand κ n fu ln β b l).2.2.getD 0) then q_hands κ n fu ln k (q_hand κ n fu ln β b l).1 ((q_hand κ n fu ln β b l).2.2.getD 0) (hs + 1) (s + (q_hand κ n fu ln β b l).2.1) (q_hand κ n fu ln β b l).2.2 else ((q_hand κ n fu ln β b l).1, hs + 1, s + (q_hand κ n fu ln β b l).2.1, (q_hand κ n fu ln β b l).2.2)) := rfl
    rw [eq1] at hv
    refine x_iload_n (pc' := 25) rfl rfl rfl ?_
    refine x_if_eq (tgt := 80) (pc' := 28) rfl rfl rfl (fun c25 => absurd c25 ((by decide))) (fun _ => ?_)
    refine x_aload_n (pc' := 29) rfl rfl rfl ?_
    refine x_get (pc' := 32) rfl rfl rfl (hT.1) rfl ?_
    refine x_eqi r5 ?_
    refine x_bipush (pc' := 34) rfl rfl bipush_60 ?_
    refine x_icmp_ge (tgt := 80) (pc' := 37) rfl rfl rfl (fun c34 => absurd c34 (nI_ge (a := hs) (b := 60) (by omega) (by decide))) (fun _ => ?_)
    refine x_aload_n (pc' := 38) rfl rfl rfl ?_
    refine x_dup (pc' := 39) rfl rfl rfl ?_
    refine x_get (pc' := 42) rfl rfl rfl (hT.1) rfl ?_
    refine x_eqi r5 ?_
    refine x_iconst (pc' := 43) rfl rfl iconst_1 ?_
    refine x_iadd (pc' := 44) rfl rfl ?_
    refine x_eqi (nI_1 _) ?_
    refine x_put (pc' := 47) rfl rfl rfl (hT.1) (Nat.le_of_ble_eq_true rfl) rfl rfl rfl rfl (fun f1 e1 => ?_)
    have hT1 := hT.num 5 e1 (x_tFs5 _ _ _)
    have hF1 := hF.up e1 (x_ot_in (by omega) (by omega))
    refine x_aload_n (pc' := 48) rfl rfl rfl ?_
    refine x_iload_n (pc' := 49) rfl rfl rfl ?_
    refine x_cV1i (d := 3) (pc' := 52) rfl rfl sX3_73 gX3_sowHand (hT1.1) ⟨Nat.le_of_ble_eq_true rfl, Nat.le_of_ble_eq_true rfl⟩ (Nat.le_of_ble_eq_true rfl) ⟨Nat.le_of_ble_eq_true rfl, Nat.le_of_ble_eq_true rfl⟩ ?_
    refine w_sowHand (T := (Tg.1, Tg.2.1, Tg.2.2.1, upd Tg.2.2.2 5 (nI (hs + 1)))) (s0 := s) hT1 hn' hn9 hfu' hfu9 hln' hln9 hκ' hκ5 r2 hβ hb r6 hl r7 (by omega) (fun f2 T2 hT2 hR2 hF2 => ⟨_, rfl, ?_⟩)
    generalize hr : q_hand κ n fu ln β b l = r at *
    obtain ⟨u1, u2, u3, u4, u5, u6⟩ := hR2
    have hF3 := hF1.trans hF2
    have hn2 : T2.2.2.2 0 = nI n := (u4 0 (by decide) (by decide)).trans hn'
    have hfu2 : T2.2.2.2 1 = nI fu := (u4 1 (by decide) (by decide)).trans hfu'
    have hV2 : q_V T T2 r.1 (hs + 1) (s + r.2.1) r.2.2 := ⟨u1.trans r1, u2, u3.trans r3, fun j a1 a2 a3 => (u4 j a2 a3).trans ((pk_un a1).trans (r4 j a1 a2 a3)), u4 5 (by decide) (by decide), u5, u6⟩
    by_cases d1 : 0 < r.2.1
    · rw [if_pos d1]
      obtain ⟨p, hp, hpn⟩ := hla.2 d1
      have hgd : r.2.2.getD 0 = p := by rw [hp]; rfl
      rw [hgd] at hv
      have e6 : T2.2.2.2 6 = nI p := by rw [u5, hp]; rfl
      refine x_if_eq (tgt := 70) (pc' := 55) rfl rfl rfl (fun q => absurd q (by decide)) (fun _ => ?_)
      refine x_aload_n (pc' := 56) rfl rfl rfl ?_
      refine x_aload_n (pc' := 57) rfl rfl rfl ?_
      refine x_get (pc' := 60) rfl rfl rfl (hT2.1) rfl ?_
      refine x_eqi e6 ?_
      refine x_cV1i (d := 3) (pc' := 63) rfl rfl sX3_76 gX3_isFull (hT2.1) ⟨Nat.le_of_ble_eq_true rfl, Nat.le_of_ble_eq_true rfl⟩ (Nat.le_of_ble_eq_true rfl) ⟨Nat.le_of_ble_eq_true rfl, Nat.le_of_ble_eq_true rfl⟩ ?_
      refine w_isFull hT2 hn2 hn9 hfu2 hfu9 (u1.trans hκ') u2 hκ5 hle.1 hpn (fun d2 => ⟨_, rfl, ?_⟩) (fun d2 => ⟨_, rfl, ?_⟩)
      · rw [if_pos ⟨d1, d2⟩] at hv
        refine x_if_eq (tgt := 70) (pc' := 66) rfl rfl rfl (fun c63 => absurd c63 ((by decide))) (fun _ => ?_)
        refine x_iconst (pc' := 67) rfl rfl iconst_1 ?_
        refine x_goto (tgt := 71) rfl rfl ?_
        refine x_istore_n (pc' := 72) (lv' := [(3, _), (2, _), (0, _), (1, _)]) rfl rfl (Nat.le_of_ble_eq_true rfl) rfl ?_
        refine x_aload_n (pc' := 73) rfl rfl rfl ?_
        refine x_get (pc' := 76) rfl rfl rfl (hT2.1) rfl ?_
        refine x_eqi e6 ?_
        refine x_istore_n (pc' := 77) (lv' := [(2, _), (3, _), (0, _), (1, _)]) rfl rfl (Nat.le_of_ble_eq_true rfl) rfl ?_
        refine x_goto (tgt := 24) rfl rfl ?_
        exact ih _ _ _ _ _ _ _ (by omega) (by omega) hpn hle.1 hla.1 hv hT2 hV2 hF3
      · rw [if_neg (fun q => d2 q.2)] at hv
        subst hv
        refine x_if_eq (tgt := 70) (pc' := 66) rfl rfl rfl (fun _ => ?_) (fun c63 => absurd ((by decide)) c63)
        refine x_iconst (pc' := 71) rfl rfl iconst_0 ?_
        refine x_istore_n (pc' := 72) (lv' := [(3, _), (2, _), (0, _), (1, _)]) rfl rfl (Nat.le_of_ble_eq_true rfl) rfl ?_
        refine x_aload_n (pc' := 73) rfl rfl rfl ?_
        refine x_get (pc' := 76) rfl rfl rfl (hT2.1) rfl ?_
        refine x_istore_n (pc' := 77) (lv' := [(2, _), (3, _), (0, _), (1, _)]) rfl rfl (Nat.le_of_ble_eq_true rfl) rfl ?_
        refine x_goto (tgt := 24) rfl rfl ?_
        refine x_iload_n (pc' := 25) rfl rfl rfl ?_
        refine x_if_eq (tgt := 80) (pc' := 28) rfl rfl rfl (fun _ => ?_) (fun c25 => absurd ((by decide)) c25)
        exact K _ _ _ _ hT2 hV2 hF3
    · rw [if_neg d1]
      rw [if_neg (fun q => d1 q.1)] at hv
      subst hv
      refine x_if_eq (tgt := 70) (pc' := 55) rfl rfl rfl (fun _ => ?_) (fun q => absurd (by decide) q)
      refine x_iconst (pc' := 71) rfl rfl iconst_0 ?_
      refine x_istore_n (pc' := 72) (lv' := [(3, _), (2, _), (0, _), (1, _)]) rfl rfl (Nat.le_of_ble_eq_true rfl) rfl ?_
      refine x_aload_n (pc' := 73) rfl rfl rfl ?_
      refine x_get (pc' := 76) rfl rfl rfl (hT2.1) rfl ?_
      refine x_istore_n (pc' := 77) (lv' := [(2, _), (3, _), (0, _), (1, _)]) rfl rfl (Nat.le_of_ble_eq_true rfl) rfl ?_
      refine x_goto (tgt := 24) rfl rfl ?_
      refine x_iload_n (pc' := 25) rfl rfl rfl ?_
      refine x_if_eq (tgt := 80) (pc' := 28) rfl rfl rfl (fun _ => ?_) (fun c25 => absurd ((by decide)) c25)
      exact K _ _ _ _ hT2 hV2 hF3
theorem w_makeMove (hT : x_t z f t T) (hn : T.2.2.2 0 = nI n) (hn9 : n ≤ 9) (hfu : T.2.2.2 1 = nI fu) (hfu9 : fu < 2 ^ 20) (hln : T.2.2.2 2 = nI ln) (hln9 : ln < 2 ^ 31) (hκ : T.1 = fun i => nI (κ i)) (hκ5 : ∀ i, κ i ≤ 5) (hβ : T.2.1 = fun i => nI (β i)) (hβ5 : ∀ i, β i ≤ 100) (hb : b < n) (htu : T.2.2.2 3 = nI tu) (htu1 : tu ≤ 1) (hπ : T.2.2.1 = fun i => nI (π i)) (hπ5 : ∀ i, π i < 2 ^ 30)
    (h : ∀ (f' : x_H) (T' : x_T), x_t z f' t T' → q_Fin T T' (q_mv κ n fu ln β b) π tu → x_fr (x_ot t) f f' → post none f') : Y E 4 mX3_makeMove [.ref t, .int (nI b)] z f 0 0 post := by
  refine Y.intro gX3_makeMove (lv := [(0, .ref t), (1, .int (nI b))]) rfl (Nat.le_of_ble_eq_true rfl) ?_
  have hcl : (nI b).toNatClampNeg = b := nI_clamp (by omega)
  have hbb := hβ5 b
  have hK : ∀ (g : x_H) (Tg : x_T) (v2 v3 : Int32), x_t z g t Tg → q_V T Tg (q_mv κ n fu ln β b).1 (q_mv κ n fu ln β b).2.1 (q_mv κ n fu ln β b).2.2.1 (q_mv κ n fu ln β b).2.2.2 → x_fr (x_ot t) f g → X E (x_rm 4 0 0) mX3_makeMove (x_QM E z 0 0 post) 80 [(2, .int v2), (3, .int v3), (0, .ref t), (1, .int (nI b))] [] z g 0 0 := by
    intro g Tg v2 v3 hTg hVg hFg
    have hok : (∀ i, (q_mv κ n fu ln β b).1 i ≤ 100) ∧ (∀ p, (q_mv κ n fu ln β b).2.2.2 = some p → p < n) := by
      unfold q_mv
      split
      · exact q_hands_ok (by decide) (by decide) 60 β b 0 0 none hb hβ5 (fun p hp => by cases hp)
      · exact ⟨hβ5, fun p hp => by cases hp⟩
    generalize q_mv κ n fu ln β b = v at *
    obtain ⟨r1, r2, r3, r4, r5, r6, r7⟩ := id hVg
    have hn' : Tg.2.2.2 0 = nI n := (r4 0 (by decide) (by decide) (by decide)).trans hn
    have htu' : Tg.2.2.2 3 = nI tu := (r4 3 (by decide) (by decide) (by decide)).trans htu
    refine x_aload_n (pc' := 81) rfl rfl rfl ?_
    refine x_aload_n (pc' := 82) rfl rfl rfl ?_
    refine x_cV0i (d := 3) (pc' := 85) rfl rfl sX3_79 gX3_takeSingle (hTg.1) ⟨Nat.le_of_ble_eq_true rfl, Nat.le_of_ble_eq_true rfl⟩ (Nat.le_of_ble_eq_true rfl) ⟨Nat.le_of_ble_eq_true rfl, Nat.le_of_ble_eq_true rfl⟩ ?_
    refine w_takeSingle hTg hn' hn9 r2 hok.1 r6 hok.2 htu' htu1 (r3.trans hπ) hπ5 (fun f1 hT1 hF1 => ⟨_, rfl, ?_⟩)
    by_cases d1 : q_tk1 v.1 (π tu) v.2.2.2 = true
    · rw [if_pos d1]
      refine x_if_eq (tgt := 92) (pc' := 88) rfl rfl rfl (fun q => absurd q (by decide)) (fun _ => ?_)
      refine x_iconst (pc' := 89) rfl rfl iconst_1 ?_
      refine x_goto (tgt := 93) rfl rfl ?_
      refine x_put (pc' := 96) rfl rfl rfl (hT1.1) (Nat.le_of_ble_eq_true rfl) rfl rfl rfl rfl (fun f1 e1 => ?_)
      have hT2 := hT1.num 8 e1 (x_tFs8 _ _ _)
      have hF2 := hF1.up e1 (x_ot_in (by omega) (by omega))
      refine x_aload_n (pc' := 97) rfl rfl rfl ?_
      refine x_iconst (pc' := 98) rfl rfl iconst_1 ?_
      refine x_aload_n (pc' := 99) rfl rfl rfl ?_
      refine x_get (pc' := 102) rfl rfl rfl (hT2.1) rfl ?_
      refine x_eqi htu' ?_
      refine x_isub (pc' := 103) rfl rfl ?_
      refine x_eqi (show (1 : Int32) - nI tu = nI (1 - tu) from pk_sub (a := 1) (b := tu) htu1) ?_
      refine x_put (pc' := 106) rfl rfl rfl (hT2.1) (Nat.le_of_ble_eq_true rfl) rfl rfl rfl rfl (fun f2 e2 => ?_)
      have hT3 := hT2.num 3 e2 (x_tFs3 _ _ _)
      have hF3 := hF2.up e2 (x_ot_in (by omega) (by omega))
      refine x_aload_n (pc' := 107) rfl rfl rfl ?_
      refine x_dup (pc' := 108) rfl rfl rfl ?_
      refine x_get (pc' := 111) rfl rfl rfl (hT3.1) rfl ?_
      refine x_iconst (pc' := 112) rfl rfl iconst_1 ?_
      refine x_iadd (pc' := 113) rfl rfl ?_
      refine x_put (pc' := 116) rfl rfl rfl (hT3.1) (Nat.le_of_ble_eq_true rfl) rfl rfl rfl rfl (fun f3 e3 => ?_)
      have hT4 := hT3.num 4 e3 (x_tFs4 _ _ _)
      have hF4 := hF3.up e3 (x_ot_in (by omega) (by omega))
      exact x_return rfl rfl (Nat.le_of_ble_eq_true rfl) (Nat.le_of_ble_eq_true rfl) (h _ _ hT4 ⟨r1, rfl, rfl, r4 0 (by decide) (by decide) (by decide), r4 1 (by decide) (by decide) (by decide), r4 2 (by decide) (by decide) (by decide), rfl, congrArg (· + 1) (r4 4 (by decide) (by decide) (by decide)), r5, r6, r7, (if_pos d1).symm⟩ (hFg.trans hF4))
    · rw [if_neg d1]
      refine x_if_eq (tgt := 92) (pc' := 88) rfl rfl rfl (fun _ => ?_) (fun q => absurd (by decide) q)
      refine x_iconst (pc' := 93) rfl rfl iconst_0 ?_
      refine x_put (pc' := 96) rfl rfl rfl (hT1.1) (Nat.le_of_ble_eq_true rfl) rfl rfl rfl rfl (fun f4 e4 => ?_)
      have hT2 := hT1.num 8 e4 (x_tFs8 _ _ _)
      have hF2 := hF1.up e4 (x_ot_in (by omega) (by omega))
      refine x_aload_n (pc' := 97) rfl rfl rfl ?_
      refine x_iconst (pc' := 98) rfl rfl iconst_1 ?_
      refine x_aload_n (pc' := 99) rfl rfl rfl ?_
      refine x_get (pc' := 102) rfl rfl rfl (hT2.1) rfl ?_
      refine x_eqi htu' ?_
      refine x_isub (pc' := 103) rfl rfl ?_
      refine x_eqi (show (1 : Int32) - nI tu = nI (1 - tu) from pk_sub (a := 1) (b := tu) htu1) ?_
      refine x_put (pc' := 106) rfl rfl rfl (hT2.1) (Nat.le_of_ble_eq_true rfl) rfl rfl rfl rfl (fun f5 e5 => ?_)
      have hT3 := hT2.num 3 e5 (x_tFs3 _ _ _)
      have hF3 := hF2.up e5 (x_ot_in (by omega) (by omega))
      refine x_aload_n (pc' := 107) rfl rfl rfl ?_
      refine x_dup (pc' := 108) rfl rfl rfl ?_
      refine x_get (pc' := 111) rfl rfl rfl (hT3.1) rfl ?_
      refine x_iconst (pc' := 112) rfl rfl iconst_1 ?_
      refine x_iadd (pc' := 113) rfl rfl ?_
      refine x_put (pc' := 116) rfl rfl rfl (hT3.1) (Nat.le_of_ble_eq_true rfl) rfl rfl rfl rfl (fun f6 e6 => ?_)
      have hT4 := hT3.num 4 e6 (x_tFs4 _ _ _)
      have hF4 := hF3.up e6 (x_ot_in (by omega) (by omega))
      exact x_return rfl rfl (Nat.le_of_ble_eq_true rfl) (Nat.le_of_ble_eq_true rfl) (h _ _ hT4 ⟨r1, rfl, rfl, r4 0 (by decide) (by decide) (by decide), r4 1 (by decide) (by decide) (by decide), r4 2 (by decide) (by decide) (by decide), rfl, congrArg (· + 1) (r4 4 (by decide) (by decide) (by decide)), r5, r6, r7, (if_neg d1).symm⟩ (hFg.trans hF4))
  refine x_aload_n (pc' := 1) rfl rfl rfl ?_
  refine x_iconst (pc' := 2) rfl rfl iconst_0 ?_
  refine x_put (pc' := 5) rfl rfl rfl (hT.1) (Nat.le_of_ble_eq_true rfl) rfl rfl rfl rfl (fun f1 e1 => ?_)
  have hT1 := hT.num 5 e1 (x_tFs5 _ _ _)
  have hF1 := (x_fr.rf (P := x_ot t)).up e1 (x_ot_in (by omega) (by omega))
  refine x_aload_n (pc' := 6) rfl rfl rfl ?_
  refine x_bipush (pc' := 8) rfl rfl bipush_m9 ?_
  refine x_put (pc' := 11) rfl rfl rfl (hT1.1) (Nat.le_of_ble_eq_true rfl) rfl rfl rfl rfl (fun f2 e2 => ?_)
  have hT2 := hT1.num 6 e2 (x_tFs6 _ _ _)
  have hF2 := hF1.up e2 (x_ot_in (by omega) (by omega))
  refine x_aload_n (pc' := 12) rfl rfl rfl ?_
  refine x_iconst (pc' := 13) rfl rfl iconst_0 ?_
  refine x_put (pc' := 16) rfl rfl rfl (hT2.1) (Nat.le_of_ble_eq_true rfl) rfl rfl rfl rfl (fun f3 e3 => ?_)
  have hT3 := hT2.num 7 e3 (x_tFs7 _ _ _)
  have hF3 := hF2.up e3 (x_ot_in (by omega) (by omega))
  refine x_iload_n (pc' := 17) rfl rfl rfl ?_
  refine x_istore_n (pc' := 18) (lv' := [(2, _), (0, _), (1, _)]) rfl rfl (Nat.le_of_ble_eq_true rfl) rfl ?_
  refine x_aload_n (pc' := 19) rfl rfl rfl ?_
  refine x_iload_n (pc' := 20) rfl rfl rfl ?_
  refine x_cV1i (d := 2) (pc' := 23) rfl rfl sX3_70 gX3_canMove (hT3.1) ⟨Nat.le_of_ble_eq_true rfl, Nat.le_of_ble_eq_true rfl⟩ (Nat.le_of_ble_eq_true rfl) ⟨Nat.le_of_ble_eq_true rfl, Nat.le_of_ble_eq_true rfl⟩ ?_
  have hV3 : q_V T (T.1, T.2.1, T.2.2.1, upd (upd (upd T.2.2.2 5 0) 6 (-9)) 7 0) β 0 0 none := ⟨rfl, hβ, rfl, fun j a1 a2 a3 => (pk_un a3).trans ((pk_un a2).trans (pk_un a1)), rfl, rfl, rfl⟩
  refine w_canMove hT3 (fun d => ⟨_, rfl, ?_⟩) (fun d => ⟨_, rfl, ?_⟩)
  · have d2 : 2 ≤ n := Nat.not_lt.mp (fun q => nI_ge (a := n) (b := 2) q (by decide) (by have h2 : (2 : Int32) ≤ T.2.2.2 0 := d.1; rw [hn] at h2; exact h2))
    have d3 : 0 < β b := Nat.pos_of_ne_zero (fun q => by have h2 : (0 : Int32) < T.2.1 (nI b).toNatClampNeg := d.2.2; rw [show T.2.1 (nI b).toNatClampNeg = nI (β b) from by rw [hcl, hβ], q] at h2; exact absurd h2 (by decide))
    have em : q_mv κ n fu ln β b = q_hands κ n fu ln 60 β b 0 0 none := by unfold q_mv; rw [if_pos ⟨d2, d3⟩]
    refine x_istore_n (pc' := 24) (lv' := [(3, _), (2, _), (0, _), (1, _)]) rfl rfl (Nat.le_of_ble_eq_true rfl) rfl ?_
    refine x_lvp [1, 0, 2, 3] rfl ?_
    exact w_mvL (T := T) (f := f) hn hn9 hfu hfu9 hln hln9 hκ hκ5 _ hK 60 β b 0 0 none _ _ rfl (by omega) hb hβ5 (fun p hp => by cases hp) em.symm hT3 hV3 hF3
  · have em : q_mv κ n fu ln β b = (β, 0, 0, none) := by
      unfold q_mv
      rw [if_neg]
      intro q
      refine d ⟨?_, t_has_nI hn hn9 hb, ?_⟩
      · show (2 : Int32) ≤ T.2.2.2 0
        rw [hn]
        exact nI_le (a := 2) (b := n) q.1 (by omega)
      · show (0 : Int32) < T.2.1 (nI b).toNatClampNeg
        rw [hcl, hβ]
        exact nI_lt (a := 0) (b := β b) q.2 (by omega)
    refine x_istore_n (pc' := 24) (lv' := [(3, _), (2, _), (0, _), (1, _)]) rfl rfl (Nat.le_of_ble_eq_true rfl) rfl ?_
    refine x_iload_n (pc' := 25) rfl rfl rfl ?_
    refine x_if_eq (tgt := 80) (pc' := 28) rfl rfl rfl (fun _ => ?_) (fun c25 => absurd ((by decide)) c25)
    refine x_lvp [1, 0, 2, 3] rfl ?_
    refine hK _ _ _ _ hT3 ?_ hF3
    rw [em]
    exact hV3
end MAKE
end
section
/-! The reference makes a move. -/
theorem q_N.trans {M M1 M2 : x_N} {β β' : Nat → Nat} {l l' : Option Nat} (h1 : q_N M M1 β l) (h2 : q_N M1 M2 β' l') : q_N M M2 β' l' := ⟨h2.1, fun j hj => (h2.2.1 j hj).trans (h1.2.1 j hj), h2.2.2.1.trans h1.2.2.1, fun i a b c => (h2.2.2.2.1 i a b c).trans (h1.2.2.2.1 i a b c), h2.2.2.2.2⟩
theorem nI_iff_lt {a b : Nat} (ha : a < 2 ^ 31) (hb : b < 2 ^ 31) : nI a < nI b ↔ a < b := nI_ltI ha hb
section MSOWS
variable {E : x_E} {z : Nat} {f : x_H} {M : x_N} {post : Option Value → x_H → Prop} {n fu ln b tu : Nat} {κ β π : Nat → Nat} {l : Option Nat}
theorem m_swL {b0 : Nat} (hn : M.1 3 = nI n) (hn9 : n ≤ 9) (hfu : M.1 4 = nI fu) (hfu9 : fu < 2 ^ 20) (hln : M.1 5 = nI ln) (hln9 : ln < 2 ^ 31) (hκ : M.2.1 0 = fun i => nI (κ i)) (hκ5 : ∀ i, κ i ≤ 5) (vf : (Nat → Nat) × Nat × Nat × Option Nat)
    (K : ∀ (g : x_H) (Mg : x_N) (v2 : Int32), x_Mdl z g Mg → q_N M Mg vf.1 vf.2.2.2 → Mg.1 14 = nI vf.2.1 → Mg.1 16 = nI vf.2.2.1 → x_fr (fun q => q < 59) f g → X E (x_rm 3 0 0) mX6_sows (x_QM E z 0 0 post) 77 [(2, .int v2), (0, .ref 59), (1, .int (nI b0))] [] z g 0 0) :
    ∀ (k : Nat) (β : Nat → Nat) (hs s sown : Nat) (l : Option Nat) (g : x_H) (Mg : x_N), hs + k = 60 → s ≤ 100 * hs → sown ≤ 100 → (0 < sown → ∃ p, l = some p ∧ p < n) → (∀ i, β i ≤ 100) → (∀ p, l = some p → p < n) → (if 0 < sown ∧ q_full κ β fu (l.getD 0) then q_hands κ n fu ln k β (l.getD 0) hs s l else (β, hs, s, l)) = vf → x_Mdl z g Mg → q_N M Mg β l → Mg.1 14 = nI hs → Mg.1 16 = nI s → x_fr (fun q => q < 59) f g → X E (x_rm 3 0 0) mX6_sows (x_QM E z 0 0 post) 27 [(2, .int (nI sown)), (0, .ref 59), (1, .int (nI b0))] [] z g 0 0 := by
  intro k
  induction k with
  | zero =>
    intro β hs s sown l g Mg hk hs2 hsn hp hβ hl hv hM hN h14 h16 hF
    have hs60 : hs = 60 := by omega
    subst hs60
    have hv0 : (β, 60, s, l) = vf := by
      rw [← hv]
      split <;> rfl
    subst hv0
    by_cases d1 : 0 < sown
    ·
      refine x_iload_n (pc' := 28) rfl rfl rfl ?_
      refine x_if_le (tgt := 77) (pc' := 31) rfl rfl rfl (fun c28 => absurd c28 (Int32.not_le.mpr (nI_lt (a := 0) (b := sown) d1 (by omega)))) (fun _ => ?_)
      refine x_aload_n (pc' := 32) rfl rfl rfl ?_
      refine x_get (pc' := 35) rfl rfl rfl (hM.1) rfl ?_
      refine x_eqi h14 ?_
      refine x_bipush (pc' := 37) rfl rfl bipush_60 ?_
      refine x_icmp_ge (tgt := 77) (pc' := 40) rfl rfl rfl (fun _ => ?_) (fun c37 => absurd ((by decide : (60 : Int32) ≤ nI 60)) c37)
      exact K g Mg _ hM hN h14 h16 hF
    · have h0 : sown = 0 := by omega
      subst h0
      refine x_iload_n (pc' := 28) rfl rfl rfl ?_
      refine x_if_le (tgt := 77) (pc' := 31) rfl rfl rfl (fun _ => ?_) (fun c28 => absurd ((by decide : nI 0 ≤ 0)) c28)
      exact K g Mg _ hM hN h14 h16 hF
  | succ k ih =>
    intro β hs s sown l g Mg hk hs2 hsn hp hβ hl hv hM hN h14 h16 hF
    obtain ⟨r1, r2, r3, r4, r5⟩ := id hN
    have hn' : Mg.1 3 = nI n := (r4 3 (by decide) (by decide) (by decide)).trans hn
    have hfu' : Mg.1 4 = nI fu := (r4 4 (by decide) (by decide) (by decide)).trans hfu
    have hln' : Mg.1 5 = nI ln := (r4 5 (by decide) (by decide) (by decide)).trans hln
    have hκ' : Mg.2.1 0 = fun i => nI (κ i) := (r2 0 (by decide)).trans hκ
    by_cases d1 : 0 < sown
    · obtain ⟨p, hpe, hpn⟩ := hp d1
      have hgd : l.getD 0 = p := by rw [hpe]; rfl
      rw [hgd] at hv
      have e15 : Mg.1 15 = nI p := by rw [r5, hpe]; rfl
      have hcl : (nI p).toNatClampNeg = p := nI_clamp (by omega)
      have hv9 : vp_in (nI p) 9 := vp_in_nI (by omega) (by decide)
      have eβ : Mg.2.1 1 (nI p).toNatClampNeg = nI (β p) := by rw [hcl, r1]
      have eκ : Mg.2.1 0 (nI p).toNatClampNeg = nI (κ p) := by rw [hcl, hκ']
      have b1 := hβ p
      have b2 := hκ5 p
      have hqf : q_from (κ p) fu < 2 ^ 31 := by
        unfold q_from
        repeat' split
        all_goals omega
      have hle := q_hand_le (κ := κ) (fu := fu) (n := n) (ln := ln) (b := p) (l := l) (C := 100) (by decide) hβ
      have hla := q_hand_l (κ := κ) (fu := fu) (ln := ln) hpn hβ hl
      refine x_iload_n (pc' := 28) rfl rfl rfl ?_
      refine x_if_le (tgt := 77) (pc' := 31) rfl rfl rfl (fun c28 => absurd c28 (Int32.not_le.mpr (nI_lt (a := 0) (b := sown) d1 (by omega)))) (fun _ => ?_)
      refine x_aload_n (pc' := 32) rfl rfl rfl ?_
      refine x_get (pc' := 35) rfl rfl rfl (hM.1) rfl ?_
      refine x_eqi h14 ?_
      refine x_bipush (pc' := 37) rfl rfl bipush_60 ?_
      refine x_icmp_ge (tgt := 77) (pc' := 40) rfl rfl rfl (fun c37 => absurd c37 (nI_ge (a := hs) (b := 60) (by omega) (by decide))) (fun _ => ?_)
      refine x_aload_n (pc' := 41) rfl rfl rfl ?_
      refine x_get (pc' := 44) rfl rfl rfl (hM.1) rfl ?_
      refine x_aload_n (pc' := 45) rfl rfl rfl ?_
      refine x_get (pc' := 48) rfl rfl rfl (hM.1) rfl ?_
      refine x_eqi e15 ?_
      refine x_iaload (pc' := 49) rfl rfl (hM.2.1 1 (by decide)) (hv9) ?_
      refine x_eqi eβ ?_
      refine x_aload_n (pc' := 50) rfl rfl rfl ?_
      refine x_aload_n (pc' := 51) rfl rfl rfl ?_
      refine x_get (pc' := 54) rfl rfl rfl (hM.1) rfl ?_
      refine x_aload_n (pc' := 55) rfl rfl rfl ?_
      refine x_get (pc' := 58) rfl rfl rfl (hM.1) rfl ?_
      refine x_eqi e15 ?_
      refine x_iaload (pc' := 59) rfl rfl (hM.2.1 0 (by decide)) (hv9) ?_
      refine x_eqi eκ ?_
      refine x_cV1i (d := 1) (pc' := 62) rfl rfl sX6_93 gX6_soundsFrom (hM.1) ⟨Nat.le_of_ble_eq_true rfl, Nat.le_of_ble_eq_true rfl⟩ (Nat.le_of_ble_eq_true rfl) ⟨Nat.le_of_ble_eq_true rfl, Nat.le_of_ble_eq_true rfl⟩ ?_
      refine m_sounds1 hM hfu' hfu9 b2 ⟨_, rfl, ?_⟩
      by_cases d2 : q_full κ β fu p
      · rw [if_pos ⟨d1, d2⟩] at hv
        rw [if_neg d2.1]
        refine x_icmp_lt (tgt := 77) (pc' := 65) rfl rfl rfl (fun q => absurd q (nI_nlt d2.2 (by omega))) (fun _ => ?_)
        refine x_aload_n (pc' := 66) rfl rfl rfl ?_
        refine x_aload_n (pc' := 67) rfl rfl rfl ?_
        refine x_get (pc' := 70) rfl rfl rfl (hM.1) rfl ?_
        refine x_eqi e15 ?_
        refine x_cV1i (d := 2) (pc' := 73) rfl rfl sX6_90 gX6_sowsHand (hM.1) ⟨Nat.le_of_ble_eq_true rfl, Nat.le_of_ble_eq_true rfl⟩ (Nat.le_of_ble_eq_true rfl) ⟨Nat.le_of_ble_eq_true rfl, Nat.le_of_ble_eq_true rfl⟩ ?_
        refine m_sowsHand hM hn' hn9 hfu' hfu9 hln' hln9 hκ' hκ5 r1 hβ hpn r5 hl h14 h16 (fun f2 M2 hM2 hN2 g14 g16 hF2 => ⟨_, rfl, ?_⟩)
        refine x_istore_n (pc' := 74) (lv' := [(2, _), (0, _), (1, _)]) rfl rfl (Nat.le_of_ble_eq_true rfl) rfl ?_
        refine x_goto (tgt := 27) rfl rfl ?_
        exact ih _ _ _ _ _ _ _ (by omega) (by have := hle.2; omega) hle.2 hla.2 hle.1 hla.1 hv hM2 (hN.trans hN2) g14 g16 (hF.trans hF2)
      · rw [if_neg (fun q => d2 q.2)] at hv
        subst hv
        refine x_icmp_lt (tgt := 77) (pc' := 65) rfl rfl rfl (fun _ => ?_) (fun q => absurd ?_ q)
        · exact K g Mg _ hM hN h14 h16 hF
        · by_cases d3 : κ p = 2
          · rw [if_pos d3]
            exact nI_lt (a := β p) (b := 1000) (by omega) (by decide)
          · rw [if_neg d3]
            exact nI_lt (Nat.not_le.mp (fun q => d2 ⟨d3, q⟩)) hqf
    · have h0 : sown = 0 := by omega
      subst h0
      rw [if_neg (fun q => d1 q.1)] at hv
      subst hv
      refine x_iload_n (pc' := 28) rfl rfl rfl ?_
      refine x_if_le (tgt := 77) (pc' := 31) rfl rfl rfl (fun _ => ?_) (fun c28 => absurd ((by decide : nI 0 ≤ 0)) c28)
      exact K g Mg _ hM hN h14 h16 hF
/-- what sows leaves: a is whether it is aside -/
def q_Fm (M M' : x_N) (v : (Nat → Nat) × Nat × Nat × Option Nat) (π : Nat → Nat) (tu : Nat) (a : Nat) : Prop :=
  M'.2.1 1 = (fun i => nI (q_b1 v.1 (if a = 1 then 0 else π tu) v.2.2.2 i)) ∧ M'.2.1 2 = (fun i => nI (if a = 1 then π i else q_p1 v.1 π tu v.2.2.2 i)) ∧ (∀ j, j ≠ 1 → j ≠ 2 → M'.2.1 j = M.2.1 j) ∧ M'.2.2 = M.2.2 ∧ (∀ i, i ≠ 14 → i ≠ 15 → i ≠ 16 → i ≠ 17 → M'.1 i = M.1 i) ∧ M'.1 14 = nI v.2.1 ∧ M'.1 15 = q_lI v.2.2.2 ∧ M'.1 16 = nI v.2.2.1 ∧ M'.1 17 = (if q_tk1 v.1 (if a = 1 then 0 else π tu) v.2.2.2 = true then 1 else 0)
theorem q_tk1_no {β : Nat → Nat} {pt : Nat} {l : Option Nat} (h : q_tk1 β pt l = false) : q_b1 β pt l = β := by
  unfold q_b1
  rw [h]
  rfl
theorem q_p1_no {β π : Nat → Nat} {tu : Nat} {l : Option Nat} (h : q_tk1 β (π tu) l = false) : q_p1 β π tu l = π := by
  unfold q_p1
  rw [h]
  rfl
theorem m_sows {a : Nat} (hM : x_Mdl z f M) (hn : M.1 3 = nI n) (hn9 : n ≤ 9) (hfu : M.1 4 = nI fu) (hfu9 : fu < 2 ^ 20) (hln : M.1 5 = nI ln) (hln9 : ln < 2 ^ 31) (hκ : M.2.1 0 = fun i => nI (κ i)) (hκ5 : ∀ i, κ i ≤ 5) (hβ : M.2.1 1 = fun i => nI (β i)) (hβ5 : ∀ i, β i ≤ 100) (hb : b < n) (h2n : 2 ≤ n) (hb0 : 0 < β b) (htu : M.1 7 = nI tu) (htu1 : tu ≤ 1) (hπ : M.2.1 2 = fun i => nI (π i)) (hπ5 : ∀ i, π i < 2 ^ 30) (ha : M.1 18 = nI a) (ha1 : a ≤ 1)
    (h : ∀ (f' : x_H) (M' : x_N), x_Mdl z f' M' → q_Fm M M' (q_mv κ n fu ln β b) π tu a → x_fr (fun q => q < 59) f f' → post none f') : Y E 3 mX6_sows [.ref 59, .int (nI b)] z f 0 0 post := by
  refine Y.intro gX6_sows (lv := [(0, .ref 59), (1, .int (nI b))]) rfl (Nat.le_of_ble_eq_true rfl) ?_
  have em : q_mv κ n fu ln β b = q_hands κ n fu ln 60 β b 0 0 none := by unfold q_mv; rw [if_pos ⟨h2n, hb0⟩]
  have hok := q_hands_ok (κ := κ) (n := n) (fu := fu) (ln := ln) (C := 100) (by decide) (by decide) 60 β b 0 0 none hb hβ5 (fun p hp => by cases hp)
  have hle := q_hand_le (κ := κ) (fu := fu) (n := n) (ln := ln) (b := b) (l := none) (C := 100) (by decide) hβ5
  have hla := q_hand_l (κ := κ) (fu := fu) (ln := ln) (l := none) hb hβ5 (fun p hp => by cases hp)
  have hv1 : q_hands κ n fu ln 60 β b 0 0 none = (if 0 < (q_hand κ n fu ln β b none).2.1 ∧ q_full κ (q_hand κ n fu ln β b none).1 fu ((q_hand κ n fu ln β b none).2.2.getD 0) then q_hands κ n fu ln 59 (q_hand κ n fu ln β b none).1 ((q_hand κ n fu ln β b none).2.2.getD 0) (0 + 1) (0 + (q_hand κ n fu ln β b none).2.1) (q_hand κ n fu ln β b none).2.2 else ((q_hand κ n fu ln β b none).1, 0 + 1, 0 + (q_hand κ n fu ln β b none).2.1, (q_hand κ n fu ln β b none).2.2)) := rfl
  rw [← em] at hok hv1
  generalize q_mv κ n fu ln β b = v at *
  have hclt : (nI tu).toNatClampNeg = tu := nI_clamp (by omega)
  have hvt : vp_in (nI tu) 2 := vp_in_nI (by omega) (by decide)
  have p1 := hπ5 tu
  refine x_aload_n (pc' := 1) rfl rfl rfl ?_
  refine x_iconst (pc' := 2) rfl rfl iconst_0 ?_
  refine x_put (pc' := 5) rfl rfl rfl (hM.1) (Nat.le_of_ble_eq_true rfl) rfl rfl rfl rfl (fun f1 e1 => ?_)
  have hM1 := hM.num 14 e1 (x_mFs14 _ _)
  have hF1 := (x_fr.rf (P := fun q => q < 59)).up e1 (by decide)
  refine x_aload_n (pc' := 6) rfl rfl rfl ?_
  refine x_bipush (pc' := 8) rfl rfl bipush_m9 ?_
  refine x_put (pc' := 11) rfl rfl rfl (hM1.1) (Nat.le_of_ble_eq_true rfl) rfl rfl rfl rfl (fun f2 e2 => ?_)
  have hM2 := hM1.num 15 e2 (x_mFs15 _ _)
  have hF2 := hF1.up e2 (by decide)
  refine x_aload_n (pc' := 12) rfl rfl rfl ?_
  refine x_iconst (pc' := 13) rfl rfl iconst_0 ?_
  refine x_put (pc' := 16) rfl rfl rfl (hM2.1) (Nat.le_of_ble_eq_true rfl) rfl rfl rfl rfl (fun f3 e3 => ?_)
  have hM3 := hM2.num 16 e3 (x_mFs16 _ _)
  have hF3 := hF2.up e3 (by decide)
  refine x_aload_n (pc' := 17) rfl rfl rfl ?_
  refine x_iconst (pc' := 18) rfl rfl iconst_0 ?_
  refine x_put (pc' := 21) rfl rfl rfl (hM3.1) (Nat.le_of_ble_eq_true rfl) rfl rfl rfl rfl (fun f4 e4 => ?_)
  have hM4 := hM3.num 17 e4 (x_mFs17 _ _)
  have hF4 := hF3.up e4 (by decide)
  refine x_aload_n (pc' := 22) rfl rfl rfl ?_
  refine x_iload_n (pc' := 23) rfl rfl rfl ?_
  refine x_cV1i (d := 2) (pc' := 26) rfl rfl sX6_90 gX6_sowsHand (hM4.1) ⟨Nat.le_of_ble_eq_true rfl, Nat.le_of_ble_eq_true rfl⟩ (Nat.le_of_ble_eq_true rfl) ⟨Nat.le_of_ble_eq_true rfl, Nat.le_of_ble_eq_true rfl⟩ ?_
  refine m_sowsHand (hs := 0) (s0 := 0) (l := none) hM4 hn hn9 hfu hfu9 hln hln9 hκ hκ5 hβ hβ5 hb rfl (fun p hp => by cases hp) rfl rfl (fun f5 M5 hM5 hN5 g14 g16 hF5 => ⟨_, rfl, ?_⟩)
  refine x_istore_n (pc' := 27) (lv' := [(2, _), (0, _), (1, _)]) rfl rfl (Nat.le_of_ble_eq_true rfl) rfl ?_
  refine x_lvp [0, 1, 2] rfl ?_
  refine m_swL (M := (upd (upd (upd (upd M.1 14 0) 15 (-9)) 16 0) 17 0, M.2.1, M.2.2)) (f := f) hn hn9 hfu hfu9 hln hln9 hκ hκ5 v ?_ 59 _ (0 + 1) (0 + (q_hand κ n fu ln β b none).2.1) _ _ f5 M5 rfl (by have := hle.2; omega) hle.2 hla.2 hle.1 hla.1 hv1.symm hM5 hN5 g14 g16 (hF4.trans hF5)
  intro g Mg v2 hMg hNg k14 k16 hFg
  obtain ⟨r1, r2, r3, r4, r5⟩ := id hNg
  have n18 : Mg.1 18 = nI a := (r4 18 (by decide) (by decide) (by decide)).trans ha
  have n7 : Mg.1 7 = nI tu := (r4 7 (by decide) (by decide) (by decide)).trans htu
  have n17 : Mg.1 17 = 0 := r4 17 (by decide) (by decide) (by decide)
  have eπ : Mg.2.1 2 = fun i => nI (π i) := (r2 2 (by decide)).trans hπ
  have eπt : Mg.2.1 2 (nI tu).toNatClampNeg = nI (π tu) := by rw [hclt, eπ]
  have hno : q_tk1 v.1 (if a = 1 then 0 else π tu) v.2.2.2 = false → post none g := by
    intro hq
    refine h g Mg hMg ⟨?_, ?_, fun j j1 j2 => r2 j j1, r3, fun i i1 i2 i3 i4 => ?_, k14, r5, k16, ?_⟩ hFg
    · rw [q_tk1_no hq]
      exact r1
    · rw [eπ]
      by_cases d : a = 1
      · simp only [if_pos d]
      · rw [if_neg d] at hq
        simp only [if_neg d]
        rw [q_p1_no hq]
    · refine (r4 i i1 i2 i3).trans ?_
      show upd (upd (upd (upd M.1 14 0) 15 (-9)) 16 0) 17 0 i = M.1 i
      rw [pk_un i4, pk_un i3, pk_un i2, pk_un i1]
    · rw [hq]
      exact n17
  rcases hlc : v.2.2.2 with _ | p
  · rw [hlc] at hno r5
    refine x_aload_n (pc' := 78) rfl rfl rfl ?_
    refine x_get (pc' := 81) rfl rfl rfl (hMg.1) rfl ?_
    refine x_eqi (show Mg.1 15 = -9 from r5) ?_
    refine x_bipush (pc' := 83) rfl rfl bipush_m9 ?_
    refine x_icmp_eq (tgt := 160) (pc' := 86) rfl rfl rfl (fun _ => ?_) (fun c83 => absurd (rfl) c83)
    exact x_return rfl rfl (Nat.le_of_ble_eq_true rfl) (Nat.le_of_ble_eq_true rfl) (hno rfl)
  · have hp := hok.2 p hlc
    have hcl : (nI p).toNatClampNeg = p := nI_clamp (by omega)
    have hv9 : vp_in (nI p) 9 := vp_in_nI (by omega) (by decide)
    have eβ : Mg.2.1 1 (nI p).toNatClampNeg = nI (v.1 p) := by rw [hcl, r1]
    have b1 := hok.1 p
    have e15 : Mg.1 15 = nI p := by rw [r5, hlc]; rfl
    have hyes : ∀ (f' : x_H) (M' : x_N), q_tk1 v.1 (if a = 1 then 0 else π tu) (some p) = true → x_Mdl z f' M' → M'.1 = upd Mg.1 17 1 → M'.2.1 = x_ua (x_ua Mg.2.1 1 (fun i => nI (q_up v.1 p 0 i))) 2 (upd (Mg.2.1 2) tu (nI (π tu) + (if a = 1 then 0 else 1))) → M'.2.2 = Mg.2.2 → x_fr (fun q => q < 59) g f' → post none f' := by
      intro f' M' hq hM' m1 m2 m3 hF'
      refine h f' M' hM' ⟨?_, ?_, fun j j1 j2 => ?_, m3.trans r3, fun i i1 i2 i3 i4 => ?_, ?_, ?_, ?_, ?_⟩ (hFg.trans hF')
      · rw [m2, hlc]
        unfold q_b1
        rw [hq]
        rfl
      · rw [m2, hlc]
        show upd (Mg.2.1 2) tu (nI (π tu) + (if a = 1 then 0 else 1)) = _
        rw [eπ]
        by_cases d : a = 1
        · simp only [if_pos d]
          rw [show nI (π tu) + 0 = nI (π tu) from Int32.add_zero _, q_up_I]
          funext i
          unfold q_up
          by_cases di : i = tu
          · rw [if_pos di, di]
          · rw [if_neg di]
        · simp only [if_neg d] at hq ⊢
          rw [nI_1, q_up_I]
          unfold q_p1
          rw [hq]
          rfl
      · rw [m2]
        show (if j = 2 then _ else if j = 1 then _ else Mg.2.1 j) = _
        rw [if_neg j2, if_neg j1]
        exact r2 j j1
      · rw [m1, pk_un i4]
        refine (r4 i i1 i2 i3).trans ?_
        show upd (upd (upd (upd M.1 14 0) 15 (-9)) 16 0) 17 0 i = M.1 i
        rw [pk_un i4, pk_un i3, pk_un i2, pk_un i1]
      · rw [m1, pk_un (by decide)]
        exact k14
      · rw [m1, pk_un (by decide)]
        exact r5
      · rw [m1, pk_un (by decide)]
        exact k16
      · rw [m1, hlc, hq, pk_us]
        rfl
    rw [hlc] at hno
    refine x_aload_n (pc' := 78) rfl rfl rfl ?_
    refine x_get (pc' := 81) rfl rfl rfl (hMg.1) rfl ?_
    refine x_eqi e15 ?_
    refine x_bipush (pc' := 83) rfl rfl bipush_m9 ?_
    refine x_icmp_eq (tgt := 160) (pc' := 86) rfl rfl rfl (fun c83 => absurd c83 ((fun q => nI_pos (n := p) (by omega) (by rw [q]; decide)))) (fun _ => ?_)
    refine x_aload_n (pc' := 87) rfl rfl rfl ?_
    refine x_get (pc' := 90) rfl rfl rfl (hMg.1) rfl ?_
    refine x_aload_n (pc' := 91) rfl rfl rfl ?_
    refine x_get (pc' := 94) rfl rfl rfl (hMg.1) rfl ?_
    refine x_eqi e15 ?_
    refine x_iaload (pc' := 95) rfl rfl (hMg.2.1 1 (by decide)) (hv9) ?_
    refine x_eqi eβ ?_
    refine x_iconst (pc' := 96) rfl rfl iconst_1 ?_
    by_cases d1 : v.1 p = 1
    · refine x_icmp_ne (tgt := 160) (pc' := 99) rfl rfl rfl (fun q => absurd (show nI (v.1 p) = 1 by rw [d1]; decide) q) (fun _ => ?_)
      refine x_aload_n (pc' := 100) rfl rfl rfl ?_
      refine x_get (pc' := 103) rfl rfl rfl (hMg.1) rfl ?_
      refine x_eqi n18 ?_
      by_cases d2 : a = 1
      · refine x_if_ne (tgt := 121) (pc' := 106) rfl rfl rfl (fun _ => ?_) (fun q => absurd (show nI a = 0 from q) (by rw [d2]; decide))
        have hq : q_tk1 v.1 (if a = 1 then 0 else π tu) (some p) = true := by simp [q_tk1, d1, d2]
        refine x_aload_n (pc' := 122) rfl rfl rfl ?_
        refine x_get (pc' := 125) rfl rfl rfl (hMg.1) rfl ?_
        refine x_aload_n (pc' := 126) rfl rfl rfl ?_
        refine x_get (pc' := 129) rfl rfl rfl (hMg.1) rfl ?_
        refine x_eqi e15 ?_
        refine x_iconst (pc' := 130) rfl rfl iconst_0 ?_
        refine x_iastore (pc' := 131) rfl rfl (hMg.2.1 1 (by decide)) (hv9) (fun f5 e5 => ?_)
        have hM6 := hMg.arr 1 (by decide) e5
        have hF6 := (x_fr.rf (P := fun q => q < 59)).up e5 (by decide)
        rw [hcl, r1, show (0 : Int32) = nI 0 from rfl, q_up_I] at hM6
        refine x_aload_n (pc' := 132) rfl rfl rfl ?_
        refine x_iconst (pc' := 133) rfl rfl iconst_1 ?_
        refine x_put (pc' := 136) rfl rfl rfl (hM6.1) (Nat.le_of_ble_eq_true rfl) rfl rfl rfl rfl (fun f6 e6 => ?_)
        have hM7 := hM6.num 17 e6 (x_mFs17 _ _)
        have hF7 := hF6.up e6 (by decide)
        refine x_aload_n (pc' := 137) rfl rfl rfl ?_
        refine x_get (pc' := 140) rfl rfl rfl (hM7.1) rfl ?_
        refine x_aload_n (pc' := 141) rfl rfl rfl ?_
        refine x_get (pc' := 144) rfl rfl rfl (hM7.1) rfl ?_
        refine x_eqi n7 ?_
        refine x_dup2 (pc' := 145) rfl rfl rfl rfl ?_
        refine x_iaload (pc' := 146) rfl rfl (hM7.2.1 2 (by decide)) (hvt) ?_
        refine x_eqi eπt ?_
        refine x_aload_n (pc' := 147) rfl rfl rfl ?_
        refine x_get (pc' := 150) rfl rfl rfl (hM7.1) rfl ?_
        refine x_eqi n18 ?_
        refine x_if_eq (tgt := 157) (pc' := 153) rfl rfl rfl (fun c150 => absurd c150 ((by rw [d2]; decide))) (fun _ => ?_)
        refine x_iconst (pc' := 154) rfl rfl iconst_0 ?_
        refine x_goto (tgt := 158) rfl rfl ?_
        refine x_iadd (pc' := 159) rfl rfl ?_
        refine x_iastore (pc' := 160) rfl rfl (hM7.2.1 2 (by decide)) (hvt) (fun f7 e7 => ?_)
        have hM8 := hM7.arr 2 (by decide) e7
        have hF8 := hF7.up e7 (by decide)
        rw [hclt] at hM8
        exact x_return rfl rfl (Nat.le_of_ble_eq_true rfl) (Nat.le_of_ble_eq_true rfl) (hyes _ _ hq hM8 rfl (by rw [if_pos d2]; rfl) rfl hF8)
      · have d20 : a = 0 := by omega
        refine x_if_ne (tgt := 121) (pc' := 106) rfl rfl rfl (fun q => absurd (show nI a = 0 by rw [d20]; rfl) q) (fun _ => ?_)
        refine x_aload_n (pc' := 107) rfl rfl rfl ?_
        refine x_get (pc' := 110) rfl rfl rfl (hMg.1) rfl ?_
        refine x_aload_n (pc' := 111) rfl rfl rfl ?_
        refine x_get (pc' := 114) rfl rfl rfl (hMg.1) rfl ?_
        refine x_eqi n7 ?_
        refine x_iaload (pc' := 115) rfl rfl (hMg.2.1 2 (by decide)) (hvt) ?_
        refine x_eqi eπt ?_
        refine x_sipush (pc' := 118) rfl rfl sipush_999 ?_
        by_cases d3 : π tu < 999
        · refine x_icmp_ge (tgt := 160) (pc' := 121) rfl rfl rfl (fun q => absurd q (nI_ge (b := 999) d3 (by decide))) (fun _ => ?_)
          have hq : q_tk1 v.1 (if a = 1 then 0 else π tu) (some p) = true := by simp [q_tk1, d1, d2, d3]
          refine x_aload_n (pc' := 122) rfl rfl rfl ?_
          refine x_get (pc' := 125) rfl rfl rfl (hMg.1) rfl ?_
          refine x_aload_n (pc' := 126) rfl rfl rfl ?_
          refine x_get (pc' := 129) rfl rfl rfl (hMg.1) rfl ?_
          refine x_eqi e15 ?_
          refine x_iconst (pc' := 130) rfl rfl iconst_0 ?_
          refine x_iastore (pc' := 131) rfl rfl (hMg.2.1 1 (by decide)) (hv9) (fun f8 e8 => ?_)
          have hM6 := hMg.arr 1 (by decide) e8
          have hF6 := (x_fr.rf (P := fun q => q < 59)).up e8 (by decide)
          rw [hcl, r1, show (0 : Int32) = nI 0 from rfl, q_up_I] at hM6
          refine x_aload_n (pc' := 132) rfl rfl rfl ?_
          refine x_iconst (pc' := 133) rfl rfl iconst_1 ?_
          refine x_put (pc' := 136) rfl rfl rfl (hM6.1) (Nat.le_of_ble_eq_true rfl) rfl rfl rfl rfl (fun f9 e9 => ?_)
          have hM7 := hM6.num 17 e9 (x_mFs17 _ _)
          have hF7 := hF6.up e9 (by decide)
          refine x_aload_n (pc' := 137) rfl rfl rfl ?_
          refine x_get (pc' := 140) rfl rfl rfl (hM7.1) rfl ?_
          refine x_aload_n (pc' := 141) rfl rfl rfl ?_
          refine x_get (pc' := 144) rfl rfl rfl (hM7.1) rfl ?_
          refine x_eqi n7 ?_
          refine x_dup2 (pc' := 145) rfl rfl rfl rfl ?_
          refine x_iaload (pc' := 146) rfl rfl (hM7.2.1 2 (by decide)) (hvt) ?_
          refine x_eqi eπt ?_
          refine x_aload_n (pc' := 147) rfl rfl rfl ?_
          refine x_get (pc' := 150) rfl rfl rfl (hM7.1) rfl ?_
          refine x_eqi n18 ?_
          refine x_if_eq (tgt := 157) (pc' := 153) rfl rfl rfl (fun _ => ?_) (fun c150 => absurd ((by rw [d20]; rfl)) c150)
          refine x_iconst (pc' := 158) rfl rfl iconst_1 ?_
          refine x_iadd (pc' := 159) rfl rfl ?_
          refine x_iastore (pc' := 160) rfl rfl (hM7.2.1 2 (by decide)) (hvt) (fun f10 e10 => ?_)
          have hM8 := hM7.arr 2 (by decide) e10
          have hF8 := hF7.up e10 (by decide)
          rw [hclt] at hM8
          exact x_return rfl rfl (Nat.le_of_ble_eq_true rfl) (Nat.le_of_ble_eq_true rfl) (hyes _ _ hq hM8 rfl (by rw [if_neg d2]; rfl) rfl hF8)
        · refine x_icmp_ge (tgt := 160) (pc' := 121) rfl rfl rfl (fun _ => ?_) (fun q => absurd (nI_le (a := 999) (b := π tu) (by omega) (by omega)) q)
          exact x_return rfl rfl (Nat.le_of_ble_eq_true rfl) (Nat.le_of_ble_eq_true rfl) (hno (by simp [q_tk1, d2, d3]))
    · refine x_icmp_ne (tgt := 160) (pc' := 99) rfl rfl rfl (fun _ => ?_) (fun q => absurd ((nI_eq (a := v.1 p) (b := 1) (by omega) (by decide)).mp q) d1)
      exact x_return rfl rfl (Nat.le_of_ble_eq_true rfl) (Nat.le_of_ble_eq_true rfl) (hno (by simp [q_tk1, d1]))
theorem m_moves (hM : x_Mdl z f M) (hn : M.1 3 = nI n) (hn9 : n ≤ 9) (hfu : M.1 4 = nI fu) (hfu9 : fu < 2 ^ 20) (hln : M.1 5 = nI ln) (hln9 : ln < 2 ^ 31) (hκ : M.2.1 0 = fun i => nI (κ i)) (hκ5 : ∀ i, κ i ≤ 5) (hβ : M.2.1 1 = fun i => nI (β i)) (hβ5 : ∀ i, β i ≤ 100) (hb : b < n) (h2n : 2 ≤ n) (hb0 : 0 < β b) (htu : M.1 7 = nI tu) (htu1 : tu ≤ 1) (hπ : M.2.1 2 = fun i => nI (π i)) (hπ5 : ∀ i, π i < 2 ^ 30) (ha : M.1 18 = 0)
    (h : ∀ (f' : x_H) (M' : x_N) (M1 : x_N), x_Mdl z f' M' → q_Fm M M1 (q_mv κ n fu ln β b) π tu 0 → M' = (upd M1.1 7 (nI (1 - tu)), M1.2.1, M1.2.2) → x_fr (fun q => q < 59) f f' → post none f') : Y E 4 mX6_moves [.ref 59, .int (nI b)] z f 0 0 post := by
  refine Y.intro gX6_moves (lv := [(0, .ref 59), (1, .int (nI b))]) rfl (Nat.le_of_ble_eq_true rfl) ?_
  refine x_aload_n (pc' := 1) rfl rfl rfl ?_
  refine x_iload_n (pc' := 2) rfl rfl rfl ?_
  refine x_cV1v (d := 3) (pc' := 5) rfl rfl sX6_106 gX6_sows (hM.1) ⟨Nat.le_of_ble_eq_true rfl, Nat.le_of_ble_eq_true rfl⟩ (Nat.le_of_ble_eq_true rfl) ⟨Nat.le_of_ble_eq_true rfl, Nat.le_of_ble_eq_true rfl⟩ ?_
  refine m_sows (a := 0) hM hn hn9 hfu hfu9 hln hln9 hκ hκ5 hβ hβ5 hb h2n hb0 htu htu1 hπ hπ5 ha (by decide) (fun f1 M1 hM1 hG1 hF1 => ⟨rfl, ?_⟩)
  refine x_aload_n (pc' := 6) rfl rfl rfl ?_
  refine x_iconst (pc' := 7) rfl rfl iconst_1 ?_
  refine x_aload_n (pc' := 8) rfl rfl rfl ?_
  refine x_get (pc' := 11) rfl rfl rfl (hM1.1) rfl ?_
  refine x_eqi (show M1.1 7 = nI tu from (hG1.2.2.2.2.1 7 (by decide) (by decide) (by decide) (by decide)).trans htu) ?_
  refine x_isub (pc' := 12) rfl rfl ?_
  refine x_eqi (show (1 : Int32) - nI tu = nI (1 - tu) from pk_sub (a := 1) (b := tu) htu1) ?_
  refine x_put (pc' := 15) rfl rfl rfl (hM1.1) (Nat.le_of_ble_eq_true rfl) rfl rfl rfl rfl (fun f1 e1 => ?_)
  have hM2 := hM1.num 7 e1 (x_mFs7 _ _)
  have hF2 := hF1.up e1 (by decide)
  exact x_return rfl rfl (Nat.le_of_ble_eq_true rfl) (Nat.le_of_ble_eq_true rfl) (h _ _ M1 hM2 hG1 rfl hF2)
end MSOWS
end
section
/-! The state of a game, on both sides. -/
/-- kinds, beans, purses, how many bowls, fullness, lent, turn -/
abbrev q_G : Type := (Nat → Nat) × (Nat → Nat) × (Nat → Nat) × Nat × Nat × Nat × Nat
abbrev g_κ (g : q_G) : Nat → Nat := g.1
abbrev g_β (g : q_G) : Nat → Nat := g.2.1
abbrev g_π (g : q_G) : Nat → Nat := g.2.2.1
abbrev g_n (g : q_G) : Nat := g.2.2.2.1
abbrev g_f (g : q_G) : Nat := g.2.2.2.2.1
abbrev g_l (g : q_G) : Nat := g.2.2.2.2.2.1
abbrev g_t (g : q_G) : Nat := g.2.2.2.2.2.2
def t_is (T : x_T) (g : q_G) : Prop := T.1 = (fun i => nI (g_κ g i)) ∧ T.2.1 = (fun i => nI (g_β g i)) ∧ T.2.2.1 = (fun i => nI (g_π g i)) ∧ T.2.2.2 0 = nI (g_n g) ∧ T.2.2.2 1 = nI (g_f g) ∧ T.2.2.2 2 = nI (g_l g) ∧ T.2.2.2 3 = nI (g_t g)
def m_is (M : x_N) (g : q_G) : Prop := M.2.1 0 = (fun i => nI (g_κ g i)) ∧ M.2.1 1 = (fun i => nI (g_β g i)) ∧ M.2.1 2 = (fun i => nI (g_π g i)) ∧ M.1 3 = nI (g_n g) ∧ M.1 4 = nI (g_f g) ∧ M.1 5 = nI (g_l g) ∧ M.1 7 = nI (g_t g)
def g_ok (C : Nat) (g : q_G) : Prop := g_n g ≤ 9 ∧ (1 ≤ g_f g ∧ g_f g ≤ 9) ∧ g_l g ≤ 1 ∧ g_t g ≤ 1 ∧ (∀ i, g_κ g i ≤ 5) ∧ (∀ i, g_β g i ≤ C) ∧ (∀ i, g_π g i ≤ 999) ∧ (∀ i, 9 ≤ i → g_κ g i = 0 ∧ g_β g i = 0) ∧ (∀ i, 2 ≤ i → g_π g i = 0)
theorem g_ok.mono {C D : Nat} {g : q_G} (h : g_ok C g) (hd : C ≤ D) : g_ok D g := ⟨h.1, h.2.1, h.2.2.1, h.2.2.2.1, h.2.2.2.2.1, fun i => Nat.le_trans (h.2.2.2.2.2.1 i) hd, h.2.2.2.2.2.2⟩
abbrev g_can (g : q_G) (b : Nat) : Prop := 2 ≤ g_n g ∧ b < g_n g ∧ 0 < g_β g b
abbrev g_v (g : q_G) (b : Nat) : (Nat → Nat) × Nat × Nat × Option Nat := q_mv (g_κ g) (g_n g) (g_f g) (g_l g) (g_β g) b
def g_mv (g : q_G) (b : Nat) : q_G := (g_κ g, q_b1 (g_v g b).1 (g_π g (g_t g)) (g_v g b).2.2.2, q_p1 (g_v g b).1 (g_π g) (g_t g) (g_v g b).2.2.2, g_n g, g_f g, g_l g, 1 - g_t g)
theorem q_run_out {κ : Nat → Nat} {n fu ln : Nat} : ∀ (k : Nat) (w : q_W), w.2.1 < n → ∀ i, n ≤ i → (q_run κ n fu ln k w).1 i = w.1 i
  | 0, w, _, _, _ => rfl
  | k + 1, w, h, i, hi => by
    by_cases hg : 0 < w.2.2.1 ∧ w.2.2.2.1 < n
    · have h6 := q_nx_lt (ln := ln) h
      rw [q_run_go hg, q_run_out k _ (by unfold q_st; split <;> exact h6) i hi]
      unfold q_st
      split
      · exact q_up_n _ _ (by omega)
      · rfl
    · rw [q_run_stop hg]
theorem q_hand_out {κ β : Nat → Nat} {n fu ln b : Nat} {l : Option Nat} (hb : b < n) : ∀ i, n ≤ i → (q_hand κ n fu ln β b l).1 i = β i := by
  intro i hi
  have h1 := q_run_out (κ := κ) (fu := fu) (ln := ln) 1000 (q_up β b 0, b, β b, 0, 0, l) hb i hi
  unfold q_hand
  show q_up _ b _ i = β i
  rw [q_up_n _ _ (by omega), h1]
  exact q_up_n _ _ (by omega)
theorem q_hands_out {κ : Nat → Nat} {n fu ln : Nat} : ∀ (k : Nat) (β : Nat → Nat) (b hs s : Nat) (l : Option Nat), b < n → (∀ i, β i ≤ 100) → (∀ p, l = some p → p < n) → ∀ i, n ≤ i → (q_hands κ n fu ln k β b hs s l).1 i = β i
  | 0, β, b, hs, s, l, hb, hβ, hl, i, hi => rfl
  | k + 1, β, b, hs, s, l, hb, hβ, hl, i, hi => by
    have h1 := q_hand_le (κ := κ) (n := n) (fu := fu) (ln := ln) (b := b) (l := l) (C := 100) (by decide) hβ
    have h2 := q_hand_l (κ := κ) (fu := fu) (ln := ln) hb hβ hl
    have h3 := q_hand_out (κ := κ) (fu := fu) (ln := ln) (β := β) (l := l) hb i hi
    rw [q_hands]
    split
    · rename_i hg
      obtain ⟨p, hp, hpn⟩ := h2.2 hg.1
      rw [q_hands_out k _ _ _ _ _ (by rw [hp]; exact hpn) h1.1 h2.1 i hi]
      exact h3
    · exact h3
theorem g_v_ok {C : Nat} {g : q_G} {b : Nat} (h : g_ok C g) (hC : 99 ≤ C) (hC2 : C ≤ 100) (hb : b < g_n g) : (∀ i, (g_v g b).1 i ≤ C) ∧ (∀ p, (g_v g b).2.2.2 = some p → p < g_n g) ∧ (∀ i, g_n g ≤ i → (g_v g b).1 i = g_β g i) := by
  have hβ := h.2.2.2.2.2.1
  unfold g_v q_mv
  split
  · have h1 := q_hands_ok (κ := g_κ g) (n := g_n g) (fu := g_f g) (ln := g_l g) hC hC2 60 (g_β g) b 0 0 none hb hβ (fun p hp => by cases hp)
    exact ⟨h1.1, h1.2, q_hands_out 60 (g_β g) b 0 0 none hb (fun i => Nat.le_trans (hβ i) hC2) (fun p hp => by cases hp)⟩
  · exact ⟨hβ, (fun p hp => by cases hp), fun _ _ => rfl⟩
theorem q_b1_le {β : Nat → Nat} {pt C : Nat} {l : Option Nat} (h : ∀ i, β i ≤ C) : ∀ i, q_b1 β pt l i ≤ C := by
  unfold q_b1
  split
  · exact q_up_le h (Nat.zero_le _)
  · exact h
theorem g_mv_ok {C : Nat} {g : q_G} {b : Nat} (h : g_ok C g) (hC : 99 ≤ C) (hC2 : C ≤ 100) (hb : b < g_n g) : g_ok C (g_mv g b) := by
  obtain ⟨v1, v2, v3⟩ := g_v_ok h hC hC2 hb
  obtain ⟨a1, a2, a3, a4, a5, a6, a7, a8, a9⟩ := h
  refine ⟨a1, a2, a3, by show 1 - g_t g ≤ 1; omega, a5, q_b1_le v1, ?_, fun i hi => ⟨(a8 i hi).1, ?_⟩, ?_⟩
  · show ∀ i, q_p1 (g_v g b).1 (g_π g) (g_t g) (g_v g b).2.2.2 i ≤ 999
    unfold q_p1
    split
    · rename_i hq
      refine q_up_le a7 ?_
      cases hl : (g_v g b).2.2.2 with
      | none => rw [hl] at hq; cases hq
      | some p =>
        rw [hl] at hq
        simp only [q_tk1, Bool.and_eq_true, decide_eq_true_eq] at hq
        omega
    · exact a7
  · show q_b1 (g_v g b).1 (g_π g (g_t g)) (g_v g b).2.2.2 i = 0
    have h3 : (g_v g b).1 i = 0 := (v3 i (by omega)).trans (a8 i hi).2
    unfold q_b1
    split
    · unfold q_up
      split
      · rfl
      · exact h3
    · exact h3
  · intro i hi
    show q_p1 (g_v g b).1 (g_π g) (g_t g) (g_v g b).2.2.2 i = 0
    unfold q_p1
    split
    · rw [q_up_n _ _ (by omega)]
      exact a9 i hi
    · exact a9 i hi
theorem t_is_nI {T : x_T} {g : q_G} {b : Int32} (h : t_is T g) (hn : g_n g ≤ 9) (hb : t_has T b) : ∃ k : Nat, k < g_n g ∧ b = nI k := by
  obtain ⟨k, hk, rfl⟩ := nI_of hb.1
  refine ⟨k, ?_, rfl⟩
  have h2 := hb.2.1
  rw [h.2.2.2.1] at h2
  exact (nI_ltI hk (by omega)).mp h2
section STATE
variable {E : x_E} {z : Nat} {f : x_H} {t : Nat} {T : x_T} {M : x_N} {g : q_G} {post : Option Value → x_H → Prop} {C b : Nat}
theorem w_can (hT : x_t z f t T) (hg : t_is T g) (hok : g_ok C g) (hC : C ≤ 100) (hb : b < 2 ^ 31) (h1 : g_can g b → post (some (.int 1)) f) (h0 : ¬ g_can g b → post (some (.int 0)) f) : Y E 2 mX3_canMove [.ref t, .int (nI b)] z f 0 0 post := by
  obtain ⟨a1, a2, a3, a4, a5, a6, a7, a8, a9⟩ := hok
  obtain ⟨g1, g2, g3, g4, g5, g6, g7⟩ := id hg
  have hcl : (nI b).toNatClampNeg = b := nI_clamp hb
  have eβ : T.2.1 (nI b).toNatClampNeg = nI (g_β g b) := by rw [hcl, g2]
  have hβ := a6 b
  refine w_canMove hT (fun d => h1 ⟨?_, ?_, ?_⟩) (fun d => h0 (fun q => d ⟨?_, ?_, ?_⟩))
  · have h2 := d.1
    rw [g4] at h2
    exact (nI_leI (a := 2) (by decide) (by omega)).mp h2
  · have h2 := d.2.1.2.1
    rw [g4] at h2
    exact (nI_ltI hb (by omega)).mp h2
  · have h2 := d.2.2
    rw [eβ] at h2
    exact (nI_ltI (a := 0) (by decide) (by omega)).mp h2
  · rw [g4]
    exact nI_le (a := 2) q.1 (by omega)
  · exact t_has_nI g4 a1 q.2.1
  · rw [eβ]
    exact nI_lt (a := 0) q.2.2 (by omega)
theorem w_move (hT : x_t z f t T) (hg : t_is T g) (hok : g_ok C g) (hC : C ≤ 100) (hb : b < g_n g) (h : ∀ (f' : x_H) (T' : x_T), x_t z f' t T' → t_is T' (g_mv g b) → T'.2.2.2 4 = T.2.2.2 4 + 1 → T'.2.2.2 5 = nI (g_v g b).2.1 → T'.2.2.2 6 = q_lI (g_v g b).2.2.2 → T'.2.2.2 7 = nI (g_v g b).2.2.1 → T'.2.2.2 8 = (if q_tk1 (g_v g b).1 (g_π g (g_t g)) (g_v g b).2.2.2 = true then 1 else 0) → x_fr (x_ot t) f f' → post none f') : Y E 4 mX3_makeMove [.ref t, .int (nI b)] z f 0 0 post := by
  obtain ⟨a1, a2, a3, a4, a5, a6, a7, a8, a9⟩ := hok
  obtain ⟨g1, g2, g3, g4, g5, g6, g7⟩ := id hg
  refine w_makeMove hT g4 a1 g5 (by omega) g6 (by omega) g1 a5 g2 (fun i => Nat.le_trans (a6 i) hC) hb g7 a4 g3 (fun i => by have := a7 i; omega) (fun f' T' hT' hF hf => h f' T' hT' ?_ hF.2.2.2.2.2.2.2.1 hF.2.2.2.2.2.2.2.2.1 hF.2.2.2.2.2.2.2.2.2.1 hF.2.2.2.2.2.2.2.2.2.2.1 hF.2.2.2.2.2.2.2.2.2.2.2 hf)
  exact ⟨hF.1.trans g1, hF.2.1, hF.2.2.1, hF.2.2.2.1.trans g4, hF.2.2.2.2.1.trans g5, hF.2.2.2.2.2.1.trans g6, hF.2.2.2.2.2.2.1⟩
theorem x_cp_is {T U : x_T} {g : q_G} (h : t_is U g) : t_is (x_cp T U) g := h
-- the reference
theorem m_can (hM : x_Mdl z f M) (hg : m_is M g) (hok : g_ok C g) (hC : C ≤ 100) {v : Int32} (h1 : ∀ b, v = nI b → g_can g b → post (some (.int 1)) f) (h0 : (∀ b, v = nI b → b < 2 ^ 31 → ¬ g_can g b) → post (some (.int 0)) f) : Y E 3 mX6_canMove [.ref 59, .int v] z f 0 0 post := by
  refine Y.intro gX6_canMove (lv := [(0, .ref 59), (1, .int v)]) rfl (Nat.le_of_ble_eq_true rfl) ?_
  obtain ⟨a1, a2, a3, a4, a5, a6, a7, a8, a9⟩ := hok
  obtain ⟨g1, g2, g3, g4, g5, g6, g7⟩ := id hg
  refine x_aload_n (pc' := 1) rfl rfl rfl ?_
  refine x_iload_n (pc' := 2) rfl rfl rfl ?_
  refine x_cV1i (d := 2) (pc' := 5) rfl rfl sX6_103 gX6_isBowl (hM.1) ⟨Nat.le_of_ble_eq_true rfl, Nat.le_of_ble_eq_true rfl⟩ (Nat.le_of_ble_eq_true rfl) ⟨Nat.le_of_ble_eq_true rfl, Nat.le_of_ble_eq_true rfl⟩ ?_
  refine w_isBowl hM (fun q => ⟨_, rfl, ?_⟩) (fun q => ⟨_, rfl, ?_⟩)
  · obtain ⟨b, hb, rfl⟩ := nI_of q.1
    have hbn : b < g_n g := by
      have h2 := q.2
      rw [g4] at h2
      rcases Nat.lt_or_ge b (g_n g) with h3 | h3
      · exact h3
      · exfalso
        apply h2
        by_cases h4 : g_n g = 0
        · rw [h4]
          exact Int32.lt_of_lt_of_le (by decide : nI 0 - 1 < 0) (nI_pos' hb)
        · rw [show nI (g_n g) - 1 = nI (g_n g - 1) from pk_sub (a := g_n g) (b := 1) (by omega)]
          exact nI_lt (by omega) hb
    refine x_if_eq (tgt := 29) (pc' := 8) rfl rfl rfl (fun c5 => absurd c5 ((by decide))) (fun _ => ?_)
    refine x_aload_n (pc' := 9) rfl rfl rfl ?_
    refine x_get (pc' := 12) rfl rfl rfl (hM.1) rfl ?_
    refine x_eqi g4 ?_
    refine x_iconst (pc' := 13) rfl rfl iconst_1 ?_
    have hcl : (nI b).toNatClampNeg = b := nI_clamp hb
    have hv : vp_in (nI b) 9 := vp_in_nI (by omega) (by decide)
    have eβ : M.2.1 1 (nI b).toNatClampNeg = nI (g_β g b) := by rw [hcl, g2]
    have hβ := a6 b
    have hinj : ∀ b', nI b = nI b' → b' < 2 ^ 31 → b = b' := fun b' e hb' => (nI_eq hb hb').mp e
    by_cases d1 : 2 ≤ g_n g
    · refine x_icmp_le (tgt := 29) (pc' := 16) rfl rfl rfl (fun q => absurd q (nI_ge (a := 1) (by omega) (by omega))) (fun _ => ?_)
      refine x_aload_n (pc' := 17) rfl rfl rfl ?_
      refine x_get (pc' := 20) rfl rfl rfl (hM.1) rfl ?_
      refine x_iload_n (pc' := 21) rfl rfl rfl ?_
      refine x_iaload (pc' := 22) rfl rfl (hM.2.1 1 (by decide)) (hv) ?_
      refine x_eqi eβ ?_
      by_cases d2 : 0 < g_β g b
      · refine x_if_le (tgt := 29) (pc' := 25) rfl rfl rfl (fun q => absurd q (nI_nle d2 (by omega))) (fun _ => ?_)
        refine x_iconst (pc' := 26) rfl rfl iconst_1 ?_
        refine x_goto (tgt := 30) rfl rfl ?_
        exact x_ireturn rfl rfl rfl (Nat.le_of_ble_eq_true rfl) (Nat.le_of_ble_eq_true rfl) (h1 b rfl ⟨d1, hbn, d2⟩)
      · refine x_if_le (tgt := 29) (pc' := 25) rfl rfl rfl (fun _ => ?_) (fun q => absurd (nI_le (b := 0) (by omega) (by decide)) q)
        refine x_iconst (pc' := 30) rfl rfl iconst_0 ?_
        exact x_ireturn rfl rfl rfl (Nat.le_of_ble_eq_true rfl) (Nat.le_of_ble_eq_true rfl) (h0 (fun b' e hb' c => by have := hinj b' e hb'; subst this; exact d2 c.2.2))
    · refine x_icmp_le (tgt := 29) (pc' := 16) rfl rfl rfl (fun _ => ?_) (fun q => absurd (nI_le (b := 1) (by omega) (by decide)) q)
      refine x_iconst (pc' := 30) rfl rfl iconst_0 ?_
      exact x_ireturn rfl rfl rfl (Nat.le_of_ble_eq_true rfl) (Nat.le_of_ble_eq_true rfl) (h0 (fun b' e hb' c => d1 c.1))
  · have hno : ∀ b, v = nI b → b < 2 ^ 31 → ¬ g_can g b := by
      intro b e hb c
      subst e
      apply q
      refine ⟨nI_pos hb, ?_⟩
      rw [g4, show nI (g_n g) - 1 = nI (g_n g - 1) from pk_sub (a := g_n g) (b := 1) (by have := c.1; omega)]
      exact nI_nlt (by have := c.2.1; omega) (by omega)
    refine x_if_eq (tgt := 29) (pc' := 8) rfl rfl rfl (fun _ => ?_) (fun c5 => absurd (rfl) c5)
    refine x_iconst (pc' := 30) rfl rfl iconst_0 ?_
    exact x_ireturn rfl rfl rfl (Nat.le_of_ble_eq_true rfl) (Nat.le_of_ble_eq_true rfl) (h0 hno)
/-- what else a move of the reference leaves as it was -/
def m_kp (M M' : x_N) : Prop := (∀ j, j ≠ 1 → j ≠ 2 → M'.2.1 j = M.2.1 j) ∧ M'.2.2 = M.2.2 ∧ (∀ i, i ≠ 7 → i ≠ 14 → i ≠ 15 → i ≠ 16 → i ≠ 17 → M'.1 i = M.1 i)
theorem m_kp.trans {M M1 M2 : x_N} (h : m_kp M M1) (h2 : m_kp M1 M2) : m_kp M M2 := ⟨fun j a b => (h2.1 j a b).trans (h.1 j a b), h2.2.1.trans h.2.1, fun i a b c d e => (h2.2.2 i a b c d e).trans (h.2.2 i a b c d e)⟩
theorem m_kp.rf {M : x_N} : m_kp M M := ⟨fun _ _ _ => rfl, rfl, fun _ _ _ _ _ _ => rfl⟩
theorem m_mv (hM : x_Mdl z f M) (hg : m_is M g) (hok : g_ok C g) (hC : C ≤ 100) (hb : g_can g b) (ha : M.1 18 = 0) (h : ∀ (f' : x_H) (M' : x_N), x_Mdl z f' M' → m_is M' (g_mv g b) → m_kp M M' → M'.1 14 = nI (g_v g b).2.1 → M'.1 15 = q_lI (g_v g b).2.2.2 → M'.1 16 = nI (g_v g b).2.2.1 → M'.1 17 = (if q_tk1 (g_v g b).1 (g_π g (g_t g)) (g_v g b).2.2.2 = true then 1 else 0) → x_fr (fun q => q < 59) f f' → post none f') : Y E 4 mX6_moves [.ref 59, .int (nI b)] z f 0 0 post := by
  obtain ⟨a1, a2, a3, a4, a5, a6, a7, a8, a9⟩ := hok
  obtain ⟨g1, g2, g3, g4, g5, g6, g7⟩ := id hg
  refine m_moves hM g4 a1 g5 (by omega) g6 (by omega) g1 a5 g2 (fun i => Nat.le_trans (a6 i) hC) hb.2.1 hb.1 hb.2.2 g7 a4 g3 (fun i => by have := a7 i; omega) ha (fun f' M' M1 hM' hF e hf => ?_)
  obtain ⟨k1, k2, k3, k4, k5, k6, k7, k8, k9⟩ := hF
  subst e
  refine h f' _ hM' ⟨(k3 0 (by decide) (by decide)).trans g1, k1, k2, ?_, ?_, ?_, rfl⟩ ⟨k3, k4, fun i i1 i2 i3 i4 i5 => (pk_un i1).trans (k5 i i2 i3 i4 i5)⟩ k6 k7 k8 k9 hf
  · exact (k5 3 (by decide) (by decide) (by decide) (by decide)).trans g4
  · exact (k5 4 (by decide) (by decide) (by decide) (by decide)).trans g5
  · exact (k5 5 (by decide) (by decide) (by decide) (by decide)).trans g6
/-- a frame that holds a state's beans, purses, turn -/
def m_fr (M : x_N) (l : Nat) (g : q_G) : Prop := (∀ j, j < 9 → M.2.1 6 (12 * l + j) = nI (g_β g j)) ∧ M.2.1 6 (12 * l + 9) = nI (g_π g 0) ∧ M.2.1 6 (12 * l + 10) = nI (g_π g 1) ∧ M.2.1 6 (12 * l + 11) = nI (g_t g)
theorem m_fr.eq {M M' : x_N} {l : Nat} {g : q_G} (h : m_fr M l g) (e : M'.2.1 6 = M.2.1 6) : m_fr M' l g := by
  unfold m_fr
  rw [e]
  exact h
/-- a frame was kept: all other levels stay -/
def m_k1 (M M' : x_N) (l : Nat) : Prop := M'.1 = M.1 ∧ (∀ j, j ≠ 6 → M'.2.1 j = M.2.1 j) ∧ M'.2.2 = M.2.2 ∧ (∀ j, j < 12 * l ∨ 12 * l + 12 ≤ j → M'.2.1 6 j = M.2.1 6 j)
theorem m_keeps {l : Nat} (hl : l ≤ 7) (hM : x_Mdl z f M) (hg : m_is M g) (h : ∀ (f' : x_H) (M' : x_N), x_Mdl z f' M' → m_is M' g → m_k1 M M' l → m_fr M' l g → x_fr (fun q => q < 59) f f' → post none f') : Y E 1 mX6_keeps [.ref 59, .int (nI l)] z f 0 0 post := by
  obtain ⟨g1, g2, g3, g4, g5, g6, g7⟩ := id hg
  refine w_keeps hl hM (fun f' hM' hf => h f' _ hM' ⟨g1, g2, g3, g4, g5, g6, g7⟩ ⟨rfl, fun j hj => if_neg hj, rfl, fun j hj => ?_⟩ ⟨fun j hj => ?_, ?_, ?_, ?_⟩ hf)
  · show x_kp l _ _ _ _ _ j = _
    unfold x_kp
    rw [pk_un (by omega), pk_un (by omega), pk_un (by omega)]
    unfold x_kpB
    rw [if_neg (by omega)]
  · show x_kp l _ _ _ _ _ (12 * l + j) = _
    unfold x_kp
    rw [pk_un (by omega), pk_un (by omega), pk_un (by omega)]
    unfold x_kpB
    rw [if_pos (by omega), g2, show 12 * l + j - 12 * l = j by omega]
  · show x_kp l _ _ _ _ _ (12 * l + 9) = _
    unfold x_kp
    rw [pk_un (by omega), pk_un (by omega), pk_us, g3]
  · show x_kp l _ _ _ _ _ (12 * l + 10) = _
    unfold x_kp
    rw [pk_un (by omega), pk_us, g3]
  · show x_kp l _ _ _ _ _ (12 * l + 11) = _
    unfold x_kp
    rw [pk_us, g7]
/-- the frame of g over the rest of g' -/
abbrev g_ly (g g' : q_G) : q_G := (g_κ g', g_β g, g_π g, g_n g', g_f g', g_l g', g_t g)
theorem m_lays {l C' : Nat} {g' : q_G} (hl : l ≤ 7) (hM : x_Mdl z f M) (hg : m_is M g') (hk : m_fr M l g) (hok : g_ok C g) (hok' : g_ok C' g') (h : ∀ (f' : x_H) (M' : x_N), x_Mdl z f' M' → m_is M' (g_ly g g') → (∀ i, i ≠ 7 → M'.1 i = M.1 i) → (∀ j, j ≠ 1 → j ≠ 2 → M'.2.1 j = M.2.1 j) → M'.2.2 = M.2.2 → x_fr (fun q => q < 59) f f' → post none f') : Y E 1 mX6_lays [.ref 59, .int (nI l)] z f 0 0 post := by
  obtain ⟨g1, g2, g3, g4, g5, g6, g7⟩ := id hg
  obtain ⟨k1, k2, k3, k4⟩ := hk
  refine w_lays hl hM (fun f' hM' hf => h f' _ hM' ⟨g1, ?_, ?_, g4, g5, g6, ?_⟩ (fun i hi => pk_un hi) (fun j h1 h2 => ?_) rfl hf)
  · show x_lyB l 9 (M.2.1 6) (M.2.1 1) = _
    funext j
    unfold x_lyB
    by_cases hj : j < 9
    · rw [if_pos hj]
      exact k1 j hj
    · rw [if_neg hj, g2]
      show nI (g_β g' j) = nI (g_β g j)
      rw [(hok.2.2.2.2.2.2.2.1 j (by omega)).2, (hok'.2.2.2.2.2.2.2.1 j (by omega)).2]
  · show upd (upd (M.2.1 2) 0 (M.2.1 6 (12 * l + 9))) 1 (M.2.1 6 (12 * l + 10)) = _
    rw [k2, k3, g3]
    funext j
    unfold upd
    by_cases h1 : j = 1
    · rw [if_pos h1, h1]
    · rw [if_neg h1]
      by_cases h0 : j = 0
      · rw [if_pos h0, h0]
      · rw [if_neg h0]
        show nI (g_π g' j) = nI (g_π g j)
        rw [hok.2.2.2.2.2.2.2.2 j (by omega), hok'.2.2.2.2.2.2.2.2 j (by omega)]
  · show upd M.1 7 (M.2.1 6 (12 * l + 11)) 7 = _
    rw [pk_us, k4]
  · show (if j = 2 then _ else if j = 1 then _ else M.2.1 j) = M.2.1 j
    rw [if_neg h2, if_neg h1]
end STATE
end
section
/-! All that calls change, on both sides. -/
/-- state and how many moves; the picture; letters; the row; refused -/
abbrev q_A : Type := (q_G × Nat) × Option (q_G × Nat) × (Nat × (Nat → Nat)) × (Nat × (Nat → Nat)) × (Nat → Int32)
abbrev a_g (A : q_A) : q_G := A.1.1
abbrev a_mv (A : q_A) : Nat := A.1.2
abbrev a_pi (A : q_A) : Option (q_G × Nat) := A.2.1
abbrev a_lc (A : q_A) : Nat := A.2.2.1.1
abbrev a_lf (A : q_A) : Nat → Nat := A.2.2.1.2
abbrev a_rc (A : q_A) : Nat := A.2.2.2.1.1
abbrev a_rf (A : q_A) : Nat → Nat := A.2.2.2.1.2
abbrev a_no (A : q_A) : Nat → Int32 := A.2.2.2.2
def c_pic (n : Int32) (T : x_T) (p : Option (q_G × Nat)) : Prop := match p with
  | none => n = 0
  | some (g, m) => n = 1 ∧ t_is T g ∧ T.2.2.2 4 = nI m
def c_is (S : x_S) (A : q_A) : Prop := t_is (S.2.1 0) (a_g A) ∧ (S.2.1 0).2.2.2 4 = nI (a_mv A) ∧ c_pic (S.1 0) (S.2.1 1) (a_pi A) ∧ S.1 2 = nI (a_lc A) ∧ S.2.2.1 0 = (fun i => nI (a_lf A i)) ∧ S.1 1 = nI (a_rc A) ∧ S.2.2.1 5 = (fun i => nI (a_rf A i)) ∧ S.2.2.1 6 = a_no A
def r_pic (M : x_N) (p : Option (q_G × Nat)) : Prop := match p with
  | none => M.1 28 = -1
  | some (g, m) => M.1 28 = nI (g_n g) ∧ (∀ j, j < 9 → M.2.1 9 j = nI (g_β g j)) ∧ M.2.1 9 9 = nI (g_π g 0) ∧ M.2.1 9 10 = nI (g_π g 1) ∧ M.2.1 9 11 = nI (g_t g) ∧ (∀ j, j < 9 → M.2.1 10 j = nI (g_κ g j)) ∧ M.1 29 = nI (g_f g) ∧ M.1 30 = nI (g_l g) ∧ M.1 31 = nI m
def r_is (M : x_N) (A : q_A) : Prop := m_is M (a_g A) ∧ M.1 8 = nI (a_mv A) ∧ M.1 18 = 0 ∧ r_pic M (a_pi A) ∧ M.1 11 = nI (a_lc A) ∧ M.2.1 4 = (fun i => nI (a_lf A i)) ∧ M.1 13 = nI (a_rc A) ∧ M.2.1 5 = (fun i => nI (a_rf A i)) ∧ M.2.1 3 = (fun i => a_no A (i + 1))
def a_ok (A : q_A) : Prop := g_ok 99 (a_g A) ∧ a_mv A ≤ 999 ∧ (∀ g m, a_pi A = some (g, m) → g_ok 99 g ∧ m ≤ 999) ∧ a_lc A ≤ 96 ∧ (∀ i, a_lf A i ≤ 255) ∧ a_rc A ≤ 12 ∧ (∀ i, a_rf A i ≤ 9)
/-- what the class has of scratch alone is new -/
def c_sc (S S' : x_S) : Prop := S'.2.1 0 = S.2.1 0 ∧ S'.2.1 1 = S.2.1 1 ∧ S'.1 0 = S.1 0 ∧ S'.1 1 = S.1 1 ∧ S'.1 2 = S.1 2 ∧ S'.2.2.1 0 = S.2.2.1 0 ∧ S'.2.2.1 5 = S.2.2.1 5 ∧ S'.2.2.1 6 = S.2.2.1 6
theorem c_sc.rf {S : x_S} : c_sc S S := ⟨rfl, rfl, rfl, rfl, rfl, rfl, rfl, rfl⟩
theorem c_sc.trans {S S1 S2 : x_S} (h : c_sc S S1) (h2 : c_sc S1 S2) : c_sc S S2 := by
  obtain ⟨a1, a2, a3, a4, a5, a6, a7, a8⟩ := h
  obtain ⟨b1, b2, b3, b4, b5, b6, b7, b8⟩ := h2
  exact ⟨b1.trans a1, b2.trans a2, b3.trans a3, b4.trans a4, b5.trans a5, b6.trans a6, b7.trans a7, b8.trans a8⟩
theorem c_is.sc {S S' : x_S} {A : q_A} (h : c_is S A) (e : c_sc S S') : c_is S' A := by
  obtain ⟨a1, a2, a3, a4, a5, a6, a7, a8⟩ := e
  unfold c_is
  rw [a1, a2, a3, a4, a5, a6, a7, a8]
  exact h
theorem c_sc.tab {S : x_S} {j : Nat} {T : x_T} (h0 : j ≠ 0) (h1 : j ≠ 1) : c_sc S (S.1, x_ut S.2.1 j T, S.2.2.1, S.2.2.2) := ⟨if_neg (Ne.symm h0), if_neg (Ne.symm h1), rfl, rfl, rfl, rfl, rfl, rfl⟩
def r_sc (M M' : x_N) : Prop := (∀ i, i = 8 ∨ i = 18 ∨ i = 11 ∨ i = 13 ∨ 28 ≤ i → M'.1 i = M.1 i) ∧ (∀ j, j = 3 ∨ j = 4 ∨ j = 5 ∨ j = 9 ∨ j = 10 → M'.2.1 j = M.2.1 j)
theorem r_sc.rf {M : x_N} : r_sc M M := ⟨fun _ _ => rfl, fun _ _ => rfl⟩
theorem r_sc.trans {M M1 M2 : x_N} (h : r_sc M M1) (h2 : r_sc M1 M2) : r_sc M M2 := ⟨fun i hi => (h2.1 i hi).trans (h.1 i hi), fun i hi => (h2.2 i hi).trans (h.2 i hi)⟩
theorem r_pic.eq {M M' : x_N} {p : Option (q_G × Nat)} (h : r_pic M p) (e1 : ∀ i, 28 ≤ i → M'.1 i = M.1 i) (e2 : M'.2.1 9 = M.2.1 9) (e3 : M'.2.1 10 = M.2.1 10) : r_pic M' p := by
  unfold r_pic at *
  rw [e2, e3, e1 28 (by decide), e1 29 (by decide), e1 30 (by decide), e1 31 (by decide)]
  exact h
theorem r_is.sc {M M' : x_N} {A : q_A} (h : r_is M A) (e : r_sc M M') (hm : m_is M' (a_g A)) : r_is M' A := by
  obtain ⟨h1, h2, h3, h4, h5, h6, h7, h8, h9⟩ := h
  obtain ⟨e1, e2⟩ := e
  exact ⟨hm, (e1 8 (by omega)).trans h2, (e1 18 (by omega)).trans h3, h4.eq (fun i hi => e1 i (by omega)) (e2 9 (by omega)) (e2 10 (by omega)), (e1 11 (by omega)).trans h5, (e2 4 (by omega)).trans h6, (e1 13 (by omega)).trans h7, (e2 5 (by omega)).trans h8, (e2 3 (by omega)).trans h9⟩
theorem m_kp.sc {M M' : x_N} (h : m_kp M M') : r_sc M M' := ⟨fun i hi => h.2.2 i (by omega) (by omega) (by omega) (by omega) (by omega), fun j hj => h.1 j (by omega) (by omega)⟩
theorem m_k1.sc {M M' : x_N} {l : Nat} (h : m_k1 M M' l) : r_sc M M' := ⟨fun i hi => by rw [h.1], fun j hj => h.2.1 j (by omega)⟩
theorem m_ly.sc {M M' : x_N} (h1 : ∀ i, i ≠ 7 → M'.1 i = M.1 i) (h2 : ∀ j, j ≠ 1 → j ≠ 2 → M'.2.1 j = M.2.1 j) : r_sc M M' := ⟨fun i hi => h1 i (by omega), fun j hj => h2 j (by omega) (by omega)⟩
def s_no (A : q_A) (k : Nat) : q_A := (A.1, A.2.1, A.2.2.1, A.2.2.2.1, x_rf A.2.2.2.2 k)
def s_g (A : q_A) (g : q_G) : q_A := ((g, A.1.2), A.2)
theorem s_no_ok {A : q_A} {k : Nat} (h : a_ok A) : a_ok (s_no A k) := h
theorem s_g_ok {A : q_A} {g : q_G} (h : a_ok A) (hg : g_ok 99 g) : a_ok (s_g A g) := ⟨hg, h.2⟩
/-- a bowl's number -/
abbrev q_in (n : Nat) (a : Int32) : Prop := ¬ a < 0 ∧ a.toNatClampNeg < n
theorem q_in_k {n : Nat} {a : Int32} (h : q_in n a) : ∃ k, k < n ∧ k < 2 ^ 31 ∧ a = nI k ∧ a.toNatClampNeg = k := by
  obtain ⟨k, hk, rfl⟩ := nI_of h.1
  have h2 := h.2
  rw [nI_clamp hk] at h2
  exact ⟨k, h2, hk, rfl, nI_clamp hk⟩
theorem q_in_nI {n k : Nat} (h : k < n) (hk : k < 2 ^ 31) : q_in n (nI k) := ⟨nI_pos hk, by rw [nI_clamp hk]; exact h⟩
theorem q_in_has {T : x_T} {g : q_G} {a : Int32} (h : t_is T g) (hn : g_n g ≤ 9) : t_has T a ↔ q_in (g_n g) a := by
  constructor
  · intro q
    obtain ⟨k, hk, rfl⟩ := t_is_nI h hn q
    exact q_in_nI hk (by omega)
  · intro q
    obtain ⟨k, hk, hk2, rfl, -⟩ := q_in_k q
    exact t_has_nI h.2.2.2.1 hn hk
theorem q_in_bowl {n : Nat} {a : Int32} (hn : n ≤ 9) : (¬ a < 0 ∧ ¬ nI n - 1 < a) ↔ q_in n a := by
  constructor
  · intro q
    obtain ⟨k, hk, rfl⟩ := nI_of q.1
    refine q_in_nI ?_ hk
    rcases Nat.lt_or_ge k n with h3 | h3
    · exact h3
    · exfalso
      apply q.2
      by_cases h4 : n = 0
      · rw [h4]
        exact Int32.lt_of_lt_of_le (by decide : nI 0 - 1 < 0) (nI_pos' hk)
      · rw [show nI n - 1 = nI (n - 1) from pk_sub (a := n) (b := 1) (by omega)]
        exact nI_lt (by omega) hk
  · intro q
    obtain ⟨k, hk, hk2, rfl, -⟩ := q_in_k q
    refine ⟨q.1, ?_⟩
    rw [show nI n - 1 = nI (n - 1) from pk_sub (a := n) (b := 1) (by omega)]
    exact nI_nlt (by omega) (by omega)
section REF
variable {E : x_E} {z : Nat} {f : x_H} {S : x_S} {M : x_N} {A : q_A} {post : Option Value → x_H → Prop}
/-- how a public method of the class ends -/
abbrev c_ends (z : Nat) (f : x_H) (post : Option Value → x_H → Prop) (s : q_A × Int32) : Prop := ∀ (f' : x_H) (S' : x_S), x_Sys z f' S' → c_is S' s.1 → x_fr (fun q => 59 ≤ q) f f' → post (some (.int s.2)) f'
abbrev r_ends (z : Nat) (f : x_H) (post : Option Value → x_H → Prop) (s : q_A × Int32) : Prop := ∀ (f' : x_H) (M' : x_N), x_Mdl z f' M' → r_is M' s.1 → x_fr (fun q => q < 59) f f' → post (some (.int s.2)) f'
/-- where only the state is told -/
abbrev c_any (z : Nat) (f : x_H) (post : Option Value → x_H → Prop) (s : q_A) : Prop := ∀ (f' : x_H) (S' : x_S) (r : Int32), x_Sys z f' S' → c_is S' s → x_fr (fun q => 59 ≤ q) f f' → post (some (.int r)) f'
abbrev r_any (z : Nat) (f : x_H) (post : Option Value → x_H → Prop) (s : q_A) : Prop := ∀ (f' : x_H) (M' : x_N) (r : Int32), x_Mdl z f' M' → r_is M' s → x_fr (fun q => q < 59) f f' → post (some (.int r)) f'
theorem c_refuse {n : Int32} {k : Nat} (hn : -n = nI k) (hk : k < 7) (hS : x_Sys z f S) (hA : c_is S A) (h : c_ends z f post (s_no A k, n)) : Y E 1 mX5_refuse [.ref 0, .int n] z f 0 0 post := by
  obtain ⟨a1, a2, a3, a4, a5, a6, a7, a8⟩ := hA
  refine w_refuse hn hk hS (fun f' hS' hF => h f' _ hS' ⟨a1, a2, a3, a4, a5, a6, a7, ?_⟩ hF)
  show x_rf (S.2.2.1 6) k = x_rf (a_no A) k
  rw [a8]
theorem c_refuseFar {n : Int32} {k : Nat} (hn : -n = nI k) (hk : k < 7) (hS : x_Sys z f S) (hA : c_is S A) (h : c_ends z f post (s_no A k, 1000000000 - n)) : Y E 2 mX5_refuseFar [.ref 0, .int n] z f 0 0 post := by
  obtain ⟨a1, a2, a3, a4, a5, a6, a7, a8⟩ := hA
  refine w_refuseFar hn hk hS (fun f' hS' hF => h f' _ hS' ⟨a1, a2, a3, a4, a5, a6, a7, ?_⟩ hF)
  show x_rf (S.2.2.1 6) k = x_rf (a_no A) k
  rw [a8]
theorem r_no {k : Nat} (h9 : M.2.1 3 = fun i => a_no A (i + 1)) : x_rf (M.2.1 3) k = fun i => x_rf (a_no A) (k + 1) (i + 1) := by
  rw [h9]
  funext i
  unfold x_rf upd
  by_cases d : i = k
  · rw [if_pos d, if_pos (by omega)]
  · rw [if_neg d, if_neg (by omega)]
theorem r_is.no {k : Nat} (h : r_is M A) : r_is (M.1, x_ua M.2.1 3 (x_rf (M.2.1 3) k), M.2.2) (s_no A (k + 1)) := by
  obtain ⟨h1, h2, h3, h4, h5, h6, h7, h8, h9⟩ := h
  exact ⟨h1, h2, h3, h4.eq (fun _ _ => rfl) rfl rfl, h5, h6, h7, h8, r_no h9⟩
theorem r_refuse {n : Int32} {k : Nat} (hn : -n - 1 = nI k) (hk : k < 6) (hM : x_Mdl z f M) (hA : r_is M A) (h : r_ends z f post (s_no A (k + 1), n)) : Y E 1 mX6_refuse [.ref 59, .int n] z f 0 0 post :=
  w_mRefuse hn hk hM (fun f' hM' hF => h f' _ hM' hA.no hF)
theorem r_told {n : Int32} {k : Nat} (hn : -n - 1 = nI k) (hk : k < 6) (hM : x_Mdl z f M) (hA : r_is M A) (h : r_ends z f post (s_no A (k + 1), 1000000000 - n)) : Y E 2 mX6_told [.ref 59, .int n] z f 0 0 post :=
  w_told hn hk hM (fun f' hM' hF => h f' _ hM' hA.no hF)
theorem r_bowl {v : Int32} (hM : x_Mdl z f M) (hA : r_is M A) (ho : a_ok A) (h1 : q_in (g_n (a_g A)) v → post (some (.int 1)) f) (h0 : ¬ q_in (g_n (a_g A)) v → post (some (.int 0)) f) : Y E 2 mX6_isBowl [.ref 59, .int v] z f 0 0 post := by
  have hn := ho.1.1
  refine w_isBowl hM (fun q => h1 ?_) (fun q => h0 (fun k => q ?_))
  · rw [hA.1.2.2.2.1] at q
    exact (q_in_bowl hn).mp q
  · rw [hA.1.2.2.2.1]
    exact (q_in_bowl hn).mpr k
theorem c_has {v : Int32} (hS : x_Sys z f S) (hA : c_is S A) (ho : a_ok A) (h1 : q_in (g_n (a_g A)) v → post (some (.int 1)) f) (h0 : ¬ q_in (g_n (a_g A)) v → post (some (.int 0)) f) : Y E 1 mX3_has [.ref 1, .int v] z f 0 0 post :=
  w_has (hS.2.1 0 (by decide)) (fun q => h1 ((q_in_has hA.1 ho.1.1).mp q)) (fun q => h0 (fun k => q ((q_in_has hA.1 ho.1.1).mpr k)))
end REF
-- what calls answer, and what they leave
def s_letter (A : q_A) (a : Int32) : q_A × Int32 := if a < 0 then (s_no A 4, -4) else if 255 < a ∨ a_lc A = 96 then (s_no A 6, -6) else ((A.1, A.2.1, (a_lc A + 1, q_up (a_lf A) (a_lc A) a.toNatClampNeg), A.2.2.2), nI (a_lc A + 1))
def s_row (A : q_A) (a : Int32) : q_A × Int32 := if a < 0 then (s_no A 4, -4) else if 9 < a ∨ a_rc A = 12 then (s_no A 6, -6) else ((A.1, A.2.1, A.2.2.1, (a_rc A + 1, q_up (a_rf A) (a_rc A) a.toNatClampNeg), A.2.2.2.2), nI (a_rc A + 1))
def s_put (A : q_A) (a b : Int32) : q_A × Int32 := if q_in (g_n (a_g A)) a then (if b < 0 then (s_no A 4, -4) else if 20 < b then (s_no A 6, -6) else (s_g A (g_κ (a_g A), q_up (g_β (a_g A)) a.toNatClampNeg b.toNatClampNeg, (a_g A).2.2), nI (g_β (a_g A) a.toNatClampNeg))) else (s_no A 1, -1)
def s_move (A : q_A) (a : Int32) : q_A × Int32 := if q_in (g_n (a_g A)) a then (if 2 ≤ g_n (a_g A) ∧ 0 < g_β (a_g A) a.toNatClampNeg then (if a_mv A = 999 then (s_no A 6, -6) else (((g_mv (a_g A) a.toNatClampNeg, a_mv A + 1), A.2), if q_tk1 (g_v (a_g A) a.toNatClampNeg).1 (g_π (a_g A) (g_t (a_g A))) (g_v (a_g A) a.toNatClampNeg).2.2.2 = true then 1 else 0)) else (s_no A 3, -3)) else (s_no A 1, -1)
def g_set (g : q_G) (a : Int32) (v : Nat) : q_G := if a = 0 then (g.1, g.2.1, g.2.2.1, g_n g, v, g_l g, g_t g) else if a = 1 then (g.1, g.2.1, g.2.2.1, g_n g, g_f g, v, g_t g) else (g.1, g.2.1, g.2.2.1, g_n g, g_f g, g_l g, v)
def s_set (A : q_A) (a b : Int32) : q_A × Int32 := if a < 0 ∨ 2 < a then (s_no A 2, -2) else if b < (if a = 0 then 1 else 0) then (s_no A 4, -4) else if (if a = 0 then 9 else 1) < b then (s_no A 6, -6) else (s_g A (g_set (a_g A) a b.toNatClampNeg), if a = 0 then nI (g_f (a_g A)) else if a = 1 then nI (g_l (a_g A)) else nI (g_t (a_g A)))
def s_bowl (A : q_A) (a b : Int32) : q_A × Int32 := if q_in (g_n (a_g A)) a then (if b = 0 then (A, nI (g_κ (a_g A) a.toNatClampNeg)) else if b = 1 then (A, nI (g_β (a_g A) a.toNatClampNeg)) else if b = 2 then (A, if g_κ (a_g A) a.toNatClampNeg = 2 then (-9) else nI (q_from (g_κ (a_g A) a.toNatClampNeg) (g_f (a_g A)))) else if b = 3 then (A, if q_tk (g_κ (a_g A)) (g_β (a_g A)) (g_f (a_g A)) a.toNatClampNeg then 1 else 0) else (s_no A 2, -2)) else (s_no A 1, -1)
def q_sum (β : Nat → Nat) : Nat → Nat
  | 0 => 0
  | n + 1 => q_sum β n + β n
def s_by (A : q_A) (a b : Int32) : q_A × Int32 := if q_in (g_n (a_g A)) a then (if b < 0 ∨ 4 < b then (s_no A 2, -2) else if 2 ≤ g_n (a_g A) ∧ 0 < g_β (a_g A) a.toNatClampNeg then (A, if b = 0 then nI (g_v (a_g A) a.toNatClampNeg).2.1 else if b = 1 then q_lI (g_v (a_g A) a.toNatClampNeg).2.2.2 else if b = 2 then nI (g_v (a_g A) a.toNatClampNeg).2.2.1 else if b = 3 then (if q_tk1 (g_v (a_g A) a.toNatClampNeg).1 (g_π (a_g A) (g_t (a_g A))) (g_v (a_g A) a.toNatClampNeg).2.2.2 = true then 1 else 0) else nI (q_sum (g_β (g_mv (a_g A) a.toNatClampNeg)) (g_n (a_g A)))) else (s_no A 3, -3)) else (s_no A 1, -1)
def s_behind (A : q_A) (a b : Int32) : q_A × Int32 := if q_in (g_n (a_g A)) a ∧ q_in (g_n (a_g A)) b then (if 2 ≤ g_n (a_g A) ∧ 0 < g_β (a_g A) a.toNatClampNeg then (A, nI (g_β (g_mv (a_g A) a.toNatClampNeg) b.toNatClampNeg)) else (s_no A 3, -3)) else (s_no A 1, -1)
def s_image (A : q_A) : q_A × Int32 := ((A.1, some A.1, A.2.2), nI (a_mv A))
def s_on (A : q_A) : q_A × Int32 := match a_pi A with
  | none => (s_no A 3, -3)
  | some p => ((p, A.2), nI p.2)
def s_count (A : q_A) (a : Int32) : q_A × Int32 := (A, if a = 0 then nI (g_n (a_g A)) else if a = 1 then nI (q_sum (g_β (a_g A)) (g_n (a_g A))) else if a = 2 then nI (g_π (a_g A) 0) else if a = 3 then nI (g_π (a_g A) 1) else if a = 4 then nI (g_t (a_g A)) else if a = 5 then nI (a_mv A) else if a = 6 then nI (g_f (a_g A)) else if a = 7 then nI (g_l (a_g A)) else if a = 8 then nI (a_rc A) else if a = 9 then nI (a_lc A) else if ¬ a < 11 ∧ ¬ 16 < a then a_no A (a.toNatClampNeg - 10) else (-9))
end
section
/-! The class's calls that change the state, or look at it. -/
theorem nI_999 {n : Nat} (h : n ≤ 999) : nI n < 999 ↔ ¬ n = 999 := by
  rw [show (999 : Int32) = nI 999 from rfl, nI_ltI (by omega) (by decide)]
  omega
theorem q_sum_I (β : Nat → Nat) : ∀ n, x_sum (fun i => nI (β i)) n = nI (q_sum β n)
  | 0 => rfl
  | n + 1 => by
    show x_sum _ n + nI (β n) = _
    rw [q_sum_I β n]
    exact nI_add _ _
theorem q_up_same (f : Nat → Nat) (k : Nat) : q_up f k (f k) = f := by
  funext j
  unfold q_up
  split
  · rename_i h
    rw [h]
  · rfl
theorem i3_of {a : Int32} (d : ¬ (a < 0 ∨ 2 < a)) : a = 0 ∨ a = 1 ∨ a = 2 := by
  obtain ⟨k, hk, rfl⟩ := nI_of2 (n := 2) (M := 2) rfl (fun q => d (Or.inl q)) (Int32.not_lt.mp (fun q => d (Or.inr q)))
  have h3 : k = 0 ∨ k = 1 ∨ k = 2 := by omega
  rcases h3 with rfl | rfl | rfl
  · exact Or.inl rfl
  · exact Or.inr (Or.inl rfl)
  · exact Or.inr (Or.inr rfl)
theorem s_set0 (A : q_A) (b : Int32) : s_set A 0 b = if b < 1 then (s_no A 4, -4) else if 9 < b then (s_no A 6, -6) else (s_g A ((a_g A).1, (a_g A).2.1, (a_g A).2.2.1, g_n (a_g A), b.toNatClampNeg, g_l (a_g A), g_t (a_g A)), nI (g_f (a_g A))) := by
  unfold s_set g_set
  rw [if_neg (by decide), if_pos rfl, if_pos rfl, if_pos rfl, if_pos rfl]
theorem s_set1 (A : q_A) (b : Int32) : s_set A 1 b = if b < 0 then (s_no A 4, -4) else if 1 < b then (s_no A 6, -6) else (s_g A ((a_g A).1, (a_g A).2.1, (a_g A).2.2.1, g_n (a_g A), g_f (a_g A), b.toNatClampNeg, g_t (a_g A)), nI (g_l (a_g A))) := by
  unfold s_set g_set
  simp only [if_neg (show ¬ ((1 : Int32) < 0 ∨ (2 : Int32) < 1) by decide), if_neg (show ¬ (1 : Int32) = 0 by decide), if_true]
theorem s_set2 (A : q_A) (b : Int32) : s_set A 2 b = if b < 0 then (s_no A 4, -4) else if 1 < b then (s_no A 6, -6) else (s_g A ((a_g A).1, (a_g A).2.1, (a_g A).2.2.1, g_n (a_g A), g_f (a_g A), g_l (a_g A), b.toNatClampNeg), nI (g_t (a_g A))) := by
  unfold s_set g_set
  simp only [if_neg (show ¬ ((2 : Int32) < 0 ∨ (2 : Int32) < 2) by decide), if_neg (show ¬ (2 : Int32) = 0 by decide), if_neg (show ¬ (2 : Int32) = 1 by decide)]
section CA
variable {E : x_E} {z : Nat} {f : x_H} {S : x_S} {A : q_A} {post : Option Value → x_H → Prop} {a b : Int32}
theorem c_fr0 {j : Nat} {f' : x_H} (hj : j < 11) (h : x_fr (x_ot (x_tp j)) f f') : x_fr (fun q => 59 ≤ q) f f' := h.mono (fun q hq => x_tpq j hj hq)
theorem c_letter (hS : x_Sys z f S) (hA : c_is S A) (ho : a_ok A) (h : c_ends z f post (s_letter A a)) : Y E 9 mX5_letter [.ref 0, .int a] z f 0 0 post := by
  refine Y.intro gX5_letter (lv := [(0, .ref 0), (1, .int a)]) rfl (Nat.le_of_ble_eq_true rfl) ?_
  obtain ⟨b1, b2, b3, b4, b5, b6, b7, b8⟩ := id hA
  have hlc := ho.2.2.2.1
  refine x_iload_n (pc' := 1) rfl rfl rfl ?_
  refine x_if_ge (tgt := 11) (pc' := 4) rfl rfl rfl (fun c1 => ?_) (fun c1 => ?_)
  · have d1 : ¬ a < 0 := Int32.not_lt.mpr c1
    refine x_iload_n (pc' := 12) rfl rfl rfl ?_
    refine x_sipush (pc' := 15) rfl rfl sipush_255 ?_
    refine x_icmp_gt (tgt := 29) (pc' := 18) rfl rfl rfl (fun c15 => ?_) (fun c15 => ?_)
    · rw [show s_letter A a = _ from (if_neg d1).trans (if_pos (Or.inl c15))] at h
      refine x_aload_n (pc' := 30) rfl rfl rfl ?_
      refine x_bipush (pc' := 32) rfl rfl bipush_m6 ?_
      refine x_cV1i (d := 1) (pc' := 35) rfl rfl sX5_68 gX5_refuse (hS.1) ⟨Nat.le_of_ble_eq_true rfl, Nat.le_of_ble_eq_true rfl⟩ (Nat.le_of_ble_eq_true rfl) ⟨Nat.le_of_ble_eq_true rfl, Nat.le_of_ble_eq_true rfl⟩ ?_
      refine c_refuse (k := 6) (by decide) (by decide) hS hA (fun f1 S1 hS1 hA1 hF1 => ⟨_, rfl, ?_⟩)
      exact x_ireturn rfl rfl rfl (Nat.le_of_ble_eq_true rfl) (Nat.le_of_ble_eq_true rfl) (h _ _ hS1 hA1 hF1)
    · refine x_aload_n (pc' := 19) rfl rfl rfl ?_
      refine x_get (pc' := 22) rfl rfl rfl (hS.1) rfl ?_
      refine x_iload_n (pc' := 23) rfl rfl rfl ?_
      refine x_cV1i (d := 1) (pc' := 26) rfl rfl sX5_72 gX2_add (hS.lt) ⟨Nat.le_of_ble_eq_true rfl, Nat.le_of_ble_eq_true rfl⟩ (Nat.le_of_ble_eq_true rfl) ⟨Nat.le_of_ble_eq_true rfl, Nat.le_of_ble_eq_true rfl⟩ ?_
      refine w_add (n := a_lc A) hS b4 (fun hl f1 hS1 hF1 => ⟨_, rfl, ?_⟩) (fun hl _ => ⟨_, rfl, ?_⟩) (by omega)
      · rw [show s_letter A a = _ from (if_neg d1).trans (if_neg (fun q => q.elim c15 (by omega)))] at h
        refine x_if_ne (tgt := 36) (pc' := 29) rfl rfl rfl (fun _ => ?_) (fun c26 => absurd c26 ((by decide)))
        refine x_aload_n (pc' := 37) rfl rfl rfl ?_
        refine x_get (pc' := 40) rfl rfl rfl (hS1.1) rfl ?_
        refine x_get (pc' := 43) rfl rfl rfl (hS1.lt) rfl ?_
        obtain ⟨ka, hka, rfl⟩ := nI_of d1
        exact x_ireturn rfl rfl rfl (Nat.le_of_ble_eq_true rfl) (Nat.le_of_ble_eq_true rfl) (h _ _ hS1 ⟨b1, b2, b3, rfl, by show upd (S.2.2.1 0) (a_lc A) (nI ka) = fun i => nI (q_up (a_lf A) (a_lc A) (nI ka).toNatClampNeg i); rw [b5, q_up_I, nI_clamp hka], b6, b7, b8⟩ hF1)
      · rw [show s_letter A a = _ from (if_neg d1).trans (if_pos (Or.inr (by omega)))] at h
        refine x_if_ne (tgt := 36) (pc' := 29) rfl rfl rfl (fun c26 => absurd ((by decide)) c26) (fun _ => ?_)
        refine x_aload_n (pc' := 30) rfl rfl rfl ?_
        refine x_bipush (pc' := 32) rfl rfl bipush_m6 ?_
        refine x_cV1i (d := 1) (pc' := 35) rfl rfl sX5_68 gX5_refuse (hS.1) ⟨Nat.le_of_ble_eq_true rfl, Nat.le_of_ble_eq_true rfl⟩ (Nat.le_of_ble_eq_true rfl) ⟨Nat.le_of_ble_eq_true rfl, Nat.le_of_ble_eq_true rfl⟩ ?_
        refine c_refuse (k := 6) (by decide) (by decide) hS hA (fun f1 S1 hS1 hA1 hF1 => ⟨_, rfl, ?_⟩)
        exact x_ireturn rfl rfl rfl (Nat.le_of_ble_eq_true rfl) (Nat.le_of_ble_eq_true rfl) (h _ _ hS1 hA1 hF1)
  · rw [show s_letter A a = _ from if_pos (Int32.not_le.mp c1)] at h
    refine x_aload_n (pc' := 5) rfl rfl rfl ?_
    refine x_bipush (pc' := 7) rfl rfl bipush_m4 ?_
    refine x_cV1i (d := 1) (pc' := 10) rfl rfl sX5_68 gX5_refuse (hS.1) ⟨Nat.le_of_ble_eq_true rfl, Nat.le_of_ble_eq_true rfl⟩ (Nat.le_of_ble_eq_true rfl) ⟨Nat.le_of_ble_eq_true rfl, Nat.le_of_ble_eq_true rfl⟩ ?_
    refine c_refuse (k := 4) (by decide) (by decide) hS hA (fun f1 S1 hS1 hA1 hF1 => ⟨_, rfl, ?_⟩)
    exact x_ireturn rfl rfl rfl (Nat.le_of_ble_eq_true rfl) (Nat.le_of_ble_eq_true rfl) (h _ _ hS1 hA1 hF1)
theorem c_row (hS : x_Sys z f S) (hA : c_is S A) (ho : a_ok A) (h : c_ends z f post (s_row A a)) : Y E 9 mX5_row [.ref 0, .int a] z f 0 0 post := by
  refine Y.intro gX5_row (lv := [(0, .ref 0), (1, .int a)]) rfl (Nat.le_of_ble_eq_true rfl) ?_
  obtain ⟨b1, b2, b3, b4, b5, b6, b7, b8⟩ := id hA
  have hrc := ho.2.2.2.2.2.1
  refine x_iload_n (pc' := 1) rfl rfl rfl ?_
  refine x_if_ge (tgt := 11) (pc' := 4) rfl rfl rfl (fun c1 => ?_) (fun c1 => ?_)
  · have d1 : ¬ a < 0 := Int32.not_lt.mpr c1
    refine x_iload_n (pc' := 12) rfl rfl rfl ?_
    refine x_bipush (pc' := 14) rfl rfl bipush_9 ?_
    refine x_icmp_gt (tgt := 36) (pc' := 17) rfl rfl rfl (fun c14 => ?_) (fun c14 => ?_)
    · rw [show s_row A a = _ from (if_neg d1).trans (if_pos (Or.inl c14))] at h
      refine x_aload_n (pc' := 37) rfl rfl rfl ?_
      refine x_bipush (pc' := 39) rfl rfl bipush_m6 ?_
      refine x_cV1i (d := 1) (pc' := 42) rfl rfl sX5_68 gX5_refuse (hS.1) ⟨Nat.le_of_ble_eq_true rfl, Nat.le_of_ble_eq_true rfl⟩ (Nat.le_of_ble_eq_true rfl) ⟨Nat.le_of_ble_eq_true rfl, Nat.le_of_ble_eq_true rfl⟩ ?_
      refine c_refuse (k := 6) (by decide) (by decide) hS hA (fun f1 S1 hS1 hA1 hF1 => ⟨_, rfl, ?_⟩)
      exact x_ireturn rfl rfl rfl (Nat.le_of_ble_eq_true rfl) (Nat.le_of_ble_eq_true rfl) (h _ _ hS1 hA1 hF1)
    · refine x_aload_n (pc' := 18) rfl rfl rfl ?_
      refine x_get (pc' := 21) rfl rfl rfl (hS.1) rfl ?_
      refine x_eqi b6 ?_
      refine x_if_lt (tgt := 36) (pc' := 24) rfl rfl rfl (fun c21 => absurd c21 (nI_pos (by omega))) (fun _ => ?_)
      refine x_aload_n (pc' := 25) rfl rfl rfl ?_
      refine x_get (pc' := 28) rfl rfl rfl (hS.1) rfl ?_
      refine x_eqi b6 ?_
      refine x_aload_n (pc' := 29) rfl rfl rfl ?_
      refine x_get (pc' := 32) rfl rfl rfl (hS.1) rfl ?_
      refine x_alen (pc' := 33) rfl rfl (hS.2.2.1 5 (by decide)) ?_
      by_cases d3 : a_rc A = 12
      · rw [show s_row A a = _ from (if_neg d1).trans (if_pos (Or.inr d3))] at h
        refine x_icmp_lt (tgt := 43) (pc' := 36) rfl rfl rfl (fun q => absurd q (show ¬ nI (a_rc A) < nI 12 by rw [d3]; exact Int32.lt_irrefl)) (fun _ => ?_)
        refine x_aload_n (pc' := 37) rfl rfl rfl ?_
        refine x_bipush (pc' := 39) rfl rfl bipush_m6 ?_
        refine x_cV1i (d := 1) (pc' := 42) rfl rfl sX5_68 gX5_refuse (hS.1) ⟨Nat.le_of_ble_eq_true rfl, Nat.le_of_ble_eq_true rfl⟩ (Nat.le_of_ble_eq_true rfl) ⟨Nat.le_of_ble_eq_true rfl, Nat.le_of_ble_eq_true rfl⟩ ?_
        refine c_refuse (k := 6) (by decide) (by decide) hS hA (fun f1 S1 hS1 hA1 hF1 => ⟨_, rfl, ?_⟩)
        exact x_ireturn rfl rfl rfl (Nat.le_of_ble_eq_true rfl) (Nat.le_of_ble_eq_true rfl) (h _ _ hS1 hA1 hF1)
      · rw [show s_row A a = _ from (if_neg d1).trans (if_neg (fun q => q.elim c14 d3))] at h
        refine x_icmp_lt (tgt := 43) (pc' := 36) rfl rfl rfl (fun _ => ?_) (fun q => absurd (nI_lt (a := a_rc A) (b := 12) (by omega) (by decide)) q)
        refine x_aload_n (pc' := 44) rfl rfl rfl ?_
        refine x_get (pc' := 47) rfl rfl rfl (hS.1) rfl ?_
        obtain ⟨ka, hka, rfl⟩ := nI_of d1
        refine x_aload_n (pc' := 48) rfl rfl rfl ?_
        refine x_get (pc' := 51) rfl rfl rfl (hS.1) rfl ?_
        refine x_eqi b6 ?_
        refine x_iload_n (pc' := 52) rfl rfl rfl ?_
        refine x_iastore (pc' := 53) rfl rfl (hS.2.2.1 5 (by decide)) (vp_in_nI (n := a_rc A) (N := 12) (by omega) (by decide)) (fun f1 e1 => ?_)
        have hS1 := hS.arr 5 (by decide) e1
        have hF1 := (x_fr.rf (P := fun q => 59 ≤ q)).up e1 (by decide)
        rw [nI_clamp (by omega), b7, q_up_I] at hS1
        refine x_aload_n (pc' := 54) rfl rfl rfl ?_
        refine x_dup (pc' := 55) rfl rfl rfl ?_
        refine x_get (pc' := 58) rfl rfl rfl (hS1.1) rfl ?_
        refine x_eqi b6 ?_
        refine x_iconst (pc' := 59) rfl rfl iconst_1 ?_
        refine x_iadd (pc' := 60) rfl rfl ?_
        refine x_eqi (nI_1 _) ?_
        refine x_put (pc' := 63) rfl rfl rfl (hS1.1) (Nat.le_of_ble_eq_true rfl) rfl rfl rfl rfl (fun f2 e2 => ?_)
        have hS2 := hS1.num0 (upd S.1 1 (nI (a_rc A + 1))) (e2.trans (by rw [show (S.1, S.2.1, x_ua S.2.2.1 5 _, S.2.2.2).1 = S.1 from rfl, x_oFs1])) (fun i hi => pk_un (by omega))
        have hF2 := hF1.up e2 (by decide)
        refine x_aload_n (pc' := 64) rfl rfl rfl ?_
        refine x_get (pc' := 67) rfl rfl rfl (hS2.1) rfl ?_
        exact x_ireturn rfl rfl rfl (Nat.le_of_ble_eq_true rfl) (Nat.le_of_ble_eq_true rfl) (h _ _ hS2 ⟨b1, b2, b3, b4, b5, rfl, by show (fun i => nI (q_up (a_rf A) (a_rc A) ka i)) = fun i => nI (q_up (a_rf A) (a_rc A) (nI ka).toNatClampNeg i); rw [nI_clamp hka], b8⟩ hF2)
  · rw [show s_row A a = _ from if_pos (Int32.not_le.mp c1)] at h
    refine x_aload_n (pc' := 5) rfl rfl rfl ?_
    refine x_bipush (pc' := 7) rfl rfl bipush_m4 ?_
    refine x_cV1i (d := 1) (pc' := 10) rfl rfl sX5_68 gX5_refuse (hS.1) ⟨Nat.le_of_ble_eq_true rfl, Nat.le_of_ble_eq_true rfl⟩ (Nat.le_of_ble_eq_true rfl) ⟨Nat.le_of_ble_eq_true rfl, Nat.le_of_ble_eq_true rfl⟩ ?_
    refine c_refuse (k := 4) (by decide) (by decide) hS hA (fun f1 S1 hS1 hA1 hF1 => ⟨_, rfl, ?_⟩)
    exact x_ireturn rfl rfl rfl (Nat.le_of_ble_eq_true rfl) (Nat.le_of_ble_eq_true rfl) (h _ _ hS1 hA1 hF1)
theorem c_put (hS : x_Sys z f S) (hA : c_is S A) (ho : a_ok A) (h : c_ends z f post (s_put A a b)) : Y E 9 mX5_put [.ref 0, .int a, .int b] z f 0 0 post := by
  refine Y.intro gX5_put (lv := [(0, .ref 0), (1, .int a), (2, .int b)]) rfl (Nat.le_of_ble_eq_true rfl) ?_
  obtain ⟨b1, b2, b3, b4, b5, b6, b7, b8⟩ := id hA
  have hn9 := ho.1.1
  refine x_aload_n (pc' := 1) rfl rfl rfl ?_
  refine x_get (pc' := 4) rfl rfl rfl (hS.1) rfl ?_
  refine x_iload_n (pc' := 5) rfl rfl rfl ?_
  refine x_cV1i (d := 1) (pc' := 8) rfl rfl sX5_90 gX3_has ((hS.2.1 0 (by decide)).1) ⟨Nat.le_of_ble_eq_true rfl, Nat.le_of_ble_eq_true rfl⟩ (Nat.le_of_ble_eq_true rfl) ⟨Nat.le_of_ble_eq_true rfl, Nat.le_of_ble_eq_true rfl⟩ ?_
  refine c_has hS hA ho (fun d1 => ⟨_, rfl, ?_⟩) (fun d1 => ⟨_, rfl, ?_⟩)
  · obtain ⟨k, hk, hk2, rfl, hcl⟩ := q_in_k d1
    refine x_if_ne (tgt := 17) (pc' := 11) rfl rfl rfl (fun _ => ?_) (fun c8 => absurd c8 ((by decide)))
    refine x_iload_n (pc' := 18) rfl rfl rfl ?_
    refine x_if_ge (tgt := 28) (pc' := 21) rfl rfl rfl (fun c18 => ?_) (fun c18 => ?_)
    · have d2 : ¬ b < 0 := Int32.not_lt.mpr c18
      refine x_iload_n (pc' := 29) rfl rfl rfl ?_
      refine x_bipush (pc' := 31) rfl rfl bipush_20 ?_
      refine x_icmp_le (tgt := 41) (pc' := 34) rfl rfl rfl (fun c31 => ?_) (fun c31 => ?_)
      · rw [show s_put A (nI k) b = _ from (if_pos d1).trans ((if_neg d2).trans (if_neg (Int32.not_lt.mpr c31)))] at h
        refine x_aload_n (pc' := 42) rfl rfl rfl ?_
        refine x_get (pc' := 45) rfl rfl rfl (hS.1) rfl ?_
        refine x_iload_n (pc' := 46) rfl rfl rfl ?_
        refine x_cV1i (d := 2) (pc' := 49) rfl rfl sX5_96 gX3_beansOf ((hS.2.1 0 (by decide)).1) ⟨Nat.le_of_ble_eq_true rfl, Nat.le_of_ble_eq_true rfl⟩ (Nat.le_of_ble_eq_true rfl) ⟨Nat.le_of_ble_eq_true rfl, Nat.le_of_ble_eq_true rfl⟩ ?_
        refine w_beansOf (hS.2.1 0 (by decide)) (fun g => ⟨_, rfl, ?_⟩) (fun g => absurd (t_has_nI b1.2.2.2.1 hn9 hk) g)
        refine x_eqi (show (S.2.1 0).2.1 (nI k).toNatClampNeg = nI (g_β (a_g A) (nI k).toNatClampNeg) from by rw [b1.2.1]) ?_
        refine x_istore_n (pc' := 50) (lv' := [(3, _), (0, _), (1, _), (2, _)]) rfl rfl (Nat.le_of_ble_eq_true rfl) rfl ?_
        refine x_aload_n (pc' := 51) rfl rfl rfl ?_
        refine x_get (pc' := 54) rfl rfl rfl (hS.1) rfl ?_
        refine x_iload_n (pc' := 55) rfl rfl rfl ?_
        refine x_iload_n (pc' := 56) rfl rfl rfl ?_
        refine x_cV2v (d := 2) (pc' := 59) rfl rfl sX5_105 gX3_lay ((hS.2.1 0 (by decide)).1) ⟨Nat.le_of_ble_eq_true rfl, Nat.le_of_ble_eq_true rfl⟩ (Nat.le_of_ble_eq_true rfl) ⟨Nat.le_of_ble_eq_true rfl, Nat.le_of_ble_eq_true rfl⟩ ?_
        refine w_lay (hS.2.1 0 (by decide)) (fun _ f1 hT1 hF1 => ⟨rfl, ?_⟩) (fun g => absurd (t_has_nI b1.2.2.2.1 hn9 hk) g)
        have hS1 := hS.tab 0 (by decide) hT1 hF1
        obtain ⟨kb, hkb, rfl⟩ := nI_of d2
        refine x_iload_n (pc' := 60) rfl rfl rfl ?_
        exact x_ireturn rfl rfl rfl (Nat.le_of_ble_eq_true rfl) (Nat.le_of_ble_eq_true rfl) (h _ _ hS1 ⟨⟨b1.1, by show upd (S.2.1 0).2.1 (nI k).toNatClampNeg (nI kb) = fun i => nI (q_up (g_β (a_g A)) (nI k).toNatClampNeg (nI kb).toNatClampNeg i); rw [b1.2.1, q_up_I, nI_clamp hkb], b1.2.2⟩, b2, b3, b4, b5, b6, b7, b8⟩ (c_fr0 (j := 0) (by decide) hF1))
      · rw [show s_put A (nI k) b = _ from (if_pos d1).trans ((if_neg d2).trans (if_pos (Int32.not_le.mp c31)))] at h
        refine x_aload_n (pc' := 35) rfl rfl rfl ?_
        refine x_bipush (pc' := 37) rfl rfl bipush_m6 ?_
        refine x_cV1i (d := 1) (pc' := 40) rfl rfl sX5_68 gX5_refuse (hS.1) ⟨Nat.le_of_ble_eq_true rfl, Nat.le_of_ble_eq_true rfl⟩ (Nat.le_of_ble_eq_true rfl) ⟨Nat.le_of_ble_eq_true rfl, Nat.le_of_ble_eq_true rfl⟩ ?_
        refine c_refuse (k := 6) (by decide) (by decide) hS hA (fun f1 S1 hS1 hA1 hF1 => ⟨_, rfl, ?_⟩)
        exact x_ireturn rfl rfl rfl (Nat.le_of_ble_eq_true rfl) (Nat.le_of_ble_eq_true rfl) (h _ _ hS1 hA1 hF1)
    · rw [show s_put A (nI k) b = _ from (if_pos d1).trans (if_pos (Int32.not_le.mp c18))] at h
      refine x_aload_n (pc' := 22) rfl rfl rfl ?_
      refine x_bipush (pc' := 24) rfl rfl bipush_m4 ?_
      refine x_cV1i (d := 1) (pc' := 27) rfl rfl sX5_68 gX5_refuse (hS.1) ⟨Nat.le_of_ble_eq_true rfl, Nat.le_of_ble_eq_true rfl⟩ (Nat.le_of_ble_eq_true rfl) ⟨Nat.le_of_ble_eq_true rfl, Nat.le_of_ble_eq_true rfl⟩ ?_
      refine c_refuse (k := 4) (by decide) (by decide) hS hA (fun f1 S1 hS1 hA1 hF1 => ⟨_, rfl, ?_⟩)
      exact x_ireturn rfl rfl rfl (Nat.le_of_ble_eq_true rfl) (Nat.le_of_ble_eq_true rfl) (h _ _ hS1 hA1 hF1)
  · rw [show s_put A a b = _ from if_neg d1] at h
    refine x_if_ne (tgt := 17) (pc' := 11) rfl rfl rfl (fun c8 => absurd ((by decide)) c8) (fun _ => ?_)
    refine x_aload_n (pc' := 12) rfl rfl rfl ?_
    refine x_iconst (pc' := 13) rfl rfl iconst_m1 ?_
    refine x_cV1i (d := 1) (pc' := 16) rfl rfl sX5_68 gX5_refuse (hS.1) ⟨Nat.le_of_ble_eq_true rfl, Nat.le_of_ble_eq_true rfl⟩ (Nat.le_of_ble_eq_true rfl) ⟨Nat.le_of_ble_eq_true rfl, Nat.le_of_ble_eq_true rfl⟩ ?_
    refine c_refuse (k := 1) (by decide) (by decide) hS hA (fun f1 S1 hS1 hA1 hF1 => ⟨_, rfl, ?_⟩)
    exact x_ireturn rfl rfl rfl (Nat.le_of_ble_eq_true rfl) (Nat.le_of_ble_eq_true rfl) (h _ _ hS1 hA1 hF1)
theorem c_set (hS : x_Sys z f S) (hA : c_is S A) (h : c_ends z f post (s_set A a b)) : Y E 9 mX5_set [.ref 0, .int a, .int b] z f 0 0 post := by
  refine Y.intro gX5_set (lv := [(0, .ref 0), (1, .int a), (2, .int b)]) rfl (Nat.le_of_ble_eq_true rfl) ?_
  obtain ⟨b1, b2, b3, b4, b5, b6, b7, b8⟩ := id hA
  obtain ⟨t1, t2, t3, t4, t5, t6, t7⟩ := id b1
  have hT := hS.2.1 0 (by decide)
  by_cases d0 : a < 0
  · rw [show s_set A a b = _ from if_pos (Or.inl d0)] at h
    refine x_iload_n (pc' := 1) rfl rfl rfl ?_
    refine x_if_lt (tgt := 9) (pc' := 4) rfl rfl rfl (fun _ => ?_) (fun c1 => absurd (d0) c1)
    refine x_aload_n (pc' := 10) rfl rfl rfl ?_
    refine x_bipush (pc' := 12) rfl rfl bipush_m2 ?_
    refine x_cV1i (d := 1) (pc' := 15) rfl rfl sX5_68 gX5_refuse (hS.1) ⟨Nat.le_of_ble_eq_true rfl, Nat.le_of_ble_eq_true rfl⟩ (Nat.le_of_ble_eq_true rfl) ⟨Nat.le_of_ble_eq_true rfl, Nat.le_of_ble_eq_true rfl⟩ ?_
    refine c_refuse (k := 2) (by decide) (by decide) hS hA (fun f1 S1 hS1 hA1 hF1 => ⟨_, rfl, ?_⟩)
    exact x_ireturn rfl rfl rfl (Nat.le_of_ble_eq_true rfl) (Nat.le_of_ble_eq_true rfl) (h _ _ hS1 hA1 hF1)
  by_cases d9 : 2 < a
  · rw [show s_set A a b = _ from if_pos (Or.inr d9)] at h
    refine x_iload_n (pc' := 1) rfl rfl rfl ?_
    refine x_if_lt (tgt := 9) (pc' := 4) rfl rfl rfl (fun c1 => absurd c1 (d0)) (fun _ => ?_)
    refine x_iload_n (pc' := 5) rfl rfl rfl ?_
    refine x_iconst (pc' := 6) rfl rfl iconst_2 ?_
    refine x_icmp_le (tgt := 16) (pc' := 9) rfl rfl rfl (fun c6 => absurd c6 (Int32.not_le.mpr d9)) (fun _ => ?_)
    refine x_aload_n (pc' := 10) rfl rfl rfl ?_
    refine x_bipush (pc' := 12) rfl rfl bipush_m2 ?_
    refine x_cV1i (d := 1) (pc' := 15) rfl rfl sX5_68 gX5_refuse (hS.1) ⟨Nat.le_of_ble_eq_true rfl, Nat.le_of_ble_eq_true rfl⟩ (Nat.le_of_ble_eq_true rfl) ⟨Nat.le_of_ble_eq_true rfl, Nat.le_of_ble_eq_true rfl⟩ ?_
    refine c_refuse (k := 2) (by decide) (by decide) hS hA (fun f1 S1 hS1 hA1 hF1 => ⟨_, rfl, ?_⟩)
    exact x_ireturn rfl rfl rfl (Nat.le_of_ble_eq_true rfl) (Nat.le_of_ble_eq_true rfl) (h _ _ hS1 hA1 hF1)
  rcases i3_of (fun q => q.elim d0 d9) with rfl | rfl | rfl
  · rw [s_set0] at h
    refine x_iload_n (pc' := 1) rfl rfl rfl ?_
    refine x_if_lt (tgt := 9) (pc' := 4) rfl rfl rfl (fun c1 => absurd c1 ((by decide))) (fun _ => ?_)
    refine x_iload_n (pc' := 5) rfl rfl rfl ?_
    refine x_iconst (pc' := 6) rfl rfl iconst_2 ?_
    refine x_icmp_le (tgt := 16) (pc' := 9) rfl rfl rfl (fun _ => ?_) (fun c6 => absurd ((by decide)) c6)
    refine x_iload_n (pc' := 17) rfl rfl rfl ?_
    refine x_iload_n (pc' := 18) rfl rfl rfl ?_
    refine x_if_ne (tgt := 25) (pc' := 21) rfl rfl rfl (fun c18 => absurd (rfl) c18) (fun _ => ?_)
    refine x_iconst (pc' := 22) rfl rfl iconst_1 ?_
    refine x_goto (tgt := 26) rfl rfl ?_
    refine x_icmp_ge (tgt := 36) (pc' := 29) rfl rfl rfl (fun c26 => ?_) (fun c26 => ?_)
    · have d2 : ¬ b < 1 := Int32.not_lt.mpr c26
      rw [if_neg d2] at h
      refine x_iload_n (pc' := 37) rfl rfl rfl ?_
      refine x_iload_n (pc' := 38) rfl rfl rfl ?_
      refine x_if_ne (tgt := 46) (pc' := 41) rfl rfl rfl (fun c38 => absurd (rfl) c38) (fun _ => ?_)
      refine x_bipush (pc' := 43) rfl rfl bipush_9 ?_
      refine x_goto (tgt := 47) rfl rfl ?_
      refine x_icmp_le (tgt := 57) (pc' := 50) rfl rfl rfl (fun c47 => ?_) (fun c47 => ?_)
      · rw [if_neg (Int32.not_lt.mpr c47)] at h
        refine x_iload_n (pc' := 58) rfl rfl rfl ?_
        refine x_if_ne (tgt := 80) (pc' := 61) rfl rfl rfl (fun c58 => absurd (rfl) c58) (fun _ => ?_)
        refine x_aload_n (pc' := 62) rfl rfl rfl ?_
        refine x_get (pc' := 65) rfl rfl rfl (hS.1) rfl ?_
        refine x_get (pc' := 68) rfl rfl rfl (hT.1) rfl ?_
        refine x_eqi t5 ?_
        refine x_istore_n (pc' := 69) (lv' := [(3, _), (0, _), (1, _), (2, _)]) rfl rfl (Nat.le_of_ble_eq_true rfl) rfl ?_
        refine x_aload_n (pc' := 70) rfl rfl rfl ?_
        refine x_get (pc' := 73) rfl rfl rfl (hS.1) rfl ?_
        refine x_iload_n (pc' := 74) rfl rfl rfl ?_
        refine x_put (pc' := 77) rfl rfl rfl (hT.1) (Nat.le_of_ble_eq_true rfl) rfl rfl rfl rfl (fun f1 e1 => ?_)
        have hT1 := hT.num 1 e1 (x_tFs1 _ _ _)
        have hF1 := (x_fr.rf (P := x_ot 1)).up e1 (by decide)
        have hS1 := hS.tab 0 (by decide) hT1 hF1
        obtain ⟨kb, hkb, rfl⟩ := nI_of (fun q => d2 (Int32.lt_of_lt_of_le q (by decide)))
        refine x_goto (tgt := 120) rfl rfl ?_
        refine x_iload_n (pc' := 121) rfl rfl rfl ?_
        exact x_ireturn rfl rfl rfl (Nat.le_of_ble_eq_true rfl) (Nat.le_of_ble_eq_true rfl) (h _ _ hS1 ⟨(by rw [nI_clamp hkb]; exact ⟨t1, t2, t3, t4, rfl, t6, t7⟩), b2, b3, b4, b5, b6, b7, b8⟩ (c_fr0 (j := 0) (by decide) hF1))
      · rw [if_pos (Int32.not_le.mp c47)] at h
        refine x_aload_n (pc' := 51) rfl rfl rfl ?_
        refine x_bipush (pc' := 53) rfl rfl bipush_m6 ?_
        refine x_cV1i (d := 1) (pc' := 56) rfl rfl sX5_68 gX5_refuse (hS.1) ⟨Nat.le_of_ble_eq_true rfl, Nat.le_of_ble_eq_true rfl⟩ (Nat.le_of_ble_eq_true rfl) ⟨Nat.le_of_ble_eq_true rfl, Nat.le_of_ble_eq_true rfl⟩ ?_
        refine c_refuse (k := 6) (by decide) (by decide) hS hA (fun f1 S1 hS1 hA1 hF1 => ⟨_, rfl, ?_⟩)
        exact x_ireturn rfl rfl rfl (Nat.le_of_ble_eq_true rfl) (Nat.le_of_ble_eq_true rfl) (h _ _ hS1 hA1 hF1)
    · rw [if_pos (Int32.not_le.mp c26)] at h
      refine x_aload_n (pc' := 30) rfl rfl rfl ?_
      refine x_bipush (pc' := 32) rfl rfl bipush_m4 ?_
      refine x_cV1i (d := 1) (pc' := 35) rfl rfl sX5_68 gX5_refuse (hS.1) ⟨Nat.le_of_ble_eq_true rfl, Nat.le_of_ble_eq_true rfl⟩ (Nat.le_of_ble_eq_true rfl) ⟨Nat.le_of_ble_eq_true rfl, Nat.le_of_ble_eq_true rfl⟩ ?_
      refine c_refuse (k := 4) (by decide) (by decide) hS hA (fun f1 S1 hS1 hA1 hF1 => ⟨_, rfl, ?_⟩)
      exact x_ireturn rfl rfl rfl (Nat.le_of_ble_eq_true rfl) (Nat.le_of_ble_eq_true rfl) (h _ _ hS1 hA1 hF1)
  · rw [s_set1] at h
    refine x_iload_n (pc' := 1) rfl rfl rfl ?_
    refine x_if_lt (tgt := 9) (pc' := 4) rfl rfl rfl (fun c1 => absurd c1 ((by decide))) (fun _ => ?_)
    refine x_iload_n (pc' := 5) rfl rfl rfl ?_
    refine x_iconst (pc' := 6) rfl rfl iconst_2 ?_
    refine x_icmp_le (tgt := 16) (pc' := 9) rfl rfl rfl (fun _ => ?_) (fun c6 => absurd ((by decide)) c6)
    refine x_iload_n (pc' := 17) rfl rfl rfl ?_
    refine x_iload_n (pc' := 18) rfl rfl rfl ?_
    refine x_if_ne (tgt := 25) (pc' := 21) rfl rfl rfl (fun _ => ?_) (fun c18 => absurd c18 ((by decide)))
    refine x_iconst (pc' := 26) rfl rfl iconst_0 ?_
    refine x_icmp_ge (tgt := 36) (pc' := 29) rfl rfl rfl (fun c26 => ?_) (fun c26 => ?_)
    · have d2 : ¬ b < 0 := Int32.not_lt.mpr c26
      rw [if_neg d2] at h
      refine x_iload_n (pc' := 37) rfl rfl rfl ?_
      refine x_iload_n (pc' := 38) rfl rfl rfl ?_
      refine x_if_ne (tgt := 46) (pc' := 41) rfl rfl rfl (fun _ => ?_) (fun c38 => absurd c38 ((by decide)))
      refine x_iconst (pc' := 47) rfl rfl iconst_1 ?_
      refine x_icmp_le (tgt := 57) (pc' := 50) rfl rfl rfl (fun c47 => ?_) (fun c47 => ?_)
      · rw [if_neg (Int32.not_lt.mpr c47)] at h
        refine x_iload_n (pc' := 58) rfl rfl rfl ?_
        refine x_if_ne (tgt := 80) (pc' := 61) rfl rfl rfl (fun _ => ?_) (fun c58 => absurd c58 ((by decide)))
        refine x_iload_n (pc' := 81) rfl rfl rfl ?_
        refine x_iconst (pc' := 82) rfl rfl iconst_1 ?_
        refine x_icmp_ne (tgt := 104) (pc' := 85) rfl rfl rfl (fun c82 => absurd (rfl) c82) (fun _ => ?_)
        refine x_aload_n (pc' := 86) rfl rfl rfl ?_
        refine x_get (pc' := 89) rfl rfl rfl (hS.1) rfl ?_
        refine x_get (pc' := 92) rfl rfl rfl (hT.1) rfl ?_
        refine x_eqi t6 ?_
        refine x_istore_n (pc' := 93) (lv' := [(3, _), (0, _), (1, _), (2, _)]) rfl rfl (Nat.le_of_ble_eq_true rfl) rfl ?_
        refine x_aload_n (pc' := 94) rfl rfl rfl ?_
        refine x_get (pc' := 97) rfl rfl rfl (hS.1) rfl ?_
        refine x_iload_n (pc' := 98) rfl rfl rfl ?_
        refine x_put (pc' := 101) rfl rfl rfl (hT.1) (Nat.le_of_ble_eq_true rfl) rfl rfl rfl rfl (fun f1 e1 => ?_)
        have hT1 := hT.num 2 e1 (x_tFs2 _ _ _)
        have hF1 := (x_fr.rf (P := x_ot 1)).up e1 (by decide)
        have hS1 := hS.tab 0 (by decide) hT1 hF1
        obtain ⟨kb, hkb, rfl⟩ := nI_of (fun q => d2 (Int32.lt_of_lt_of_le q (by decide)))
        refine x_goto (tgt := 120) rfl rfl ?_
        refine x_iload_n (pc' := 121) rfl rfl rfl ?_
        exact x_ireturn rfl rfl rfl (Nat.le_of_ble_eq_true rfl) (Nat.le_of_ble_eq_true rfl) (h _ _ hS1 ⟨(by rw [nI_clamp hkb]; exact ⟨t1, t2, t3, t4, t5, rfl, t7⟩), b2, b3, b4, b5, b6, b7, b8⟩ (c_fr0 (j := 0) (by decide) hF1))
      · rw [if_pos (Int32.not_le.mp c47)] at h
        refine x_aload_n (pc' := 51) rfl rfl rfl ?_
        refine x_bipush (pc' := 53) rfl rfl bipush_m6 ?_
        refine x_cV1i (d := 1) (pc' := 56) rfl rfl sX5_68 gX5_refuse (hS.1) ⟨Nat.le_of_ble_eq_true rfl, Nat.le_of_ble_eq_true rfl⟩ (Nat.le_of_ble_eq_true rfl) ⟨Nat.le_of_ble_eq_true rfl, Nat.le_of_ble_eq_true rfl⟩ ?_
        refine c_refuse (k := 6) (by decide) (by decide) hS hA (fun f1 S1 hS1 hA1 hF1 => ⟨_, rfl, ?_⟩)
        exact x_ireturn rfl rfl rfl (Nat.le_of_ble_eq_true rfl) (Nat.le_of_ble_eq_true rfl) (h _ _ hS1 hA1 hF1)
    · rw [if_pos (Int32.not_le.mp c26)] at h
      refine x_aload_n (pc' := 30) rfl rfl rfl ?_
      refine x_bipush (pc' := 32) rfl rfl bipush_m4 ?_
      refine x_cV1i (d := 1) (pc' := 35) rfl rfl sX5_68 gX5_refuse (hS.1) ⟨Nat.le_of_ble_eq_true rfl, Nat.le_of_ble_eq_true rfl⟩ (Nat.le_of_ble_eq_true rfl) ⟨Nat.le_of_ble_eq_true rfl, Nat.le_of_ble_eq_true rfl⟩ ?_
      refine c_refuse (k := 4) (by decide) (by decide) hS hA (fun f1 S1 hS1 hA1 hF1 => ⟨_, rfl, ?_⟩)
      exact x_ireturn rfl rfl rfl (Nat.le_of_ble_eq_true rfl) (Nat.le_of_ble_eq_true rfl) (h _ _ hS1 hA1 hF1)
  · rw [s_set2] at h
    refine x_iload_n (pc' := 1) rfl rfl rfl ?_
    refine x_if_lt (tgt := 9) (pc' := 4) rfl rfl rfl (fun c1 => absurd c1 ((by decide))) (fun _ => ?_)
    refine x_iload_n (pc' := 5) rfl rfl rfl ?_
    refine x_iconst (pc' := 6) rfl rfl iconst_2 ?_
    refine x_icmp_le (tgt := 16) (pc' := 9) rfl rfl rfl (fun _ => ?_) (fun c6 => absurd ((by decide)) c6)
    refine x_iload_n (pc' := 17) rfl rfl rfl ?_
    refine x_iload_n (pc' := 18) rfl rfl rfl ?_
    refine x_if_ne (tgt := 25) (pc' := 21) rfl rfl rfl (fun _ => ?_) (fun c18 => absurd c18 ((by decide)))
    refine x_iconst (pc' := 26) rfl rfl iconst_0 ?_
    refine x_icmp_ge (tgt := 36) (pc' := 29) rfl rfl rfl (fun c26 => ?_) (fun c26 => ?_)
    · have d2 : ¬ b < 0 := Int32.not_lt.mpr c26
      rw [if_neg d2] at h
      refine x_iload_n (pc' := 37) rfl rfl rfl ?_
      refine x_iload_n (pc' := 38) rfl rfl rfl ?_
      refine x_if_ne (tgt := 46) (pc' := 41) rfl rfl rfl (fun _ => ?_) (fun c38 => absurd c38 ((by decide)))
      refine x_iconst (pc' := 47) rfl rfl iconst_1 ?_
      refine x_icmp_le (tgt := 57) (pc' := 50) rfl rfl rfl (fun c47 => ?_) (fun c47 => ?_)
      · rw [if_neg (Int32.not_lt.mpr c47)] at h
        refine x_iload_n (pc' := 58) rfl rfl rfl ?_
        refine x_if_ne (tgt := 80) (pc' := 61) rfl rfl rfl (fun _ => ?_) (fun c58 => absurd c58 ((by decide)))
        refine x_iload_n (pc' := 81) rfl rfl rfl ?_
        refine x_iconst (pc' := 82) rfl rfl iconst_1 ?_
        refine x_icmp_ne (tgt := 104) (pc' := 85) rfl rfl rfl (fun _ => ?_) (fun c82 => absurd c82 ((by decide)))
        refine x_aload_n (pc' := 105) rfl rfl rfl ?_
        refine x_get (pc' := 108) rfl rfl rfl (hS.1) rfl ?_
        refine x_get (pc' := 111) rfl rfl rfl (hT.1) rfl ?_
        refine x_eqi t7 ?_
        refine x_istore_n (pc' := 112) (lv' := [(3, _), (0, _), (1, _), (2, _)]) rfl rfl (Nat.le_of_ble_eq_true rfl) rfl ?_
        refine x_aload_n (pc' := 113) rfl rfl rfl ?_
        refine x_get (pc' := 116) rfl rfl rfl (hS.1) rfl ?_
        refine x_iload_n (pc' := 117) rfl rfl rfl ?_
        refine x_put (pc' := 120) rfl rfl rfl (hT.1) (Nat.le_of_ble_eq_true rfl) rfl rfl rfl rfl (fun f1 e1 => ?_)
        have hT1 := hT.num 3 e1 (x_tFs3 _ _ _)
        have hF1 := (x_fr.rf (P := x_ot 1)).up e1 (by decide)
        have hS1 := hS.tab 0 (by decide) hT1 hF1
        obtain ⟨kb, hkb, rfl⟩ := nI_of (fun q => d2 (Int32.lt_of_lt_of_le q (by decide)))
        refine x_iload_n (pc' := 121) rfl rfl rfl ?_
        exact x_ireturn rfl rfl rfl (Nat.le_of_ble_eq_true rfl) (Nat.le_of_ble_eq_true rfl) (h _ _ hS1 ⟨(by rw [nI_clamp hkb]; exact ⟨t1, t2, t3, t4, t5, t6, rfl⟩), b2, b3, b4, b5, b6, b7, b8⟩ (c_fr0 (j := 0) (by decide) hF1))
      · rw [if_pos (Int32.not_le.mp c47)] at h
        refine x_aload_n (pc' := 51) rfl rfl rfl ?_
        refine x_bipush (pc' := 53) rfl rfl bipush_m6 ?_
        refine x_cV1i (d := 1) (pc' := 56) rfl rfl sX5_68 gX5_refuse (hS.1) ⟨Nat.le_of_ble_eq_true rfl, Nat.le_of_ble_eq_true rfl⟩ (Nat.le_of_ble_eq_true rfl) ⟨Nat.le_of_ble_eq_true rfl, Nat.le_of_ble_eq_true rfl⟩ ?_
        refine c_refuse (k := 6) (by decide) (by decide) hS hA (fun f1 S1 hS1 hA1 hF1 => ⟨_, rfl, ?_⟩)
        exact x_ireturn rfl rfl rfl (Nat.le_of_ble_eq_true rfl) (Nat.le_of_ble_eq_true rfl) (h _ _ hS1 hA1 hF1)
    · rw [if_pos (Int32.not_le.mp c26)] at h
      refine x_aload_n (pc' := 30) rfl rfl rfl ?_
      refine x_bipush (pc' := 32) rfl rfl bipush_m4 ?_
      refine x_cV1i (d := 1) (pc' := 35) rfl rfl sX5_68 gX5_refuse (hS.1) ⟨Nat.le_of_ble_eq_true rfl, Nat.le_of_ble_eq_true rfl⟩ (Nat.le_of_ble_eq_true rfl) ⟨Nat.le_of_ble_eq_true rfl, Nat.le_of_ble_eq_true rfl⟩ ?_
      refine c_refuse (k := 4) (by decide) (by decide) hS hA (fun f1 S1 hS1 hA1 hF1 => ⟨_, rfl, ?_⟩)
      exact x_ireturn rfl rfl rfl (Nat.le_of_ble_eq_true rfl) (Nat.le_of_ble_eq_true rfl) (h _ _ hS1 hA1 hF1)
theorem c_move (hS : x_Sys z f S) (hA : c_is S A) (ho : a_ok A) (h : c_ends z f post (s_move A a)) : Y E 9 mX5_move [.ref 0, .int a] z f 0 0 post := by
  refine Y.intro gX5_move (lv := [(0, .ref 0), (1, .int a)]) rfl (Nat.le_of_ble_eq_true rfl) ?_
  obtain ⟨b1, b2, b3, b4, b5, b6, b7, b8⟩ := id hA
  have hmv := ho.2.1
  have hT := hS.2.1 0 (by decide)
  refine x_aload_n (pc' := 1) rfl rfl rfl ?_
  refine x_get (pc' := 4) rfl rfl rfl (hS.1) rfl ?_
  refine x_iload_n (pc' := 5) rfl rfl rfl ?_
  refine x_cV1i (d := 1) (pc' := 8) rfl rfl sX5_90 gX3_has (hT.1) ⟨Nat.le_of_ble_eq_true rfl, Nat.le_of_ble_eq_true rfl⟩ (Nat.le_of_ble_eq_true rfl) ⟨Nat.le_of_ble_eq_true rfl, Nat.le_of_ble_eq_true rfl⟩ ?_
  refine c_has hS hA ho (fun d1 => ⟨_, rfl, ?_⟩) (fun d1 => ⟨_, rfl, ?_⟩)
  · obtain ⟨k, hk, hk2, rfl, hcl⟩ := q_in_k d1
    refine x_if_ne (tgt := 17) (pc' := 11) rfl rfl rfl (fun _ => ?_) (fun c8 => absurd c8 ((by decide)))
    refine x_aload_n (pc' := 18) rfl rfl rfl ?_
    refine x_get (pc' := 21) rfl rfl rfl (hS.1) rfl ?_
    refine x_iload_n (pc' := 22) rfl rfl rfl ?_
    refine x_cV1i (d := 2) (pc' := 25) rfl rfl sX5_118 gX3_canMove (hT.1) ⟨Nat.le_of_ble_eq_true rfl, Nat.le_of_ble_eq_true rfl⟩ (Nat.le_of_ble_eq_true rfl) ⟨Nat.le_of_ble_eq_true rfl, Nat.le_of_ble_eq_true rfl⟩ ?_
    refine w_can hT b1 ho.1 (by decide) hk2 (fun d2 => ⟨_, rfl, ?_⟩) (fun d2 => ⟨_, rfl, ?_⟩)
    · have d3 : 2 ≤ g_n (a_g A) ∧ 0 < g_β (a_g A) (nI k).toNatClampNeg := ⟨d2.1, by rw [hcl]; exact d2.2.2⟩
      refine x_if_ne (tgt := 35) (pc' := 28) rfl rfl rfl (fun _ => ?_) (fun c25 => absurd c25 ((by decide)))
      refine x_aload_n (pc' := 36) rfl rfl rfl ?_
      refine x_get (pc' := 39) rfl rfl rfl (hS.1) rfl ?_
      refine x_get (pc' := 42) rfl rfl rfl (hT.1) rfl ?_
      refine x_eqi b2 ?_
      refine x_sipush (pc' := 45) rfl rfl sipush_999 ?_
      refine x_icmp_lt (tgt := 55) (pc' := 48) rfl rfl rfl (fun c45 => ?_) (fun c45 => ?_)
      · rw [show s_move A (nI k) = _ from (if_pos d1).trans ((if_pos d3).trans (if_neg ((nI_999 hmv).mp c45)))] at h
        refine x_aload_n (pc' := 56) rfl rfl rfl ?_
        refine x_get (pc' := 59) rfl rfl rfl (hS.1) rfl ?_
        refine x_iload_n (pc' := 60) rfl rfl rfl ?_
        refine x_cV1v (d := 4) (pc' := 63) rfl rfl sX5_124 gX3_makeMove (hT.1) ⟨Nat.le_of_ble_eq_true rfl, Nat.le_of_ble_eq_true rfl⟩ (Nat.le_of_ble_eq_true rfl) ⟨Nat.le_of_ble_eq_true rfl, Nat.le_of_ble_eq_true rfl⟩ ?_
        refine w_move hT b1 ho.1 (by decide) hk (fun f1 T1 hT1 g1 g4 g5 g6 g7 g8 hF1 => ⟨rfl, ?_⟩)
        have hS1 := hS.tab 0 (by decide) hT1 hF1
        rw [hcl] at h
        refine x_aload_n (pc' := 64) rfl rfl rfl ?_
        refine x_get (pc' := 67) rfl rfl rfl (hS1.1) rfl ?_
        refine x_get (pc' := 70) rfl rfl rfl (hT1.1) rfl ?_
        exact x_ireturn rfl rfl rfl (Nat.le_of_ble_eq_true rfl) (Nat.le_of_ble_eq_true rfl) (by rw [g8]; exact h _ _ hS1 ⟨g1, g4.trans (by rw [b2]; exact nI_1 _), b3, b4, b5, b6, b7, b8⟩ (c_fr0 (j := 0) (by decide) hF1))
      · rw [show s_move A (nI k) = _ from (if_pos d1).trans ((if_pos d3).trans (if_pos (Decidable.not_not.mp (fun q => c45 ((nI_999 hmv).mpr q)))))] at h
        refine x_aload_n (pc' := 49) rfl rfl rfl ?_
        refine x_bipush (pc' := 51) rfl rfl bipush_m6 ?_
        refine x_cV1i (d := 1) (pc' := 54) rfl rfl sX5_68 gX5_refuse (hS.1) ⟨Nat.le_of_ble_eq_true rfl, Nat.le_of_ble_eq_true rfl⟩ (Nat.le_of_ble_eq_true rfl) ⟨Nat.le_of_ble_eq_true rfl, Nat.le_of_ble_eq_true rfl⟩ ?_
        refine c_refuse (k := 6) (by decide) (by decide) hS hA (fun f1 S1 hS1 hA1 hF1 => ⟨_, rfl, ?_⟩)
        exact x_ireturn rfl rfl rfl (Nat.le_of_ble_eq_true rfl) (Nat.le_of_ble_eq_true rfl) (h _ _ hS1 hA1 hF1)
    · have d3 : ¬ (2 ≤ g_n (a_g A) ∧ 0 < g_β (a_g A) (nI k).toNatClampNeg) := fun q => d2 ⟨q.1, hk, by rw [← hcl]; exact q.2⟩
      rw [show s_move A (nI k) = _ from (if_pos d1).trans (if_neg d3)] at h
      refine x_if_ne (tgt := 35) (pc' := 28) rfl rfl rfl (fun c25 => absurd ((by decide)) c25) (fun _ => ?_)
      refine x_aload_n (pc' := 29) rfl rfl rfl ?_
      refine x_bipush (pc' := 31) rfl rfl bipush_m3 ?_
      refine x_cV1i (d := 1) (pc' := 34) rfl rfl sX5_68 gX5_refuse (hS.1) ⟨Nat.le_of_ble_eq_true rfl, Nat.le_of_ble_eq_true rfl⟩ (Nat.le_of_ble_eq_true rfl) ⟨Nat.le_of_ble_eq_true rfl, Nat.le_of_ble_eq_true rfl⟩ ?_
      refine c_refuse (k := 3) (by decide) (by decide) hS hA (fun f1 S1 hS1 hA1 hF1 => ⟨_, rfl, ?_⟩)
      exact x_ireturn rfl rfl rfl (Nat.le_of_ble_eq_true rfl) (Nat.le_of_ble_eq_true rfl) (h _ _ hS1 hA1 hF1)
  · rw [show s_move A a = _ from if_neg d1] at h
    refine x_if_ne (tgt := 17) (pc' := 11) rfl rfl rfl (fun c8 => absurd ((by decide)) c8) (fun _ => ?_)
    refine x_aload_n (pc' := 12) rfl rfl rfl ?_
    refine x_iconst (pc' := 13) rfl rfl iconst_m1 ?_
    refine x_cV1i (d := 1) (pc' := 16) rfl rfl sX5_68 gX5_refuse (hS.1) ⟨Nat.le_of_ble_eq_true rfl, Nat.le_of_ble_eq_true rfl⟩ (Nat.le_of_ble_eq_true rfl) ⟨Nat.le_of_ble_eq_true rfl, Nat.le_of_ble_eq_true rfl⟩ ?_
    refine c_refuse (k := 1) (by decide) (by decide) hS hA (fun f1 S1 hS1 hA1 hF1 => ⟨_, rfl, ?_⟩)
    exact x_ireturn rfl rfl rfl (Nat.le_of_ble_eq_true rfl) (Nat.le_of_ble_eq_true rfl) (h _ _ hS1 hA1 hF1)
theorem c_bowl (hS : x_Sys z f S) (hA : c_is S A) (ho : a_ok A) (h : c_ends z f post (s_bowl A a b)) : Y E 9 mX5_bowl [.ref 0, .int a, .int b] z f 0 0 post := by
  refine Y.intro gX5_bowl (lv := [(0, .ref 0), (1, .int a), (2, .int b)]) rfl (Nat.le_of_ble_eq_true rfl) ?_
  obtain ⟨b1, b2, b3, b4, b5, b6, b7, b8⟩ := id hA
  obtain ⟨t1, t2, t3, t4, t5, t6, t7⟩ := id b1
  obtain ⟨a1, a2, a3, a4, a5, a6, a7, a8, a9⟩ := ho.1
  have hT := hS.2.1 0 (by decide)
  by_cases d1 : q_in (g_n (a_g A)) a
  · obtain ⟨k, hk, hk2, rfl, hcl⟩ := q_in_k d1
    have hhas := t_has_nI (T := S.2.1 0) t4 a1 hk
    rw [show s_bowl A (nI k) b = _ from if_pos d1, hcl] at h
    by_cases e0 : b = 0
    · rw [if_pos e0] at h
      subst e0
      refine x_aload_n (pc' := 1) rfl rfl rfl ?_
      refine x_get (pc' := 4) rfl rfl rfl (hS.1) rfl ?_
      refine x_iload_n (pc' := 5) rfl rfl rfl ?_
      refine x_cV1i (d := 1) (pc' := 8) rfl rfl sX5_90 gX3_has (hT.1) ⟨Nat.le_of_ble_eq_true rfl, Nat.le_of_ble_eq_true rfl⟩ (Nat.le_of_ble_eq_true rfl) ⟨Nat.le_of_ble_eq_true rfl, Nat.le_of_ble_eq_true rfl⟩ ?_
      refine w_has hT (fun _ => ⟨_, rfl, ?_⟩) (fun g => absurd hhas g)
      refine x_if_ne (tgt := 17) (pc' := 11) rfl rfl rfl (fun _ => ?_) (fun c8 => absurd c8 ((by decide)))
      refine x_iload_n (pc' := 18) rfl rfl rfl ?_
      refine x_tableIn (tgt := 48) rfl (by decide) (by decide) rfl rfl ?_
      refine x_aload_n (pc' := 49) rfl rfl rfl ?_
      refine x_get (pc' := 52) rfl rfl rfl (hS.1) rfl ?_
      refine x_iload_n (pc' := 53) rfl rfl rfl ?_
      refine x_cV1i (d := 2) (pc' := 56) rfl rfl sX5_93 gX3_kindOf (hT.1) ⟨Nat.le_of_ble_eq_true rfl, Nat.le_of_ble_eq_true rfl⟩ (Nat.le_of_ble_eq_true rfl) ⟨Nat.le_of_ble_eq_true rfl, Nat.le_of_ble_eq_true rfl⟩ ?_
      refine w_kindOf hT (fun _ => ⟨_, rfl, ?_⟩) (fun g => absurd hhas g)
      refine x_eqi (show (S.2.1 0).1 (nI k).toNatClampNeg = nI (g_κ (a_g A) k) from by rw [hcl, t1]) ?_
      exact x_ireturn rfl rfl rfl (Nat.le_of_ble_eq_true rfl) (Nat.le_of_ble_eq_true rfl) (h _ _ hS hA x_fr.rf)
    rw [if_neg e0] at h
    by_cases e1 : b = 1
    · rw [if_pos e1] at h
      subst e1
      refine x_aload_n (pc' := 1) rfl rfl rfl ?_
      refine x_get (pc' := 4) rfl rfl rfl (hS.1) rfl ?_
      refine x_iload_n (pc' := 5) rfl rfl rfl ?_
      refine x_cV1i (d := 1) (pc' := 8) rfl rfl sX5_90 gX3_has (hT.1) ⟨Nat.le_of_ble_eq_true rfl, Nat.le_of_ble_eq_true rfl⟩ (Nat.le_of_ble_eq_true rfl) ⟨Nat.le_of_ble_eq_true rfl, Nat.le_of_ble_eq_true rfl⟩ ?_
      refine w_has hT (fun _ => ⟨_, rfl, ?_⟩) (fun g => absurd hhas g)
      refine x_if_ne (tgt := 17) (pc' := 11) rfl rfl rfl (fun _ => ?_) (fun c8 => absurd c8 ((by decide)))
      refine x_iload_n (pc' := 18) rfl rfl rfl ?_
      refine x_tableIn (tgt := 57) rfl (by decide) (by decide) rfl rfl ?_
      refine x_aload_n (pc' := 58) rfl rfl rfl ?_
      refine x_get (pc' := 61) rfl rfl rfl (hS.1) rfl ?_
      refine x_iload_n (pc' := 62) rfl rfl rfl ?_
      refine x_cV1i (d := 2) (pc' := 65) rfl rfl sX5_96 gX3_beansOf (hT.1) ⟨Nat.le_of_ble_eq_true rfl, Nat.le_of_ble_eq_true rfl⟩ (Nat.le_of_ble_eq_true rfl) ⟨Nat.le_of_ble_eq_true rfl, Nat.le_of_ble_eq_true rfl⟩ ?_
      refine w_beansOf hT (fun _ => ⟨_, rfl, ?_⟩) (fun g => absurd hhas g)
      refine x_eqi (show (S.2.1 0).2.1 (nI k).toNatClampNeg = nI (g_β (a_g A) k) from by rw [hcl, t2]) ?_
      exact x_ireturn rfl rfl rfl (Nat.le_of_ble_eq_true rfl) (Nat.le_of_ble_eq_true rfl) (h _ _ hS hA x_fr.rf)
    rw [if_neg e1] at h
    by_cases e2 : b = 2
    · rw [if_pos e2] at h
      subst e2
      refine x_aload_n (pc' := 1) rfl rfl rfl ?_
      refine x_get (pc' := 4) rfl rfl rfl (hS.1) rfl ?_
      refine x_iload_n (pc' := 5) rfl rfl rfl ?_
      refine x_cV1i (d := 1) (pc' := 8) rfl rfl sX5_90 gX3_has (hT.1) ⟨Nat.le_of_ble_eq_true rfl, Nat.le_of_ble_eq_true rfl⟩ (Nat.le_of_ble_eq_true rfl) ⟨Nat.le_of_ble_eq_true rfl, Nat.le_of_ble_eq_true rfl⟩ ?_
      refine w_has hT (fun _ => ⟨_, rfl, ?_⟩) (fun g => absurd hhas g)
      refine x_if_ne (tgt := 17) (pc' := 11) rfl rfl rfl (fun _ => ?_) (fun c8 => absurd c8 ((by decide)))
      refine x_iload_n (pc' := 18) rfl rfl rfl ?_
      refine x_tableIn (tgt := 66) rfl (by decide) (by decide) rfl rfl ?_
      refine x_aload_n (pc' := 67) rfl rfl rfl ?_
      refine x_get (pc' := 70) rfl rfl rfl (hS.1) rfl ?_
      refine x_iload_n (pc' := 71) rfl rfl rfl ?_
      refine x_cV1i (d := 2) (pc' := 74) rfl rfl sX5_99 gX3_soundsFrom (hT.1) ⟨Nat.le_of_ble_eq_true rfl, Nat.le_of_ble_eq_true rfl⟩ (Nat.le_of_ble_eq_true rfl) ⟨Nat.le_of_ble_eq_true rfl, Nat.le_of_ble_eq_true rfl⟩ ?_
      refine w_sounds hT t4 a1 t5 (by omega) t1 a5 hk ⟨_, rfl, ?_⟩
      exact x_ireturn rfl rfl rfl (Nat.le_of_ble_eq_true rfl) (Nat.le_of_ble_eq_true rfl) (h _ _ hS hA x_fr.rf)
    rw [if_neg e2] at h
    by_cases e3 : b = 3
    · rw [if_pos e3] at h
      subst e3
      refine x_aload_n (pc' := 1) rfl rfl rfl ?_
      refine x_get (pc' := 4) rfl rfl rfl (hS.1) rfl ?_
      refine x_iload_n (pc' := 5) rfl rfl rfl ?_
      refine x_cV1i (d := 1) (pc' := 8) rfl rfl sX5_90 gX3_has (hT.1) ⟨Nat.le_of_ble_eq_true rfl, Nat.le_of_ble_eq_true rfl⟩ (Nat.le_of_ble_eq_true rfl) ⟨Nat.le_of_ble_eq_true rfl, Nat.le_of_ble_eq_true rfl⟩ ?_
      refine w_has hT (fun _ => ⟨_, rfl, ?_⟩) (fun g => absurd hhas g)
      refine x_if_ne (tgt := 17) (pc' := 11) rfl rfl rfl (fun _ => ?_) (fun c8 => absurd c8 ((by decide)))
      refine x_iload_n (pc' := 18) rfl rfl rfl ?_
      refine x_tableIn (tgt := 75) rfl (by decide) (by decide) rfl rfl ?_
      refine x_aload_n (pc' := 76) rfl rfl rfl ?_
      refine x_get (pc' := 79) rfl rfl rfl (hS.1) rfl ?_
      refine x_iload_n (pc' := 80) rfl rfl rfl ?_
      refine x_cV1i (d := 2) (pc' := 83) rfl rfl sX5_102 gX3_takes (hT.1) ⟨Nat.le_of_ble_eq_true rfl, Nat.le_of_ble_eq_true rfl⟩ (Nat.le_of_ble_eq_true rfl) ⟨Nat.le_of_ble_eq_true rfl, Nat.le_of_ble_eq_true rfl⟩ ?_
      refine w_takes hT t4 a1 t5 (by omega) t1 t2 a5 (fun i => Nat.le_trans (a6 i) (by decide)) hk (fun d => ⟨_, rfl, ?_⟩) (fun d => ⟨_, rfl, ?_⟩)
      · rw [if_pos d] at h
        refine x_if_eq (tgt := 90) (pc' := 86) rfl rfl rfl (fun c83 => absurd c83 ((by decide))) (fun _ => ?_)
        refine x_iconst (pc' := 87) rfl rfl iconst_1 ?_
        refine x_goto (tgt := 91) rfl rfl ?_
        exact x_ireturn rfl rfl rfl (Nat.le_of_ble_eq_true rfl) (Nat.le_of_ble_eq_true rfl) (h _ _ hS hA x_fr.rf)
      · rw [if_neg d] at h
        refine x_if_eq (tgt := 90) (pc' := 86) rfl rfl rfl (fun _ => ?_) (fun c83 => absurd ((by decide)) c83)
        refine x_iconst (pc' := 91) rfl rfl iconst_0 ?_
        exact x_ireturn rfl rfl rfl (Nat.le_of_ble_eq_true rfl) (Nat.le_of_ble_eq_true rfl) (h _ _ hS hA x_fr.rf)
    rw [if_neg e3] at h
    refine x_aload_n (pc' := 1) rfl rfl rfl ?_
    refine x_get (pc' := 4) rfl rfl rfl (hS.1) rfl ?_
    refine x_iload_n (pc' := 5) rfl rfl rfl ?_
    refine x_cV1i (d := 1) (pc' := 8) rfl rfl sX5_90 gX3_has (hT.1) ⟨Nat.le_of_ble_eq_true rfl, Nat.le_of_ble_eq_true rfl⟩ (Nat.le_of_ble_eq_true rfl) ⟨Nat.le_of_ble_eq_true rfl, Nat.le_of_ble_eq_true rfl⟩ ?_
    refine w_has hT (fun _ => ⟨_, rfl, ?_⟩) (fun g => absurd hhas g)
    refine x_if_ne (tgt := 17) (pc' := 11) rfl rfl rfl (fun _ => ?_) (fun c8 => absurd c8 ((by decide)))
    refine x_iload_n (pc' := 18) rfl rfl rfl ?_
    refine x_tableOut (tgt := 92) rfl (x_tab_out (fun q h1 h2 => (by have h3 : q = 0 ∨ q = 1 ∨ q = 2 ∨ q = 3 := (by omega); rcases h3 with rfl | rfl | rfl | rfl <;> assumption))) rfl ?_
    refine x_aload_n (pc' := 93) rfl rfl rfl ?_
    refine x_bipush (pc' := 95) rfl rfl bipush_m2 ?_
    refine x_cV1i (d := 1) (pc' := 98) rfl rfl sX5_68 gX5_refuse (hS.1) ⟨Nat.le_of_ble_eq_true rfl, Nat.le_of_ble_eq_true rfl⟩ (Nat.le_of_ble_eq_true rfl) ⟨Nat.le_of_ble_eq_true rfl, Nat.le_of_ble_eq_true rfl⟩ ?_
    refine c_refuse (k := 2) (by decide) (by decide) hS hA (fun f1 S1 hS1 hA1 hF1 => ⟨_, rfl, ?_⟩)
    exact x_ireturn rfl rfl rfl (Nat.le_of_ble_eq_true rfl) (Nat.le_of_ble_eq_true rfl) (h _ _ hS1 hA1 hF1)
  · rw [show s_bowl A a b = _ from if_neg d1] at h
    refine x_aload_n (pc' := 1) rfl rfl rfl ?_
    refine x_get (pc' := 4) rfl rfl rfl (hS.1) rfl ?_
    refine x_iload_n (pc' := 5) rfl rfl rfl ?_
    refine x_cV1i (d := 1) (pc' := 8) rfl rfl sX5_90 gX3_has (hT.1) ⟨Nat.le_of_ble_eq_true rfl, Nat.le_of_ble_eq_true rfl⟩ (Nat.le_of_ble_eq_true rfl) ⟨Nat.le_of_ble_eq_true rfl, Nat.le_of_ble_eq_true rfl⟩ ?_
    refine c_has hS hA ho (fun g => absurd g d1) (fun g => ⟨_, rfl, ?_⟩)
    refine x_if_ne (tgt := 17) (pc' := 11) rfl rfl rfl (fun c8 => absurd ((by decide)) c8) (fun _ => ?_)
    refine x_aload_n (pc' := 12) rfl rfl rfl ?_
    refine x_iconst (pc' := 13) rfl rfl iconst_m1 ?_
    refine x_cV1i (d := 1) (pc' := 16) rfl rfl sX5_68 gX5_refuse (hS.1) ⟨Nat.le_of_ble_eq_true rfl, Nat.le_of_ble_eq_true rfl⟩ (Nat.le_of_ble_eq_true rfl) ⟨Nat.le_of_ble_eq_true rfl, Nat.le_of_ble_eq_true rfl⟩ ?_
    refine c_refuse (k := 1) (by decide) (by decide) hS hA (fun f1 S1 hS1 hA1 hF1 => ⟨_, rfl, ?_⟩)
    exact x_ireturn rfl rfl rfl (Nat.le_of_ble_eq_true rfl) (Nat.le_of_ble_eq_true rfl) (h _ _ hS1 hA1 hF1)
theorem c_tryMove {k : Nat} (hS : x_Sys z f S) (hA : c_is S A) (ho : a_ok A) (hk2 : k < 2 ^ 31) (h1 : g_can (a_g A) k → ∀ (f' : x_H) (T' : x_T), x_Sys z f' (S.1, x_ut S.2.1 2 T', S.2.2.1, S.2.2.2) → t_is T' (g_mv (a_g A) k) → T'.2.2.2 5 = nI (g_v (a_g A) k).2.1 → T'.2.2.2 6 = q_lI (g_v (a_g A) k).2.2.2 → T'.2.2.2 7 = nI (g_v (a_g A) k).2.2.1 → T'.2.2.2 8 = (if q_tk1 (g_v (a_g A) k).1 (g_π (a_g A) (g_t (a_g A))) (g_v (a_g A) k).2.2.2 = true then 1 else 0) → x_fr (fun q => 59 ≤ q) f f' → post (some (.int 1)) f') (h0 : ¬ g_can (a_g A) k → post (some (.int 0)) f) : Y E 5 mX5_tryMove [.ref 0, .int (nI k)] z f 0 0 post := by
  refine Y.intro gX5_tryMove (lv := [(0, .ref 0), (1, .int (nI k))]) rfl (Nat.le_of_ble_eq_true rfl) ?_
  obtain ⟨b1, b2, b3, b4, b5, b6, b7, b8⟩ := id hA
  have hT := hS.2.1 0 (by decide)
  refine x_aload_n (pc' := 1) rfl rfl rfl ?_
  refine x_get (pc' := 4) rfl rfl rfl (hS.1) rfl ?_
  refine x_iload_n (pc' := 5) rfl rfl rfl ?_
  refine x_cV1i (d := 2) (pc' := 8) rfl rfl sX5_118 gX3_canMove (hT.1) ⟨Nat.le_of_ble_eq_true rfl, Nat.le_of_ble_eq_true rfl⟩ (Nat.le_of_ble_eq_true rfl) ⟨Nat.le_of_ble_eq_true rfl, Nat.le_of_ble_eq_true rfl⟩ ?_
  refine w_can hT b1 ho.1 (by decide) hk2 (fun d2 => ⟨_, rfl, ?_⟩) (fun d2 => ⟨_, rfl, ?_⟩)
  · refine x_if_ne (tgt := 13) (pc' := 11) rfl rfl rfl (fun _ => ?_) (fun c8 => absurd c8 (by decide))
    refine x_aload_n (pc' := 14) rfl rfl rfl ?_
    refine x_get (pc' := 17) rfl rfl rfl (hS.1) rfl ?_
    refine x_aload_n (pc' := 18) rfl rfl rfl ?_
    refine x_get (pc' := 21) rfl rfl rfl (hS.1) rfl ?_
    refine x_cV1v (d := 1) (pc' := 24) rfl rfl sX5_79 gX3_copyFrom ((hS.2.1 2 (by decide)).1) ⟨Nat.le_of_ble_eq_true rfl, Nat.le_of_ble_eq_true rfl⟩ (Nat.le_of_ble_eq_true rfl) ⟨Nat.le_of_ble_eq_true rfl, Nat.le_of_ble_eq_true rfl⟩ ?_
    refine w_copyFrom (hS.2.1 2 (by decide)) hT (by decide) (fun f1 hT1 hF1 => ⟨rfl, ?_⟩)
    have hS1 := hS.tab 2 (by decide) hT1 hF1
    refine x_aload_n (pc' := 25) rfl rfl rfl ?_
    refine x_get (pc' := 28) rfl rfl rfl (hS1.1) rfl ?_
    refine x_iload_n (pc' := 29) rfl rfl rfl ?_
    refine x_cV1v (d := 4) (pc' := 32) rfl rfl sX5_124 gX3_makeMove (hT1.1) ⟨Nat.le_of_ble_eq_true rfl, Nat.le_of_ble_eq_true rfl⟩ (Nat.le_of_ble_eq_true rfl) ⟨Nat.le_of_ble_eq_true rfl, Nat.le_of_ble_eq_true rfl⟩ ?_
    refine w_move hT1 (x_cp_is b1) ho.1 (by decide) d2.2.1 (fun f2 T2 hT2 g1 g4 g5 g6 g7 g8 hF2 => ⟨rfl, ?_⟩)
    have hS2 := hS.tab 2 (by decide) hT2 (hF1.trans hF2)
    refine x_iconst (pc' := 33) rfl rfl iconst_1 ?_
    exact x_ireturn rfl rfl rfl (Nat.le_of_ble_eq_true rfl) (Nat.le_of_ble_eq_true rfl) (h1 d2 _ T2 hS2 g1 g5 g6 g7 g8 (c_fr0 (j := 2) (by decide) (hF1.trans hF2)))
  · refine x_if_ne (tgt := 13) (pc' := 11) rfl rfl rfl (fun c8 => absurd (by decide) c8) (fun _ => ?_)
    refine x_iconst (pc' := 12) rfl rfl iconst_0 ?_
    exact x_ireturn rfl rfl rfl (Nat.le_of_ble_eq_true rfl) (Nat.le_of_ble_eq_true rfl) (h0 d2)
end CA
end
section
/-! The class's calls that make moves in mind; the picture; counts. -/
theorem i_tab {b : Int32} {n : Nat} (h : ∀ k : Nat, k ≤ n → b ≠ nI k) : b.toInt < 0 ∨ (n : Int) < b.toInt := x_tab_out (fun q h1 h2 => by
  obtain ⟨k, rfl⟩ : ∃ k : Nat, q = k := ⟨q.toNat, by omega⟩
  exact h k (by omega))
/-- the row is played: made, state -/
def q_plays (rf : Nat → Nat) : Nat → Nat → q_G → Nat × q_G
  | 0, i, g => (i, g)
  | k + 1, i, g => if g_can g (rf i) then q_plays rf k (i + 1) (g_mv g (rf i)) else (i, g)
theorem q_plays_ok {rf : Nat → Nat} {C : Nat} (hC : 99 ≤ C) (hC2 : C ≤ 100) : ∀ (k i : Nat) (g : q_G), g_ok C g → g_ok C (q_plays rf k i g).2 ∧ i ≤ (q_plays rf k i g).1 ∧ (q_plays rf k i g).1 ≤ i + k
  | 0, i, g, h => ⟨h, Nat.le_refl _, Nat.le_refl _⟩
  | k + 1, i, g, h => by
    unfold q_plays
    split
    · rename_i hc
      have h2 := q_plays_ok hC hC2 (rf := rf) k (i + 1) (g_mv g (rf i)) (g_mv_ok h hC hC2 hc.2.1)
      exact ⟨h2.1, by omega, by omega⟩
    · exact ⟨h, Nat.le_refl _, by omega⟩
def g_flip (g : q_G) : q_G := (g.1, g.2.1, g.2.2.1, g_n g, g_f g, g_l g, 1 - g_t g)
theorem g_flip_ok {C : Nat} {g : q_G} (h : g_ok C g) : g_ok C (g_flip g) := ⟨h.1, h.2.1, h.2.2.1, (by show 1 - g_t g ≤ 1; omega), h.2.2.2.2⟩
def q_z (z : Int32) : Int32 := z * 1664525 + 1013904223
def q_zb (z : Int32) (n : Nat) : Nat := z.toBitVec.toNat % 2 ^ 31 / 256 % n
/-- a game by lot -/
def q_lot : Nat → Int32 → q_G → Int32 × q_G
  | 0, z, g => (z, g)
  | k + 1, z, g => q_lot k (q_z z) (if g_can g (q_zb (q_z z) (g_n g)) then g_mv g (q_zb (q_z z) (g_n g)) else g_flip g)
def q_lotN (z : Int32) (n : Nat) : Nat := q_zb z n
section CB
variable {E : x_E} {z : Nat} {f : x_H} {S : x_S} {A : q_A} {post : Option Value → x_H → Prop} {a b : Int32}
theorem c_tr {T : x_T} (h : c_is S A) : c_is (S.1, x_ut S.2.1 2 T, S.2.2.1, S.2.2.2) A := h.sc (c_sc.tab (by decide) (by decide))
theorem c_by (hS : x_Sys z f S) (hA : c_is S A) (ho : a_ok A) (h : c_ends z f post (s_by A a b)) : Y E 9 mX5_by [.ref 0, .int a, .int b] z f 0 0 post := by
  refine Y.intro gX5_by (lv := [(0, .ref 0), (1, .int a), (2, .int b)]) rfl (Nat.le_of_ble_eq_true rfl) ?_
  obtain ⟨b1, b2, b3, b4, b5, b6, b7, b8⟩ := id hA
  have hT := hS.2.1 0 (by decide)
  by_cases d1 : q_in (g_n (a_g A)) a
  · obtain ⟨k, hk, hk2, rfl, hcl⟩ := q_in_k d1
    have hhas := t_has_nI (T := S.2.1 0) b1.2.2.2.1 ho.1.1 hk
    rw [show s_by A (nI k) b = _ from if_pos d1, hcl] at h
    by_cases e0 : b < 0
    · rw [if_pos (Or.inl e0)] at h
      refine x_aload_n (pc' := 1) rfl rfl rfl ?_
      refine x_get (pc' := 4) rfl rfl rfl (hS.1) rfl ?_
      refine x_iload_n (pc' := 5) rfl rfl rfl ?_
      refine x_cV1i (d := 1) (pc' := 8) rfl rfl sX5_90 gX3_has (hT.1) ⟨Nat.le_of_ble_eq_true rfl, Nat.le_of_ble_eq_true rfl⟩ (Nat.le_of_ble_eq_true rfl) ⟨Nat.le_of_ble_eq_true rfl, Nat.le_of_ble_eq_true rfl⟩ ?_
      refine w_has hT (fun _ => ⟨_, rfl, ?_⟩) (fun g => absurd hhas g)
      refine x_if_ne (tgt := 17) (pc' := 11) rfl rfl rfl (fun _ => ?_) (fun c8 => absurd c8 ((by decide)))
      refine x_iload_n (pc' := 18) rfl rfl rfl ?_
      refine x_if_lt (tgt := 26) (pc' := 21) rfl rfl rfl (fun _ => ?_) (fun c18 => absurd (e0) c18)
      refine x_aload_n (pc' := 27) rfl rfl rfl ?_
      refine x_bipush (pc' := 29) rfl rfl bipush_m2 ?_
      refine x_cV1i (d := 1) (pc' := 32) rfl rfl sX5_68 gX5_refuse (hS.1) ⟨Nat.le_of_ble_eq_true rfl, Nat.le_of_ble_eq_true rfl⟩ (Nat.le_of_ble_eq_true rfl) ⟨Nat.le_of_ble_eq_true rfl, Nat.le_of_ble_eq_true rfl⟩ ?_
      refine c_refuse (k := 2) (by decide) (by decide) hS hA (fun f1 S1 hS1 hA1 hF1 => ⟨_, rfl, ?_⟩)
      exact x_ireturn rfl rfl rfl (Nat.le_of_ble_eq_true rfl) (Nat.le_of_ble_eq_true rfl) (h _ _ hS1 hA1 hF1)
    by_cases e4 : 4 < b
    · rw [if_pos (Or.inr e4)] at h
      refine x_aload_n (pc' := 1) rfl rfl rfl ?_
      refine x_get (pc' := 4) rfl rfl rfl (hS.1) rfl ?_
      refine x_iload_n (pc' := 5) rfl rfl rfl ?_
      refine x_cV1i (d := 1) (pc' := 8) rfl rfl sX5_90 gX3_has (hT.1) ⟨Nat.le_of_ble_eq_true rfl, Nat.le_of_ble_eq_true rfl⟩ (Nat.le_of_ble_eq_true rfl) ⟨Nat.le_of_ble_eq_true rfl, Nat.le_of_ble_eq_true rfl⟩ ?_
      refine w_has hT (fun _ => ⟨_, rfl, ?_⟩) (fun g => absurd hhas g)
      refine x_if_ne (tgt := 17) (pc' := 11) rfl rfl rfl (fun _ => ?_) (fun c8 => absurd c8 ((by decide)))
      refine x_iload_n (pc' := 18) rfl rfl rfl ?_
      refine x_if_lt (tgt := 26) (pc' := 21) rfl rfl rfl (fun c18 => absurd c18 (e0)) (fun _ => ?_)
      refine x_iload_n (pc' := 22) rfl rfl rfl ?_
      refine x_iconst (pc' := 23) rfl rfl iconst_4 ?_
      refine x_icmp_le (tgt := 33) (pc' := 26) rfl rfl rfl (fun c23 => absurd c23 (Int32.not_le.mpr e4)) (fun _ => ?_)
      refine x_aload_n (pc' := 27) rfl rfl rfl ?_
      refine x_bipush (pc' := 29) rfl rfl bipush_m2 ?_
      refine x_cV1i (d := 1) (pc' := 32) rfl rfl sX5_68 gX5_refuse (hS.1) ⟨Nat.le_of_ble_eq_true rfl, Nat.le_of_ble_eq_true rfl⟩ (Nat.le_of_ble_eq_true rfl) ⟨Nat.le_of_ble_eq_true rfl, Nat.le_of_ble_eq_true rfl⟩ ?_
      refine c_refuse (k := 2) (by decide) (by decide) hS hA (fun f1 S1 hS1 hA1 hF1 => ⟨_, rfl, ?_⟩)
      exact x_ireturn rfl rfl rfl (Nat.le_of_ble_eq_true rfl) (Nat.le_of_ble_eq_true rfl) (h _ _ hS1 hA1 hF1)
    rw [if_neg (fun q => q.elim e0 e4)] at h
    obtain ⟨kb, hkb, rfl⟩ := nI_of2 (n := 4) (M := 4) rfl e0 (Int32.not_lt.mp e4)
    have hkb5 : kb = 0 ∨ kb = 1 ∨ kb = 2 ∨ kb = 3 ∨ kb = 4 := by omega
    refine x_aload_n (pc' := 1) rfl rfl rfl ?_
    refine x_get (pc' := 4) rfl rfl rfl (hS.1) rfl ?_
    refine x_iload_n (pc' := 5) rfl rfl rfl ?_
    refine x_cV1i (d := 1) (pc' := 8) rfl rfl sX5_90 gX3_has (hT.1) ⟨Nat.le_of_ble_eq_true rfl, Nat.le_of_ble_eq_true rfl⟩ (Nat.le_of_ble_eq_true rfl) ⟨Nat.le_of_ble_eq_true rfl, Nat.le_of_ble_eq_true rfl⟩ ?_
    refine w_has hT (fun _ => ⟨_, rfl, ?_⟩) (fun g => absurd hhas g)
    refine x_if_ne (tgt := 17) (pc' := 11) rfl rfl rfl (fun _ => ?_) (fun c8 => absurd c8 ((by decide)))
    refine x_iload_n (pc' := 18) rfl rfl rfl ?_
    refine x_if_lt (tgt := 26) (pc' := 21) rfl rfl rfl (fun c18 => absurd c18 (e0)) (fun _ => ?_)
    refine x_iload_n (pc' := 22) rfl rfl rfl ?_
    refine x_iconst (pc' := 23) rfl rfl iconst_4 ?_
    refine x_icmp_le (tgt := 33) (pc' := 26) rfl rfl rfl (fun _ => ?_) (fun c23 => absurd (Int32.not_lt.mp e4) c23)
    refine x_aload_n (pc' := 34) rfl rfl rfl ?_
    refine x_iload_n (pc' := 35) rfl rfl rfl ?_
    refine x_cV1i (d := 5) (pc' := 38) rfl rfl sX5_131 gX5_tryMove (hS.1) ⟨Nat.le_of_ble_eq_true rfl, Nat.le_of_ble_eq_true rfl⟩ (Nat.le_of_ble_eq_true rfl) ⟨Nat.le_of_ble_eq_true rfl, Nat.le_of_ble_eq_true rfl⟩ ?_
    refine c_tryMove hS hA ho hk2 (fun d2 f1 T1 hS1 g1 g5 g6 g7 g8 hF1 => ⟨_, rfl, ?_⟩) (fun d2 => ⟨_, rfl, ?_⟩)
    · have hT1 : x_t z f1 9 T1 := hS1.2.1 2 (by decide)
      have hA1 := c_tr (T := T1) hA
      rw [if_pos ⟨d2.1, d2.2.2⟩] at h
      rcases hkb5 with rfl | rfl | rfl | rfl | rfl
      · rw [if_pos (by decide)] at h
        refine x_if_ne (tgt := 48) (pc' := 41) rfl rfl rfl (fun _ => ?_) (fun c38 => absurd c38 ((by decide)))
        refine x_iload_n (pc' := 49) rfl rfl rfl ?_
        refine x_tableIn (tgt := 80) rfl (by decide) (by decide) rfl rfl ?_
        refine x_aload_n (pc' := 81) rfl rfl rfl ?_
        refine x_get (pc' := 84) rfl rfl rfl (hS1.1) rfl ?_
        refine x_get (pc' := 87) rfl rfl rfl (hT1.1) rfl ?_
        exact x_ireturn rfl rfl rfl (Nat.le_of_ble_eq_true rfl) (Nat.le_of_ble_eq_true rfl) (by rw [g5]; exact h _ _ hS1 hA1 hF1)
      · rw [if_neg (by decide), if_pos (by decide)] at h
        refine x_if_ne (tgt := 48) (pc' := 41) rfl rfl rfl (fun _ => ?_) (fun c38 => absurd c38 ((by decide)))
        refine x_iload_n (pc' := 49) rfl rfl rfl ?_
        refine x_tableIn (tgt := 88) rfl (by decide) (by decide) rfl rfl ?_
        refine x_aload_n (pc' := 89) rfl rfl rfl ?_
        refine x_get (pc' := 92) rfl rfl rfl (hS1.1) rfl ?_
        refine x_get (pc' := 95) rfl rfl rfl (hT1.1) rfl ?_
        exact x_ireturn rfl rfl rfl (Nat.le_of_ble_eq_true rfl) (Nat.le_of_ble_eq_true rfl) (by rw [g6]; exact h _ _ hS1 hA1 hF1)
      · rw [if_neg (by decide), if_neg (by decide), if_pos (by decide)] at h
        refine x_if_ne (tgt := 48) (pc' := 41) rfl rfl rfl (fun _ => ?_) (fun c38 => absurd c38 ((by decide)))
        refine x_iload_n (pc' := 49) rfl rfl rfl ?_
        refine x_tableIn (tgt := 96) rfl (by decide) (by decide) rfl rfl ?_
        refine x_aload_n (pc' := 97) rfl rfl rfl ?_
        refine x_get (pc' := 100) rfl rfl rfl (hS1.1) rfl ?_
        refine x_get (pc' := 103) rfl rfl rfl (hT1.1) rfl ?_
        exact x_ireturn rfl rfl rfl (Nat.le_of_ble_eq_true rfl) (Nat.le_of_ble_eq_true rfl) (by rw [g7]; exact h _ _ hS1 hA1 hF1)
      · rw [if_neg (by decide), if_neg (by decide), if_neg (by decide), if_pos (by decide)] at h
        refine x_if_ne (tgt := 48) (pc' := 41) rfl rfl rfl (fun _ => ?_) (fun c38 => absurd c38 ((by decide)))
        refine x_iload_n (pc' := 49) rfl rfl rfl ?_
        refine x_tableIn (tgt := 104) rfl (by decide) (by decide) rfl rfl ?_
        refine x_aload_n (pc' := 105) rfl rfl rfl ?_
        refine x_get (pc' := 108) rfl rfl rfl (hS1.1) rfl ?_
        refine x_get (pc' := 111) rfl rfl rfl (hT1.1) rfl ?_
        exact x_ireturn rfl rfl rfl (Nat.le_of_ble_eq_true rfl) (Nat.le_of_ble_eq_true rfl) (by rw [g8]; exact h _ _ hS1 hA1 hF1)
      · rw [if_neg (by decide), if_neg (by decide), if_neg (by decide), if_neg (by decide)] at h
        refine x_if_ne (tgt := 48) (pc' := 41) rfl rfl rfl (fun _ => ?_) (fun c38 => absurd c38 ((by decide)))
        refine x_iload_n (pc' := 49) rfl rfl rfl ?_
        refine x_tableOut (tgt := 112) rfl ((by decide)) rfl ?_
        refine x_aload_n (pc' := 113) rfl rfl rfl ?_
        refine x_get (pc' := 116) rfl rfl rfl (hS1.1) rfl ?_
        refine x_cV0i (d := 3) (pc' := 119) rfl rfl sX5_143 gX3_allBeans (hT1.1) ⟨Nat.le_of_ble_eq_true rfl, Nat.le_of_ble_eq_true rfl⟩ (Nat.le_of_ble_eq_true rfl) ⟨Nat.le_of_ble_eq_true rfl, Nat.le_of_ble_eq_true rfl⟩ ?_
        refine w_allBeans hT1 g1.2.2.2.1 ho.1.1 ⟨_, rfl, ?_⟩
        refine x_eqi (show x_sum T1.2.1 (g_n (g_mv (a_g A) k)) = nI (q_sum (g_β (g_mv (a_g A) k)) (g_n (a_g A))) from by rw [g1.2.1, q_sum_I]; rfl) ?_
        exact x_ireturn rfl rfl rfl (Nat.le_of_ble_eq_true rfl) (Nat.le_of_ble_eq_true rfl) (h _ _ hS1 hA1 hF1)
    · rw [if_neg (fun q => d2 ⟨q.1, hk, q.2⟩)] at h
      refine x_if_ne (tgt := 48) (pc' := 41) rfl rfl rfl (fun c38 => absurd ((by decide)) c38) (fun _ => ?_)
      refine x_aload_n (pc' := 42) rfl rfl rfl ?_
      refine x_bipush (pc' := 44) rfl rfl bipush_m3 ?_
      refine x_cV1i (d := 1) (pc' := 47) rfl rfl sX5_68 gX5_refuse (hS.1) ⟨Nat.le_of_ble_eq_true rfl, Nat.le_of_ble_eq_true rfl⟩ (Nat.le_of_ble_eq_true rfl) ⟨Nat.le_of_ble_eq_true rfl, Nat.le_of_ble_eq_true rfl⟩ ?_
      refine c_refuse (k := 3) (by decide) (by decide) hS hA (fun f1 S1 hS1 hA1 hF1 => ⟨_, rfl, ?_⟩)
      exact x_ireturn rfl rfl rfl (Nat.le_of_ble_eq_true rfl) (Nat.le_of_ble_eq_true rfl) (h _ _ hS1 hA1 hF1)
  · rw [show s_by A a b = _ from if_neg d1] at h
    refine x_aload_n (pc' := 1) rfl rfl rfl ?_
    refine x_get (pc' := 4) rfl rfl rfl (hS.1) rfl ?_
    refine x_iload_n (pc' := 5) rfl rfl rfl ?_
    refine x_cV1i (d := 1) (pc' := 8) rfl rfl sX5_90 gX3_has (hT.1) ⟨Nat.le_of_ble_eq_true rfl, Nat.le_of_ble_eq_true rfl⟩ (Nat.le_of_ble_eq_true rfl) ⟨Nat.le_of_ble_eq_true rfl, Nat.le_of_ble_eq_true rfl⟩ ?_
    refine c_has hS hA ho (fun g => absurd g d1) (fun g => ⟨_, rfl, ?_⟩)
    refine x_if_ne (tgt := 17) (pc' := 11) rfl rfl rfl (fun c8 => absurd ((by decide)) c8) (fun _ => ?_)
    refine x_aload_n (pc' := 12) rfl rfl rfl ?_
    refine x_iconst (pc' := 13) rfl rfl iconst_m1 ?_
    refine x_cV1i (d := 1) (pc' := 16) rfl rfl sX5_68 gX5_refuse (hS.1) ⟨Nat.le_of_ble_eq_true rfl, Nat.le_of_ble_eq_true rfl⟩ (Nat.le_of_ble_eq_true rfl) ⟨Nat.le_of_ble_eq_true rfl, Nat.le_of_ble_eq_true rfl⟩ ?_
    refine c_refuse (k := 1) (by decide) (by decide) hS hA (fun f1 S1 hS1 hA1 hF1 => ⟨_, rfl, ?_⟩)
    exact x_ireturn rfl rfl rfl (Nat.le_of_ble_eq_true rfl) (Nat.le_of_ble_eq_true rfl) (h _ _ hS1 hA1 hF1)
theorem c_behind (hS : x_Sys z f S) (hA : c_is S A) (ho : a_ok A) (h : c_ends z f post (s_behind A a b)) : Y E 9 mX5_behind [.ref 0, .int a, .int b] z f 0 0 post := by
  refine Y.intro gX5_behind (lv := [(0, .ref 0), (1, .int a), (2, .int b)]) rfl (Nat.le_of_ble_eq_true rfl) ?_
  obtain ⟨b1, b2, b3, b4, b5, b6, b7, b8⟩ := id hA
  have hT := hS.2.1 0 (by decide)
  by_cases d1 : q_in (g_n (a_g A)) a
  · obtain ⟨k, hk, hk2, rfl, hcl⟩ := q_in_k d1
    have hhas := t_has_nI (T := S.2.1 0) b1.2.2.2.1 ho.1.1 hk
    by_cases d2 : q_in (g_n (a_g A)) b
    · obtain ⟨k', hk', hk2', rfl, hcl'⟩ := q_in_k d2
      have hhas' := t_has_nI (T := S.2.1 0) b1.2.2.2.1 ho.1.1 hk'
      rw [show s_behind A (nI k) (nI k') = _ from if_pos ⟨d1, d2⟩, hcl, hcl'] at h
      refine x_aload_n (pc' := 1) rfl rfl rfl ?_
      refine x_get (pc' := 4) rfl rfl rfl (hS.1) rfl ?_
      refine x_iload_n (pc' := 5) rfl rfl rfl ?_
      refine x_cV1i (d := 1) (pc' := 8) rfl rfl sX5_90 gX3_has (hT.1) ⟨Nat.le_of_ble_eq_true rfl, Nat.le_of_ble_eq_true rfl⟩ (Nat.le_of_ble_eq_true rfl) ⟨Nat.le_of_ble_eq_true rfl, Nat.le_of_ble_eq_true rfl⟩ ?_
      refine w_has hT (fun _ => ⟨_, rfl, ?_⟩) (fun g => absurd hhas g)
      refine x_if_eq (tgt := 22) (pc' := 11) rfl rfl rfl (fun c8 => absurd c8 ((by decide))) (fun _ => ?_)
      refine x_aload_n (pc' := 12) rfl rfl rfl ?_
      refine x_get (pc' := 15) rfl rfl rfl (hS.1) rfl ?_
      refine x_iload_n (pc' := 16) rfl rfl rfl ?_
      refine x_cV1i (d := 1) (pc' := 19) rfl rfl sX5_90 gX3_has (hT.1) ⟨Nat.le_of_ble_eq_true rfl, Nat.le_of_ble_eq_true rfl⟩ (Nat.le_of_ble_eq_true rfl) ⟨Nat.le_of_ble_eq_true rfl, Nat.le_of_ble_eq_true rfl⟩ ?_
      refine w_has hT (fun _ => ⟨_, rfl, ?_⟩) (fun g => absurd hhas' g)
      refine x_if_ne (tgt := 28) (pc' := 22) rfl rfl rfl (fun _ => ?_) (fun c19 => absurd c19 ((by decide)))
      refine x_aload_n (pc' := 29) rfl rfl rfl ?_
      refine x_iload_n (pc' := 30) rfl rfl rfl ?_
      refine x_cV1i (d := 5) (pc' := 33) rfl rfl sX5_131 gX5_tryMove (hS.1) ⟨Nat.le_of_ble_eq_true rfl, Nat.le_of_ble_eq_true rfl⟩ (Nat.le_of_ble_eq_true rfl) ⟨Nat.le_of_ble_eq_true rfl, Nat.le_of_ble_eq_true rfl⟩ ?_
      refine c_tryMove hS hA ho hk2 (fun d2 f1 T1 hS1 g1 g5 g6 g7 g8 hF1 => ⟨_, rfl, ?_⟩) (fun d2 => ⟨_, rfl, ?_⟩)
      · have hT1 : x_t z f1 9 T1 := hS1.2.1 2 (by decide)
        rw [if_pos ⟨d2.1, d2.2.2⟩] at h
        refine x_if_eq (tgt := 47) (pc' := 36) rfl rfl rfl (fun c33 => absurd c33 ((by decide))) (fun _ => ?_)
        refine x_aload_n (pc' := 37) rfl rfl rfl ?_
        refine x_get (pc' := 40) rfl rfl rfl (hS1.1) rfl ?_
        refine x_iload_n (pc' := 41) rfl rfl rfl ?_
        refine x_cV1i (d := 2) (pc' := 44) rfl rfl sX5_96 gX3_beansOf (hT1.1) ⟨Nat.le_of_ble_eq_true rfl, Nat.le_of_ble_eq_true rfl⟩ (Nat.le_of_ble_eq_true rfl) ⟨Nat.le_of_ble_eq_true rfl, Nat.le_of_ble_eq_true rfl⟩ ?_
        refine w_beansOf hT1 (fun g => ⟨_, rfl, ?_⟩) (fun g => absurd (t_has_nI (T := T1) (n := g_n (a_g A)) g1.2.2.2.1 ho.1.1 hk') g)
        refine x_eqi (show T1.2.1 (nI k').toNatClampNeg = nI (g_β (g_mv (a_g A) k) k') from by rw [hcl', g1.2.1]) ?_
        refine x_goto (tgt := 53) rfl rfl ?_
        exact x_ireturn rfl rfl rfl (Nat.le_of_ble_eq_true rfl) (Nat.le_of_ble_eq_true rfl) (h _ _ hS1 (c_tr hA) hF1)
      · rw [if_neg (fun q => d2 ⟨q.1, hk, q.2⟩)] at h
        refine x_if_eq (tgt := 47) (pc' := 36) rfl rfl rfl (fun _ => ?_) (fun c33 => absurd ((by decide)) c33)
        refine x_aload_n (pc' := 48) rfl rfl rfl ?_
        refine x_bipush (pc' := 50) rfl rfl bipush_m3 ?_
        refine x_cV1i (d := 1) (pc' := 53) rfl rfl sX5_68 gX5_refuse (hS.1) ⟨Nat.le_of_ble_eq_true rfl, Nat.le_of_ble_eq_true rfl⟩ (Nat.le_of_ble_eq_true rfl) ⟨Nat.le_of_ble_eq_true rfl, Nat.le_of_ble_eq_true rfl⟩ ?_
        refine c_refuse (k := 3) (by decide) (by decide) hS hA (fun f1 S1 hS1 hA1 hF1 => ⟨_, rfl, ?_⟩)
        exact x_ireturn rfl rfl rfl (Nat.le_of_ble_eq_true rfl) (Nat.le_of_ble_eq_true rfl) (h _ _ hS1 hA1 hF1)
    · rw [show s_behind A (nI k) b = _ from if_neg (fun q => d2 q.2)] at h
      refine x_aload_n (pc' := 1) rfl rfl rfl ?_
      refine x_get (pc' := 4) rfl rfl rfl (hS.1) rfl ?_
      refine x_iload_n (pc' := 5) rfl rfl rfl ?_
      refine x_cV1i (d := 1) (pc' := 8) rfl rfl sX5_90 gX3_has (hT.1) ⟨Nat.le_of_ble_eq_true rfl, Nat.le_of_ble_eq_true rfl⟩ (Nat.le_of_ble_eq_true rfl) ⟨Nat.le_of_ble_eq_true rfl, Nat.le_of_ble_eq_true rfl⟩ ?_
      refine w_has hT (fun _ => ⟨_, rfl, ?_⟩) (fun g => absurd hhas g)
      refine x_if_eq (tgt := 22) (pc' := 11) rfl rfl rfl (fun c8 => absurd c8 ((by decide))) (fun _ => ?_)
      refine x_aload_n (pc' := 12) rfl rfl rfl ?_
      refine x_get (pc' := 15) rfl rfl rfl (hS.1) rfl ?_
      refine x_iload_n (pc' := 16) rfl rfl rfl ?_
      refine x_cV1i (d := 1) (pc' := 19) rfl rfl sX5_90 gX3_has (hT.1) ⟨Nat.le_of_ble_eq_true rfl, Nat.le_of_ble_eq_true rfl⟩ (Nat.le_of_ble_eq_true rfl) ⟨Nat.le_of_ble_eq_true rfl, Nat.le_of_ble_eq_true rfl⟩ ?_
      refine c_has hS hA ho (fun g => absurd g d2) (fun g => ⟨_, rfl, ?_⟩)
      refine x_if_ne (tgt := 28) (pc' := 22) rfl rfl rfl (fun c19 => absurd ((by decide)) c19) (fun _ => ?_)
      refine x_aload_n (pc' := 23) rfl rfl rfl ?_
      refine x_iconst (pc' := 24) rfl rfl iconst_m1 ?_
      refine x_cV1i (d := 1) (pc' := 27) rfl rfl sX5_68 gX5_refuse (hS.1) ⟨Nat.le_of_ble_eq_true rfl, Nat.le_of_ble_eq_true rfl⟩ (Nat.le_of_ble_eq_true rfl) ⟨Nat.le_of_ble_eq_true rfl, Nat.le_of_ble_eq_true rfl⟩ ?_
      refine c_refuse (k := 1) (by decide) (by decide) hS hA (fun f1 S1 hS1 hA1 hF1 => ⟨_, rfl, ?_⟩)
      exact x_ireturn rfl rfl rfl (Nat.le_of_ble_eq_true rfl) (Nat.le_of_ble_eq_true rfl) (h _ _ hS1 hA1 hF1)
  · rw [show s_behind A a b = _ from if_neg (fun q => d1 q.1)] at h
    refine x_aload_n (pc' := 1) rfl rfl rfl ?_
    refine x_get (pc' := 4) rfl rfl rfl (hS.1) rfl ?_
    refine x_iload_n (pc' := 5) rfl rfl rfl ?_
    refine x_cV1i (d := 1) (pc' := 8) rfl rfl sX5_90 gX3_has (hT.1) ⟨Nat.le_of_ble_eq_true rfl, Nat.le_of_ble_eq_true rfl⟩ (Nat.le_of_ble_eq_true rfl) ⟨Nat.le_of_ble_eq_true rfl, Nat.le_of_ble_eq_true rfl⟩ ?_
    refine c_has hS hA ho (fun g => absurd g d1) (fun g => ⟨_, rfl, ?_⟩)
    refine x_if_eq (tgt := 22) (pc' := 11) rfl rfl rfl (fun _ => ?_) (fun c8 => absurd ((by decide)) c8)
    refine x_aload_n (pc' := 23) rfl rfl rfl ?_
    refine x_iconst (pc' := 24) rfl rfl iconst_m1 ?_
    refine x_cV1i (d := 1) (pc' := 27) rfl rfl sX5_68 gX5_refuse (hS.1) ⟨Nat.le_of_ble_eq_true rfl, Nat.le_of_ble_eq_true rfl⟩ (Nat.le_of_ble_eq_true rfl) ⟨Nat.le_of_ble_eq_true rfl, Nat.le_of_ble_eq_true rfl⟩ ?_
    refine c_refuse (k := 1) (by decide) (by decide) hS hA (fun f1 S1 hS1 hA1 hF1 => ⟨_, rfl, ?_⟩)
    exact x_ireturn rfl rfl rfl (Nat.le_of_ble_eq_true rfl) (Nat.le_of_ble_eq_true rfl) (h _ _ hS1 hA1 hF1)
/-- which bowls are empty -/
def q_bits (β : Nat → Nat) : Nat → Int32
  | 0 => 0
  | i + 1 => if β i = 0 then q_bits β i ||| ((1 : Int32) <<< (nI i &&& 31)) else q_bits β i
def s_empties (A : q_A) (a : Int32) : q_A × Int32 := if q_in (g_n (a_g A)) a then (if 2 ≤ g_n (a_g A) ∧ 0 < g_β (a_g A) a.toNatClampNeg then (A, q_bits (g_β (g_mv (a_g A) a.toNatClampNeg)) (g_n (a_g A))) else (s_no A 3, -3)) else (s_no A 1, -1)
theorem c_emptiesL {T : x_T} {n : Nat} {β : Nat → Nat} (hS : x_Sys z f S) (hT : x_t z f 9 T) (hn : T.2.2.2 0 = nI n) (hn9 : n ≤ 9) (hβ : T.2.1 = fun i => nI (β i)) (hβ5 : ∀ i, β i ≤ 100) (h : post (some (.int (q_bits β n))) f) : ∀ (k i : Nat), i + k = n → X E (x_rm 9 0 0) mX5_empties (x_QM E z 0 0 post) 36 [(3, .int (nI i)), (2, .int (q_bits β i)), (0, .ref 0), (1, .int a)] [] z f 0 0 := by
  intro k
  induction k with
  | zero =>
    intro i hi
    have hi2 : i = n := by omega
    subst hi2
    refine x_iload_n (pc' := 37) rfl rfl rfl ?_
    refine x_aload_n (pc' := 38) rfl rfl rfl ?_
    refine x_get (pc' := 41) rfl rfl rfl (hS.1) rfl ?_
    refine x_get (pc' := 44) rfl rfl rfl (hT.1) rfl ?_
    refine x_icmp_ge (tgt := 70) (pc' := 47) rfl rfl rfl (fun _ => ?_) (fun c44 => absurd ((by rw [hn]; exact Int32.le_refl _)) c44)
    refine x_iload_n (pc' := 71) rfl rfl rfl ?_
    exact x_ireturn rfl rfl rfl (Nat.le_of_ble_eq_true rfl) (Nat.le_of_ble_eq_true rfl) (h)
  | succ k ih =>
    intro i hi
    have hb := hβ5 i
    have e1 : q_bits β (i + 1) = if β i = 0 then q_bits β i ||| ((1 : Int32) <<< (nI i &&& 31)) else q_bits β i := rfl
    refine x_iload_n (pc' := 37) rfl rfl rfl ?_
    refine x_aload_n (pc' := 38) rfl rfl rfl ?_
    refine x_get (pc' := 41) rfl rfl rfl (hS.1) rfl ?_
    refine x_get (pc' := 44) rfl rfl rfl (hT.1) rfl ?_
    refine x_icmp_ge (tgt := 70) (pc' := 47) rfl rfl rfl (fun c44 => absurd c44 ((by rw [hn]; exact Int32.not_le.mpr (nI_lt (by omega) (by omega))))) (fun _ => ?_)
    refine x_aload_n (pc' := 48) rfl rfl rfl ?_
    refine x_get (pc' := 51) rfl rfl rfl (hS.1) rfl ?_
    refine x_iload_n (pc' := 52) rfl rfl rfl ?_
    refine x_cV1i (d := 2) (pc' := 55) rfl rfl sX5_96 gX3_beansOf (hT.1) ⟨Nat.le_of_ble_eq_true rfl, Nat.le_of_ble_eq_true rfl⟩ (Nat.le_of_ble_eq_true rfl) ⟨Nat.le_of_ble_eq_true rfl, Nat.le_of_ble_eq_true rfl⟩ ?_
    refine w_beansOf hT (fun g => ⟨_, rfl, ?_⟩) (fun g => absurd (t_has_nI hn hn9 (by omega)) g)
    refine x_eqi (show T.2.1 (nI i).toNatClampNeg = nI (β i) from by rw [nI_clamp (by omega), hβ]) ?_
    by_cases d : β i = 0
    · rw [if_pos d] at e1
      refine x_if_ne (tgt := 64) (pc' := 58) rfl rfl rfl (fun q => absurd (show nI (β i) = 0 by rw [d]; rfl) q) (fun _ => ?_)
      refine x_iload_n (pc' := 59) rfl rfl rfl ?_
      refine x_iconst (pc' := 60) rfl rfl iconst_1 ?_
      refine x_iload_n (pc' := 61) rfl rfl rfl ?_
      refine x_ishl (pc' := 62) rfl rfl ?_
      refine x_ior (pc' := 63) rfl rfl ?_
      refine x_istore_n (pc' := 64) (lv' := [(2, _), (3, _), (0, _), (1, _)]) rfl rfl (Nat.le_of_ble_eq_true rfl) rfl ?_
      refine x_iinc (pc' := 67) (lv' := [(3, _), (2, _), (0, _), (1, _)]) rfl rfl (Nat.le_of_ble_eq_true rfl) rfl (nI_1 i) rfl ?_
      refine x_goto (tgt := 36) rfl rfl ?_
      have h9 := ih (i + 1) (by omega)
      rw [e1] at h9
      exact h9
    · rw [if_neg d] at e1
      refine x_if_ne (tgt := 64) (pc' := 58) rfl rfl rfl (fun _ => ?_) (fun q => absurd q (nI_ne0 (by omega) (by omega)))
      refine x_iinc (pc' := 67) (lv' := [(3, _), (2, _), (0, _), (1, _)]) rfl rfl (Nat.le_of_ble_eq_true rfl) rfl (nI_1 i) rfl ?_
      refine x_goto (tgt := 36) rfl rfl ?_
      have h9 := ih (i + 1) (by omega)
      rw [e1] at h9
      exact h9
theorem c_empties (hS : x_Sys z f S) (hA : c_is S A) (ho : a_ok A) (h : c_ends z f post (s_empties A a)) : Y E 9 mX5_empties [.ref 0, .int a] z f 0 0 post := by
  refine Y.intro gX5_empties (lv := [(0, .ref 0), (1, .int a)]) rfl (Nat.le_of_ble_eq_true rfl) ?_
  obtain ⟨b1, b2, b3, b4, b5, b6, b7, b8⟩ := id hA
  have hT := hS.2.1 0 (by decide)
  by_cases d1 : q_in (g_n (a_g A)) a
  · obtain ⟨k, hk, hk2, rfl, hcl⟩ := q_in_k d1
    have hhas := t_has_nI (T := S.2.1 0) b1.2.2.2.1 ho.1.1 hk
    rw [show s_empties A (nI k) = _ from if_pos d1, hcl] at h
    refine x_aload_n (pc' := 1) rfl rfl rfl ?_
    refine x_get (pc' := 4) rfl rfl rfl (hS.1) rfl ?_
    refine x_iload_n (pc' := 5) rfl rfl rfl ?_
    refine x_cV1i (d := 1) (pc' := 8) rfl rfl sX5_90 gX3_has (hT.1) ⟨Nat.le_of_ble_eq_true rfl, Nat.le_of_ble_eq_true rfl⟩ (Nat.le_of_ble_eq_true rfl) ⟨Nat.le_of_ble_eq_true rfl, Nat.le_of_ble_eq_true rfl⟩ ?_
    refine w_has hT (fun _ => ⟨_, rfl, ?_⟩) (fun g => absurd hhas g)
    refine x_if_ne (tgt := 17) (pc' := 11) rfl rfl rfl (fun _ => ?_) (fun c8 => absurd c8 ((by decide)))
    refine x_aload_n (pc' := 18) rfl rfl rfl ?_
    refine x_iload_n (pc' := 19) rfl rfl rfl ?_
    refine x_cV1i (d := 5) (pc' := 22) rfl rfl sX5_131 gX5_tryMove (hS.1) ⟨Nat.le_of_ble_eq_true rfl, Nat.le_of_ble_eq_true rfl⟩ (Nat.le_of_ble_eq_true rfl) ⟨Nat.le_of_ble_eq_true rfl, Nat.le_of_ble_eq_true rfl⟩ ?_
    refine c_tryMove hS hA ho hk2 (fun d2 f1 T1 hS1 g1 g5 g6 g7 g8 hF1 => ⟨_, rfl, ?_⟩) (fun d2 => ⟨_, rfl, ?_⟩)
    · have hT1 : x_t z f1 9 T1 := hS1.2.1 2 (by decide)
      rw [if_pos ⟨d2.1, d2.2.2⟩] at h
      refine x_if_ne (tgt := 32) (pc' := 25) rfl rfl rfl (fun _ => ?_) (fun c22 => absurd c22 ((by decide)))
      refine x_iconst (pc' := 33) rfl rfl iconst_0 ?_
      refine x_istore_n (pc' := 34) (lv' := [(2, _), (0, _), (1, _)]) rfl rfl (Nat.le_of_ble_eq_true rfl) rfl ?_
      refine x_iconst (pc' := 35) rfl rfl iconst_0 ?_
      refine x_istore_n (pc' := 36) (lv' := [(3, _), (2, _), (0, _), (1, _)]) rfl rfl (Nat.le_of_ble_eq_true rfl) rfl ?_
      refine x_lvp [0, 1, 2, 3] rfl ?_
      exact c_emptiesL (n := g_n (a_g A)) (β := g_β (g_mv (a_g A) k)) hS1 hT1 g1.2.2.2.1 ho.1.1 g1.2.1 (fun i => (g_mv_ok (ho.1.mono (by decide : 99 ≤ 100)) (by decide) (by decide) d2.2.1).2.2.2.2.2.1 i) (h _ _ hS1 (c_tr hA) hF1) (g_n (a_g A)) 0 (by omega)
    · rw [if_neg (fun q => d2 ⟨q.1, hk, q.2⟩)] at h
      refine x_if_ne (tgt := 32) (pc' := 25) rfl rfl rfl (fun c22 => absurd ((by decide)) c22) (fun _ => ?_)
      refine x_aload_n (pc' := 26) rfl rfl rfl ?_
      refine x_bipush (pc' := 28) rfl rfl bipush_m3 ?_
      refine x_cV1i (d := 1) (pc' := 31) rfl rfl sX5_68 gX5_refuse (hS.1) ⟨Nat.le_of_ble_eq_true rfl, Nat.le_of_ble_eq_true rfl⟩ (Nat.le_of_ble_eq_true rfl) ⟨Nat.le_of_ble_eq_true rfl, Nat.le_of_ble_eq_true rfl⟩ ?_
      refine c_refuse (k := 3) (by decide) (by decide) hS hA (fun f1 S1 hS1 hA1 hF1 => ⟨_, rfl, ?_⟩)
      exact x_ireturn rfl rfl rfl (Nat.le_of_ble_eq_true rfl) (Nat.le_of_ble_eq_true rfl) (h _ _ hS1 hA1 hF1)
  · rw [show s_empties A a = _ from if_neg d1] at h
    refine x_aload_n (pc' := 1) rfl rfl rfl ?_
    refine x_get (pc' := 4) rfl rfl rfl (hS.1) rfl ?_
    refine x_iload_n (pc' := 5) rfl rfl rfl ?_
    refine x_cV1i (d := 1) (pc' := 8) rfl rfl sX5_90 gX3_has (hT.1) ⟨Nat.le_of_ble_eq_true rfl, Nat.le_of_ble_eq_true rfl⟩ (Nat.le_of_ble_eq_true rfl) ⟨Nat.le_of_ble_eq_true rfl, Nat.le_of_ble_eq_true rfl⟩ ?_
    refine c_has hS hA ho (fun g => absurd g d1) (fun g => ⟨_, rfl, ?_⟩)
    refine x_if_ne (tgt := 17) (pc' := 11) rfl rfl rfl (fun c8 => absurd ((by decide)) c8) (fun _ => ?_)
    refine x_aload_n (pc' := 12) rfl rfl rfl ?_
    refine x_iconst (pc' := 13) rfl rfl iconst_m1 ?_
    refine x_cV1i (d := 1) (pc' := 16) rfl rfl sX5_68 gX5_refuse (hS.1) ⟨Nat.le_of_ble_eq_true rfl, Nat.le_of_ble_eq_true rfl⟩ (Nat.le_of_ble_eq_true rfl) ⟨Nat.le_of_ble_eq_true rfl, Nat.le_of_ble_eq_true rfl⟩ ?_
    refine c_refuse (k := 1) (by decide) (by decide) hS hA (fun f1 S1 hS1 hA1 hF1 => ⟨_, rfl, ?_⟩)
    exact x_ireturn rfl rfl rfl (Nat.le_of_ble_eq_true rfl) (Nat.le_of_ble_eq_true rfl) (h _ _ hS1 hA1 hF1)
/-- the bowl that sows the most, how many -/
def q_lng (g : q_G) : Nat → Int32 × Nat
  | 0 => (-9, 0)
  | i + 1 => if g_can g i ∧ (q_lng g i).2 < (g_v g i).2.2.1 then (nI i, (g_v g i).2.2.1) else q_lng g i
theorem q_hands_s {κ : Nat → Nat} {n fu ln : Nat} : ∀ (k : Nat) (β : Nat → Nat) (b hs s : Nat) (l : Option Nat), b < n → (∀ i, β i ≤ 100) → (∀ p, l = some p → p < n) → (q_hands κ n fu ln k β b hs s l).2.2.1 ≤ s + 100 * k
  | 0, β, b, hs, s, l, hb, hβ, hl => Nat.le_refl _
  | k + 1, β, b, hs, s, l, hb, hβ, hl => by
    have h1 := q_hand_le (κ := κ) (n := n) (fu := fu) (ln := ln) (b := b) (l := l) (C := 100) (by decide) hβ
    have h2 := q_hand_l (κ := κ) (fu := fu) (ln := ln) hb hβ hl
    have h4 := h1.2
    rw [q_hands]
    split
    · rename_i hg
      obtain ⟨p, hp, hpn⟩ := h2.2 hg.1
      have h3 := q_hands_s (κ := κ) (fu := fu) (ln := ln) k (q_hand κ n fu ln β b l).1 ((q_hand κ n fu ln β b l).2.2.getD 0) (hs + 1) (s + (q_hand κ n fu ln β b l).2.1) (q_hand κ n fu ln β b l).2.2 (by rw [hp]; exact hpn) h1.1 h2.1
      omega
    · show s + (q_hand κ n fu ln β b l).2.1 ≤ _
      omega
theorem g_v_s {C : Nat} {g : q_G} {b : Nat} (h : g_ok C g) (hC2 : C ≤ 100) (hb : b < g_n g) : (g_v g b).2.2.1 ≤ 6000 := by
  unfold g_v q_mv
  split
  · have := q_hands_s (κ := g_κ g) (n := g_n g) (fu := g_f g) (ln := g_l g) 60 (g_β g) b 0 0 none hb (fun i => Nat.le_trans (h.2.2.2.2.2.1 i) hC2) (fun p hp => by cases hp)
    omega
  · exact Nat.zero_le _
theorem q_lng_le {C : Nat} {g : q_G} (h : g_ok C g) (hC2 : C ≤ 100) : ∀ i, (q_lng g i).2 ≤ 6000
  | 0 => Nat.zero_le _
  | i + 1 => by
    unfold q_lng
    split
    · rename_i hc
      exact g_v_s h hC2 hc.1.2.1
    · exact q_lng_le h hC2 i
theorem c_longestL (ho : a_ok A) (f0 : x_H) (h : c_ends z f0 post (A, (q_lng (a_g A) (g_n (a_g A))).1)) : ∀ (k i : Nat) (f : x_H) (S : x_S), i + k = g_n (a_g A) → x_Sys z f S → c_is S A → x_fr (fun q => 59 ≤ q) f0 f → X E (x_rm 9 0 0) mX5_longest (x_QM E z 0 0 post) 7 [(3, .int (nI i)), (2, .int (nI (q_lng (a_g A) i).2)), (1, .int (q_lng (a_g A) i).1), (0, .ref 0)] [] z f 0 0 := by
  intro k
  induction k with
  | zero =>
    intro i f S hi hS hA hF
    have hi2 : i = g_n (a_g A) := by omega
    subst hi2
    refine x_iload_n (pc' := 8) rfl rfl rfl ?_
    refine x_aload_n (pc' := 9) rfl rfl rfl ?_
    refine x_get (pc' := 12) rfl rfl rfl (hS.1) rfl ?_
    refine x_get (pc' := 15) rfl rfl rfl ((hS.2.1 0 (by decide)).1) rfl ?_
    refine x_icmp_ge (tgt := 53) (pc' := 18) rfl rfl rfl (fun _ => ?_) (fun c15 => absurd ((by rw [hA.1.2.2.2.1]; exact Int32.le_refl _)) c15)
    refine x_iload_n (pc' := 54) rfl rfl rfl ?_
    exact x_ireturn rfl rfl rfl (Nat.le_of_ble_eq_true rfl) (Nat.le_of_ble_eq_true rfl) (h _ _ hS hA hF)
  | succ k ih =>
    intro i f S hi hS hA hF
    have hn9 := ho.1.1
    have hq := q_lng_le ho.1 (by decide) i
    have e1 : q_lng (a_g A) (i + 1) = if g_can (a_g A) i ∧ (q_lng (a_g A) i).2 < (g_v (a_g A) i).2.2.1 then (nI i, (g_v (a_g A) i).2.2.1) else q_lng (a_g A) i := rfl
    refine x_iload_n (pc' := 8) rfl rfl rfl ?_
    refine x_aload_n (pc' := 9) rfl rfl rfl ?_
    refine x_get (pc' := 12) rfl rfl rfl (hS.1) rfl ?_
    refine x_get (pc' := 15) rfl rfl rfl ((hS.2.1 0 (by decide)).1) rfl ?_
    refine x_icmp_ge (tgt := 53) (pc' := 18) rfl rfl rfl (fun c15 => absurd c15 ((by rw [hA.1.2.2.2.1]; exact Int32.not_le.mpr (nI_lt (by omega) (by omega))))) (fun _ => ?_)
    refine x_aload_n (pc' := 19) rfl rfl rfl ?_
    refine x_iload_n (pc' := 20) rfl rfl rfl ?_
    refine x_cV1i (d := 5) (pc' := 23) rfl rfl sX5_131 gX5_tryMove (hS.1) ⟨Nat.le_of_ble_eq_true rfl, Nat.le_of_ble_eq_true rfl⟩ (Nat.le_of_ble_eq_true rfl) ⟨Nat.le_of_ble_eq_true rfl, Nat.le_of_ble_eq_true rfl⟩ ?_
    refine c_tryMove hS hA ho (by omega) (fun d2 f1 T1 hS1 g1 g5 g6 g7 g8 hF1 => ⟨_, rfl, ?_⟩) (fun d2 => ⟨_, rfl, ?_⟩)
    · have hT1 : x_t z f1 9 T1 := hS1.2.1 2 (by decide)
      have hs := g_v_s ho.1 (by decide) d2.2.1
      refine x_if_eq (tgt := 47) (pc' := 26) rfl rfl rfl (fun c23 => absurd c23 ((by decide))) (fun _ => ?_)
      refine x_aload_n (pc' := 27) rfl rfl rfl ?_
      refine x_get (pc' := 30) rfl rfl rfl (hS1.1) rfl ?_
      refine x_get (pc' := 33) rfl rfl rfl (hT1.1) rfl ?_
      refine x_eqi g7 ?_
      refine x_iload_n (pc' := 34) rfl rfl rfl ?_
      refine x_icmp_le (tgt := 47) (pc' := 37) rfl rfl rfl (fun c34 => ?_) (fun c34 => ?_)
      · rw [if_neg (fun q => Int32.not_lt.mpr c34 (nI_lt q.2 (by omega)))] at e1
        refine x_iinc (pc' := 50) (lv' := [(3, _), (2, _), (1, _), (0, _)]) rfl rfl (Nat.le_of_ble_eq_true rfl) rfl (nI_1 i) rfl ?_
        refine x_goto (tgt := 7) rfl rfl ?_
        have h9 := ih (i + 1) _ _ (by omega) hS1 (c_tr hA) (hF.trans hF1)
        rw [e1] at h9
        exact h9
      · rw [if_pos ⟨d2, (nI_ltI (by omega) (by omega)).mp (Int32.not_le.mp c34)⟩] at e1
        refine x_aload_n (pc' := 38) rfl rfl rfl ?_
        refine x_get (pc' := 41) rfl rfl rfl (hS1.1) rfl ?_
        refine x_get (pc' := 44) rfl rfl rfl (hT1.1) rfl ?_
        refine x_eqi g7 ?_
        refine x_istore_n (pc' := 45) (lv' := [(2, _), (3, _), (1, _), (0, _)]) rfl rfl (Nat.le_of_ble_eq_true rfl) rfl ?_
        refine x_iload_n (pc' := 46) rfl rfl rfl ?_
        refine x_istore_n (pc' := 47) (lv' := [(1, _), (2, _), (3, _), (0, _)]) rfl rfl (Nat.le_of_ble_eq_true rfl) rfl ?_
        refine x_iinc (pc' := 50) (lv' := [(3, _), (1, _), (2, _), (0, _)]) rfl rfl (Nat.le_of_ble_eq_true rfl) rfl (nI_1 i) rfl ?_
        refine x_goto (tgt := 7) rfl rfl ?_
        refine x_lvp [0, 2, 1, 3] rfl ?_
        have h9 := ih (i + 1) _ _ (by omega) hS1 (c_tr hA) (hF.trans hF1)
        rw [e1] at h9
        exact h9
    · rw [if_neg (fun q => d2 q.1)] at e1
      refine x_if_eq (tgt := 47) (pc' := 26) rfl rfl rfl (fun _ => ?_) (fun c23 => absurd ((by decide)) c23)
      refine x_iinc (pc' := 50) (lv' := [(3, _), (2, _), (1, _), (0, _)]) rfl rfl (Nat.le_of_ble_eq_true rfl) rfl (nI_1 i) rfl ?_
      refine x_goto (tgt := 7) rfl rfl ?_
      have h9 := ih (i + 1) _ _ (by omega) hS hA hF
      rw [e1] at h9
      exact h9
theorem c_longest (hS : x_Sys z f S) (hA : c_is S A) (ho : a_ok A) (h : c_ends z f post (A, (q_lng (a_g A) (g_n (a_g A))).1)) : Y E 9 mX5_longest [.ref 0] z f 0 0 post := by
  refine Y.intro gX5_longest (lv := [(0, .ref 0)]) rfl (Nat.le_of_ble_eq_true rfl) ?_
  refine x_bipush (pc' := 2) rfl rfl bipush_m9 ?_
  refine x_istore_n (pc' := 3) (lv' := [(1, _), (0, _)]) rfl rfl (Nat.le_of_ble_eq_true rfl) rfl ?_
  refine x_iconst (pc' := 4) rfl rfl iconst_0 ?_
  refine x_istore_n (pc' := 5) (lv' := [(2, _), (1, _), (0, _)]) rfl rfl (Nat.le_of_ble_eq_true rfl) rfl ?_
  refine x_iconst (pc' := 6) rfl rfl iconst_0 ?_
  refine x_istore_n (pc' := 7) (lv' := [(3, _), (2, _), (1, _), (0, _)]) rfl rfl (Nat.le_of_ble_eq_true rfl) rfl ?_
  exact c_longestL ho f h (g_n (a_g A)) 0 f S (by omega) hS hA x_fr.rf
/-- whether some bowl of the first i can be sown -/
def q_any (g : q_G) : Nat → Bool
  | 0 => false
  | i + 1 => q_any g i || decide (g_can g i)
theorem c_lostL (hS : x_Sys z f S) (hA : c_is S A) (ho : a_ok A) (h1 : post (some (.int 1)) f) (h0 : ∀ i, i < g_n (a_g A) → g_can (a_g A) i → post (some (.int 0)) f) : ∀ (k i : Nat), i + k = g_n (a_g A) → X E (x_rm 9 0 0) mX5_lost (x_QM E z 0 0 post) 2 [(1, .int (nI i)), (0, .ref 0)] [] z f 0 0 := by
  have hn9 := ho.1.1
  have hT := hS.2.1 0 (by decide)
  intro k
  induction k with
  | zero =>
    intro i hi
    refine x_iload_n (pc' := 3) rfl rfl rfl ?_
    refine x_aload_n (pc' := 4) rfl rfl rfl ?_
    refine x_get (pc' := 7) rfl rfl rfl (hS.1) rfl ?_
    refine x_get (pc' := 10) rfl rfl rfl (hT.1) rfl ?_
    refine x_icmp_ge (tgt := 32) (pc' := 13) rfl rfl rfl (fun _ => ?_) (fun c10 => absurd ((by rw [hA.1.2.2.2.1]; exact nI_le (by omega) (by omega))) c10)
    refine x_iconst (pc' := 33) rfl rfl iconst_1 ?_
    exact x_ireturn rfl rfl rfl (Nat.le_of_ble_eq_true rfl) (Nat.le_of_ble_eq_true rfl) (h1)
  | succ k ih =>
    intro i hi
    refine x_iload_n (pc' := 3) rfl rfl rfl ?_
    refine x_aload_n (pc' := 4) rfl rfl rfl ?_
    refine x_get (pc' := 7) rfl rfl rfl (hS.1) rfl ?_
    refine x_get (pc' := 10) rfl rfl rfl (hT.1) rfl ?_
    refine x_icmp_ge (tgt := 32) (pc' := 13) rfl rfl rfl (fun c10 => absurd c10 ((by rw [hA.1.2.2.2.1]; exact Int32.not_le.mpr (nI_lt (by omega) (by omega))))) (fun _ => ?_)
    refine x_aload_n (pc' := 14) rfl rfl rfl ?_
    refine x_get (pc' := 17) rfl rfl rfl (hS.1) rfl ?_
    refine x_iload_n (pc' := 18) rfl rfl rfl ?_
    refine x_cV1i (d := 2) (pc' := 21) rfl rfl sX5_118 gX3_canMove (hT.1) ⟨Nat.le_of_ble_eq_true rfl, Nat.le_of_ble_eq_true rfl⟩ (Nat.le_of_ble_eq_true rfl) ⟨Nat.le_of_ble_eq_true rfl, Nat.le_of_ble_eq_true rfl⟩ ?_
    refine w_can hT hA.1 ho.1 (by decide) (by omega) (fun d2 => ⟨_, rfl, ?_⟩) (fun d2 => ⟨_, rfl, ?_⟩)
    · refine x_if_eq (tgt := 26) (pc' := 24) rfl rfl rfl (fun c21 => absurd c21 (by decide)) (fun _ => ?_)
      refine x_iconst (pc' := 25) rfl rfl iconst_0 ?_
      exact x_ireturn rfl rfl rfl (Nat.le_of_ble_eq_true rfl) (Nat.le_of_ble_eq_true rfl) (h0 i (by omega) d2)
    · refine x_if_eq (tgt := 26) (pc' := 24) rfl rfl rfl (fun _ => ?_) (fun c21 => absurd (by decide) c21)
      refine x_iinc (pc' := 29) (lv' := [(1, _), (0, _)]) rfl rfl (Nat.le_of_ble_eq_true rfl) rfl (nI_1 i) rfl ?_
      refine x_goto (tgt := 2) rfl rfl ?_
      exact ih (i + 1) (by omega)
end CB
end
section
/-! The class: the row, lots, the picture, counts. -/
theorem q_zI (w : Int32) {n : Nat} (h0 : 0 < n) (hn : n ≤ 9) : (w &&& 2147483647) / 256 - (w &&& 2147483647) / 256 / nI n * nI n = nI (q_zb w n) := by
  rw [pk_and w (m := 2147483647) 31 (by decide)]
  have h1 : w.toBitVec.toNat % 2 ^ 31 < 2 ^ 31 := Nat.mod_lt _ (by decide)
  rw [show (256 : Int32) = nI 256 from rfl, pk_div h1 (by decide) (by decide)]
  exact pk_rem (by omega) h0 (by omega)
section CC
variable {E : x_E} {z : Nat} {f : x_H} {S : x_S} {A : q_A} {post : Option Value → x_H → Prop} {a b : Int32}
theorem c_lost (hS : x_Sys z f S) (hA : c_is S A) (ho : a_ok A) (h1 : post (some (.int 1)) f) (h0 : ∀ i, i < g_n (a_g A) → g_can (a_g A) i → post (some (.int 0)) f) : Y E 9 mX5_lost [.ref 0] z f 0 0 post := by
  refine Y.intro gX5_lost (lv := [(0, .ref 0)]) rfl (Nat.le_of_ble_eq_true rfl) ?_
  refine x_iconst (pc' := 1) rfl rfl iconst_0 ?_
  refine x_istore_n (pc' := 2) (lv' := [(1, _), (0, _)]) rfl rfl (Nat.le_of_ble_eq_true rfl) rfl ?_
  exact c_lostL hS hA ho h1 h0 (g_n (a_g A)) 0 (by omega)
abbrev a_plays (A : q_A) : Nat × q_G := q_plays (a_rf A) (a_rc A) 0 (a_g A)
theorem c_playL (ho : a_ok A) (f0 : x_H) (S0 : x_S) (hA : c_is S0 A) (h : ∀ (f' : x_H) (T' : x_T), x_Sys z f' (S0.1, x_ut S0.2.1 2 T', S0.2.2.1, S0.2.2.2) → t_is T' (a_plays A).2 → x_fr (fun q => 59 ≤ q) f0 f' → post (some (.int (nI (a_plays A).1))) f') : ∀ (k i : Nat) (g : q_G) (f : x_H) (T : x_T), i + k = a_rc A → g_ok 99 g → q_plays (a_rf A) k i g = a_plays A → x_Sys z f (S0.1, x_ut S0.2.1 2 T, S0.2.2.1, S0.2.2.2) → t_is T g → x_fr (fun q => 59 ≤ q) f0 f → X E (x_rm 5 0 0) mX5_playRow (x_QM E z 0 0 post) 13 [(1, .int (nI i)), (0, .ref 0)] [] z f 0 0 := by
  have hrc := ho.2.2.2.2.2.1
  have b6 : S0.1 1 = nI (a_rc A) := hA.2.2.2.2.2.1
  have b7 : S0.2.2.1 5 = fun i => nI (a_rf A i) := hA.2.2.2.2.2.2.1
  intro k
  induction k with
  | zero =>
    intro i g f T hi hg he hS hT hF
    have hi2 : i = a_rc A := by omega
    have he2 : (i, g) = a_plays A := he
    rw [← he2] at h
    refine x_iload_n (pc' := 14) rfl rfl rfl ?_
    refine x_aload_n (pc' := 15) rfl rfl rfl ?_
    refine x_get (pc' := 18) rfl rfl rfl (hS.1) rfl ?_
    refine x_eqi b6 ?_
    refine x_icmp_ge (tgt := 65) (pc' := 21) rfl rfl rfl (fun _ => ?_) (fun c18 => absurd ((by rw [hi2]; exact Int32.le_refl _)) c18)
    refine x_iload_n (pc' := 66) rfl rfl rfl ?_
    exact x_ireturn rfl rfl rfl (Nat.le_of_ble_eq_true rfl) (Nat.le_of_ble_eq_true rfl) (h _ T hS hT hF)
  | succ k ih =>
    intro i g f T hi hg he hS hT hF
    have hTt : x_t z f 9 T := hS.2.1 2 (by decide)
    have hrf := ho.2.2.2.2.2.2 i
    have hcl : (nI i).toNatClampNeg = i := nI_clamp (by omega)
    have hv : vp_in (nI i) 12 := vp_in_nI (by omega) (by decide)
    have e1 : S0.2.2.1 5 (nI i).toNatClampNeg = nI (a_rf A i) := by rw [hcl, b7]
    replace he : (if g_can g (a_rf A i) then q_plays (a_rf A) k (i + 1) (g_mv g (a_rf A i)) else (i, g)) = a_plays A := he
    refine x_iload_n (pc' := 14) rfl rfl rfl ?_
    refine x_aload_n (pc' := 15) rfl rfl rfl ?_
    refine x_get (pc' := 18) rfl rfl rfl (hS.1) rfl ?_
    refine x_eqi b6 ?_
    refine x_icmp_ge (tgt := 65) (pc' := 21) rfl rfl rfl (fun c18 => absurd c18 ((nI_ge (by omega) (by omega)))) (fun _ => ?_)
    refine x_iload_n (pc' := 22) rfl rfl rfl ?_
    refine x_aload_n (pc' := 23) rfl rfl rfl ?_
    refine x_get (pc' := 26) rfl rfl rfl (hS.1) rfl ?_
    refine x_alen (pc' := 27) rfl rfl (hS.2.2.1 5 (by decide)) ?_
    refine x_icmp_ge (tgt := 65) (pc' := 30) rfl rfl rfl (fun c27 => absurd c27 ((nI_ge (a := i) (b := 12) (by omega) (by decide)))) (fun _ => ?_)
    refine x_aload_n (pc' := 31) rfl rfl rfl ?_
    refine x_get (pc' := 34) rfl rfl rfl (hS.1) rfl ?_
    refine x_aload_n (pc' := 35) rfl rfl rfl ?_
    refine x_get (pc' := 38) rfl rfl rfl (hS.1) rfl ?_
    refine x_iload_n (pc' := 39) rfl rfl rfl ?_
    refine x_iaload (pc' := 40) rfl rfl (hS.2.2.1 5 (by decide)) (hv) ?_
    refine x_eqi e1 ?_
    refine x_cV1i (d := 2) (pc' := 43) rfl rfl sX5_118 gX3_canMove (hTt.1) ⟨Nat.le_of_ble_eq_true rfl, Nat.le_of_ble_eq_true rfl⟩ (Nat.le_of_ble_eq_true rfl) ⟨Nat.le_of_ble_eq_true rfl, Nat.le_of_ble_eq_true rfl⟩ ?_
    refine w_can hTt hT hg (by decide) (by omega) (fun d2 => ⟨_, rfl, ?_⟩) (fun d2 => ⟨_, rfl, ?_⟩)
    · rw [if_pos d2] at he
      refine x_if_eq (tgt := 65) (pc' := 46) rfl rfl rfl (fun c43 => absurd c43 ((by decide))) (fun _ => ?_)
      refine x_aload_n (pc' := 47) rfl rfl rfl ?_
      refine x_get (pc' := 50) rfl rfl rfl (hS.1) rfl ?_
      refine x_aload_n (pc' := 51) rfl rfl rfl ?_
      refine x_get (pc' := 54) rfl rfl rfl (hS.1) rfl ?_
      refine x_iload_n (pc' := 55) rfl rfl rfl ?_
      refine x_iaload (pc' := 56) rfl rfl (hS.2.2.1 5 (by decide)) (hv) ?_
      refine x_eqi e1 ?_
      refine x_cV1v (d := 4) (pc' := 59) rfl rfl sX5_124 gX3_makeMove (hTt.1) ⟨Nat.le_of_ble_eq_true rfl, Nat.le_of_ble_eq_true rfl⟩ (Nat.le_of_ble_eq_true rfl) ⟨Nat.le_of_ble_eq_true rfl, Nat.le_of_ble_eq_true rfl⟩ ?_
      refine w_move hTt hT hg (by decide) d2.2.1 (fun f1 T1 hT1 g1 g4 g5 g6 g7 g8 hF1 => ⟨rfl, ?_⟩)
      have hS1 := (hS.tab 2 (by decide) hT1 hF1)
      refine x_iinc (pc' := 62) (lv' := [(1, _), (0, _)]) rfl rfl (Nat.le_of_ble_eq_true rfl) rfl (nI_1 i) rfl ?_
      refine x_goto (tgt := 13) rfl rfl ?_
      refine ih (i + 1) _ _ T1 (by omega) (g_mv_ok hg (by decide) (by decide) d2.2.1) he ?_ g1 (hF.trans (c_fr0 (j := 2) (by decide) hF1))
      have e9 : x_ut (x_ut S0.2.1 2 T) 2 T1 = x_ut S0.2.1 2 T1 := by
        funext j
        unfold x_ut
        split <;> rfl
      rw [← e9]
      exact hS1
    · rw [if_neg d2] at he
      rw [← he] at h
      refine x_if_eq (tgt := 65) (pc' := 46) rfl rfl rfl (fun _ => ?_) (fun c43 => absurd ((by decide)) c43)
      refine x_iload_n (pc' := 66) rfl rfl rfl ?_
      exact x_ireturn rfl rfl rfl (Nat.le_of_ble_eq_true rfl) (Nat.le_of_ble_eq_true rfl) (h _ T hS hT hF)
theorem c_playRow (hS : x_Sys z f S) (hA : c_is S A) (ho : a_ok A) (h : ∀ (f' : x_H) (T' : x_T), x_Sys z f' (S.1, x_ut S.2.1 2 T', S.2.2.1, S.2.2.2) → t_is T' (a_plays A).2 → x_fr (fun q => 59 ≤ q) f f' → post (some (.int (nI (a_plays A).1))) f') : Y E 5 mX5_playRow [.ref 0] z f 0 0 post := by
  refine Y.intro gX5_playRow (lv := [(0, .ref 0)]) rfl (Nat.le_of_ble_eq_true rfl) ?_
  have hT := hS.2.1 0 (by decide)
  refine x_aload_n (pc' := 1) rfl rfl rfl ?_
  refine x_get (pc' := 4) rfl rfl rfl (hS.1) rfl ?_
  refine x_aload_n (pc' := 5) rfl rfl rfl ?_
  refine x_get (pc' := 8) rfl rfl rfl (hS.1) rfl ?_
  refine x_cV1v (d := 1) (pc' := 11) rfl rfl sX5_79 gX3_copyFrom ((hS.2.1 2 (by decide)).1) ⟨Nat.le_of_ble_eq_true rfl, Nat.le_of_ble_eq_true rfl⟩ (Nat.le_of_ble_eq_true rfl) ⟨Nat.le_of_ble_eq_true rfl, Nat.le_of_ble_eq_true rfl⟩ ?_
  refine w_copyFrom (hS.2.1 2 (by decide)) hT (by decide) (fun f1 hT1 hF1 => ⟨rfl, ?_⟩)
  have hS1 := hS.tab 2 (by decide) hT1 hF1
  refine x_iconst (pc' := 12) rfl rfl iconst_0 ?_
  refine x_istore_n (pc' := 13) (lv' := [(1, _), (0, _)]) rfl rfl (Nat.le_of_ble_eq_true rfl) rfl ?_
  exact c_playL ho f S hA h (a_rc A) 0 (a_g A) _ _ (by omega) ho.1 rfl hS1 (x_cp_is hA.1) (c_fr0 (j := 2) (by decide) hF1)
def s_judge (A : q_A) : q_A × Int32 := ((A.1, A.2.1, A.2.2.1, (0, a_rf A), A.2.2.2.2), if (a_plays A).1 < a_rc A then nI (a_plays A).1 else (-9))
theorem c_judge (hS : x_Sys z f S) (hA : c_is S A) (ho : a_ok A) (h : c_ends z f post (s_judge A)) : Y E 9 mX5_judge [.ref 0] z f 0 0 post := by
  refine Y.intro gX5_judge (lv := [(0, .ref 0)]) rfl (Nat.le_of_ble_eq_true rfl) ?_
  obtain ⟨b1, b2, b3, b4, b5, b6, b7, b8⟩ := id hA
  have hrc := ho.2.2.2.2.2.1
  have hp : (a_plays A).1 ≤ 0 + a_rc A := (q_plays_ok (rf := a_rf A) (by decide : 99 ≤ 99) (by decide) (a_rc A) 0 (a_g A) ho.1).2.2
  unfold s_judge at h
  refine x_aload_n (pc' := 1) rfl rfl rfl ?_
  refine x_cV0i (d := 5) (pc' := 4) rfl rfl sX5_202 gX5_playRow (hS.1) ⟨Nat.le_of_ble_eq_true rfl, Nat.le_of_ble_eq_true rfl⟩ (Nat.le_of_ble_eq_true rfl) ⟨Nat.le_of_ble_eq_true rfl, Nat.le_of_ble_eq_true rfl⟩ ?_
  refine c_playRow hS hA ho (fun f1 T1 hS1 g1 hF1 => ⟨_, rfl, ?_⟩)
  refine x_istore_n (pc' := 5) (lv' := [(1, _), (0, _)]) rfl rfl (Nat.le_of_ble_eq_true rfl) rfl ?_
  refine x_iload_n (pc' := 6) rfl rfl rfl ?_
  refine x_aload_n (pc' := 7) rfl rfl rfl ?_
  refine x_get (pc' := 10) rfl rfl rfl (hS1.1) rfl ?_
  refine x_eqi b6 ?_
  refine x_icmp_ge (tgt := 17) (pc' := 13) rfl rfl rfl (fun c10 => ?_) (fun c10 => ?_)
  · rw [if_neg (fun q => absurd c10 (nI_ge q (by omega)))] at h
    refine x_bipush (pc' := 19) rfl rfl bipush_m9 ?_
    refine x_istore_n (pc' := 20) (lv' := [(2, _), (1, _), (0, _)]) rfl rfl (Nat.le_of_ble_eq_true rfl) rfl ?_
    refine x_aload_n (pc' := 21) rfl rfl rfl ?_
    refine x_iconst (pc' := 22) rfl rfl iconst_0 ?_
    refine x_put (pc' := 25) rfl rfl rfl (hS1.1) (Nat.le_of_ble_eq_true rfl) rfl rfl rfl rfl (fun f1 e1 => ?_)
    have hS2 := hS1.num0 (upd S.1 1 0) (e1.trans (by rw [show (S.1, x_ut S.2.1 2 T1, S.2.2.1, S.2.2.2).1 = S.1 from rfl, x_oFs1])) (fun i hi => pk_un (by omega))
    have hF2 := hF1.up e1 (by decide)
    refine x_iload_n (pc' := 26) rfl rfl rfl ?_
    exact x_ireturn rfl rfl rfl (Nat.le_of_ble_eq_true rfl) (Nat.le_of_ble_eq_true rfl) (h _ _ hS2 ⟨b1, b2, b3, b4, b5, rfl, b7, b8⟩ hF2)
  · rw [if_pos (Nat.not_le.mp (fun q => c10 (nI_le q (by omega))))] at h
    refine x_iload_n (pc' := 14) rfl rfl rfl ?_
    refine x_goto (tgt := 19) rfl rfl ?_
    refine x_istore_n (pc' := 20) (lv' := [(2, _), (1, _), (0, _)]) rfl rfl (Nat.le_of_ble_eq_true rfl) rfl ?_
    refine x_aload_n (pc' := 21) rfl rfl rfl ?_
    refine x_iconst (pc' := 22) rfl rfl iconst_0 ?_
    refine x_put (pc' := 25) rfl rfl rfl (hS1.1) (Nat.le_of_ble_eq_true rfl) rfl rfl rfl rfl (fun f2 e2 => ?_)
    have hS2 := hS1.num0 (upd S.1 1 0) (e2.trans (by rw [show (S.1, x_ut S.2.1 2 T1, S.2.2.1, S.2.2.2).1 = S.1 from rfl, x_oFs1])) (fun i hi => pk_un (by omega))
    have hF2 := hF1.up e2 (by decide)
    refine x_iload_n (pc' := 26) rfl rfl rfl ?_
    exact x_ireturn rfl rfl rfl (Nat.le_of_ble_eq_true rfl) (Nat.le_of_ble_eq_true rfl) (h _ _ hS2 ⟨b1, b2, b3, b4, b5, rfl, b7, b8⟩ hF2)
def s_played (A : q_A) (a : Int32) : q_A × Int32 := if a < 0 ∨ 1 < a then (s_no A 2, -2) else (A, nI (g_π (a_plays A).2 a.toNatClampNeg))
theorem c_played (hS : x_Sys z f S) (hA : c_is S A) (ho : a_ok A) (h : c_ends z f post (s_played A a)) : Y E 9 mX5_played [.ref 0, .int a] z f 0 0 post := by
  refine Y.intro gX5_played (lv := [(0, .ref 0), (1, .int a)]) rfl (Nat.le_of_ble_eq_true rfl) ?_
  refine x_iload_n (pc' := 1) rfl rfl rfl ?_
  refine x_if_lt (tgt := 9) (pc' := 4) rfl rfl rfl (fun c1 => ?_) (fun c1 => ?_)
  · rw [show s_played A a = _ from if_pos (Or.inl c1)] at h
    refine x_aload_n (pc' := 10) rfl rfl rfl ?_
    refine x_bipush (pc' := 12) rfl rfl bipush_m2 ?_
    refine x_cV1i (d := 1) (pc' := 15) rfl rfl sX5_68 gX5_refuse (hS.1) ⟨Nat.le_of_ble_eq_true rfl, Nat.le_of_ble_eq_true rfl⟩ (Nat.le_of_ble_eq_true rfl) ⟨Nat.le_of_ble_eq_true rfl, Nat.le_of_ble_eq_true rfl⟩ ?_
    refine c_refuse (k := 2) (by decide) (by decide) hS hA (fun f1 S1 hS1 hA1 hF1 => ⟨_, rfl, ?_⟩)
    exact x_ireturn rfl rfl rfl (Nat.le_of_ble_eq_true rfl) (Nat.le_of_ble_eq_true rfl) (h _ _ hS1 hA1 hF1)
  · refine x_iload_n (pc' := 5) rfl rfl rfl ?_
    refine x_iconst (pc' := 6) rfl rfl iconst_1 ?_
    refine x_icmp_le (tgt := 16) (pc' := 9) rfl rfl rfl (fun c6 => ?_) (fun c6 => ?_)
    · have d1 : ¬ (a < 0 ∨ 1 < a) := fun q => q.elim c1 (Int32.not_lt.mpr c6)
      rw [show s_played A a = _ from if_neg d1] at h
      refine x_aload_n (pc' := 17) rfl rfl rfl ?_
      refine x_cV0i (d := 5) (pc' := 20) rfl rfl sX5_202 gX5_playRow (hS.1) ⟨Nat.le_of_ble_eq_true rfl, Nat.le_of_ble_eq_true rfl⟩ (Nat.le_of_ble_eq_true rfl) ⟨Nat.le_of_ble_eq_true rfl, Nat.le_of_ble_eq_true rfl⟩ ?_
      refine c_playRow hS hA ho (fun f1 T1 hS1 g1 hF1 => ⟨_, rfl, ?_⟩)
      have hT1 : x_t z f1 9 T1 := hS1.2.1 2 (by decide)
      refine x_pop (pc' := 21) rfl rfl rfl ?_
      refine x_aload_n (pc' := 22) rfl rfl rfl ?_
      refine x_get (pc' := 25) rfl rfl rfl (hS1.1) rfl ?_
      refine x_iload_n (pc' := 26) rfl rfl rfl ?_
      refine x_cV1i (d := 1) (pc' := 29) rfl rfl sX5_205 gX3_purseOf (hT1.1) ⟨Nat.le_of_ble_eq_true rfl, Nat.le_of_ble_eq_true rfl⟩ (Nat.le_of_ble_eq_true rfl) ⟨Nat.le_of_ble_eq_true rfl, Nat.le_of_ble_eq_true rfl⟩ ?_
      refine w_purseOf hT1 (fun q => ⟨_, rfl, ?_⟩) (fun q => absurd ⟨c1, Int32.lt_of_le_of_lt c6 (by decide)⟩ q)
      refine x_eqi (show T1.2.2.1 a.toNatClampNeg = nI (g_π (a_plays A).2 a.toNatClampNeg) from by rw [g1.2.2.1]) ?_
      exact x_ireturn rfl rfl rfl (Nat.le_of_ble_eq_true rfl) (Nat.le_of_ble_eq_true rfl) (h _ _ hS1 (c_tr hA) hF1)
    · rw [show s_played A a = _ from if_pos (Or.inr (Int32.not_le.mp c6))] at h
      refine x_aload_n (pc' := 10) rfl rfl rfl ?_
      refine x_bipush (pc' := 12) rfl rfl bipush_m2 ?_
      refine x_cV1i (d := 1) (pc' := 15) rfl rfl sX5_68 gX5_refuse (hS.1) ⟨Nat.le_of_ble_eq_true rfl, Nat.le_of_ble_eq_true rfl⟩ (Nat.le_of_ble_eq_true rfl) ⟨Nat.le_of_ble_eq_true rfl, Nat.le_of_ble_eq_true rfl⟩ ?_
      refine c_refuse (k := 2) (by decide) (by decide) hS hA (fun f1 S1 hS1 hA1 hF1 => ⟨_, rfl, ?_⟩)
      exact x_ireturn rfl rfl rfl (Nat.le_of_ble_eq_true rfl) (Nat.le_of_ble_eq_true rfl) (h _ _ hS1 hA1 hF1)
theorem c_image (hS : x_Sys z f S) (hA : c_is S A) (h : c_ends z f post (s_image A)) : Y E 9 mX5_image [.ref 0] z f 0 0 post := by
  refine Y.intro gX5_image (lv := [(0, .ref 0)]) rfl (Nat.le_of_ble_eq_true rfl) ?_
  obtain ⟨b1, b2, b3, b4, b5, b6, b7, b8⟩ := id hA
  have hT := hS.2.1 0 (by decide)
  refine x_aload_n (pc' := 1) rfl rfl rfl ?_
  refine x_get (pc' := 4) rfl rfl rfl (hS.1) rfl ?_
  refine x_aload_n (pc' := 5) rfl rfl rfl ?_
  refine x_get (pc' := 8) rfl rfl rfl (hS.1) rfl ?_
  refine x_cV1v (d := 1) (pc' := 11) rfl rfl sX5_79 gX3_copyFrom ((hS.2.1 1 (by decide)).1) ⟨Nat.le_of_ble_eq_true rfl, Nat.le_of_ble_eq_true rfl⟩ (Nat.le_of_ble_eq_true rfl) ⟨Nat.le_of_ble_eq_true rfl, Nat.le_of_ble_eq_true rfl⟩ ?_
  refine w_copyFrom (hS.2.1 1 (by decide)) hT (by decide) (fun f1 hT1 hF1 => ⟨rfl, ?_⟩)
  have hS1 := hS.tab 1 (by decide) hT1 hF1
  refine x_aload_n (pc' := 12) rfl rfl rfl ?_
  refine x_iconst (pc' := 13) rfl rfl iconst_1 ?_
  refine x_put (pc' := 16) rfl rfl rfl (hS1.1) (Nat.le_of_ble_eq_true rfl) rfl rfl rfl rfl (fun f1 e1 => ?_)
  have hS2 := hS1.num0 (upd S.1 0 1) (e1.trans (by rw [show (S.1, x_ut S.2.1 1 (x_cp (S.2.1 1) (S.2.1 0)), S.2.2.1, S.2.2.2).1 = S.1 from rfl, x_oFs0])) (fun i hi => pk_un (by omega))
  have hF2 := (c_fr0 (j := 1) (by decide) hF1).up e1 (by decide)
  refine x_aload_n (pc' := 17) rfl rfl rfl ?_
  refine x_get (pc' := 20) rfl rfl rfl (hS2.1) rfl ?_
  refine x_get (pc' := 23) rfl rfl rfl ((hS2.2.1 0 (by decide)).1) rfl ?_
  refine x_eqi (show (S.2.1 0).2.2.2 4 = nI (a_mv A) from b2) ?_
  exact x_ireturn rfl rfl rfl (Nat.le_of_ble_eq_true rfl) (Nat.le_of_ble_eq_true rfl) (h _ _ hS2 ⟨b1, b2, ⟨rfl, x_cp_is b1, b2⟩, b4, b5, b6, b7, b8⟩ hF2)
theorem c_on (hS : x_Sys z f S) (hA : c_is S A) (h : c_ends z f post (s_on A)) : Y E 9 mX5_on [.ref 0] z f 0 0 post := by
  refine Y.intro gX5_on (lv := [(0, .ref 0)]) rfl (Nat.le_of_ble_eq_true rfl) ?_
  obtain ⟨b1, b2, b3, b4, b5, b6, b7, b8⟩ := id hA
  rcases hp : a_pi A with _ | ⟨g, m⟩
  · rw [show s_on A = (s_no A 3, -3) from by unfold s_on; rw [hp]] at h
    rw [hp] at b3
    refine x_aload_n (pc' := 1) rfl rfl rfl ?_
    refine x_get (pc' := 4) rfl rfl rfl (hS.1) rfl ?_
    refine x_eqi (show S.1 0 = 0 from b3) ?_
    refine x_if_ne (tgt := 14) (pc' := 7) rfl rfl rfl (fun c4 => absurd (rfl) c4) (fun _ => ?_)
    refine x_aload_n (pc' := 8) rfl rfl rfl ?_
    refine x_bipush (pc' := 10) rfl rfl bipush_m3 ?_
    refine x_cV1i (d := 1) (pc' := 13) rfl rfl sX5_68 gX5_refuse (hS.1) ⟨Nat.le_of_ble_eq_true rfl, Nat.le_of_ble_eq_true rfl⟩ (Nat.le_of_ble_eq_true rfl) ⟨Nat.le_of_ble_eq_true rfl, Nat.le_of_ble_eq_true rfl⟩ ?_
    refine c_refuse (k := 3) (by decide) (by decide) hS hA (fun f1 S1 hS1 hA1 hF1 => ⟨_, rfl, ?_⟩)
    exact x_ireturn rfl rfl rfl (Nat.le_of_ble_eq_true rfl) (Nat.le_of_ble_eq_true rfl) (h _ _ hS1 hA1 hF1)
  · rw [show s_on A = (((g, m), A.2), nI m) from by unfold s_on; rw [hp]] at h
    rw [hp] at b3
    obtain ⟨p1, p2, p3⟩ := b3
    refine x_aload_n (pc' := 1) rfl rfl rfl ?_
    refine x_get (pc' := 4) rfl rfl rfl (hS.1) rfl ?_
    refine x_eqi (show S.1 0 = 1 from p1) ?_
    refine x_if_ne (tgt := 14) (pc' := 7) rfl rfl rfl (fun _ => ?_) (fun c4 => absurd c4 ((by decide)))
    refine x_aload_n (pc' := 15) rfl rfl rfl ?_
    refine x_get (pc' := 18) rfl rfl rfl (hS.1) rfl ?_
    refine x_aload_n (pc' := 19) rfl rfl rfl ?_
    refine x_get (pc' := 22) rfl rfl rfl (hS.1) rfl ?_
    refine x_cV1v (d := 1) (pc' := 25) rfl rfl sX5_79 gX3_copyFrom ((hS.2.1 0 (by decide)).1) ⟨Nat.le_of_ble_eq_true rfl, Nat.le_of_ble_eq_true rfl⟩ (Nat.le_of_ble_eq_true rfl) ⟨Nat.le_of_ble_eq_true rfl, Nat.le_of_ble_eq_true rfl⟩ ?_
    refine w_copyFrom (hS.2.1 0 (by decide)) (hS.2.1 1 (by decide)) (by decide) (fun f1 hT1 hF1 => ⟨rfl, ?_⟩)
    have hS1 := hS.tab 0 (by decide) hT1 hF1
    refine x_aload_n (pc' := 26) rfl rfl rfl ?_
    refine x_get (pc' := 29) rfl rfl rfl (hS1.1) rfl ?_
    refine x_get (pc' := 32) rfl rfl rfl (hT1.1) rfl ?_
    refine x_eqi (show (S.2.1 1).2.2.2 4 = nI m from p3) ?_
    exact x_ireturn rfl rfl rfl (Nat.le_of_ble_eq_true rfl) (Nat.le_of_ble_eq_true rfl) (h _ _ hS1 ⟨x_cp_is p2, p3, (by show c_pic (S.1 0) (S.2.1 1) (a_pi A); rw [hp]; exact ⟨p1, p2, p3⟩), b4, b5, b6, b7, b8⟩ (c_fr0 (j := 0) (by decide) hF1))
theorem c_count (hS : x_Sys z f S) (hA : c_is S A) (ho : a_ok A) (h : c_ends z f post (s_count A a)) : Y E 9 mX5_count [.ref 0, .int a] z f 0 0 post := by
  refine Y.intro gX5_count (lv := [(0, .ref 0), (1, .int a)]) rfl (Nat.le_of_ble_eq_true rfl) ?_
  obtain ⟨b1, b2, b3, b4, b5, b6, b7, b8⟩ := id hA
  obtain ⟨t1, t2, t3, t4, t5, t6, t7⟩ := id b1
  have hT := hS.2.1 0 (by decide)
  unfold s_count at h
  by_cases e0 : a = 0
  · rw [if_pos e0] at h
    subst e0
    refine x_iload_n (pc' := 1) rfl rfl rfl ?_
    refine x_tableIn (tgt := 56) rfl (by decide) (by decide) rfl rfl ?_
    refine x_aload_n (pc' := 57) rfl rfl rfl ?_
    refine x_get (pc' := 60) rfl rfl rfl (hS.1) rfl ?_
    refine x_get (pc' := 63) rfl rfl rfl (hT.1) rfl ?_
    refine x_eqi t4 ?_
    exact x_ireturn rfl rfl rfl (Nat.le_of_ble_eq_true rfl) (Nat.le_of_ble_eq_true rfl) (h _ _ hS hA x_fr.rf)
  rw [if_neg e0] at h
  by_cases e1 : a = 1
  · rw [if_pos e1] at h
    subst e1
    refine x_iload_n (pc' := 1) rfl rfl rfl ?_
    refine x_tableIn (tgt := 64) rfl (by decide) (by decide) rfl rfl ?_
    refine x_aload_n (pc' := 65) rfl rfl rfl ?_
    refine x_get (pc' := 68) rfl rfl rfl (hS.1) rfl ?_
    refine x_cV0i (d := 3) (pc' := 71) rfl rfl sX5_143 gX3_allBeans (hT.1) ⟨Nat.le_of_ble_eq_true rfl, Nat.le_of_ble_eq_true rfl⟩ (Nat.le_of_ble_eq_true rfl) ⟨Nat.le_of_ble_eq_true rfl, Nat.le_of_ble_eq_true rfl⟩ ?_
    refine w_allBeans hT t4 ho.1.1 ⟨_, rfl, ?_⟩
    refine x_eqi (show x_sum (S.2.1 0).2.1 (g_n (a_g A)) = nI (q_sum (g_β (a_g A)) (g_n (a_g A))) from by rw [t2, q_sum_I]) ?_
    exact x_ireturn rfl rfl rfl (Nat.le_of_ble_eq_true rfl) (Nat.le_of_ble_eq_true rfl) (h _ _ hS hA x_fr.rf)
  rw [if_neg e1] at h
  by_cases e2 : a = 2
  · rw [if_pos e2] at h
    subst e2
    refine x_iload_n (pc' := 1) rfl rfl rfl ?_
    refine x_tableIn (tgt := 72) rfl (by decide) (by decide) rfl rfl ?_
    refine x_aload_n (pc' := 73) rfl rfl rfl ?_
    refine x_get (pc' := 76) rfl rfl rfl (hS.1) rfl ?_
    refine x_iconst (pc' := 77) rfl rfl iconst_0 ?_
    refine x_cV1i (d := 1) (pc' := 80) rfl rfl sX5_205 gX3_purseOf (hT.1) ⟨Nat.le_of_ble_eq_true rfl, Nat.le_of_ble_eq_true rfl⟩ (Nat.le_of_ble_eq_true rfl) ⟨Nat.le_of_ble_eq_true rfl, Nat.le_of_ble_eq_true rfl⟩ ?_
    refine w_purseOf hT (fun q => ⟨_, rfl, ?_⟩) (fun q => absurd (by decide) q)
    refine x_eqi (show (S.2.1 0).2.2.1 (Int32.toNatClampNeg 0) = nI (g_π (a_g A) 0) from by rw [t3]; rfl) ?_
    exact x_ireturn rfl rfl rfl (Nat.le_of_ble_eq_true rfl) (Nat.le_of_ble_eq_true rfl) (h _ _ hS hA x_fr.rf)
  rw [if_neg e2] at h
  by_cases e3 : a = 3
  · rw [if_pos e3] at h
    subst e3
    refine x_iload_n (pc' := 1) rfl rfl rfl ?_
    refine x_tableIn (tgt := 81) rfl (by decide) (by decide) rfl rfl ?_
    refine x_aload_n (pc' := 82) rfl rfl rfl ?_
    refine x_get (pc' := 85) rfl rfl rfl (hS.1) rfl ?_
    refine x_iconst (pc' := 86) rfl rfl iconst_1 ?_
    refine x_cV1i (d := 1) (pc' := 89) rfl rfl sX5_205 gX3_purseOf (hT.1) ⟨Nat.le_of_ble_eq_true rfl, Nat.le_of_ble_eq_true rfl⟩ (Nat.le_of_ble_eq_true rfl) ⟨Nat.le_of_ble_eq_true rfl, Nat.le_of_ble_eq_true rfl⟩ ?_
    refine w_purseOf hT (fun q => ⟨_, rfl, ?_⟩) (fun q => absurd (by decide) q)
    refine x_eqi (show (S.2.1 0).2.2.1 (Int32.toNatClampNeg 1) = nI (g_π (a_g A) 1) from by rw [t3]; rfl) ?_
    exact x_ireturn rfl rfl rfl (Nat.le_of_ble_eq_true rfl) (Nat.le_of_ble_eq_true rfl) (h _ _ hS hA x_fr.rf)
  rw [if_neg e3] at h
  by_cases e4 : a = 4
  · rw [if_pos e4] at h
    subst e4
    refine x_iload_n (pc' := 1) rfl rfl rfl ?_
    refine x_tableIn (tgt := 90) rfl (by decide) (by decide) rfl rfl ?_
    refine x_aload_n (pc' := 91) rfl rfl rfl ?_
    refine x_get (pc' := 94) rfl rfl rfl (hS.1) rfl ?_
    refine x_get (pc' := 97) rfl rfl rfl (hT.1) rfl ?_
    refine x_eqi t7 ?_
    exact x_ireturn rfl rfl rfl (Nat.le_of_ble_eq_true rfl) (Nat.le_of_ble_eq_true rfl) (h _ _ hS hA x_fr.rf)
  rw [if_neg e4] at h
  by_cases e5 : a = 5
  · rw [if_pos e5] at h
    subst e5
    refine x_iload_n (pc' := 1) rfl rfl rfl ?_
    refine x_tableIn (tgt := 98) rfl (by decide) (by decide) rfl rfl ?_
    refine x_aload_n (pc' := 99) rfl rfl rfl ?_
    refine x_get (pc' := 102) rfl rfl rfl (hS.1) rfl ?_
    refine x_get (pc' := 105) rfl rfl rfl (hT.1) rfl ?_
    refine x_eqi b2 ?_
    exact x_ireturn rfl rfl rfl (Nat.le_of_ble_eq_true rfl) (Nat.le_of_ble_eq_true rfl) (h _ _ hS hA x_fr.rf)
  rw [if_neg e5] at h
  by_cases e6 : a = 6
  · rw [if_pos e6] at h
    subst e6
    refine x_iload_n (pc' := 1) rfl rfl rfl ?_
    refine x_tableIn (tgt := 106) rfl (by decide) (by decide) rfl rfl ?_
    refine x_aload_n (pc' := 107) rfl rfl rfl ?_
    refine x_get (pc' := 110) rfl rfl rfl (hS.1) rfl ?_
    refine x_get (pc' := 113) rfl rfl rfl (hT.1) rfl ?_
    refine x_eqi t5 ?_
    exact x_ireturn rfl rfl rfl (Nat.le_of_ble_eq_true rfl) (Nat.le_of_ble_eq_true rfl) (h _ _ hS hA x_fr.rf)
  rw [if_neg e6] at h
  by_cases e7 : a = 7
  · rw [if_pos e7] at h
    subst e7
    refine x_iload_n (pc' := 1) rfl rfl rfl ?_
    refine x_tableIn (tgt := 114) rfl (by decide) (by decide) rfl rfl ?_
    refine x_aload_n (pc' := 115) rfl rfl rfl ?_
    refine x_get (pc' := 118) rfl rfl rfl (hS.1) rfl ?_
    refine x_get (pc' := 121) rfl rfl rfl (hT.1) rfl ?_
    refine x_eqi t6 ?_
    exact x_ireturn rfl rfl rfl (Nat.le_of_ble_eq_true rfl) (Nat.le_of_ble_eq_true rfl) (h _ _ hS hA x_fr.rf)
  rw [if_neg e7] at h
  by_cases e8 : a = 8
  · rw [if_pos e8] at h
    subst e8
    refine x_iload_n (pc' := 1) rfl rfl rfl ?_
    refine x_tableIn (tgt := 122) rfl (by decide) (by decide) rfl rfl ?_
    refine x_aload_n (pc' := 123) rfl rfl rfl ?_
    refine x_get (pc' := 126) rfl rfl rfl (hS.1) rfl ?_
    refine x_eqi b6 ?_
    exact x_ireturn rfl rfl rfl (Nat.le_of_ble_eq_true rfl) (Nat.le_of_ble_eq_true rfl) (h _ _ hS hA x_fr.rf)
  rw [if_neg e8] at h
  by_cases e9 : a = 9
  · rw [if_pos e9] at h
    subst e9
    refine x_iload_n (pc' := 1) rfl rfl rfl ?_
    refine x_tableIn (tgt := 127) rfl (by decide) (by decide) rfl rfl ?_
    refine x_aload_n (pc' := 128) rfl rfl rfl ?_
    refine x_get (pc' := 131) rfl rfl rfl (hS.1) rfl ?_
    refine x_get (pc' := 134) rfl rfl rfl (hS.lt) rfl ?_
    refine x_eqi b4 ?_
    exact x_ireturn rfl rfl rfl (Nat.le_of_ble_eq_true rfl) (Nat.le_of_ble_eq_true rfl) (h _ _ hS hA x_fr.rf)
  rw [if_neg e9] at h
  have hout : a.toInt < 0 ∨ (9 : Int) < a.toInt := x_tab_out (fun q h1 h2 => by
    have h3 : q = 0 ∨ q = 1 ∨ q = 2 ∨ q = 3 ∨ q = 4 ∨ q = 5 ∨ q = 6 ∨ q = 7 ∨ q = 8 ∨ q = 9 := by omega
    rcases h3 with rfl | rfl | rfl | rfl | rfl | rfl | rfl | rfl | rfl | rfl <;> assumption)
  refine x_iload_n (pc' := 1) rfl rfl rfl ?_
  refine x_tableOut (tgt := 135) rfl (hout) rfl ?_
  refine x_iload_n (pc' := 136) rfl rfl rfl ?_
  refine x_bipush (pc' := 138) rfl rfl bipush_11 ?_
  refine x_icmp_lt (tgt := 159) (pc' := 141) rfl rfl rfl (fun c138 => ?_) (fun c138 => ?_)
  · rw [if_neg (fun q => q.1 c138)] at h
    refine x_bipush (pc' := 161) rfl rfl bipush_m9 ?_
    exact x_ireturn rfl rfl rfl (Nat.le_of_ble_eq_true rfl) (Nat.le_of_ble_eq_true rfl) (h _ _ hS hA x_fr.rf)
  · refine x_iload_n (pc' := 142) rfl rfl rfl ?_
    refine x_bipush (pc' := 144) rfl rfl bipush_16 ?_
    refine x_icmp_gt (tgt := 159) (pc' := 147) rfl rfl rfl (fun c144 => ?_) (fun c144 => ?_)
    · rw [if_neg (fun q => q.2 c144)] at h
      refine x_bipush (pc' := 161) rfl rfl bipush_m9 ?_
      exact x_ireturn rfl rfl rfl (Nat.le_of_ble_eq_true rfl) (Nat.le_of_ble_eq_true rfl) (h _ _ hS hA x_fr.rf)
    · have d1 : ¬ a < 11 ∧ ¬ 16 < a := ⟨c138, c144⟩
      rw [if_pos d1] at h
      obtain ⟨ka, hka, rfl⟩ := nI_of2 (n := 16) (M := 16) rfl (fun q => c138 (Int32.lt_trans q (by decide))) (Int32.not_lt.mp c144)
      have hk11 : 11 ≤ ka := Nat.not_lt.mp (fun q => c138 (nI_lt (a := ka) (b := 11) q (by decide)))
      refine x_aload_n (pc' := 148) rfl rfl rfl ?_
      refine x_get (pc' := 151) rfl rfl rfl (hS.1) rfl ?_
      refine x_iload_n (pc' := 152) rfl rfl rfl ?_
      refine x_bipush (pc' := 154) rfl rfl bipush_10 ?_
      refine x_isub (pc' := 155) rfl rfl ?_
      refine x_eqi (show nI ka - 10 = nI (ka - 10) from pk_sub (a := ka) (b := 10) (by omega)) ?_
      refine x_iaload (pc' := 156) rfl rfl (hS.2.2.1 6 (by decide)) (vp_in_nI (N := 7) (by omega) (by decide)) ?_
      refine x_eqi (show S.2.2.1 6 (nI (ka - 10)).toNatClampNeg = a_no A ((nI ka).toNatClampNeg - 10) from by rw [nI_clamp (by omega), nI_clamp (by omega), b8]) ?_
      refine x_goto (tgt := 161) rfl rfl ?_
      exact x_ireturn rfl rfl rfl (Nat.le_of_ble_eq_true rfl) (Nat.le_of_ble_eq_true rfl) (h _ _ hS hA x_fr.rf)
end CC
end
section
/-! The class: lots, back, loop. -/
def q_lots : Nat → Int32 → Int32 → q_G → Int32
  | 0, _, s, _ => s
  | k + 1, z, s, g => q_lots k (q_lot 20 z g).1 (s + (nI (g_π (q_lot 20 z g).2 (g_t g)) - nI (g_π (q_lot 20 z g).2 (1 - g_t g)))) g
def s_lots (A : q_A) (a z : Int32) : q_A × Int32 := if a < 1 then (s_no A 4, 1000000000 - (-4)) else if 20 < a then (s_no A 6, 1000000000 - (-6)) else if g_n (a_g A) < 2 then (s_no A 3, 1000000000 - (-3)) else (A, q_lots a.toNatClampNeg z 0 (a_g A))
theorem x_ut_ut (X : Nat → x_T) (j : Nat) (T U : x_T) : x_ut (x_ut X j T) j U = x_ut X j U := by
  funext i
  unfold x_ut
  split <;> rfl
section CD
variable {E : x_E} {z : Nat} {f : x_H} {S : x_S} {A : q_A} {post : Option Value → x_H → Prop} {a b : Int32}
theorem x_Sys.tt {f' : x_H} {j : Nat} {T U : x_T} (h : x_Sys z f (S.1, x_ut S.2.1 j T, S.2.2.1, S.2.2.2)) (hj : j < 11) (ht : x_t z f' (x_tp j) U) (hf : x_fr (x_ot (x_tp j)) f f') : x_Sys z f' (S.1, x_ut S.2.1 j U, S.2.2.1, S.2.2.2) := by
  have h2 := h.tab j hj ht hf
  rw [show (S.1, x_ut S.2.1 j T, S.2.2.1, S.2.2.2).2.1 = x_ut S.2.1 j T from rfl, x_ut_ut] at h2
  exact h2
theorem c_lotL {w0 : Int32} {n : Nat} (hn9 : n ≤ 9) (h2n : 2 ≤ n) (f0 : x_H) (S0 : x_S) (R : Int32 × q_G) (h : ∀ (f' : x_H) (T' : x_T), x_Sys z f' (S0.1, x_ut S0.2.1 2 T', S0.2.2.1, S0.2.2.2) → t_is T' R.2 → x_fr (fun q => 59 ≤ q) f0 f' → post (some (.int R.1)) f') : ∀ (k i : Nat) (w : Int32) (g : q_G) (f : x_H) (T : x_T), i + k = 20 → g_ok 99 g → g_n g = n → q_lot k w g = R → x_Sys z f (S0.1, x_ut S0.2.1 2 T, S0.2.2.1, S0.2.2.2) → t_is T g → x_fr (fun q => 59 ≤ q) f0 f → X E (x_rm 5 0 0) mX5_playLot (x_QM E z 0 0 post) 4 [(3, .int (nI i)), (2, .int w), (0, .ref 0), (1, .int w0)] [] z f 0 0 := by
  intro k
  induction k with
  | zero =>
    intro i w g f T hi hg hgn he hS hT hF
    have hi2 : i = 20 := by omega
    subst hi2
    have he2 : (w, g) = R := he
    subst he2
    refine x_iload_n (pc' := 5) rfl rfl rfl ?_
    refine x_bipush (pc' := 7) rfl rfl bipush_20 ?_
    refine x_icmp_ge (tgt := 92) (pc' := 10) rfl rfl rfl (fun _ => ?_) (fun c7 => absurd ((by decide : (20 : Int32) ≤ nI 20)) c7)
    refine x_iload_n (pc' := 93) rfl rfl rfl ?_
    exact x_ireturn rfl rfl rfl (Nat.le_of_ble_eq_true rfl) (Nat.le_of_ble_eq_true rfl) (h _ T hS hT hF)
  | succ k ih =>
    intro i w g f T hi hg hgn he hS hT hF
    have hTt : x_t z f 9 T := hS.2.1 2 (by decide)
    subst hgn
    have hTn : T.2.2.2 0 = nI (g_n g) := hT.2.2.2.1
    replace he : q_lot k (q_z w) (if g_can g (q_zb (q_z w) (g_n g)) then g_mv g (q_zb (q_z w) (g_n g)) else g_flip g) = R := he
    have hzb : q_zb (q_z w) (g_n g) < g_n g := Nat.mod_lt _ (by omega)
    refine x_iload_n (pc' := 5) rfl rfl rfl ?_
    refine x_bipush (pc' := 7) rfl rfl bipush_20 ?_
    refine x_icmp_ge (tgt := 92) (pc' := 10) rfl rfl rfl (fun c7 => absurd c7 ((nI_ge (a := i) (b := 20) (by omega) (by decide)))) (fun _ => ?_)
    refine x_aload_n (pc' := 11) rfl rfl rfl ?_
    refine x_get (pc' := 14) rfl rfl rfl (hS.1) rfl ?_
    refine x_get (pc' := 17) rfl rfl rfl (hTt.1) rfl ?_
    refine x_eqi hTn ?_
    refine x_if_le (tgt := 92) (pc' := 20) rfl rfl rfl (fun c17 => absurd c17 ((nI_nle (by omega) (by omega)))) (fun _ => ?_)
    refine x_iload_n (pc' := 21) rfl rfl rfl ?_
    refine x_ldc (pc' := 23) rfl rfl rfl ?_
    refine x_imul (pc' := 24) rfl rfl ?_
    refine x_ldc (pc' := 26) rfl rfl rfl ?_
    refine x_iadd (pc' := 27) rfl rfl ?_
    refine x_eqi (show w * 1664525 + 1013904223 = q_z w from rfl) ?_
    refine x_istore_n (pc' := 28) (lv' := [(2, _), (3, _), (0, _), (1, _)]) rfl rfl (Nat.le_of_ble_eq_true rfl) rfl ?_
    refine x_iload_n (pc' := 29) rfl rfl rfl ?_
    refine x_ldc (pc' := 31) rfl rfl rfl ?_
    refine x_iand (pc' := 32) rfl rfl ?_
    refine x_sipush (pc' := 35) rfl rfl sipush_256 ?_
    refine x_idiv (pc' := 36) rfl rfl (by decide) ?_
    refine x_aload_n (pc' := 37) rfl rfl rfl ?_
    refine x_get (pc' := 40) rfl rfl rfl (hS.1) rfl ?_
    refine x_get (pc' := 43) rfl rfl rfl (hTt.1) rfl ?_
    refine x_eqi hTn ?_
    refine x_irem (pc' := 44) rfl rfl (nI_ne0 (by omega) (by omega)) ?_
    refine x_eqi (q_zI (q_z w) (by omega) hn9) ?_
    refine x_istore (pc' := 46) (lv' := [(4, _), (2, _), (3, _), (0, _), (1, _)]) rfl rfl (Nat.le_of_ble_eq_true rfl) rfl ?_
    refine x_aload_n (pc' := 47) rfl rfl rfl ?_
    refine x_get (pc' := 50) rfl rfl rfl (hS.1) rfl ?_
    refine x_iload (pc' := 52) rfl rfl rfl ?_
    refine x_cV1i (d := 2) (pc' := 55) rfl rfl sX5_118 gX3_canMove (hTt.1) ⟨Nat.le_of_ble_eq_true rfl, Nat.le_of_ble_eq_true rfl⟩ (Nat.le_of_ble_eq_true rfl) ⟨Nat.le_of_ble_eq_true rfl, Nat.le_of_ble_eq_true rfl⟩ ?_
    refine w_can hTt hT hg (by decide) (by omega) (fun d2 => ⟨_, rfl, ?_⟩) (fun d2 => ⟨_, rfl, ?_⟩)
    · rw [if_pos d2] at he
      refine x_if_eq (tgt := 70) (pc' := 58) rfl rfl rfl (fun c55 => absurd c55 ((by decide))) (fun _ => ?_)
      refine x_aload_n (pc' := 59) rfl rfl rfl ?_
      refine x_get (pc' := 62) rfl rfl rfl (hS.1) rfl ?_
      refine x_iload (pc' := 64) rfl rfl rfl ?_
      refine x_cV1v (d := 4) (pc' := 67) rfl rfl sX5_124 gX3_makeMove (hTt.1) ⟨Nat.le_of_ble_eq_true rfl, Nat.le_of_ble_eq_true rfl⟩ (Nat.le_of_ble_eq_true rfl) ⟨Nat.le_of_ble_eq_true rfl, Nat.le_of_ble_eq_true rfl⟩ ?_
      refine w_move hTt hT hg (by decide) d2.2.1 (fun f1 T1 hT1 g1 g4 g5 g6 g7 g8 hF1 => ⟨rfl, ?_⟩)
      have hS1 := hS.tt (j := 2) (by decide) hT1 hF1
      refine x_goto (tgt := 86) rfl rfl ?_
      refine x_iinc (pc' := 89) (lv' := [(3, _), (4, _), (2, _), (0, _), (1, _)]) rfl rfl (Nat.le_of_ble_eq_true rfl) rfl (nI_1 i) rfl ?_
      refine x_goto (tgt := 4) rfl rfl ?_
      refine x_lvp [0, 2, 3, 4] rfl ?_
      exact ih (i + 1) _ _ _ _ (by omega) (g_mv_ok hg (by decide) (by decide) d2.2.1) rfl he hS1 g1 (hF.trans (c_fr0 (j := 2) (by decide) hF1))
    · rw [if_neg d2] at he
      refine x_if_eq (tgt := 70) (pc' := 58) rfl rfl rfl (fun _ => ?_) (fun c55 => absurd ((by decide)) c55)
      refine x_aload_n (pc' := 71) rfl rfl rfl ?_
      refine x_get (pc' := 74) rfl rfl rfl (hS.1) rfl ?_
      refine x_iconst (pc' := 75) rfl rfl iconst_1 ?_
      refine x_aload_n (pc' := 76) rfl rfl rfl ?_
      refine x_get (pc' := 79) rfl rfl rfl (hS.1) rfl ?_
      refine x_get (pc' := 82) rfl rfl rfl (hTt.1) rfl ?_
      refine x_eqi hT.2.2.2.2.2.2 ?_
      refine x_isub (pc' := 83) rfl rfl ?_
      refine x_eqi (show (1 : Int32) - nI (g_t g) = nI (1 - g_t g) from pk_sub (a := 1) hg.2.2.2.1) ?_
      refine x_put (pc' := 86) rfl rfl rfl (hTt.1) (Nat.le_of_ble_eq_true rfl) rfl rfl rfl rfl (fun f1 e1 => ?_)
      have hT1 := hTt.num 3 e1 (x_tFs3 _ _ _)
      have hF1 := (x_fr.rf (P := x_ot 9)).up e1 (by decide)
      have hS1 := hS.tt (j := 2) (by decide) hT1 hF1
      refine x_iinc (pc' := 89) (lv' := [(3, _), (4, _), (2, _), (0, _), (1, _)]) rfl rfl (Nat.le_of_ble_eq_true rfl) rfl (nI_1 i) rfl ?_
      refine x_goto (tgt := 4) rfl rfl ?_
      refine x_lvp [0, 2, 3, 4] rfl ?_
      exact ih (i + 1) _ (g_flip g) _ _ (by omega) (g_flip_ok hg) rfl he hS1 ⟨hT.1, hT.2.1, hT.2.2.1, hT.2.2.2.1, hT.2.2.2.2.1, hT.2.2.2.2.2.1, rfl⟩ (hF.trans (c_fr0 (j := 2) (by decide) hF1))
theorem c_playLot {w : Int32} {g : q_G} {T : x_T} (hS : x_Sys z f (S.1, x_ut S.2.1 2 T, S.2.2.1, S.2.2.2)) (hT : t_is T g) (hg : g_ok 99 g) (h2n : 2 ≤ g_n g) (h : ∀ (f' : x_H) (T' : x_T), x_Sys z f' (S.1, x_ut S.2.1 2 T', S.2.2.1, S.2.2.2) → t_is T' (q_lot 20 w g).2 → x_fr (fun q => 59 ≤ q) f f' → post (some (.int (q_lot 20 w g).1)) f') : Y E 5 mX5_playLot [.ref 0, .int w] z f 0 0 post := by
  refine Y.intro gX5_playLot (lv := [(0, .ref 0), (1, .int w)]) rfl (Nat.le_of_ble_eq_true rfl) ?_
  refine x_iload_n (pc' := 1) rfl rfl rfl ?_
  refine x_istore_n (pc' := 2) (lv' := [(2, _), (0, _), (1, _)]) rfl rfl (Nat.le_of_ble_eq_true rfl) rfl ?_
  refine x_iconst (pc' := 3) rfl rfl iconst_0 ?_
  refine x_istore_n (pc' := 4) (lv' := [(3, _), (2, _), (0, _), (1, _)]) rfl rfl (Nat.le_of_ble_eq_true rfl) rfl ?_
  exact c_lotL hg.1 h2n f S _ h 20 0 w g f T (by omega) hg rfl rfl hS hT x_fr.rf
theorem c_lotsL {w0 : Int32} {N : Nat} (hN : N ≤ 20) (ho : a_ok A) (h2n : 2 ≤ g_n (a_g A)) (f0 : x_H) (S0 : x_S) (hA : c_is S0 A) (r : Int32) (h : c_ends z f0 post (A, r)) : ∀ (k i : Nat) (w s : Int32) (f : x_H) (T : x_T), i + k = N → q_lots k w s (a_g A) = r → x_Sys z f (S0.1, x_ut S0.2.1 2 T, S0.2.2.1, S0.2.2.2) → x_fr (fun q => 59 ≤ q) f0 f → X E (x_rm 9 0 0) mX5_lots (x_QM E z 0 0 post) 51 [(5, .int (nI i)), (4, .int s), (3, .int w), (0, .ref 0), (1, .int (nI N)), (2, .int w0)] [] z f 0 0 := by
  obtain ⟨b1, b2, b3, b4, b5, b6, b7, b8⟩ := id hA
  have ht1 := ho.1.2.2.2.1
  intro k
  induction k with
  | zero =>
    intro i w s f T hi he hS hF
    have hi2 : i = N := by omega
    subst hi2
    have he2 : s = r := he
    subst he2
    refine x_iload (pc' := 53) rfl rfl rfl ?_
    refine x_iload_n (pc' := 54) rfl rfl rfl ?_
    refine x_icmp_ge (tgt := 116) (pc' := 57) rfl rfl rfl (fun _ => ?_) (fun c54 => absurd (Int32.le_refl _) c54)
    refine x_iload (pc' := 118) rfl rfl rfl ?_
    exact x_ireturn rfl rfl rfl (Nat.le_of_ble_eq_true rfl) (Nat.le_of_ble_eq_true rfl) (h _ _ hS (c_tr hA) hF)
  | succ k ih =>
    intro i w s f T hi he hS hF
    replace he : q_lots k (q_lot 20 w (a_g A)).1 (s + (nI (g_π (q_lot 20 w (a_g A)).2 (g_t (a_g A))) - nI (g_π (q_lot 20 w (a_g A)).2 (1 - g_t (a_g A))))) (a_g A) = r := he
    have hTt : x_t z f 9 T := hS.2.1 2 (by decide)
    have hT0 : x_t z f 1 (S0.2.1 0) := hS.2.1 0 (by decide)
    refine x_iload (pc' := 53) rfl rfl rfl ?_
    refine x_iload_n (pc' := 54) rfl rfl rfl ?_
    refine x_icmp_ge (tgt := 116) (pc' := 57) rfl rfl rfl (fun c54 => absurd c54 ((nI_ge (by omega) (by omega)))) (fun _ => ?_)
    refine x_aload_n (pc' := 58) rfl rfl rfl ?_
    refine x_get (pc' := 61) rfl rfl rfl (hS.1) rfl ?_
    refine x_aload_n (pc' := 62) rfl rfl rfl ?_
    refine x_get (pc' := 65) rfl rfl rfl (hS.1) rfl ?_
    refine x_cV1v (d := 1) (pc' := 68) rfl rfl sX5_79 gX3_copyFrom (hTt.1) ⟨Nat.le_of_ble_eq_true rfl, Nat.le_of_ble_eq_true rfl⟩ (Nat.le_of_ble_eq_true rfl) ⟨Nat.le_of_ble_eq_true rfl, Nat.le_of_ble_eq_true rfl⟩ ?_
    refine w_copyFrom hTt hT0 (by decide) (fun f1 hT1 hF1 => ⟨rfl, ?_⟩)
    have hS1 := hS.tt (j := 2) (by decide) hT1 hF1
    refine x_aload_n (pc' := 69) rfl rfl rfl ?_
    refine x_iload_n (pc' := 70) rfl rfl rfl ?_
    refine x_cV1i (d := 5) (pc' := 73) rfl rfl sX5_208 gX5_playLot (hS1.1) ⟨Nat.le_of_ble_eq_true rfl, Nat.le_of_ble_eq_true rfl⟩ (Nat.le_of_ble_eq_true rfl) ⟨Nat.le_of_ble_eq_true rfl, Nat.le_of_ble_eq_true rfl⟩ ?_
    refine c_playLot hS1 (x_cp_is b1) ho.1 h2n (fun f2 T2 hS2 g2 hF2 => ⟨_, rfl, ?_⟩)
    have hT2 : x_t z f2 9 T2 := hS2.2.1 2 (by decide)
    have hT02 : x_t z f2 1 (S0.2.1 0) := hS2.2.1 0 (by decide)
    refine x_istore_n (pc' := 74) (lv' := [(3, _), (5, _), (4, _), (0, _), (1, _), (2, _)]) rfl rfl (Nat.le_of_ble_eq_true rfl) rfl ?_
    refine x_iload (pc' := 76) rfl rfl rfl ?_
    refine x_aload_n (pc' := 77) rfl rfl rfl ?_
    refine x_get (pc' := 80) rfl rfl rfl (hS2.1) rfl ?_
    refine x_aload_n (pc' := 81) rfl rfl rfl ?_
    refine x_get (pc' := 84) rfl rfl rfl (hS2.1) rfl ?_
    refine x_get (pc' := 87) rfl rfl rfl (hT02.1) rfl ?_
    refine x_eqi b1.2.2.2.2.2.2 ?_
    refine x_cV1i (d := 1) (pc' := 90) rfl rfl sX5_205 gX3_purseOf (hT2.1) ⟨Nat.le_of_ble_eq_true rfl, Nat.le_of_ble_eq_true rfl⟩ (Nat.le_of_ble_eq_true rfl) ⟨Nat.le_of_ble_eq_true rfl, Nat.le_of_ble_eq_true rfl⟩ ?_
    refine w_purseOf hT2 (fun q => ⟨_, rfl, ?_⟩) (fun q => absurd ⟨nI_pos (by omega), nI_lt (a := g_t (a_g A)) (b := 2) (by omega) (by decide)⟩ q)
    refine x_eqi (show T2.2.2.1 (nI (g_t (a_g A))).toNatClampNeg = nI (g_π (q_lot 20 w (a_g A)).2 (g_t (a_g A))) from by rw [nI_clamp (by omega), g2.2.2.1]) ?_
    refine x_aload_n (pc' := 91) rfl rfl rfl ?_
    refine x_get (pc' := 94) rfl rfl rfl (hS2.1) rfl ?_
    refine x_iconst (pc' := 95) rfl rfl iconst_1 ?_
    refine x_aload_n (pc' := 96) rfl rfl rfl ?_
    refine x_get (pc' := 99) rfl rfl rfl (hS2.1) rfl ?_
    refine x_get (pc' := 102) rfl rfl rfl (hT02.1) rfl ?_
    refine x_eqi b1.2.2.2.2.2.2 ?_
    refine x_isub (pc' := 103) rfl rfl ?_
    refine x_eqi (show (1 : Int32) - nI (g_t (a_g A)) = nI (1 - g_t (a_g A)) from pk_sub (a := 1) ht1) ?_
    refine x_cV1i (d := 1) (pc' := 106) rfl rfl sX5_205 gX3_purseOf (hT2.1) ⟨Nat.le_of_ble_eq_true rfl, Nat.le_of_ble_eq_true rfl⟩ (Nat.le_of_ble_eq_true rfl) ⟨Nat.le_of_ble_eq_true rfl, Nat.le_of_ble_eq_true rfl⟩ ?_
    refine w_purseOf hT2 (fun q => ⟨_, rfl, ?_⟩) (fun q => absurd ⟨nI_pos (by omega), nI_lt (a := 1 - g_t (a_g A)) (b := 2) (by omega) (by decide)⟩ q)
    refine x_eqi (show T2.2.2.1 (nI (1 - g_t (a_g A))).toNatClampNeg = nI (g_π (q_lot 20 w (a_g A)).2 (1 - g_t (a_g A))) from by rw [nI_clamp (by omega), g2.2.2.1]) ?_
    refine x_isub (pc' := 107) rfl rfl ?_
    refine x_iadd (pc' := 108) rfl rfl ?_
    refine x_istore (pc' := 110) (lv' := [(4, _), (3, _), (5, _), (0, _), (1, _), (2, _)]) rfl rfl (Nat.le_of_ble_eq_true rfl) rfl ?_
    refine x_iinc (pc' := 113) (lv' := [(5, _), (4, _), (3, _), (0, _), (1, _), (2, _)]) rfl rfl (Nat.le_of_ble_eq_true rfl) rfl (nI_1 i) rfl ?_
    refine x_goto (tgt := 51) rfl rfl ?_
    exact ih (i + 1) _ _ _ _ (by omega) he hS2 (hF.trans ((c_fr0 (j := 2) (by decide) hF1).trans hF2))
theorem c_lots (hS : x_Sys z f S) (hA : c_is S A) (ho : a_ok A) (h : c_ends z f post (s_lots A a b)) : Y E 9 mX5_lots [.ref 0, .int a, .int b] z f 0 0 post := by
  refine Y.intro gX5_lots (lv := [(0, .ref 0), (1, .int a), (2, .int b)]) rfl (Nat.le_of_ble_eq_true rfl) ?_
  have hT := hS.2.1 0 (by decide)
  refine x_iload_n (pc' := 1) rfl rfl rfl ?_
  refine x_iconst (pc' := 2) rfl rfl iconst_1 ?_
  refine x_icmp_ge (tgt := 12) (pc' := 5) rfl rfl rfl (fun c2 => ?_) (fun c2 => ?_)
  · have d1 : ¬ a < 1 := Int32.not_lt.mpr c2
    refine x_iload_n (pc' := 13) rfl rfl rfl ?_
    refine x_bipush (pc' := 15) rfl rfl bipush_20 ?_
    refine x_icmp_le (tgt := 25) (pc' := 18) rfl rfl rfl (fun c15 => ?_) (fun c15 => ?_)
    · have d2 : ¬ 20 < a := Int32.not_lt.mpr c15
      refine x_aload_n (pc' := 26) rfl rfl rfl ?_
      refine x_get (pc' := 29) rfl rfl rfl (hS.1) rfl ?_
      refine x_get (pc' := 32) rfl rfl rfl (hT.1) rfl ?_
      refine x_eqi hA.1.2.2.2.1 ?_
      refine x_iconst (pc' := 33) rfl rfl iconst_2 ?_
      by_cases d3 : g_n (a_g A) < 2
      · rw [show s_lots A a b = _ from (if_neg d1).trans ((if_neg d2).trans (if_pos d3))] at h
        refine x_icmp_ge (tgt := 43) (pc' := 36) rfl rfl rfl (fun q => absurd q (nI_ge (b := 2) d3 (by decide))) (fun _ => ?_)
        refine x_aload_n (pc' := 37) rfl rfl rfl ?_
        refine x_bipush (pc' := 39) rfl rfl bipush_m3 ?_
        refine x_cV1i (d := 2) (pc' := 42) rfl rfl sX5_152 gX5_refuseFar (hS.1) ⟨Nat.le_of_ble_eq_true rfl, Nat.le_of_ble_eq_true rfl⟩ (Nat.le_of_ble_eq_true rfl) ⟨Nat.le_of_ble_eq_true rfl, Nat.le_of_ble_eq_true rfl⟩ ?_
        refine c_refuseFar (k := 3) (by decide) (by decide) hS hA (fun f1 S1 hS1 hA1 hF1 => ⟨_, rfl, ?_⟩)
        exact x_ireturn rfl rfl rfl (Nat.le_of_ble_eq_true rfl) (Nat.le_of_ble_eq_true rfl) (h _ _ hS1 hA1 hF1)
      · rw [show s_lots A a b = _ from (if_neg d1).trans ((if_neg d2).trans (if_neg d3))] at h
        refine x_icmp_ge (tgt := 43) (pc' := 36) rfl rfl rfl (fun _ => ?_) (fun q => absurd (nI_le (a := 2) (Nat.not_lt.mp d3) (by have := ho.1.1; omega)) q)
        obtain ⟨N, hN, rfl⟩ := nI_of2 (n := 20) (M := 20) rfl (fun q => d1 (Int32.lt_trans q (by decide))) (Int32.not_lt.mp d2)
        rw [nI_clamp (by omega)] at h
        refine x_iload_n (pc' := 44) rfl rfl rfl ?_
        refine x_istore_n (pc' := 45) (lv' := [(3, _), (0, _), (1, _), (2, _)]) rfl rfl (Nat.le_of_ble_eq_true rfl) rfl ?_
        refine x_iconst (pc' := 46) rfl rfl iconst_0 ?_
        refine x_istore (pc' := 48) (lv' := [(4, _), (3, _), (0, _), (1, _), (2, _)]) rfl rfl (Nat.le_of_ble_eq_true rfl) rfl ?_
        refine x_iconst (pc' := 49) rfl rfl iconst_0 ?_
        refine x_istore (pc' := 51) (lv' := [(5, _), (4, _), (3, _), (0, _), (1, _), (2, _)]) rfl rfl (Nat.le_of_ble_eq_true rfl) rfl ?_
        refine c_lotsL (S0 := S) hN ho (Nat.not_lt.mp d3) f hA _ h N 0 b 0 f (S.2.1 2) (by omega) rfl ?_ x_fr.rf
        have e9 : x_ut S.2.1 2 (S.2.1 2) = S.2.1 := by
          funext j
          unfold x_ut
          split
          · rename_i h9
            rw [h9]
          · rfl
        rw [e9]
        exact hS
    · rw [show s_lots A a b = _ from (if_neg d1).trans (if_pos (Int32.not_le.mp c15))] at h
      refine x_aload_n (pc' := 19) rfl rfl rfl ?_
      refine x_bipush (pc' := 21) rfl rfl bipush_m6 ?_
      refine x_cV1i (d := 2) (pc' := 24) rfl rfl sX5_152 gX5_refuseFar (hS.1) ⟨Nat.le_of_ble_eq_true rfl, Nat.le_of_ble_eq_true rfl⟩ (Nat.le_of_ble_eq_true rfl) ⟨Nat.le_of_ble_eq_true rfl, Nat.le_of_ble_eq_true rfl⟩ ?_
      refine c_refuseFar (k := 6) (by decide) (by decide) hS hA (fun f1 S1 hS1 hA1 hF1 => ⟨_, rfl, ?_⟩)
      exact x_ireturn rfl rfl rfl (Nat.le_of_ble_eq_true rfl) (Nat.le_of_ble_eq_true rfl) (h _ _ hS1 hA1 hF1)
  · rw [show s_lots A a b = _ from if_pos (Int32.not_le.mp c2)] at h
    refine x_aload_n (pc' := 6) rfl rfl rfl ?_
    refine x_bipush (pc' := 8) rfl rfl bipush_m4 ?_
    refine x_cV1i (d := 2) (pc' := 11) rfl rfl sX5_152 gX5_refuseFar (hS.1) ⟨Nat.le_of_ble_eq_true rfl, Nat.le_of_ble_eq_true rfl⟩ (Nat.le_of_ble_eq_true rfl) ⟨Nat.le_of_ble_eq_true rfl, Nat.le_of_ble_eq_true rfl⟩ ?_
    refine c_refuseFar (k := 4) (by decide) (by decide) hS hA (fun f1 S1 hS1 hA1 hF1 => ⟨_, rfl, ?_⟩)
    exact x_ireturn rfl rfl rfl (Nat.le_of_ble_eq_true rfl) (Nat.le_of_ble_eq_true rfl) (h _ _ hS1 hA1 hF1)
-- back, loop
theorem w_sameL {t u : Nat} {T U : x_T} {n : Nat} {β γ : Nat → Nat} (hT : x_t z f t T) (hU : x_t z f u U) (hn : T.2.2.2 0 = nI n) (hn9 : n ≤ 9) (hnU : U.2.2.2 0 = nI n) (hβ : T.2.1 = fun i => nI (β i)) (hγ : U.2.1 = fun i => nI (γ i)) (hβ5 : ∀ i, β i ≤ 100) (hγ5 : ∀ i, γ i ≤ 100) (h1 : (∀ i, i < n → β i = γ i) → post (some (.int 1)) f) (h0 : ¬ (∀ i, i < n → β i = γ i) → post (some (.int 0)) f) : ∀ (k i : Nat), i + k = n → (∀ j, j < i → β j = γ j) → X E (x_rm 3 0 0) mX3_sameBeans (x_QM E z 0 0 post) 2 [(2, .int (nI i)), (0, .ref t), (1, .ref u)] [] z f 0 0 := by
  intro k
  induction k with
  | zero =>
    intro i hi hj
    refine x_iload_n (pc' := 3) rfl rfl rfl ?_
    refine x_aload_n (pc' := 4) rfl rfl rfl ?_
    refine x_get (pc' := 7) rfl rfl rfl (hT.1) rfl ?_
    refine x_icmp_ge (tgt := 31) (pc' := 10) rfl rfl rfl (fun _ => ?_) (fun c7 => absurd ((by rw [hn]; exact nI_le (by omega) (by omega))) c7)
    refine x_iconst (pc' := 32) rfl rfl iconst_1 ?_
    exact x_ireturn rfl rfl rfl (Nat.le_of_ble_eq_true rfl) (Nat.le_of_ble_eq_true rfl) (h1 (fun j hj2 => hj j (by omega)))
  | succ k ih =>
    intro i hi hj
    have e1 : T.2.1 (nI i).toNatClampNeg = nI (β i) := by rw [nI_clamp (by omega), hβ]
    have e2 : U.2.1 (nI i).toNatClampNeg = nI (γ i) := by rw [nI_clamp (by omega), hγ]
    have k1 := hβ5 i
    have k2 := hγ5 i
    refine x_iload_n (pc' := 3) rfl rfl rfl ?_
    refine x_aload_n (pc' := 4) rfl rfl rfl ?_
    refine x_get (pc' := 7) rfl rfl rfl (hT.1) rfl ?_
    refine x_icmp_ge (tgt := 31) (pc' := 10) rfl rfl rfl (fun c7 => absurd c7 ((by rw [hn]; exact nI_ge (by omega) (by omega)))) (fun _ => ?_)
    refine x_aload_n (pc' := 11) rfl rfl rfl ?_
    refine x_iload_n (pc' := 12) rfl rfl rfl ?_
    refine x_cV1i (d := 2) (pc' := 15) rfl rfl sX3_59 gX3_beansOf (hT.1) ⟨Nat.le_of_ble_eq_true rfl, Nat.le_of_ble_eq_true rfl⟩ (Nat.le_of_ble_eq_true rfl) ⟨Nat.le_of_ble_eq_true rfl, Nat.le_of_ble_eq_true rfl⟩ ?_
    refine w_beansOf hT (fun g => ⟨_, rfl, ?_⟩) (fun g => absurd (t_has_nI hn hn9 (by omega)) g)
    refine x_eqi e1 ?_
    refine x_aload_n (pc' := 16) rfl rfl rfl ?_
    refine x_iload_n (pc' := 17) rfl rfl rfl ?_
    refine x_cV1i (d := 2) (pc' := 20) rfl rfl sX3_59 gX3_beansOf (hU.1) ⟨Nat.le_of_ble_eq_true rfl, Nat.le_of_ble_eq_true rfl⟩ (Nat.le_of_ble_eq_true rfl) ⟨Nat.le_of_ble_eq_true rfl, Nat.le_of_ble_eq_true rfl⟩ ?_
    refine w_beansOf hU (fun g => ⟨_, rfl, ?_⟩) (fun g => absurd (t_has_nI hnU hn9 (by omega)) g)
    refine x_eqi e2 ?_
    refine x_icmp_eq (tgt := 25) (pc' := 23) rfl rfl rfl (fun c20 => ?_) (fun c20 => ?_)
    · have d := (nI_eq (by omega) (by omega)).mp c20
      refine x_iinc (pc' := 28) (lv' := [(2, _), (0, _), (1, _)]) rfl rfl (Nat.le_of_ble_eq_true rfl) rfl (nI_1 i) rfl ?_
      refine x_goto (tgt := 2) rfl rfl ?_
      refine ih (i + 1) (by omega) (fun j hj2 => ?_)
      by_cases h9 : j = i
      · rw [h9]
        exact d
      · exact hj j (by omega)
    · have d : ¬ β i = γ i := fun q => c20 (by rw [q])
      refine x_iconst (pc' := 24) rfl rfl iconst_0 ?_
      exact x_ireturn rfl rfl rfl (Nat.le_of_ble_eq_true rfl) (Nat.le_of_ble_eq_true rfl) (h0 (fun q => d (q i (by omega))))
theorem w_same {t u : Nat} {T U : x_T} {g g' : q_G} (hT : x_t z f t T) (hU : x_t z f u U) (hg : t_is T g) (hg' : t_is U g') (ho : g_ok 100 g) (ho' : g_ok 100 g') (hnn : g_n g' = g_n g) (h1 : (∀ i, i < g_n g → g_β g i = g_β g' i) → post (some (.int 1)) f) (h0 : ¬ (∀ i, i < g_n g → g_β g i = g_β g' i) → post (some (.int 0)) f) : Y E 3 mX3_sameBeans [.ref t, .ref u] z f 0 0 post := by
  refine Y.intro gX3_sameBeans (lv := [(0, .ref t), (1, .ref u)]) rfl (Nat.le_of_ble_eq_true rfl) ?_
  refine x_iconst (pc' := 1) rfl rfl iconst_0 ?_
  refine x_istore_n (pc' := 2) (lv' := [(2, _), (0, _), (1, _)]) rfl rfl (Nat.le_of_ble_eq_true rfl) rfl ?_
  exact w_sameL hT hU hg.2.2.2.1 ho.1 (by rw [hg'.2.2.2.1, hnn]) hg.2.1 hg'.2.1 ho.2.2.2.2.2.1 ho'.2.2.2.2.2.1 h1 h0 (g_n g) 0 (by omega) (fun j hj => absurd hj (Nat.not_lt_zero j))
/-- tries are of the state that is now -/
def c_two (z : Nat) (f : x_H) (S0 : x_S) (A : q_A) (T U : x_T) (g u : q_G) : Prop := x_Sys z f (S0.1, x_ut (x_ut S0.2.1 2 T) 3 U, S0.2.2.1, S0.2.2.2) ∧ t_is T g ∧ t_is U u ∧ g_ok 99 g ∧ g_ok 99 u ∧ g_n g = g_n (a_g A) ∧ g_n u = g_n (a_g A)
theorem x_ut_cm (X : Nat → x_T) {i j : Nat} (T U : x_T) (h : i ≠ j) : x_ut (x_ut X i T) j U = x_ut (x_ut X j U) i T := by
  funext k
  unfold x_ut
  by_cases h1 : k = j
  · rw [if_pos h1, if_neg (by omega), if_pos h1]
  · rw [if_neg h1]
    by_cases h2 : k = i
    · rw [if_pos h2, if_pos h2]
    · rw [if_neg h2, if_neg h2, if_neg h1]
theorem c_two.t2 {f' : x_H} {S0 : x_S} {T U T' : x_T} {g u g' : q_G} (h : c_two z f S0 A T U g u) (ht : x_t z f' 9 T') (hf : x_fr (x_ot 9) f f') (hg : t_is T' g') (ho : g_ok 99 g') (hn : g_n g' = g_n g) : c_two z f' S0 A T' U g' u := by
  obtain ⟨h1, h2, h3, h4, h5, h6, h7⟩ := h
  refine ⟨?_, hg, h3, ho, h5, hn.trans h6, h7⟩
  have h8 := h1.tab 2 (by decide) ht hf
  rw [show (S0.1, x_ut (x_ut S0.2.1 2 T) 3 U, S0.2.2.1, S0.2.2.2).2.1 = x_ut (x_ut S0.2.1 2 T) 3 U from rfl, x_ut_cm _ _ _ (by decide : 3 ≠ 2), x_ut_ut] at h8
  exact h8
theorem c_two.t3 {f' : x_H} {S0 : x_S} {T U U' : x_T} {g u u' : q_G} (h : c_two z f S0 A T U g u) (ht : x_t z f' 13 U') (hf : x_fr (x_ot 13) f f') (hg : t_is U' u') (ho : g_ok 99 u') (hn : g_n u' = g_n u) : c_two z f' S0 A T U' g u' := by
  obtain ⟨h1, h2, h3, h4, h5, h6, h7⟩ := h
  refine ⟨?_, h2, hg, h4, ho, h6, hn.trans h7⟩
  have h8 := h1.tab 3 (by decide) ht hf
  rw [show (S0.1, x_ut (x_ut S0.2.1 2 T) 3 U, S0.2.2.1, S0.2.2.2).2.1 = x_ut (x_ut S0.2.1 2 T) 3 U from rfl, x_ut_ut] at h8
  exact h8
theorem c_two.is {S0 : x_S} {T U : x_T} {g u : q_G} (h : c_two z f S0 A T U g u) (hA : c_is S0 A) : c_is (S0.1, x_ut (x_ut S0.2.1 2 T) 3 U, S0.2.2.1, S0.2.2.2) A := hA.sc ((c_sc.tab (j := 2) (T := T) (by decide) (by decide)).trans (c_sc.tab (S := (S0.1, x_ut S0.2.1 2 T, S0.2.2.1, S0.2.2.2)) (j := 3) (T := U) (by decide) (by decide)))
theorem c_two.of {S0 : x_S} {g u : q_G} (h : x_Sys z f S0) (h2 : t_is (S0.2.1 2) g) (h3 : t_is (S0.2.1 3) u) (h4 : g_ok 99 g) (h5 : g_ok 99 u) (h6 : g_n g = g_n (a_g A)) (h7 : g_n u = g_n (a_g A)) : c_two z f S0 A (S0.2.1 2) (S0.2.1 3) g u := by
  refine ⟨?_, h2, h3, h4, h5, h6, h7⟩
  have e9 : x_ut (x_ut S0.2.1 2 (S0.2.1 2)) 3 (S0.2.1 3) = S0.2.1 := by
    funext j
    unfold x_ut
    split
    · rename_i h9
      rw [h9]
    · split
      · rename_i h9
        rw [h9]
      · rfl
  rw [e9]
  exact h
def n_bowl (A : q_A) (a : Int32) : q_A := if q_in (g_n (a_g A)) a then A else s_no A 1
theorem c_backL {b : Nat} (ho : a_ok A) (hb : b < g_n (a_g A)) (f0 : x_H) (S0 : x_S) (hA : c_is S0 A) (h : c_any z f0 post A) : ∀ (k i : Nat) (f : x_H) (T U : x_T) (g u : q_G), i + k = 201 → c_two z f S0 A T U g u → x_fr (fun q => 59 ≤ q) f0 f → X E (x_rm 9 0 0) mX5_back (x_QM E z 0 0 post) 30 [(2, .int (nI i)), (0, .ref 0), (1, .int (nI b))] [] z f 0 0 := by
  have hn9 := ho.1.1
  intro k
  induction k with
  | zero =>
    intro i f T U g u hi hC hF
    have hi2 : i = 201 := by omega
    subst hi2
    refine x_iload_n (pc' := 31) rfl rfl rfl ?_
    refine x_sipush (pc' := 34) rfl rfl sipush_200 ?_
    refine x_icmp_gt (tgt := 78) (pc' := 37) rfl rfl rfl (fun _ => ?_) (fun c34 => absurd ((by decide : (200 : Int32) < nI 201)) c34)
    refine x_bipush (pc' := 80) rfl rfl bipush_m9 ?_
    exact x_ireturn rfl rfl rfl (Nat.le_of_ble_eq_true rfl) (Nat.le_of_ble_eq_true rfl) (h _ _ _ hC.1 (hC.is hA) hF)
  | succ k ih =>
    intro i f T U g u hi hC hF
    have hT : x_t z f 9 T := hC.1.2.1 2 (by decide)
    have hT0 : x_t z f 1 (S0.2.1 0) := hC.1.2.1 0 (by decide)
    refine x_iload_n (pc' := 31) rfl rfl rfl ?_
    refine x_sipush (pc' := 34) rfl rfl sipush_200 ?_
    refine x_icmp_gt (tgt := 78) (pc' := 37) rfl rfl rfl (fun c34 => absurd c34 ((nI_nlt (a := 200) (by omega) (by decide)))) (fun _ => ?_)
    refine x_aload_n (pc' := 38) rfl rfl rfl ?_
    refine x_get (pc' := 41) rfl rfl rfl (hC.1.1) rfl ?_
    refine x_iload_n (pc' := 42) rfl rfl rfl ?_
    refine x_cV1i (d := 2) (pc' := 45) rfl rfl sX5_118 gX3_canMove (hT.1) ⟨Nat.le_of_ble_eq_true rfl, Nat.le_of_ble_eq_true rfl⟩ (Nat.le_of_ble_eq_true rfl) ⟨Nat.le_of_ble_eq_true rfl, Nat.le_of_ble_eq_true rfl⟩ ?_
    refine w_can hT hC.2.1 hC.2.2.2.1 (by decide) (by omega) (fun d2 => ⟨_, rfl, ?_⟩) (fun d2 => ⟨_, rfl, ?_⟩)
    · refine x_if_eq (tgt := 78) (pc' := 48) rfl rfl rfl (fun c45 => absurd c45 (by decide)) (fun _ => ?_)
      refine x_aload_n (pc' := 49) rfl rfl rfl ?_
      refine x_get (pc' := 52) rfl rfl rfl (hC.1.1) rfl ?_
      refine x_iload_n (pc' := 53) rfl rfl rfl ?_
      refine x_cV1v (d := 4) (pc' := 56) rfl rfl sX5_124 gX3_makeMove (hT.1) ⟨Nat.le_of_ble_eq_true rfl, Nat.le_of_ble_eq_true rfl⟩ (Nat.le_of_ble_eq_true rfl) ⟨Nat.le_of_ble_eq_true rfl, Nat.le_of_ble_eq_true rfl⟩ ?_
      refine w_move hT hC.2.1 hC.2.2.2.1 (by decide) d2.2.1 (fun f1 T1 hT1 g1 g4 g5 g6 g7 g8 hF1 => ⟨rfl, ?_⟩)
      have hC1 := hC.t2 hT1 hF1 g1 (g_mv_ok hC.2.2.2.1 (by decide) (by decide) d2.2.1) rfl
      have hT01 : x_t z f1 1 (S0.2.1 0) := hC1.1.2.1 0 (by decide)
      have hF2 := hF.trans (c_fr0 (j := 2) (by decide) hF1)
      refine x_aload_n (pc' := 57) rfl rfl rfl ?_
      refine x_get (pc' := 60) rfl rfl rfl (hC1.1.1) rfl ?_
      refine x_aload_n (pc' := 61) rfl rfl rfl ?_
      refine x_get (pc' := 64) rfl rfl rfl (hC1.1.1) rfl ?_
      refine x_cV1i (d := 3) (pc' := 67) rfl rfl sX5_158 gX3_sameBeans (hT1.1) ⟨Nat.le_of_ble_eq_true rfl, Nat.le_of_ble_eq_true rfl⟩ (Nat.le_of_ble_eq_true rfl) ⟨Nat.le_of_ble_eq_true rfl, Nat.le_of_ble_eq_true rfl⟩ ?_
      refine w_same hT1 hT01 g1 hA.1 (hC1.2.2.2.1.mono (by decide)) (ho.1.mono (by decide)) hC1.2.2.2.2.2.1.symm (fun d3 => ⟨_, rfl, ?_⟩) (fun d3 => ⟨_, rfl, ?_⟩)
      · refine x_if_eq (tgt := 72) (pc' := 70) rfl rfl rfl (fun c67 => absurd c67 (by decide)) (fun _ => ?_)
        refine x_iload_n (pc' := 71) rfl rfl rfl ?_
        exact x_ireturn rfl rfl rfl (Nat.le_of_ble_eq_true rfl) (Nat.le_of_ble_eq_true rfl) (h _ _ _ hC1.1 (hC1.is hA) hF2)
      · refine x_if_eq (tgt := 72) (pc' := 70) rfl rfl rfl (fun _ => ?_) (fun c67 => absurd (by decide) c67)
        refine x_iinc (pc' := 75) (lv' := [(2, _), (0, _), (1, _)]) rfl rfl (Nat.le_of_ble_eq_true rfl) rfl (nI_1 i) rfl ?_
        refine x_goto (tgt := 30) rfl rfl ?_
        exact ih (i + 1) _ _ _ _ _ (by omega) hC1 hF2
    · refine x_if_eq (tgt := 78) (pc' := 48) rfl rfl rfl (fun _ => ?_) (fun c45 => absurd (by decide) c45)
      refine x_bipush (pc' := 80) rfl rfl bipush_m9 ?_
      exact x_ireturn rfl rfl rfl (Nat.le_of_ble_eq_true rfl) (Nat.le_of_ble_eq_true rfl) (h _ _ _ hC.1 (hC.is hA) hF)
end CD
end
section
/-! The reference's calls: those that change the state, those that look at it. -/
section RA
variable {E : x_E} {z : Nat} {f : x_H} {M : x_N} {A : q_A} {post : Option Value → x_H → Prop} {a b : Int32} {g : q_G} {C : Nat}
theorem r_fr0 {k : Nat} {f' : x_H} {c : x_C} (e : f' = x_up f k c) (hk : 59 ≤ k) : x_fr (fun q => q < 59) f f' := (x_fr.rf (P := fun q => q < 59)).up e (Nat.not_lt.mpr hk)
theorem r_in {u v : Int64} {lo hi : Int32} (hu : u = lo.toInt64) (hv : v = hi.toInt64) (h1 : ¬ (a < lo ∨ hi < a) → post (some (.int 1)) f) (h0 : (a < lo ∨ hi < a) → post (some (.int 0)) f) : Y E 1 mX6_in [.long a.toInt64, .long u, .long v] z f 0 0 post := by
  subst hu hv
  refine w_in (fun q => h1 ?_) (fun q => h0 ?_)
  · rw [i64_lt, i64_lt] at q
    exact fun k => k.elim q.1 q.2
  · rw [i64_lt, i64_lt] at q
    by_cases k1 : a < lo
    · exact Or.inl k1
    · by_cases k2 : hi < a
      · exact Or.inr k2
      · exact absurd ⟨k1, k2⟩ q
theorem m_can1 {k : Nat} (hM : x_Mdl z f M) (hg : m_is M g) (hok : g_ok C g) (hC : C ≤ 100) (hk : k < 2 ^ 31) (h1 : g_can g k → post (some (.int 1)) f) (h0 : ¬ g_can g k → post (some (.int 0)) f) : Y E 3 mX6_canMove [.ref 59, .int (nI k)] z f 0 0 post := by
  refine m_can hM hg hok hC (fun b' e d => h1 ?_) (fun d => h0 (d k rfl hk))
  have hb' : b' < 2 ^ 31 := by have := d.2.1; have := hok.1; omega
  rw [(nI_eq hk hb').mp e]
  exact d
theorem r_letter (hM : x_Mdl z f M) (hA : r_is M A) (ho : a_ok A) (h : r_ends z f post (s_letter A a)) : Y E 9 mX6_letter [.ref 59, .int a] z f 0 0 post := by
  refine Y.intro gX6_letter (lv := [(0, .ref 59), (1, .int a)]) rfl (Nat.le_of_ble_eq_true rfl) ?_
  obtain ⟨b1, b2, b3, b4, b5, b6, b7, b8, b9⟩ := id hA
  have hlc := ho.2.2.2.1
  refine x_iload_n (pc' := 1) rfl rfl rfl ?_
  refine x_if_ge (tgt := 11) (pc' := 4) rfl rfl rfl (fun c1 => ?_) (fun c1 => ?_)
  · have d1 : ¬ a < 0 := Int32.not_lt.mpr c1
    refine x_iload_n (pc' := 12) rfl rfl rfl ?_
    refine x_sipush (pc' := 15) rfl rfl sipush_255 ?_
    refine x_icmp_gt (tgt := 27) (pc' := 18) rfl rfl rfl (fun c15 => ?_) (fun c15 => ?_)
    · rw [show s_letter A a = _ from (if_neg d1).trans (if_pos (Or.inl c15))] at h
      refine x_aload_n (pc' := 28) rfl rfl rfl ?_
      refine x_bipush (pc' := 30) rfl rfl bipush_m6 ?_
      refine x_cV1i (d := 1) (pc' := 33) rfl rfl sX6_110 gX6_refuse (hM.1) ⟨Nat.le_of_ble_eq_true rfl, Nat.le_of_ble_eq_true rfl⟩ (Nat.le_of_ble_eq_true rfl) ⟨Nat.le_of_ble_eq_true rfl, Nat.le_of_ble_eq_true rfl⟩ ?_
      refine r_refuse (k := 5) (by decide) (by decide) hM hA (fun f1 M1 hM1 hA1 hF1 => ⟨_, rfl, ?_⟩)
      exact x_ireturn rfl rfl rfl (Nat.le_of_ble_eq_true rfl) (Nat.le_of_ble_eq_true rfl) (h _ _ hM1 hA1 hF1)
    · refine x_aload_n (pc' := 19) rfl rfl rfl ?_
      refine x_get (pc' := 22) rfl rfl rfl (hM.1) rfl ?_
      refine x_eqi b5 ?_
      refine x_bipush (pc' := 24) rfl rfl bipush_96 ?_
      by_cases d3 : a_lc A = 96
      · rw [show s_letter A a = _ from (if_neg d1).trans (if_pos (Or.inr d3))] at h
        refine x_icmp_ne (tgt := 34) (pc' := 27) rfl rfl rfl (fun q => absurd (show nI (a_lc A) = 96 by rw [d3]; rfl) q) (fun _ => ?_)
        refine x_aload_n (pc' := 28) rfl rfl rfl ?_
        refine x_bipush (pc' := 30) rfl rfl bipush_m6 ?_
        refine x_cV1i (d := 1) (pc' := 33) rfl rfl sX6_110 gX6_refuse (hM.1) ⟨Nat.le_of_ble_eq_true rfl, Nat.le_of_ble_eq_true rfl⟩ (Nat.le_of_ble_eq_true rfl) ⟨Nat.le_of_ble_eq_true rfl, Nat.le_of_ble_eq_true rfl⟩ ?_
        refine r_refuse (k := 5) (by decide) (by decide) hM hA (fun f1 M1 hM1 hA1 hF1 => ⟨_, rfl, ?_⟩)
        exact x_ireturn rfl rfl rfl (Nat.le_of_ble_eq_true rfl) (Nat.le_of_ble_eq_true rfl) (h _ _ hM1 hA1 hF1)
      · rw [show s_letter A a = _ from (if_neg d1).trans (if_neg (fun q => q.elim c15 d3))] at h
        refine x_icmp_ne (tgt := 34) (pc' := 27) rfl rfl rfl (fun _ => ?_) (fun q => absurd ((nI_eq (a := a_lc A) (b := 96) (by omega) (by decide)).mp q) d3)
        refine x_aload_n (pc' := 35) rfl rfl rfl ?_
        refine x_get (pc' := 38) rfl rfl rfl (hM.1) rfl ?_
        obtain ⟨ka, hka, rfl⟩ := nI_of d1
        refine x_aload_n (pc' := 39) rfl rfl rfl ?_
        refine x_get (pc' := 42) rfl rfl rfl (hM.1) rfl ?_
        refine x_eqi b5 ?_
        refine x_iload_n (pc' := 43) rfl rfl rfl ?_
        refine x_iastore (pc' := 44) rfl rfl (hM.2.1 4 (by decide)) (vp_in_nI (n := a_lc A) (N := 96) (by omega) (by decide)) (fun f1 e1 => ?_)
        have hM1 := hM.arr 4 (by decide) e1
        have hF1 := r_fr0 e1 (by decide)
        rw [nI_clamp (by omega), b6, q_up_I] at hM1
        refine x_aload_n (pc' := 45) rfl rfl rfl ?_
        refine x_dup (pc' := 46) rfl rfl rfl ?_
        refine x_get (pc' := 49) rfl rfl rfl (hM1.1) rfl ?_
        refine x_eqi b5 ?_
        refine x_iconst (pc' := 50) rfl rfl iconst_1 ?_
        refine x_iadd (pc' := 51) rfl rfl ?_
        refine x_eqi (nI_1 _) ?_
        refine x_put (pc' := 54) rfl rfl rfl (hM1.1) (Nat.le_of_ble_eq_true rfl) rfl rfl rfl rfl (fun f2 e2 => ?_)
        have hM2 := hM1.num 11 e2 (x_mFs11 _ _)
        have hF2 := hF1.up e2 (by decide)
        refine x_aload_n (pc' := 55) rfl rfl rfl ?_
        refine x_get (pc' := 58) rfl rfl rfl (hM2.1) rfl ?_
        exact x_ireturn rfl rfl rfl (Nat.le_of_ble_eq_true rfl) (Nat.le_of_ble_eq_true rfl) (h _ _ hM2 ⟨b1, b2, b3, b4.eq (fun i hi => pk_un (by omega)) rfl rfl, rfl, by show (fun i => nI (q_up (a_lf A) (a_lc A) ka i)) = fun i => nI (q_up (a_lf A) (a_lc A) (nI ka).toNatClampNeg i); rw [nI_clamp hka], b7, b8, b9⟩ hF2)
  · rw [show s_letter A a = _ from if_pos (Int32.not_le.mp c1)] at h
    refine x_aload_n (pc' := 5) rfl rfl rfl ?_
    refine x_bipush (pc' := 7) rfl rfl bipush_m4 ?_
    refine x_cV1i (d := 1) (pc' := 10) rfl rfl sX6_110 gX6_refuse (hM.1) ⟨Nat.le_of_ble_eq_true rfl, Nat.le_of_ble_eq_true rfl⟩ (Nat.le_of_ble_eq_true rfl) ⟨Nat.le_of_ble_eq_true rfl, Nat.le_of_ble_eq_true rfl⟩ ?_
    refine r_refuse (k := 3) (by decide) (by decide) hM hA (fun f1 M1 hM1 hA1 hF1 => ⟨_, rfl, ?_⟩)
    exact x_ireturn rfl rfl rfl (Nat.le_of_ble_eq_true rfl) (Nat.le_of_ble_eq_true rfl) (h _ _ hM1 hA1 hF1)
theorem r_row (hM : x_Mdl z f M) (hA : r_is M A) (ho : a_ok A) (h : r_ends z f post (s_row A a)) : Y E 9 mX6_row [.ref 59, .int a] z f 0 0 post := by
  refine Y.intro gX6_row (lv := [(0, .ref 59), (1, .int a)]) rfl (Nat.le_of_ble_eq_true rfl) ?_
  obtain ⟨b1, b2, b3, b4, b5, b6, b7, b8, b9⟩ := id hA
  have hrc := ho.2.2.2.2.2.1
  refine x_iload_n (pc' := 1) rfl rfl rfl ?_
  refine x_if_ge (tgt := 11) (pc' := 4) rfl rfl rfl (fun c1 => ?_) (fun c1 => ?_)
  · have d1 : ¬ a < 0 := Int32.not_lt.mpr c1
    refine x_iload_n (pc' := 12) rfl rfl rfl ?_
    refine x_bipush (pc' := 14) rfl rfl bipush_9 ?_
    refine x_icmp_gt (tgt := 26) (pc' := 17) rfl rfl rfl (fun c14 => ?_) (fun c14 => ?_)
    · rw [show s_row A a = _ from (if_neg d1).trans (if_pos (Or.inl c14))] at h
      refine x_aload_n (pc' := 27) rfl rfl rfl ?_
      refine x_bipush (pc' := 29) rfl rfl bipush_m6 ?_
      refine x_cV1i (d := 1) (pc' := 32) rfl rfl sX6_110 gX6_refuse (hM.1) ⟨Nat.le_of_ble_eq_true rfl, Nat.le_of_ble_eq_true rfl⟩ (Nat.le_of_ble_eq_true rfl) ⟨Nat.le_of_ble_eq_true rfl, Nat.le_of_ble_eq_true rfl⟩ ?_
      refine r_refuse (k := 5) (by decide) (by decide) hM hA (fun f1 M1 hM1 hA1 hF1 => ⟨_, rfl, ?_⟩)
      exact x_ireturn rfl rfl rfl (Nat.le_of_ble_eq_true rfl) (Nat.le_of_ble_eq_true rfl) (h _ _ hM1 hA1 hF1)
    · refine x_aload_n (pc' := 18) rfl rfl rfl ?_
      refine x_get (pc' := 21) rfl rfl rfl (hM.1) rfl ?_
      refine x_eqi b7 ?_
      refine x_bipush (pc' := 23) rfl rfl bipush_12 ?_
      by_cases d3 : a_rc A = 12
      · rw [show s_row A a = _ from (if_neg d1).trans (if_pos (Or.inr d3))] at h
        refine x_icmp_ne (tgt := 33) (pc' := 26) rfl rfl rfl (fun q => absurd (show nI (a_rc A) = 12 by rw [d3]; rfl) q) (fun _ => ?_)
        refine x_aload_n (pc' := 27) rfl rfl rfl ?_
        refine x_bipush (pc' := 29) rfl rfl bipush_m6 ?_
        refine x_cV1i (d := 1) (pc' := 32) rfl rfl sX6_110 gX6_refuse (hM.1) ⟨Nat.le_of_ble_eq_true rfl, Nat.le_of_ble_eq_true rfl⟩ (Nat.le_of_ble_eq_true rfl) ⟨Nat.le_of_ble_eq_true rfl, Nat.le_of_ble_eq_true rfl⟩ ?_
        refine r_refuse (k := 5) (by decide) (by decide) hM hA (fun f1 M1 hM1 hA1 hF1 => ⟨_, rfl, ?_⟩)
        exact x_ireturn rfl rfl rfl (Nat.le_of_ble_eq_true rfl) (Nat.le_of_ble_eq_true rfl) (h _ _ hM1 hA1 hF1)
      · rw [show s_row A a = _ from (if_neg d1).trans (if_neg (fun q => q.elim c14 d3))] at h
        refine x_icmp_ne (tgt := 33) (pc' := 26) rfl rfl rfl (fun _ => ?_) (fun q => absurd ((nI_eq (a := a_rc A) (b := 12) (by omega) (by decide)).mp q) d3)
        refine x_aload_n (pc' := 34) rfl rfl rfl ?_
        refine x_get (pc' := 37) rfl rfl rfl (hM.1) rfl ?_
        obtain ⟨ka, hka, rfl⟩ := nI_of d1
        refine x_aload_n (pc' := 38) rfl rfl rfl ?_
        refine x_get (pc' := 41) rfl rfl rfl (hM.1) rfl ?_
        refine x_eqi b7 ?_
        refine x_iload_n (pc' := 42) rfl rfl rfl ?_
        refine x_iastore (pc' := 43) rfl rfl (hM.2.1 5 (by decide)) (vp_in_nI (n := a_rc A) (N := 12) (by omega) (by decide)) (fun f1 e1 => ?_)
        have hM1 := hM.arr 5 (by decide) e1
        have hF1 := r_fr0 e1 (by decide)
        rw [nI_clamp (by omega), b8, q_up_I] at hM1
        refine x_aload_n (pc' := 44) rfl rfl rfl ?_
        refine x_dup (pc' := 45) rfl rfl rfl ?_
        refine x_get (pc' := 48) rfl rfl rfl (hM1.1) rfl ?_
        refine x_eqi b7 ?_
        refine x_iconst (pc' := 49) rfl rfl iconst_1 ?_
        refine x_iadd (pc' := 50) rfl rfl ?_
        refine x_eqi (nI_1 _) ?_
        refine x_put (pc' := 53) rfl rfl rfl (hM1.1) (Nat.le_of_ble_eq_true rfl) rfl rfl rfl rfl (fun f2 e2 => ?_)
        have hM2 := hM1.num 13 e2 (x_mFs13 _ _)
        have hF2 := hF1.up e2 (by decide)
        refine x_aload_n (pc' := 54) rfl rfl rfl ?_
        refine x_get (pc' := 57) rfl rfl rfl (hM2.1) rfl ?_
        exact x_ireturn rfl rfl rfl (Nat.le_of_ble_eq_true rfl) (Nat.le_of_ble_eq_true rfl) (h _ _ hM2 ⟨b1, b2, b3, b4.eq (fun i hi => pk_un (by omega)) rfl rfl, b5, b6, rfl, by show (fun i => nI (q_up (a_rf A) (a_rc A) ka i)) = fun i => nI (q_up (a_rf A) (a_rc A) (nI ka).toNatClampNeg i); rw [nI_clamp hka], b9⟩ hF2)
  · rw [show s_row A a = _ from if_pos (Int32.not_le.mp c1)] at h
    refine x_aload_n (pc' := 5) rfl rfl rfl ?_
    refine x_bipush (pc' := 7) rfl rfl bipush_m4 ?_
    refine x_cV1i (d := 1) (pc' := 10) rfl rfl sX6_110 gX6_refuse (hM.1) ⟨Nat.le_of_ble_eq_true rfl, Nat.le_of_ble_eq_true rfl⟩ (Nat.le_of_ble_eq_true rfl) ⟨Nat.le_of_ble_eq_true rfl, Nat.le_of_ble_eq_true rfl⟩ ?_
    refine r_refuse (k := 3) (by decide) (by decide) hM hA (fun f1 M1 hM1 hA1 hF1 => ⟨_, rfl, ?_⟩)
    exact x_ireturn rfl rfl rfl (Nat.le_of_ble_eq_true rfl) (Nat.le_of_ble_eq_true rfl) (h _ _ hM1 hA1 hF1)
theorem r_put (hM : x_Mdl z f M) (hA : r_is M A) (ho : a_ok A) (h : r_ends z f post (s_put A a b)) : Y E 9 mX6_put [.ref 59, .int a, .int b] z f 0 0 post := by
  refine Y.intro gX6_put (lv := [(0, .ref 59), (1, .int a), (2, .int b)]) rfl (Nat.le_of_ble_eq_true rfl) ?_
  obtain ⟨b1, b2, b3, b4, b5, b6, b7, b8, b9⟩ := id hA
  have hn9 := ho.1.1
  refine x_aload_n (pc' := 1) rfl rfl rfl ?_
  refine x_iload_n (pc' := 2) rfl rfl rfl ?_
  refine x_cV1i (d := 2) (pc' := 5) rfl rfl sX6_103 gX6_isBowl (hM.1) ⟨Nat.le_of_ble_eq_true rfl, Nat.le_of_ble_eq_true rfl⟩ (Nat.le_of_ble_eq_true rfl) ⟨Nat.le_of_ble_eq_true rfl, Nat.le_of_ble_eq_true rfl⟩ ?_
  refine r_bowl hM hA ho (fun d1 => ⟨_, rfl, ?_⟩) (fun d1 => ⟨_, rfl, ?_⟩)
  · obtain ⟨k, hk, hk2, rfl, hcl⟩ := q_in_k d1
    refine x_if_ne (tgt := 14) (pc' := 8) rfl rfl rfl (fun _ => ?_) (fun c5 => absurd c5 ((by decide)))
    refine x_iload_n (pc' := 15) rfl rfl rfl ?_
    refine x_if_ge (tgt := 25) (pc' := 18) rfl rfl rfl (fun c15 => ?_) (fun c15 => ?_)
    · have d2 : ¬ b < 0 := Int32.not_lt.mpr c15
      refine x_iload_n (pc' := 26) rfl rfl rfl ?_
      refine x_bipush (pc' := 28) rfl rfl bipush_20 ?_
      refine x_icmp_le (tgt := 38) (pc' := 31) rfl rfl rfl (fun c28 => ?_) (fun c28 => ?_)
      · rw [show s_put A (nI k) b = _ from (if_pos d1).trans ((if_neg d2).trans (if_neg (Int32.not_lt.mpr c28)))] at h
        refine x_aload_n (pc' := 39) rfl rfl rfl ?_
        refine x_get (pc' := 42) rfl rfl rfl (hM.1) rfl ?_
        refine x_iload_n (pc' := 43) rfl rfl rfl ?_
        refine x_iaload (pc' := 44) rfl rfl (hM.2.1 1 (by decide)) (vp_in_nI (n := k) (N := 9) (by omega) (by decide)) ?_
        refine x_eqi (show M.2.1 1 (nI k).toNatClampNeg = nI (g_β (a_g A) (nI k).toNatClampNeg) from by rw [b1.2.1]) ?_
        refine x_istore_n (pc' := 45) (lv' := [(3, _), (0, _), (1, _), (2, _)]) rfl rfl (Nat.le_of_ble_eq_true rfl) rfl ?_
        refine x_aload_n (pc' := 46) rfl rfl rfl ?_
        refine x_get (pc' := 49) rfl rfl rfl (hM.1) rfl ?_
        obtain ⟨kb, hkb, rfl⟩ := nI_of d2
        refine x_iload_n (pc' := 50) rfl rfl rfl ?_
        refine x_iload_n (pc' := 51) rfl rfl rfl ?_
        refine x_iastore (pc' := 52) rfl rfl (hM.2.1 1 (by decide)) (vp_in_nI (n := k) (N := 9) (by omega) (by decide)) (fun f1 e1 => ?_)
        have hM1 := hM.arr 1 (by decide) e1
        have hF1 := r_fr0 e1 (by decide)
        refine x_iload_n (pc' := 53) rfl rfl rfl ?_
        exact x_ireturn rfl rfl rfl (Nat.le_of_ble_eq_true rfl) (Nat.le_of_ble_eq_true rfl) (h _ _ hM1 ⟨⟨b1.1, by show upd (M.2.1 1) (nI k).toNatClampNeg (nI kb) = fun i => nI (q_up (g_β (a_g A)) (nI k).toNatClampNeg (nI kb).toNatClampNeg i); rw [b1.2.1, q_up_I, nI_clamp hkb], b1.2.2⟩, b2, b3, b4.eq (fun _ _ => rfl) rfl rfl, b5, b6, b7, b8, b9⟩ hF1)
      · rw [show s_put A (nI k) b = _ from (if_pos d1).trans ((if_neg d2).trans (if_pos (Int32.not_le.mp c28)))] at h
        refine x_aload_n (pc' := 32) rfl rfl rfl ?_
        refine x_bipush (pc' := 34) rfl rfl bipush_m6 ?_
        refine x_cV1i (d := 1) (pc' := 37) rfl rfl sX6_110 gX6_refuse (hM.1) ⟨Nat.le_of_ble_eq_true rfl, Nat.le_of_ble_eq_true rfl⟩ (Nat.le_of_ble_eq_true rfl) ⟨Nat.le_of_ble_eq_true rfl, Nat.le_of_ble_eq_true rfl⟩ ?_
        refine r_refuse (k := 5) (by decide) (by decide) hM hA (fun f1 M1 hM1 hA1 hF1 => ⟨_, rfl, ?_⟩)
        exact x_ireturn rfl rfl rfl (Nat.le_of_ble_eq_true rfl) (Nat.le_of_ble_eq_true rfl) (h _ _ hM1 hA1 hF1)
    · rw [show s_put A (nI k) b = _ from (if_pos d1).trans (if_pos (Int32.not_le.mp c15))] at h
      refine x_aload_n (pc' := 19) rfl rfl rfl ?_
      refine x_bipush (pc' := 21) rfl rfl bipush_m4 ?_
      refine x_cV1i (d := 1) (pc' := 24) rfl rfl sX6_110 gX6_refuse (hM.1) ⟨Nat.le_of_ble_eq_true rfl, Nat.le_of_ble_eq_true rfl⟩ (Nat.le_of_ble_eq_true rfl) ⟨Nat.le_of_ble_eq_true rfl, Nat.le_of_ble_eq_true rfl⟩ ?_
      refine r_refuse (k := 3) (by decide) (by decide) hM hA (fun f1 M1 hM1 hA1 hF1 => ⟨_, rfl, ?_⟩)
      exact x_ireturn rfl rfl rfl (Nat.le_of_ble_eq_true rfl) (Nat.le_of_ble_eq_true rfl) (h _ _ hM1 hA1 hF1)
  · rw [show s_put A a b = _ from if_neg d1] at h
    refine x_if_ne (tgt := 14) (pc' := 8) rfl rfl rfl (fun c5 => absurd (rfl) c5) (fun _ => ?_)
    refine x_aload_n (pc' := 9) rfl rfl rfl ?_
    refine x_iconst (pc' := 10) rfl rfl iconst_m1 ?_
    refine x_cV1i (d := 1) (pc' := 13) rfl rfl sX6_110 gX6_refuse (hM.1) ⟨Nat.le_of_ble_eq_true rfl, Nat.le_of_ble_eq_true rfl⟩ (Nat.le_of_ble_eq_true rfl) ⟨Nat.le_of_ble_eq_true rfl, Nat.le_of_ble_eq_true rfl⟩ ?_
    refine r_refuse (k := 0) (by decide) (by decide) hM hA (fun f1 M1 hM1 hA1 hF1 => ⟨_, rfl, ?_⟩)
    exact x_ireturn rfl rfl rfl (Nat.le_of_ble_eq_true rfl) (Nat.le_of_ble_eq_true rfl) (h _ _ hM1 hA1 hF1)
theorem r_set (hM : x_Mdl z f M) (hA : r_is M A) (h : r_ends z f post (s_set A a b)) : Y E 9 mX6_set [.ref 59, .int a, .int b] z f 0 0 post := by
  refine Y.intro gX6_set (lv := [(0, .ref 59), (1, .int a), (2, .int b)]) rfl (Nat.le_of_ble_eq_true rfl) ?_
  obtain ⟨b1, b2, b3, b4, b5, b6, b7, b8, b9⟩ := id hA
  obtain ⟨t1, t2, t3, t4, t5, t6, t7⟩ := id b1
  by_cases d0 : a < 0 ∨ 2 < a
  · rw [show s_set A a b = _ from if_pos d0] at h
    refine x_iload_n (pc' := 1) rfl rfl rfl ?_
    refine x_i2l (pc' := 2) rfl rfl ?_
    refine x_lconst (pc' := 3) rfl rfl lconst_0 ?_
    refine x_ldc2 (pc' := 6) rfl rfl rfl ?_
    refine x_cS3i (d := 1) (pc' := 9) rfl rfl sX6_63 gX6_in ⟨Nat.le_of_ble_eq_true rfl, Nat.le_of_ble_eq_true rfl⟩ (Nat.le_of_ble_eq_true rfl) ⟨Nat.le_of_ble_eq_true rfl, Nat.le_of_ble_eq_true rfl⟩ ?_
    refine r_in (lo := 0) (hi := 2) (by decide) (by decide) (fun q => absurd d0 q) (fun _ => ⟨_, rfl, ?_⟩)
    refine x_if_ne (tgt := 19) (pc' := 12) rfl rfl rfl (fun c9 => absurd (rfl) c9) (fun _ => ?_)
    refine x_aload_n (pc' := 13) rfl rfl rfl ?_
    refine x_bipush (pc' := 15) rfl rfl bipush_m2 ?_
    refine x_cV1i (d := 1) (pc' := 18) rfl rfl sX6_110 gX6_refuse (hM.1) ⟨Nat.le_of_ble_eq_true rfl, Nat.le_of_ble_eq_true rfl⟩ (Nat.le_of_ble_eq_true rfl) ⟨Nat.le_of_ble_eq_true rfl, Nat.le_of_ble_eq_true rfl⟩ ?_
    refine r_refuse (k := 1) (by decide) (by decide) hM hA (fun f1 M1 hM1 hA1 hF1 => ⟨_, rfl, ?_⟩)
    exact x_ireturn rfl rfl rfl (Nat.le_of_ble_eq_true rfl) (Nat.le_of_ble_eq_true rfl) (h _ _ hM1 hA1 hF1)
  rcases i3_of d0 with rfl | rfl | rfl
  · rw [s_set0] at h
    refine x_iload_n (pc' := 1) rfl rfl rfl ?_
    refine x_i2l (pc' := 2) rfl rfl ?_
    refine x_lconst (pc' := 3) rfl rfl lconst_0 ?_
    refine x_ldc2 (pc' := 6) rfl rfl rfl ?_
    refine x_cS3i (d := 1) (pc' := 9) rfl rfl sX6_63 gX6_in ⟨Nat.le_of_ble_eq_true rfl, Nat.le_of_ble_eq_true rfl⟩ (Nat.le_of_ble_eq_true rfl) ⟨Nat.le_of_ble_eq_true rfl, Nat.le_of_ble_eq_true rfl⟩ ?_
    refine r_in (lo := 0) (hi := 2) (by decide) (by decide) (fun _ => ⟨_, rfl, ?_⟩) (fun q => absurd q d0)
    refine x_if_ne (tgt := 19) (pc' := 12) rfl rfl rfl (fun _ => ?_) (fun c9 => absurd c9 ((by decide)))
    refine x_iload_n (pc' := 20) rfl rfl rfl ?_
    refine x_iload_n (pc' := 21) rfl rfl rfl ?_
    refine x_if_ne (tgt := 28) (pc' := 24) rfl rfl rfl (fun c21 => absurd (rfl) c21) (fun _ => ?_)
    refine x_iconst (pc' := 25) rfl rfl iconst_1 ?_
    refine x_goto (tgt := 29) rfl rfl ?_
    refine x_icmp_ge (tgt := 39) (pc' := 32) rfl rfl rfl (fun c29 => ?_) (fun c29 => ?_)
    · have d2 : ¬ b < 1 := Int32.not_lt.mpr c29
      rw [if_neg d2] at h
      refine x_iload_n (pc' := 40) rfl rfl rfl ?_
      refine x_iload_n (pc' := 41) rfl rfl rfl ?_
      refine x_if_ne (tgt := 49) (pc' := 44) rfl rfl rfl (fun c41 => absurd (rfl) c41) (fun _ => ?_)
      refine x_bipush (pc' := 46) rfl rfl bipush_9 ?_
      refine x_goto (tgt := 50) rfl rfl ?_
      refine x_icmp_le (tgt := 60) (pc' := 53) rfl rfl rfl (fun c50 => ?_) (fun c50 => ?_)
      · rw [if_neg (Int32.not_lt.mpr c50)] at h
        refine x_iload_n (pc' := 61) rfl rfl rfl ?_
        refine x_if_ne (tgt := 71) (pc' := 64) rfl rfl rfl (fun c61 => absurd (rfl) c61) (fun _ => ?_)
        refine x_aload_n (pc' := 65) rfl rfl rfl ?_
        refine x_get (pc' := 68) rfl rfl rfl (hM.1) rfl ?_
        refine x_eqi t5 ?_
        obtain ⟨kb, hkb, rfl⟩ := nI_of (fun q => d2 (Int32.lt_trans q (by decide)))
        refine x_goto (tgt := 87) rfl rfl ?_
        refine x_istore_n (pc' := 88) (lv' := [(3, _), (0, _), (1, _), (2, _)]) rfl rfl (Nat.le_of_ble_eq_true rfl) rfl ?_
        refine x_iload_n (pc' := 89) rfl rfl rfl ?_
        refine x_if_ne (tgt := 100) (pc' := 92) rfl rfl rfl (fun c89 => absurd (rfl) c89) (fun _ => ?_)
        refine x_aload_n (pc' := 93) rfl rfl rfl ?_
        refine x_iload_n (pc' := 94) rfl rfl rfl ?_
        refine x_put (pc' := 97) rfl rfl rfl (hM.1) (Nat.le_of_ble_eq_true rfl) rfl rfl rfl rfl (fun f1 e1 => ?_)
        have hM1 := hM.num 4 e1 (x_mFs4 _ _)
        have hF1 := r_fr0 e1 (by decide)
        refine x_goto (tgt := 118) rfl rfl ?_
        refine x_iload_n (pc' := 119) rfl rfl rfl ?_
        exact x_ireturn rfl rfl rfl (Nat.le_of_ble_eq_true rfl) (Nat.le_of_ble_eq_true rfl) (h _ _ hM1 ⟨⟨t1, t2, t3, t4, by show nI kb = nI (nI kb).toNatClampNeg; rw [nI_clamp hkb], t6, t7⟩, b2, b3, b4.eq (fun i hi => pk_un (by omega)) rfl rfl, b5, b6, b7, b8, b9⟩ hF1)
      · rw [if_pos (Int32.not_le.mp c50)] at h
        refine x_aload_n (pc' := 54) rfl rfl rfl ?_
        refine x_bipush (pc' := 56) rfl rfl bipush_m6 ?_
        refine x_cV1i (d := 1) (pc' := 59) rfl rfl sX6_110 gX6_refuse (hM.1) ⟨Nat.le_of_ble_eq_true rfl, Nat.le_of_ble_eq_true rfl⟩ (Nat.le_of_ble_eq_true rfl) ⟨Nat.le_of_ble_eq_true rfl, Nat.le_of_ble_eq_true rfl⟩ ?_
        refine r_refuse (k := 5) (by decide) (by decide) hM hA (fun f1 M1 hM1 hA1 hF1 => ⟨_, rfl, ?_⟩)
        exact x_ireturn rfl rfl rfl (Nat.le_of_ble_eq_true rfl) (Nat.le_of_ble_eq_true rfl) (h _ _ hM1 hA1 hF1)
    · rw [if_pos (Int32.not_le.mp c29)] at h
      refine x_aload_n (pc' := 33) rfl rfl rfl ?_
      refine x_bipush (pc' := 35) rfl rfl bipush_m4 ?_
      refine x_cV1i (d := 1) (pc' := 38) rfl rfl sX6_110 gX6_refuse (hM.1) ⟨Nat.le_of_ble_eq_true rfl, Nat.le_of_ble_eq_true rfl⟩ (Nat.le_of_ble_eq_true rfl) ⟨Nat.le_of_ble_eq_true rfl, Nat.le_of_ble_eq_true rfl⟩ ?_
      refine r_refuse (k := 3) (by decide) (by decide) hM hA (fun f1 M1 hM1 hA1 hF1 => ⟨_, rfl, ?_⟩)
      exact x_ireturn rfl rfl rfl (Nat.le_of_ble_eq_true rfl) (Nat.le_of_ble_eq_true rfl) (h _ _ hM1 hA1 hF1)
  · rw [s_set1] at h
    refine x_iload_n (pc' := 1) rfl rfl rfl ?_
    refine x_i2l (pc' := 2) rfl rfl ?_
    refine x_lconst (pc' := 3) rfl rfl lconst_0 ?_
    refine x_ldc2 (pc' := 6) rfl rfl rfl ?_
    refine x_cS3i (d := 1) (pc' := 9) rfl rfl sX6_63 gX6_in ⟨Nat.le_of_ble_eq_true rfl, Nat.le_of_ble_eq_true rfl⟩ (Nat.le_of_ble_eq_true rfl) ⟨Nat.le_of_ble_eq_true rfl, Nat.le_of_ble_eq_true rfl⟩ ?_
    refine r_in (lo := 0) (hi := 2) (by decide) (by decide) (fun _ => ⟨_, rfl, ?_⟩) (fun q => absurd q d0)
    refine x_if_ne (tgt := 19) (pc' := 12) rfl rfl rfl (fun _ => ?_) (fun c9 => absurd c9 ((by decide)))
    refine x_iload_n (pc' := 20) rfl rfl rfl ?_
    refine x_iload_n (pc' := 21) rfl rfl rfl ?_
    refine x_if_ne (tgt := 28) (pc' := 24) rfl rfl rfl (fun _ => ?_) (fun c21 => absurd c21 ((by decide)))
    refine x_iconst (pc' := 29) rfl rfl iconst_0 ?_
    refine x_icmp_ge (tgt := 39) (pc' := 32) rfl rfl rfl (fun c29 => ?_) (fun c29 => ?_)
    · have d2 : ¬ b < 0 := Int32.not_lt.mpr c29
      rw [if_neg d2] at h
      refine x_iload_n (pc' := 40) rfl rfl rfl ?_
      refine x_iload_n (pc' := 41) rfl rfl rfl ?_
      refine x_if_ne (tgt := 49) (pc' := 44) rfl rfl rfl (fun _ => ?_) (fun c41 => absurd c41 ((by decide)))
      refine x_iconst (pc' := 50) rfl rfl iconst_1 ?_
      refine x_icmp_le (tgt := 60) (pc' := 53) rfl rfl rfl (fun c50 => ?_) (fun c50 => ?_)
      · rw [if_neg (Int32.not_lt.mpr c50)] at h
        refine x_iload_n (pc' := 61) rfl rfl rfl ?_
        refine x_if_ne (tgt := 71) (pc' := 64) rfl rfl rfl (fun _ => ?_) (fun c61 => absurd c61 ((by decide)))
        refine x_iload_n (pc' := 72) rfl rfl rfl ?_
        refine x_iconst (pc' := 73) rfl rfl iconst_1 ?_
        refine x_icmp_ne (tgt := 83) (pc' := 76) rfl rfl rfl (fun c73 => absurd (rfl) c73) (fun _ => ?_)
        refine x_aload_n (pc' := 77) rfl rfl rfl ?_
        refine x_get (pc' := 80) rfl rfl rfl (hM.1) rfl ?_
        refine x_eqi t6 ?_
        obtain ⟨kb, hkb, rfl⟩ := nI_of d2
        refine x_goto (tgt := 87) rfl rfl ?_
        refine x_istore_n (pc' := 88) (lv' := [(3, _), (0, _), (1, _), (2, _)]) rfl rfl (Nat.le_of_ble_eq_true rfl) rfl ?_
        refine x_iload_n (pc' := 89) rfl rfl rfl ?_
        refine x_if_ne (tgt := 100) (pc' := 92) rfl rfl rfl (fun _ => ?_) (fun c89 => absurd c89 ((by decide)))
        refine x_iload_n (pc' := 101) rfl rfl rfl ?_
        refine x_iconst (pc' := 102) rfl rfl iconst_1 ?_
        refine x_icmp_ne (tgt := 113) (pc' := 105) rfl rfl rfl (fun c102 => absurd (rfl) c102) (fun _ => ?_)
        refine x_aload_n (pc' := 106) rfl rfl rfl ?_
        refine x_iload_n (pc' := 107) rfl rfl rfl ?_
        refine x_put (pc' := 110) rfl rfl rfl (hM.1) (Nat.le_of_ble_eq_true rfl) rfl rfl rfl rfl (fun f1 e1 => ?_)
        have hM1 := hM.num 5 e1 (x_mFs5 _ _)
        have hF1 := r_fr0 e1 (by decide)
        refine x_goto (tgt := 118) rfl rfl ?_
        refine x_iload_n (pc' := 119) rfl rfl rfl ?_
        exact x_ireturn rfl rfl rfl (Nat.le_of_ble_eq_true rfl) (Nat.le_of_ble_eq_true rfl) (h _ _ hM1 ⟨⟨t1, t2, t3, t4, t5, by show nI kb = nI (nI kb).toNatClampNeg; rw [nI_clamp hkb], t7⟩, b2, b3, b4.eq (fun i hi => pk_un (by omega)) rfl rfl, b5, b6, b7, b8, b9⟩ hF1)
      · rw [if_pos (Int32.not_le.mp c50)] at h
        refine x_aload_n (pc' := 54) rfl rfl rfl ?_
        refine x_bipush (pc' := 56) rfl rfl bipush_m6 ?_
        refine x_cV1i (d := 1) (pc' := 59) rfl rfl sX6_110 gX6_refuse (hM.1) ⟨Nat.le_of_ble_eq_true rfl, Nat.le_of_ble_eq_true rfl⟩ (Nat.le_of_ble_eq_true rfl) ⟨Nat.le_of_ble_eq_true rfl, Nat.le_of_ble_eq_true rfl⟩ ?_
        refine r_refuse (k := 5) (by decide) (by decide) hM hA (fun f1 M1 hM1 hA1 hF1 => ⟨_, rfl, ?_⟩)
        exact x_ireturn rfl rfl rfl (Nat.le_of_ble_eq_true rfl) (Nat.le_of_ble_eq_true rfl) (h _ _ hM1 hA1 hF1)
    · rw [if_pos (Int32.not_le.mp c29)] at h
      refine x_aload_n (pc' := 33) rfl rfl rfl ?_
      refine x_bipush (pc' := 35) rfl rfl bipush_m4 ?_
      refine x_cV1i (d := 1) (pc' := 38) rfl rfl sX6_110 gX6_refuse (hM.1) ⟨Nat.le_of_ble_eq_true rfl, Nat.le_of_ble_eq_true rfl⟩ (Nat.le_of_ble_eq_true rfl) ⟨Nat.le_of_ble_eq_true rfl, Nat.le_of_ble_eq_true rfl⟩ ?_
      refine r_refuse (k := 3) (by decide) (by decide) hM hA (fun f1 M1 hM1 hA1 hF1 => ⟨_, rfl, ?_⟩)
      exact x_ireturn rfl rfl rfl (Nat.le_of_ble_eq_true rfl) (Nat.le_of_ble_eq_true rfl) (h _ _ hM1 hA1 hF1)
  · rw [s_set2] at h
    refine x_iload_n (pc' := 1) rfl rfl rfl ?_
    refine x_i2l (pc' := 2) rfl rfl ?_
    refine x_lconst (pc' := 3) rfl rfl lconst_0 ?_
    refine x_ldc2 (pc' := 6) rfl rfl rfl ?_
    refine x_cS3i (d := 1) (pc' := 9) rfl rfl sX6_63 gX6_in ⟨Nat.le_of_ble_eq_true rfl, Nat.le_of_ble_eq_true rfl⟩ (Nat.le_of_ble_eq_true rfl) ⟨Nat.le_of_ble_eq_true rfl, Nat.le_of_ble_eq_true rfl⟩ ?_
    refine r_in (lo := 0) (hi := 2) (by decide) (by decide) (fun _ => ⟨_, rfl, ?_⟩) (fun q => absurd q d0)
    refine x_if_ne (tgt := 19) (pc' := 12) rfl rfl rfl (fun _ => ?_) (fun c9 => absurd c9 ((by decide)))
    refine x_iload_n (pc' := 20) rfl rfl rfl ?_
    refine x_iload_n (pc' := 21) rfl rfl rfl ?_
    refine x_if_ne (tgt := 28) (pc' := 24) rfl rfl rfl (fun _ => ?_) (fun c21 => absurd c21 ((by decide)))
    refine x_iconst (pc' := 29) rfl rfl iconst_0 ?_
    refine x_icmp_ge (tgt := 39) (pc' := 32) rfl rfl rfl (fun c29 => ?_) (fun c29 => ?_)
    · have d2 : ¬ b < 0 := Int32.not_lt.mpr c29
      rw [if_neg d2] at h
      refine x_iload_n (pc' := 40) rfl rfl rfl ?_
      refine x_iload_n (pc' := 41) rfl rfl rfl ?_
      refine x_if_ne (tgt := 49) (pc' := 44) rfl rfl rfl (fun _ => ?_) (fun c41 => absurd c41 ((by decide)))
      refine x_iconst (pc' := 50) rfl rfl iconst_1 ?_
      refine x_icmp_le (tgt := 60) (pc' := 53) rfl rfl rfl (fun c50 => ?_) (fun c50 => ?_)
      · rw [if_neg (Int32.not_lt.mpr c50)] at h
        refine x_iload_n (pc' := 61) rfl rfl rfl ?_
        refine x_if_ne (tgt := 71) (pc' := 64) rfl rfl rfl (fun _ => ?_) (fun c61 => absurd c61 ((by decide)))
        refine x_iload_n (pc' := 72) rfl rfl rfl ?_
        refine x_iconst (pc' := 73) rfl rfl iconst_1 ?_
        refine x_icmp_ne (tgt := 83) (pc' := 76) rfl rfl rfl (fun _ => ?_) (fun c73 => absurd c73 ((by decide)))
        refine x_aload_n (pc' := 84) rfl rfl rfl ?_
        refine x_get (pc' := 87) rfl rfl rfl (hM.1) rfl ?_
        refine x_eqi t7 ?_
        obtain ⟨kb, hkb, rfl⟩ := nI_of d2
        refine x_istore_n (pc' := 88) (lv' := [(3, _), (0, _), (1, _), (2, _)]) rfl rfl (Nat.le_of_ble_eq_true rfl) rfl ?_
        refine x_iload_n (pc' := 89) rfl rfl rfl ?_
        refine x_if_ne (tgt := 100) (pc' := 92) rfl rfl rfl (fun _ => ?_) (fun c89 => absurd c89 ((by decide)))
        refine x_iload_n (pc' := 101) rfl rfl rfl ?_
        refine x_iconst (pc' := 102) rfl rfl iconst_1 ?_
        refine x_icmp_ne (tgt := 113) (pc' := 105) rfl rfl rfl (fun _ => ?_) (fun c102 => absurd c102 ((by decide)))
        refine x_aload_n (pc' := 114) rfl rfl rfl ?_
        refine x_iload_n (pc' := 115) rfl rfl rfl ?_
        refine x_put (pc' := 118) rfl rfl rfl (hM.1) (Nat.le_of_ble_eq_true rfl) rfl rfl rfl rfl (fun f1 e1 => ?_)
        have hM1 := hM.num 7 e1 (x_mFs7 _ _)
        have hF1 := r_fr0 e1 (by decide)
        refine x_iload_n (pc' := 119) rfl rfl rfl ?_
        exact x_ireturn rfl rfl rfl (Nat.le_of_ble_eq_true rfl) (Nat.le_of_ble_eq_true rfl) (h _ _ hM1 ⟨⟨t1, t2, t3, t4, t5, t6, by show nI kb = nI (nI kb).toNatClampNeg; rw [nI_clamp hkb]⟩, b2, b3, b4.eq (fun i hi => pk_un (by omega)) rfl rfl, b5, b6, b7, b8, b9⟩ hF1)
      · rw [if_pos (Int32.not_le.mp c50)] at h
        refine x_aload_n (pc' := 54) rfl rfl rfl ?_
        refine x_bipush (pc' := 56) rfl rfl bipush_m6 ?_
        refine x_cV1i (d := 1) (pc' := 59) rfl rfl sX6_110 gX6_refuse (hM.1) ⟨Nat.le_of_ble_eq_true rfl, Nat.le_of_ble_eq_true rfl⟩ (Nat.le_of_ble_eq_true rfl) ⟨Nat.le_of_ble_eq_true rfl, Nat.le_of_ble_eq_true rfl⟩ ?_
        refine r_refuse (k := 5) (by decide) (by decide) hM hA (fun f1 M1 hM1 hA1 hF1 => ⟨_, rfl, ?_⟩)
        exact x_ireturn rfl rfl rfl (Nat.le_of_ble_eq_true rfl) (Nat.le_of_ble_eq_true rfl) (h _ _ hM1 hA1 hF1)
    · rw [if_pos (Int32.not_le.mp c29)] at h
      refine x_aload_n (pc' := 33) rfl rfl rfl ?_
      refine x_bipush (pc' := 35) rfl rfl bipush_m4 ?_
      refine x_cV1i (d := 1) (pc' := 38) rfl rfl sX6_110 gX6_refuse (hM.1) ⟨Nat.le_of_ble_eq_true rfl, Nat.le_of_ble_eq_true rfl⟩ (Nat.le_of_ble_eq_true rfl) ⟨Nat.le_of_ble_eq_true rfl, Nat.le_of_ble_eq_true rfl⟩ ?_
      refine r_refuse (k := 3) (by decide) (by decide) hM hA (fun f1 M1 hM1 hA1 hF1 => ⟨_, rfl, ?_⟩)
      exact x_ireturn rfl rfl rfl (Nat.le_of_ble_eq_true rfl) (Nat.le_of_ble_eq_true rfl) (h _ _ hM1 hA1 hF1)
theorem r_bowlQ (hM : x_Mdl z f M) (hA : r_is M A) (ho : a_ok A) (h : r_ends z f post (s_bowl A a b)) : Y E 9 mX6_bowl [.ref 59, .int a, .int b] z f 0 0 post := by
  refine Y.intro gX6_bowl (lv := [(0, .ref 59), (1, .int a), (2, .int b)]) rfl (Nat.le_of_ble_eq_true rfl) ?_
  obtain ⟨t1, t2, t3, t4, t5, t6, t7⟩ := id hA.1
  obtain ⟨o1, o2, o3, o4, o5, o6, o7, o8, o9⟩ := id ho.1
  by_cases d1 : q_in (g_n (a_g A)) a
  · obtain ⟨k, hk, hk2, rfl, hcl⟩ := q_in_k d1
    have hv9 : vp_in (nI k) 9 := vp_in_nI (by omega) (by decide)
    have hκ5 := o5 k
    have eκ : M.2.1 0 (nI k).toNatClampNeg = nI (g_κ (a_g A) k) := by rw [hcl, t1]
    rw [show s_bowl A (nI k) b = _ from if_pos d1, hcl] at h
    by_cases e9 : b < 0 ∨ 3 < b
    · have hb0 : ¬ b = 0 := fun q => by rw [q] at e9; exact absurd e9 (by decide)
      have hb1 : ¬ b = 1 := fun q => by rw [q] at e9; exact absurd e9 (by decide)
      have hb2 : ¬ b = 2 := fun q => by rw [q] at e9; exact absurd e9 (by decide)
      have hb3 : ¬ b = 3 := fun q => by rw [q] at e9; exact absurd e9 (by decide)
      rw [if_neg hb0, if_neg hb1, if_neg hb2, if_neg hb3] at h
      refine x_aload_n (pc' := 1) rfl rfl rfl ?_
      refine x_iload_n (pc' := 2) rfl rfl rfl ?_
      refine x_cV1i (d := 2) (pc' := 5) rfl rfl sX6_103 gX6_isBowl (hM.1) ⟨Nat.le_of_ble_eq_true rfl, Nat.le_of_ble_eq_true rfl⟩ (Nat.le_of_ble_eq_true rfl) ⟨Nat.le_of_ble_eq_true rfl, Nat.le_of_ble_eq_true rfl⟩ ?_
      refine r_bowl hM hA ho (fun _ => ⟨_, rfl, ?_⟩) (fun q => absurd d1 q)
      refine x_if_ne (tgt := 14) (pc' := 8) rfl rfl rfl (fun _ => ?_) (fun c5 => absurd c5 ((by decide)))
      refine x_iload_n (pc' := 15) rfl rfl rfl ?_
      refine x_i2l (pc' := 16) rfl rfl ?_
      refine x_lconst (pc' := 17) rfl rfl lconst_0 ?_
      refine x_ldc2 (pc' := 20) rfl rfl rfl ?_
      refine x_cS3i (d := 1) (pc' := 23) rfl rfl sX6_63 gX6_in ⟨Nat.le_of_ble_eq_true rfl, Nat.le_of_ble_eq_true rfl⟩ (Nat.le_of_ble_eq_true rfl) ⟨Nat.le_of_ble_eq_true rfl, Nat.le_of_ble_eq_true rfl⟩ ?_
      refine r_in (lo := 0) (hi := 3) (by decide) (by decide) (fun q => absurd e9 q) (fun _ => ⟨_, rfl, ?_⟩)
      refine x_if_ne (tgt := 33) (pc' := 26) rfl rfl rfl (fun c23 => absurd (rfl) c23) (fun _ => ?_)
      refine x_aload_n (pc' := 27) rfl rfl rfl ?_
      refine x_bipush (pc' := 29) rfl rfl bipush_m2 ?_
      refine x_cV1i (d := 1) (pc' := 32) rfl rfl sX6_110 gX6_refuse (hM.1) ⟨Nat.le_of_ble_eq_true rfl, Nat.le_of_ble_eq_true rfl⟩ (Nat.le_of_ble_eq_true rfl) ⟨Nat.le_of_ble_eq_true rfl, Nat.le_of_ble_eq_true rfl⟩ ?_
      refine r_refuse (k := 1) (by decide) (by decide) hM hA (fun f1 M1 hM1 hA1 hF1 => ⟨_, rfl, ?_⟩)
      exact x_ireturn rfl rfl rfl (Nat.le_of_ble_eq_true rfl) (Nat.le_of_ble_eq_true rfl) (h _ _ hM1 hA1 hF1)
    obtain ⟨kb, hkb, rfl⟩ := nI_of2 (n := 3) (M := 3) rfl (fun q => e9 (Or.inl q)) (Int32.not_lt.mp (fun q => e9 (Or.inr q)))
    have hkb4 : kb = 0 ∨ kb = 1 ∨ kb = 2 ∨ kb = 3 := by omega
    have hq : q_from (g_κ (a_g A) k) (g_f (a_g A)) ≤ 100 := by
      unfold q_from
      repeat' split
      all_goals omega
    refine x_aload_n (pc' := 1) rfl rfl rfl ?_
    refine x_iload_n (pc' := 2) rfl rfl rfl ?_
    refine x_cV1i (d := 2) (pc' := 5) rfl rfl sX6_103 gX6_isBowl (hM.1) ⟨Nat.le_of_ble_eq_true rfl, Nat.le_of_ble_eq_true rfl⟩ (Nat.le_of_ble_eq_true rfl) ⟨Nat.le_of_ble_eq_true rfl, Nat.le_of_ble_eq_true rfl⟩ ?_
    refine r_bowl hM hA ho (fun _ => ⟨_, rfl, ?_⟩) (fun q => absurd d1 q)
    refine x_if_ne (tgt := 14) (pc' := 8) rfl rfl rfl (fun _ => ?_) (fun c5 => absurd c5 ((by decide)))
    refine x_iload_n (pc' := 15) rfl rfl rfl ?_
    refine x_i2l (pc' := 16) rfl rfl ?_
    refine x_lconst (pc' := 17) rfl rfl lconst_0 ?_
    refine x_ldc2 (pc' := 20) rfl rfl rfl ?_
    refine x_cS3i (d := 1) (pc' := 23) rfl rfl sX6_63 gX6_in ⟨Nat.le_of_ble_eq_true rfl, Nat.le_of_ble_eq_true rfl⟩ (Nat.le_of_ble_eq_true rfl) ⟨Nat.le_of_ble_eq_true rfl, Nat.le_of_ble_eq_true rfl⟩ ?_
    refine r_in (lo := 0) (hi := 3) (by decide) (by decide) (fun _ => ⟨_, rfl, ?_⟩) (fun q => absurd q e9)
    refine x_if_ne (tgt := 33) (pc' := 26) rfl rfl rfl (fun _ => ?_) (fun c23 => absurd c23 ((by decide)))
    refine x_aload_n (pc' := 34) rfl rfl rfl ?_
    refine x_aload_n (pc' := 35) rfl rfl rfl ?_
    refine x_get (pc' := 38) rfl rfl rfl (hM.1) rfl ?_
    refine x_iload_n (pc' := 39) rfl rfl rfl ?_
    refine x_iaload (pc' := 40) rfl rfl (hM.2.1 0 (by decide)) (hv9) ?_
    refine x_eqi eκ ?_
    refine x_cV1i (d := 1) (pc' := 43) rfl rfl sX6_93 gX6_soundsFrom (hM.1) ⟨Nat.le_of_ble_eq_true rfl, Nat.le_of_ble_eq_true rfl⟩ (Nat.le_of_ble_eq_true rfl) ⟨Nat.le_of_ble_eq_true rfl, Nat.le_of_ble_eq_true rfl⟩ ?_
    refine m_sounds1 hM t5 (by omega) hκ5 ⟨_, rfl, ?_⟩
    refine x_istore_n (pc' := 44) (lv' := [(3, _), (0, _), (1, _), (2, _)]) rfl rfl (Nat.le_of_ble_eq_true rfl) rfl ?_
    rcases hkb4 with rfl | rfl | rfl | rfl
    · rw [if_pos (by decide)] at h
      refine x_iload_n (pc' := 45) rfl rfl rfl ?_
      refine x_if_ne (tgt := 57) (pc' := 48) rfl rfl rfl (fun c45 => absurd (rfl) c45) (fun _ => ?_)
      refine x_aload_n (pc' := 49) rfl rfl rfl ?_
      refine x_get (pc' := 52) rfl rfl rfl (hM.1) rfl ?_
      refine x_iload_n (pc' := 53) rfl rfl rfl ?_
      refine x_iaload (pc' := 54) rfl rfl (hM.2.1 0 (by decide)) (hv9) ?_
      refine x_eqi eκ ?_
      refine x_goto (tgt := 105) rfl rfl ?_
      exact x_ireturn rfl rfl rfl (Nat.le_of_ble_eq_true rfl) (Nat.le_of_ble_eq_true rfl) (h _ _ hM hA x_fr.rf)
    · rw [if_neg (by decide), if_pos (by decide)] at h
      refine x_iload_n (pc' := 45) rfl rfl rfl ?_
      refine x_if_ne (tgt := 57) (pc' := 48) rfl rfl rfl (fun _ => ?_) (fun c45 => absurd c45 ((by decide)))
      refine x_iload_n (pc' := 58) rfl rfl rfl ?_
      refine x_iconst (pc' := 59) rfl rfl iconst_1 ?_
      refine x_icmp_ne (tgt := 71) (pc' := 62) rfl rfl rfl (fun c59 => absurd (rfl) c59) (fun _ => ?_)
      refine x_aload_n (pc' := 63) rfl rfl rfl ?_
      refine x_get (pc' := 66) rfl rfl rfl (hM.1) rfl ?_
      refine x_iload_n (pc' := 67) rfl rfl rfl ?_
      refine x_iaload (pc' := 68) rfl rfl (hM.2.1 1 (by decide)) (hv9) ?_
      refine x_eqi (show M.2.1 1 (nI k).toNatClampNeg = nI (g_β (a_g A) k) from by rw [hcl, t2]) ?_
      refine x_goto (tgt := 105) rfl rfl ?_
      exact x_ireturn rfl rfl rfl (Nat.le_of_ble_eq_true rfl) (Nat.le_of_ble_eq_true rfl) (h _ _ hM hA x_fr.rf)
    · rw [if_neg (by decide), if_neg (by decide), if_pos (by decide)] at h
      refine x_iload_n (pc' := 45) rfl rfl rfl ?_
      refine x_if_ne (tgt := 57) (pc' := 48) rfl rfl rfl (fun _ => ?_) (fun c45 => absurd c45 ((by decide)))
      refine x_iload_n (pc' := 58) rfl rfl rfl ?_
      refine x_iconst (pc' := 59) rfl rfl iconst_1 ?_
      refine x_icmp_ne (tgt := 71) (pc' := 62) rfl rfl rfl (fun _ => ?_) (fun c59 => absurd c59 ((by decide)))
      refine x_iload_n (pc' := 72) rfl rfl rfl ?_
      refine x_iconst (pc' := 73) rfl rfl iconst_2 ?_
      refine x_icmp_ne (tgt := 92) (pc' := 76) rfl rfl rfl (fun c73 => absurd (rfl) c73) (fun _ => ?_)
      refine x_iload_n (pc' := 77) rfl rfl rfl ?_
      refine x_sipush (pc' := 80) rfl rfl sipush_1000 ?_
      by_cases d2 : g_κ (a_g A) k = 2
      · rw [if_pos d2] at h
        rw [if_pos d2]
        refine x_icmp_ne (tgt := 88) (pc' := 83) rfl rfl rfl (fun q => absurd rfl q) (fun _ => ?_)
        refine x_bipush (pc' := 85) rfl rfl bipush_m9 ?_
        refine x_goto (tgt := 105) rfl rfl ?_
        exact x_ireturn rfl rfl rfl (Nat.le_of_ble_eq_true rfl) (Nat.le_of_ble_eq_true rfl) (h _ _ hM hA x_fr.rf)
      · rw [if_neg d2] at h
        rw [if_neg d2]
        refine x_icmp_ne (tgt := 88) (pc' := 83) rfl rfl rfl (fun _ => ?_) (fun q => absurd ((nI_eq (b := 1000) (by omega) (by decide)).mp q) (by omega))
        refine x_iload_n (pc' := 89) rfl rfl rfl ?_
        refine x_goto (tgt := 105) rfl rfl ?_
        exact x_ireturn rfl rfl rfl (Nat.le_of_ble_eq_true rfl) (Nat.le_of_ble_eq_true rfl) (h _ _ hM hA x_fr.rf)
    · rw [if_neg (by decide), if_neg (by decide), if_neg (by decide), if_pos (by decide)] at h
      refine x_iload_n (pc' := 45) rfl rfl rfl ?_
      refine x_if_ne (tgt := 57) (pc' := 48) rfl rfl rfl (fun _ => ?_) (fun c45 => absurd c45 ((by decide)))
      refine x_iload_n (pc' := 58) rfl rfl rfl ?_
      refine x_iconst (pc' := 59) rfl rfl iconst_1 ?_
      refine x_icmp_ne (tgt := 71) (pc' := 62) rfl rfl rfl (fun _ => ?_) (fun c59 => absurd c59 ((by decide)))
      refine x_iload_n (pc' := 72) rfl rfl rfl ?_
      refine x_iconst (pc' := 73) rfl rfl iconst_2 ?_
      refine x_icmp_ne (tgt := 92) (pc' := 76) rfl rfl rfl (fun _ => ?_) (fun c73 => absurd c73 ((by decide)))
      refine x_aload_n (pc' := 93) rfl rfl rfl ?_
      refine x_iload_n (pc' := 94) rfl rfl rfl ?_
      refine x_cV1i (d := 1) (pc' := 97) rfl rfl sX6_74 gX6_takes (hM.1) ⟨Nat.le_of_ble_eq_true rfl, Nat.le_of_ble_eq_true rfl⟩ (Nat.le_of_ble_eq_true rfl) ⟨Nat.le_of_ble_eq_true rfl, Nat.le_of_ble_eq_true rfl⟩ ?_
      refine m_takes (n := g_n (a_g A)) hM o1 t5 (by omega) t1 t2 o5 (fun i => Nat.le_trans (o6 i) (by decide)) hk (fun d4 => ⟨_, rfl, ?_⟩) (fun d4 => ⟨_, rfl, ?_⟩)
      · rw [if_pos d4] at h
        refine x_if_eq (tgt := 104) (pc' := 100) rfl rfl rfl (fun c97 => absurd c97 ((by decide))) (fun _ => ?_)
        refine x_iconst (pc' := 101) rfl rfl iconst_1 ?_
        refine x_goto (tgt := 105) rfl rfl ?_
        exact x_ireturn rfl rfl rfl (Nat.le_of_ble_eq_true rfl) (Nat.le_of_ble_eq_true rfl) (h _ _ hM hA x_fr.rf)
      · rw [if_neg d4] at h
        refine x_if_eq (tgt := 104) (pc' := 100) rfl rfl rfl (fun _ => ?_) (fun c97 => absurd (rfl) c97)
        refine x_iconst (pc' := 105) rfl rfl iconst_0 ?_
        exact x_ireturn rfl rfl rfl (Nat.le_of_ble_eq_true rfl) (Nat.le_of_ble_eq_true rfl) (h _ _ hM hA x_fr.rf)
  · rw [show s_bowl A a b = _ from if_neg d1] at h
    refine x_aload_n (pc' := 1) rfl rfl rfl ?_
    refine x_iload_n (pc' := 2) rfl rfl rfl ?_
    refine x_cV1i (d := 2) (pc' := 5) rfl rfl sX6_103 gX6_isBowl (hM.1) ⟨Nat.le_of_ble_eq_true rfl, Nat.le_of_ble_eq_true rfl⟩ (Nat.le_of_ble_eq_true rfl) ⟨Nat.le_of_ble_eq_true rfl, Nat.le_of_ble_eq_true rfl⟩ ?_
    refine r_bowl hM hA ho (fun q => absurd q d1) (fun _ => ⟨_, rfl, ?_⟩)
    refine x_if_ne (tgt := 14) (pc' := 8) rfl rfl rfl (fun c5 => absurd (rfl) c5) (fun _ => ?_)
    refine x_aload_n (pc' := 9) rfl rfl rfl ?_
    refine x_iconst (pc' := 10) rfl rfl iconst_m1 ?_
    refine x_cV1i (d := 1) (pc' := 13) rfl rfl sX6_110 gX6_refuse (hM.1) ⟨Nat.le_of_ble_eq_true rfl, Nat.le_of_ble_eq_true rfl⟩ (Nat.le_of_ble_eq_true rfl) ⟨Nat.le_of_ble_eq_true rfl, Nat.le_of_ble_eq_true rfl⟩ ?_
    refine r_refuse (k := 0) (by decide) (by decide) hM hA (fun f1 M1 hM1 hA1 hF1 => ⟨_, rfl, ?_⟩)
    exact x_ireturn rfl rfl rfl (Nat.le_of_ble_eq_true rfl) (Nat.le_of_ble_eq_true rfl) (h _ _ hM1 hA1 hF1)
theorem r_move (hM : x_Mdl z f M) (hA : r_is M A) (ho : a_ok A) (h : r_ends z f post (s_move A a)) : Y E 9 mX6_move [.ref 59, .int a] z f 0 0 post := by
  refine Y.intro gX6_move (lv := [(0, .ref 59), (1, .int a)]) rfl (Nat.le_of_ble_eq_true rfl) ?_
  obtain ⟨b1, b2, b3, b4, b5, b6, b7, b8, b9⟩ := id hA
  have hmv := ho.2.1
  by_cases d1 : q_in (g_n (a_g A)) a
  · obtain ⟨k, hk, hk2, rfl, hcl⟩ := q_in_k d1
    rw [show s_move A (nI k) = _ from if_pos d1, hcl] at h
    refine x_aload_n (pc' := 1) rfl rfl rfl ?_
    refine x_iload_n (pc' := 2) rfl rfl rfl ?_
    refine x_cV1i (d := 2) (pc' := 5) rfl rfl sX6_103 gX6_isBowl (hM.1) ⟨Nat.le_of_ble_eq_true rfl, Nat.le_of_ble_eq_true rfl⟩ (Nat.le_of_ble_eq_true rfl) ⟨Nat.le_of_ble_eq_true rfl, Nat.le_of_ble_eq_true rfl⟩ ?_
    refine r_bowl hM hA ho (fun _ => ⟨_, rfl, ?_⟩) (fun q => absurd d1 q)
    refine x_if_ne (tgt := 14) (pc' := 8) rfl rfl rfl (fun _ => ?_) (fun c5 => absurd c5 ((by decide)))
    refine x_aload_n (pc' := 15) rfl rfl rfl ?_
    refine x_iload_n (pc' := 16) rfl rfl rfl ?_
    refine x_cV1i (d := 3) (pc' := 19) rfl rfl sX6_135 gX6_canMove (hM.1) ⟨Nat.le_of_ble_eq_true rfl, Nat.le_of_ble_eq_true rfl⟩ (Nat.le_of_ble_eq_true rfl) ⟨Nat.le_of_ble_eq_true rfl, Nat.le_of_ble_eq_true rfl⟩ ?_
    refine m_can1 hM b1 ho.1 (by decide) hk2 (fun d2 => ⟨_, rfl, ?_⟩) (fun d2 => ⟨_, rfl, ?_⟩)
    · rw [if_pos ⟨d2.1, d2.2.2⟩] at h
      refine x_if_ne (tgt := 29) (pc' := 22) rfl rfl rfl (fun _ => ?_) (fun c19 => absurd c19 ((by decide)))
      refine x_aload_n (pc' := 30) rfl rfl rfl ?_
      refine x_get (pc' := 33) rfl rfl rfl (hM.1) rfl ?_
      refine x_eqi b2 ?_
      refine x_sipush (pc' := 36) rfl rfl sipush_999 ?_
      by_cases d3 : a_mv A = 999
      · rw [if_pos d3] at h
        refine x_icmp_ne (tgt := 46) (pc' := 39) rfl rfl rfl (fun q => absurd (show nI (a_mv A) = 999 by rw [d3]; rfl) q) (fun _ => ?_)
        refine x_aload_n (pc' := 40) rfl rfl rfl ?_
        refine x_bipush (pc' := 42) rfl rfl bipush_m6 ?_
        refine x_cV1i (d := 1) (pc' := 45) rfl rfl sX6_110 gX6_refuse (hM.1) ⟨Nat.le_of_ble_eq_true rfl, Nat.le_of_ble_eq_true rfl⟩ (Nat.le_of_ble_eq_true rfl) ⟨Nat.le_of_ble_eq_true rfl, Nat.le_of_ble_eq_true rfl⟩ ?_
        refine r_refuse (k := 5) (by decide) (by decide) hM hA (fun f1 M1 hM1 hA1 hF1 => ⟨_, rfl, ?_⟩)
        exact x_ireturn rfl rfl rfl (Nat.le_of_ble_eq_true rfl) (Nat.le_of_ble_eq_true rfl) (h _ _ hM1 hA1 hF1)
      · rw [if_neg d3] at h
        refine x_icmp_ne (tgt := 46) (pc' := 39) rfl rfl rfl (fun _ => ?_) (fun q => absurd ((nI_eq (a := a_mv A) (b := 999) (by omega) (by decide)).mp q) d3)
        refine x_aload_n (pc' := 47) rfl rfl rfl ?_
        refine x_iload_n (pc' := 48) rfl rfl rfl ?_
        refine x_cV1v (d := 4) (pc' := 51) rfl rfl sX6_141 gX6_moves (hM.1) ⟨Nat.le_of_ble_eq_true rfl, Nat.le_of_ble_eq_true rfl⟩ (Nat.le_of_ble_eq_true rfl) ⟨Nat.le_of_ble_eq_true rfl, Nat.le_of_ble_eq_true rfl⟩ ?_
        refine m_mv hM b1 ho.1 (by decide) d2 b3 (fun f1 M1 hM1 g1 k1 e14 e15 e16 e17 hF1 => ⟨rfl, ?_⟩)
        refine x_aload_n (pc' := 52) rfl rfl rfl ?_
        refine x_dup (pc' := 53) rfl rfl rfl ?_
        refine x_get (pc' := 56) rfl rfl rfl (hM1.1) rfl ?_
        refine x_eqi ((k1.2.2 8 (by decide) (by decide) (by decide) (by decide) (by decide)).trans b2) ?_
        refine x_iconst (pc' := 57) rfl rfl iconst_1 ?_
        refine x_iadd (pc' := 58) rfl rfl ?_
        refine x_eqi (nI_1 _) ?_
        refine x_put (pc' := 61) rfl rfl rfl (hM1.1) (Nat.le_of_ble_eq_true rfl) rfl rfl rfl rfl (fun f1 e1 => ?_)
        have hM2 := hM1.num 8 e1 (x_mFs8 _ _)
        have hF2 := hF1.up e1 (by decide)
        refine x_aload_n (pc' := 62) rfl rfl rfl ?_
        refine x_get (pc' := 65) rfl rfl rfl (hM2.1) rfl ?_
        refine x_eqi e17 ?_
        obtain ⟨c1, c2, c3, c4, c5, c6, c7, c8, c9⟩ := hA.sc (r_sc.rf) b1
        refine x_ireturn rfl rfl rfl (Nat.le_refl _) (Nat.le_refl _) (h _ _ hM2 ⟨g1, rfl, (k1.sc.1 18 (by omega)).trans b3, ?_, (k1.sc.1 11 (by omega)).trans b5, (k1.sc.2 4 (by omega)).trans b6, (k1.sc.1 13 (by omega)).trans b7, (k1.sc.2 5 (by omega)).trans b8, (k1.sc.2 3 (by omega)).trans b9⟩ hF2)
        exact b4.eq (fun i hi => (pk_un (by omega)).trans (k1.sc.1 i (by omega))) (k1.sc.2 9 (by omega)) (k1.sc.2 10 (by omega))
    · rw [if_neg (fun q => d2 ⟨q.1, hk, q.2⟩)] at h
      refine x_if_ne (tgt := 29) (pc' := 22) rfl rfl rfl (fun c19 => absurd (rfl) c19) (fun _ => ?_)
      refine x_aload_n (pc' := 23) rfl rfl rfl ?_
      refine x_bipush (pc' := 25) rfl rfl bipush_m3 ?_
      refine x_cV1i (d := 1) (pc' := 28) rfl rfl sX6_110 gX6_refuse (hM.1) ⟨Nat.le_of_ble_eq_true rfl, Nat.le_of_ble_eq_true rfl⟩ (Nat.le_of_ble_eq_true rfl) ⟨Nat.le_of_ble_eq_true rfl, Nat.le_of_ble_eq_true rfl⟩ ?_
      refine r_refuse (k := 2) (by decide) (by decide) hM hA (fun f1 M1 hM1 hA1 hF1 => ⟨_, rfl, ?_⟩)
      exact x_ireturn rfl rfl rfl (Nat.le_of_ble_eq_true rfl) (Nat.le_of_ble_eq_true rfl) (h _ _ hM1 hA1 hF1)
  · rw [show s_move A a = _ from if_neg d1] at h
    refine x_aload_n (pc' := 1) rfl rfl rfl ?_
    refine x_iload_n (pc' := 2) rfl rfl rfl ?_
    refine x_cV1i (d := 2) (pc' := 5) rfl rfl sX6_103 gX6_isBowl (hM.1) ⟨Nat.le_of_ble_eq_true rfl, Nat.le_of_ble_eq_true rfl⟩ (Nat.le_of_ble_eq_true rfl) ⟨Nat.le_of_ble_eq_true rfl, Nat.le_of_ble_eq_true rfl⟩ ?_
    refine r_bowl hM hA ho (fun q => absurd q d1) (fun _ => ⟨_, rfl, ?_⟩)
    refine x_if_ne (tgt := 14) (pc' := 8) rfl rfl rfl (fun c5 => absurd (rfl) c5) (fun _ => ?_)
    refine x_aload_n (pc' := 9) rfl rfl rfl ?_
    refine x_iconst (pc' := 10) rfl rfl iconst_m1 ?_
    refine x_cV1i (d := 1) (pc' := 13) rfl rfl sX6_110 gX6_refuse (hM.1) ⟨Nat.le_of_ble_eq_true rfl, Nat.le_of_ble_eq_true rfl⟩ (Nat.le_of_ble_eq_true rfl) ⟨Nat.le_of_ble_eq_true rfl, Nat.le_of_ble_eq_true rfl⟩ ?_
    refine r_refuse (k := 0) (by decide) (by decide) hM hA (fun f1 M1 hM1 hA1 hF1 => ⟨_, rfl, ?_⟩)
    exact x_ireturn rfl rfl rfl (Nat.le_of_ble_eq_true rfl) (Nat.le_of_ble_eq_true rfl) (h _ _ hM1 hA1 hF1)
end RA
end
