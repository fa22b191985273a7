theorem x_k1 {w : Cond} (h : w ∈ tables_1_1) (gd : goodWord w = true) : w ∈ x_tb := x_tb_in (List.mem_append_right _ (List.mem_append_left _ h)) gd
theorem x_k2 {w : Cond} (h : w ∈ tables_1_2) (gd : goodWord w = true) : w ∈ x_tb := x_tb_in (List.mem_append_right _ (List.mem_append_right _ (List.mem_append_left _ h))) gd
theorem x_k3 {w : Cond} (h : w ∈ tables_1_3) (gd : goodWord w = true) : w ∈ x_tb := x_tb_in (List.mem_append_right _ (List.mem_append_right _ (List.mem_append_right _ (List.mem_append_left _ h)))) gd
theorem x_k4 {w : Cond} (h : w ∈ tables_1_4) (gd : goodWord w = true) : w ∈ x_tb := x_tb_in (List.mem_append_right _ (List.mem_append_right _ (List.mem_append_right _ (List.mem_append_right _ (h))))) gd
theorem x_pd0 : (parseMethodDescriptor "()V").map (fun d => d.parameters.length) = some 0 := by decide +kernel
theorem x_pd1 : (parseMethodDescriptor "(LPurseOfNineBowls$Table;I)I").map (fun d => d.parameters.length) = some 2 := by decide +kernel
theorem x_pd2 : (parseMethodDescriptor "(LPurseOfNineBowls$Table;)V").map (fun d => d.parameters.length) = some 1 := by decide +kernel
theorem x_pd3 : (parseMethodDescriptor "([LPurseOfNineBowls$Table;[IIIII)I").map (fun d => d.parameters.length) = some 6 := by decide +kernel
theorem x_pd4 : (parseMethodDescriptor "(I)Z").map (fun d => d.parameters.length) = some 1 := by decide +kernel
theorem x_pd5 : (parseMethodDescriptor "(I)V").map (fun d => d.parameters.length) = some 1 := by decide +kernel
theorem x_pd6 : (parseMethodDescriptor "(I)I").map (fun d => d.parameters.length) = some 1 := by decide +kernel
theorem x_pd7 : (parseMethodDescriptor "([II)V").map (fun d => d.parameters.length) = some 2 := by decide +kernel
theorem x_pd8 : (parseMethodDescriptor "()J").map (fun d => d.parameters.length) = some 0 := by decide +kernel
theorem x_pd9 : (parseMethodDescriptor "(JI)V").map (fun d => d.parameters.length) = some 2 := by decide +kernel
theorem x_pd10 : (parseMethodDescriptor "(III)V").map (fun d => d.parameters.length) = some 3 := by decide +kernel
theorem x_pd11 : (parseMethodDescriptor "(J)V").map (fun d => d.parameters.length) = some 1 := by decide +kernel
theorem x_pd12 : (parseMethodDescriptor "()I").map (fun d => d.parameters.length) = some 0 := by decide +kernel
theorem x_pd13 : (parseMethodDescriptor "(II)I").map (fun d => d.parameters.length) = some 2 := by decide +kernel
theorem x_pd14 : (parseMethodDescriptor "(ILPurseOfNineBowls$Table;)Z").map (fun d => d.parameters.length) = some 2 := by decide +kernel
theorem x_pd15 : (parseMethodDescriptor "(II)Z").map (fun d => d.parameters.length) = some 2 := by decide +kernel
theorem x_pd16 : (parseMethodDescriptor "(II)V").map (fun d => d.parameters.length) = some 2 := by decide +kernel
theorem x_pd17 : (parseMethodDescriptor "()Z").map (fun d => d.parameters.length) = some 0 := by decide +kernel
theorem x_pd18 : (parseMethodDescriptor "([JJ)V").map (fun d => d.parameters.length) = some 2 := by decide +kernel
theorem x_pd19 : (parseMethodDescriptor "(LPurseOfNineBowls$Table;[II)J").map (fun d => d.parameters.length) = some 3 := by decide +kernel
theorem x_pd20 : (parseMethodDescriptor "(LPurseOfNineBowls$Table;)I").map (fun d => d.parameters.length) = some 1 := by decide +kernel
theorem x_pd21 : (parseMethodDescriptor "(LPurseOfNineBowls$Table;)Z").map (fun d => d.parameters.length) = some 1 := by decide +kernel
theorem x_pd22 : (parseMethodDescriptor "(LPurseOfNineBowls$Table;I)V").map (fun d => d.parameters.length) = some 2 := by decide +kernel
theorem x_pd23 : (parseMethodDescriptor "(LPurseOfNineBowls$Table;[II)I").map (fun d => d.parameters.length) = some 3 := by decide +kernel
theorem x_pd24 : (parseMethodDescriptor "(JJJ)Z").map (fun d => d.parameters.length) = some 3 := by decide +kernel
theorem x_pd25 : (parseMethodDescriptor "(III)Z").map (fun d => d.parameters.length) = some 3 := by decide +kernel
theorem plX0 : plainName RX0 = true := by decide +kernel
theorem mhX0 : RX0 ≠ "java/lang/invoke/MethodHandle" := by decide +kernel
theorem vhX0 : RX0 ≠ "java/lang/invoke/VarHandle" := by decide +kernel
def IX0 : x_I := (RX0, [(40, 3, 3, true), (52, 3, 11, true), (11, 0, 0, false), (17, 0, 1, false)], [], [], [(9, 3)])
set_option maxRecDepth 100000 in
theorem okX0 : x_okI IX0 := ⟨List.forall_mem_cons.mpr ⟨⟨(RX3, TX3, 12), rfl, by decide, fun h => (by cases h), fun _ => List.mem_of_getElem? (i := 3) rfl⟩, List.forall_mem_cons.mpr ⟨⟨(RX3, TX3, 12), rfl, by decide, fun h => (by cases h), fun _ => List.mem_of_getElem? (i := 16) rfl⟩, List.forall_mem_cons.mpr ⟨⟨(RX0, TX0, 2), rfl, by decide, fun _ => x_k1 (List.mem_of_getElem? (i := 103) rfl) rfl, fun h => (by cases h)⟩, List.forall_mem_cons.mpr ⟨⟨(RX0, TX0, 2), rfl, by decide, fun _ => x_k1 (List.mem_of_getElem? (i := 104) rfl) rfl, fun h => (by cases h)⟩, fun _ h => absurd h List.not_mem_nil⟩⟩⟩⟩, fun _ h => absurd h List.not_mem_nil, fun _ h => absurd h List.not_mem_nil, List.forall_mem_cons.mpr ⟨⟨(RX3, TX3, 12), rfl, x_k1 (List.mem_of_getElem? (i := 100) rfl) rfl⟩, fun _ h => absurd h List.not_mem_nil⟩⟩
theorem plX1 : plainName RX1 = true := by decide +kernel
theorem mhX1 : RX1 ≠ "java/lang/invoke/MethodHandle" := by decide +kernel
theorem vhX1 : RX1 ≠ "java/lang/invoke/VarHandle" := by decide +kernel
def IX1 : x_I := (RX1, [(72, 3, 3, true), (11, 1, 0, false), (15, 1, 1, false), (19, 1, 2, false), (25, 1, 3, false), (29, 1, 4, false), (32, 1, 5, false), (36, 1, 6, false), (39, 1, 7, false)], [], [(81, -7046029254386353131)], [(22, 3)])
set_option maxRecDepth 100000 in
theorem okX1 : x_okI IX1 := ⟨List.forall_mem_cons.mpr ⟨⟨(RX3, TX3, 12), rfl, by decide, fun h => (by cases h), fun _ => List.mem_of_getElem? (i := 2) rfl⟩, List.forall_mem_cons.mpr ⟨⟨(RX1, TX1, 8), rfl, by decide, fun _ => x_k1 (List.mem_of_getElem? (i := 118) rfl) rfl, fun h => (by cases h)⟩, List.forall_mem_cons.mpr ⟨⟨(RX1, TX1, 8), rfl, by decide, fun _ => x_k1 (List.mem_of_getElem? (i := 119) rfl) rfl, fun h => (by cases h)⟩, List.forall_mem_cons.mpr ⟨⟨(RX1, TX1, 8), rfl, by decide, fun _ => x_k1 (List.mem_of_getElem? (i := 120) rfl) rfl, fun h => (by cases h)⟩, List.forall_mem_cons.mpr ⟨⟨(RX1, TX1, 8), rfl, by decide, fun _ => x_k1 (List.mem_of_getElem? (i := 121) rfl) rfl, fun h => (by cases h)⟩, List.forall_mem_cons.mpr ⟨⟨(RX1, TX1, 8), rfl, by decide, fun _ => x_k1 (List.mem_of_getElem? (i := 122) rfl) rfl, fun h => (by cases h)⟩, List.forall_mem_cons.mpr ⟨⟨(RX1, TX1, 8), rfl, by decide, fun _ => x_k1 (List.mem_of_getElem? (i := 123) rfl) rfl, fun h => (by cases h)⟩, List.forall_mem_cons.mpr ⟨⟨(RX1, TX1, 8), rfl, by decide, fun _ => x_k1 (List.mem_of_getElem? (i := 124) rfl) rfl, fun h => (by cases h)⟩, List.forall_mem_cons.mpr ⟨⟨(RX1, TX1, 8), rfl, by decide, fun _ => x_k1 (List.mem_of_getElem? (i := 126) rfl) rfl, fun h => (by cases h)⟩, fun _ h => absurd h List.not_mem_nil⟩⟩⟩⟩⟩⟩⟩⟩⟩, fun _ h => absurd h List.not_mem_nil, List.forall_mem_cons.mpr ⟨x_k2 (List.mem_of_getElem? (i := 214) rfl) rfl, fun _ h => absurd h List.not_mem_nil⟩, List.forall_mem_cons.mpr ⟨⟨(RX3, TX3, 12), rfl, x_k1 (List.mem_of_getElem? (i := 116) rfl) rfl⟩, fun _ h => absurd h List.not_mem_nil⟩⟩
theorem plX2 : plainName RX2 = true := by decide +kernel
theorem mhX2 : RX2 ≠ "java/lang/invoke/MethodHandle" := by decide +kernel
theorem vhX2 : RX2 ≠ "java/lang/invoke/VarHandle" := by decide +kernel
def IX2 : x_I := (RX2, [(56, 3, 4, true), (61, 3, 5, true), (64, 3, 6, true), (84, 3, 7, true), (9, 2, 0, false), (15, 2, 1, false)], [], [], [])
set_option maxRecDepth 100000 in
theorem okX2 : x_okI IX2 := ⟨List.forall_mem_cons.mpr ⟨⟨(RX3, TX3, 12), rfl, by decide, fun h => (by cases h), fun _ => List.mem_of_getElem? (i := 6) rfl⟩, List.forall_mem_cons.mpr ⟨⟨(RX3, TX3, 12), rfl, by decide, fun h => (by cases h), fun _ => List.mem_of_getElem? (i := 8) rfl⟩, List.forall_mem_cons.mpr ⟨⟨(RX3, TX3, 12), rfl, by decide, fun h => (by cases h), fun _ => List.mem_of_getElem? (i := 10) rfl⟩, List.forall_mem_cons.mpr ⟨⟨(RX3, TX3, 12), rfl, by decide, fun h => (by cases h), fun _ => List.mem_of_getElem? (i := 12) rfl⟩, List.forall_mem_cons.mpr ⟨⟨(RX2, TX2, 2), rfl, by decide, fun _ => x_k1 (List.mem_of_getElem? (i := 86) rfl) rfl, fun h => (by cases h)⟩, List.forall_mem_cons.mpr ⟨⟨(RX2, TX2, 2), rfl, by decide, fun _ => x_k1 (List.mem_of_getElem? (i := 87) rfl) rfl, fun h => (by cases h)⟩, fun _ h => absurd h List.not_mem_nil⟩⟩⟩⟩⟩⟩, fun _ h => absurd h List.not_mem_nil, fun _ h => absurd h List.not_mem_nil, fun _ h => absurd h List.not_mem_nil⟩
theorem plX3 : plainName RX3 = true := by decide +kernel
theorem mhX3 : RX3 ≠ "java/lang/invoke/MethodHandle" := by decide +kernel
theorem vhX3 : RX3 ≠ "java/lang/invoke/VarHandle" := by decide +kernel
def IX3 : x_I := (RX3, [(9, 3, 0, false), (15, 3, 1, false), (18, 3, 2, false), (21, 3, 3, false), (25, 3, 4, false), (28, 3, 5, false), (31, 3, 6, false), (34, 3, 7, false), (37, 3, 8, false), (40, 3, 9, false), (43, 3, 10, false), (46, 3, 11, false)], [], [(89, 127)], [])
set_option maxRecDepth 100000 in
theorem okX3 : x_okI IX3 := ⟨List.forall_mem_cons.mpr ⟨⟨(RX3, TX3, 12), rfl, by decide, fun _ => x_k1 (List.mem_of_getElem? (i := 25) rfl) rfl, fun h => (by cases h)⟩, List.forall_mem_cons.mpr ⟨⟨(RX3, TX3, 12), rfl, by decide, fun _ => x_k1 (List.mem_of_getElem? (i := 26) rfl) rfl, fun h => (by cases h)⟩, List.forall_mem_cons.mpr ⟨⟨(RX3, TX3, 12), rfl, by decide, fun _ => x_k1 (List.mem_of_getElem? (i := 27) rfl) rfl, fun h => (by cases h)⟩, List.forall_mem_cons.mpr ⟨⟨(RX3, TX3, 12), rfl, by decide, fun _ => x_k1 (List.mem_of_getElem? (i := 28) rfl) rfl, fun h => (by cases h)⟩, List.forall_mem_cons.mpr ⟨⟨(RX3, TX3, 12), rfl, by decide, fun _ => x_k1 (List.mem_of_getElem? (i := 33) rfl) rfl, fun h => (by cases h)⟩, List.forall_mem_cons.mpr ⟨⟨(RX3, TX3, 12), rfl, by decide, fun _ => x_k1 (List.mem_of_getElem? (i := 36) rfl) rfl, fun h => (by cases h)⟩, List.forall_mem_cons.mpr ⟨⟨(RX3, TX3, 12), rfl, by decide, fun _ => x_k1 (List.mem_of_getElem? (i := 39) rfl) rfl, fun h => (by cases h)⟩, List.forall_mem_cons.mpr ⟨⟨(RX3, TX3, 12), rfl, by decide, fun _ => x_k1 (List.mem_of_getElem? (i := 42) rfl) rfl, fun h => (by cases h)⟩, List.forall_mem_cons.mpr ⟨⟨(RX3, TX3, 12), rfl, by decide, fun _ => x_k1 (List.mem_of_getElem? (i := 45) rfl) rfl, fun h => (by cases h)⟩, List.forall_mem_cons.mpr ⟨⟨(RX3, TX3, 12), rfl, by decide, fun _ => x_k1 (List.mem_of_getElem? (i := 47) rfl) rfl, fun h => (by cases h)⟩, List.forall_mem_cons.mpr ⟨⟨(RX3, TX3, 12), rfl, by decide, fun _ => x_k1 (List.mem_of_getElem? (i := 49) rfl) rfl, fun h => (by cases h)⟩, List.forall_mem_cons.mpr ⟨⟨(RX3, TX3, 12), rfl, by decide, fun _ => x_k1 (List.mem_of_getElem? (i := 51) rfl) rfl, fun h => (by cases h)⟩, fun _ h => absurd h List.not_mem_nil⟩⟩⟩⟩⟩⟩⟩⟩⟩⟩⟩⟩, fun _ h => absurd h List.not_mem_nil, List.forall_mem_cons.mpr ⟨x_k2 (List.mem_of_getElem? (i := 223) rfl) rfl, fun _ h => absurd h List.not_mem_nil⟩, fun _ h => absurd h List.not_mem_nil⟩
theorem plX4 : plainName RX4 = true := by decide +kernel
theorem mhX4 : RX4 ≠ "java/lang/invoke/MethodHandle" := by decide +kernel
theorem vhX4 : RX4 ≠ "java/lang/invoke/VarHandle" := by decide +kernel
def IX4 : x_I := (RX4, [(25, 3, 3, true), (9, 4, 0, false), (15, 4, 1, false)], [], [(48, -1)], [])
set_option maxRecDepth 100000 in
theorem okX4 : x_okI IX4 := ⟨List.forall_mem_cons.mpr ⟨⟨(RX3, TX3, 12), rfl, by decide, fun h => (by cases h), fun _ => List.mem_of_getElem? (i := 1) rfl⟩, List.forall_mem_cons.mpr ⟨⟨(RX4, TX4, 2), rfl, by decide, fun _ => x_k1 (List.mem_of_getElem? (i := 152) rfl) rfl, fun h => (by cases h)⟩, List.forall_mem_cons.mpr ⟨⟨(RX4, TX4, 2), rfl, by decide, fun _ => x_k1 (List.mem_of_getElem? (i := 153) rfl) rfl, fun h => (by cases h)⟩, fun _ h => absurd h List.not_mem_nil⟩⟩⟩, fun _ h => absurd h List.not_mem_nil, List.forall_mem_cons.mpr ⟨x_k3 (List.mem_of_getElem? (i := 43) rfl) rfl, fun _ h => absurd h List.not_mem_nil⟩, fun _ h => absurd h List.not_mem_nil⟩
theorem plJ7 : plainName RJ7 = true := by decide +kernel
theorem mhJ7 : RJ7 ≠ "java/lang/invoke/MethodHandle" := by decide +kernel
theorem vhJ7 : RJ7 ≠ "java/lang/invoke/VarHandle" := by decide +kernel
def IJ7 : x_I := (RJ7, [], [], [], [])
set_option maxRecDepth 100000 in
theorem okJ7 : x_okI IJ7 := ⟨fun _ h => absurd h List.not_mem_nil, fun _ h => absurd h List.not_mem_nil, fun _ h => absurd h List.not_mem_nil, fun _ h => absurd h List.not_mem_nil⟩
def kX0_init : List (List (Nat × Instr × Nat)) := [[(0, .aload_n 0, 1), (1, .invokespecial 3, 3), (4, .aload_n 0, 1), (5, .iconst 5, 1), (6, .anewarray 9, 3), (9, .putfield 11, 3), (12, .aload_n 0, 1), (13, .iconst 5, 1), (14, .newarray .int, 2)],
  [(16, .putfield 17, 3), (19, .iconst 0, 1), (20, .istore_n 1, 1), (21, .iload_n 1, 1), (22, .aload_n 0, 1), (23, .getfield 11, 3), (26, .arraylength, 1), (27, .if_icmp .ge 22, 3), (30, .aload_n 0, 1), (31, .getfield 11, 3)],
  [(34, .iload_n 1, 1), (35, .new 9, 3), (38, .dup, 1), (39, .invokespecial 21, 3), (42, .aastore, 1), (43, .iinc 1 1, 3), (46, .goto (-25), 3)],
  [(49, .return_, 1)]]
def mX0_init : x_M := (yX0_init, prog_2_method_1_code, 2, none, kX0_init, IX0)
set_option maxRecDepth 100000 in
theorem decX0_init : x_dec mX0_init := by unfold x_dec; decide +kernel
theorem gX0_init : x_good mX0_init := ⟨plX0, decX0_init, okX0, rfl, x_k1 (List.mem_of_getElem? (i := 98) rfl) rfl, iniX0, mhX0, vhX0⟩
theorem vX0_init : Cond.instanceMethod yX0_init ∈ x_tb := x_k1 (List.mem_of_getElem? (i := 97) rfl) rfl
def kX0_gainFor : List (List (Nat × Instr × Nat)) := [[(0, .aload_n 0, 1), (1, .getfield 11, 3), (4, .iconst 0, 1), (5, .aaload, 1), (6, .aload_n 1, 1), (7, .invokevirtual 22, 3), (10, .aload_n 0, 1), (11, .getfield 11, 3), (14, .aload_n 0, 1), (15, .getfield 17, 3)],
  [(18, .iconst 0, 1), (19, .iload_n 2, 1), (20, .iload_n 2, 1), (21, .ineg, 1), (22, .iload_n 2, 1), (23, .invokestatic 26, 3), (26, .ireturn, 1)]]
def mX0_gainFor : x_M := (yX0_gainFor, prog_2_method_2_code, 3, (some .int), kX0_gainFor, IX0)
set_option maxRecDepth 100000 in
theorem decX0_gainFor : x_dec mX0_gainFor := by unfold x_dec; decide +kernel
theorem gX0_gainFor : x_good mX0_gainFor := ⟨plX0, decX0_gainFor, okX0, rfl, x_k2 (List.mem_of_getElem? (i := 148) rfl) rfl, iniX0, mhX0, vhX0⟩
theorem vX0_gainFor : Cond.instanceMethod yX0_gainFor ∈ x_tb ∧ Cond.selects RX0 yX0_gainFor yX0_gainFor ∈ x_tb := ⟨x_k2 (List.mem_of_getElem? (i := 146) rfl) rfl, x_k2 (List.mem_of_getElem? (i := 147) rfl) rfl⟩
def kX0_bowlFor : List (List (Nat × Instr × Nat)) := [[(0, .aload_n 0, 1), (1, .aload_n 1, 1), (2, .iload_n 2, 1), (3, .invokevirtual 30, 3), (6, .pop, 1), (7, .aload_n 0, 1), (8, .getfield 17, 3), (11, .iconst 0, 1), (12, .iaload, 1), (13, .ireturn, 1)]]
def mX0_bowlFor : x_M := (yX0_bowlFor, prog_2_method_3_code, 3, (some .int), kX0_bowlFor, IX0)
set_option maxRecDepth 100000 in
theorem decX0_bowlFor : x_dec mX0_bowlFor := by unfold x_dec; decide +kernel
theorem gX0_bowlFor : x_good mX0_bowlFor := ⟨plX0, decX0_bowlFor, okX0, rfl, x_k2 (List.mem_of_getElem? (i := 144) rfl) rfl, iniX0, mhX0, vhX0⟩
theorem vX0_bowlFor : Cond.instanceMethod yX0_bowlFor ∈ x_tb ∧ Cond.selects RX0 yX0_bowlFor yX0_bowlFor ∈ x_tb := ⟨x_k2 (List.mem_of_getElem? (i := 142) rfl) rfl, x_k2 (List.mem_of_getElem? (i := 143) rfl) rfl⟩
def kX0_gainOf : List (List (Nat × Instr × Nat)) := [[(0, .iload_n 3, 1), (1, .ifCond .le 21, 3), (4, .iload_n 2, 1), (5, .ifCond .lt 17, 3), (8, .iload_n 2, 1), (9, .iconst 1, 1), (10, .iadd, 1), (11, .aload_n 0, 1), (12, .arraylength, 1), (13, .if_icmp .ge 9, 3)],
  [(16, .iload_n 2, 1), (17, .aload_n 1, 1), (18, .arraylength, 1), (19, .if_icmp .lt 5, 3), (22, .iconst 0, 1), (23, .ireturn, 1), (24, .aload_n 0, 1), (25, .iload_n 2, 1), (26, .aaload, 1), (27, .astore 6, 2), (29, .aload_n 0, 1), (30, .iload_n 2, 1), (31, .iconst 1, 1)],
  [(32, .iadd, 1), (33, .aaload, 1), (34, .astore 7, 2), (36, .iload 5, 2), (38, .iload_n 3, 1), (39, .iconst 1, 1), (40, .iadd, 1), (41, .iconst 2, 1), (42, .idiv, 1), (43, .invokestatic 34, 3), (46, .istore 8, 2)],
  [(48, .iload 4, 2), (50, .iconst 1, 1), (51, .isub, 1), (52, .istore 9, 2), (54, .aload_n 1, 1), (55, .iload_n 2, 1), (56, .bipush (-9), 2), (58, .iastore, 1), (59, .iconst 0, 1), (60, .istore 10, 2), (62, .iload 10, 2)],
  [(64, .aload 6, 2), (66, .getfield 40, 3), (69, .if_icmp .ge 105, 3), (72, .aload_n 1, 1), (73, .iload_n 2, 1), (74, .iaload, 1), (75, .bipush (-9), 2), (77, .if_icmp .eq 10, 3)],
  [(80, .iload 9, 2), (82, .iload 8, 2), (84, .if_icmp .ge 90, 3), (87, .aload 6, 2), (89, .iload 10, 2), (91, .invokevirtual 44, 3), (94, .ifCond .eq 74, 3)],
  [(97, .aload 7, 2), (99, .aload 6, 2), (101, .invokevirtual 22, 3), (104, .aload 7, 2), (106, .iload 10, 2), (108, .invokevirtual 48, 3), (111, .aload 7, 2)],
  [(113, .getfield 52, 3), (116, .istore 11, 2), (118, .iload 11, 2), (120, .aload_n 0, 1), (121, .aload_n 1, 1), (122, .iload_n 2, 1), (123, .iconst 1, 1), (124, .iadd, 1), (125, .iload_n 3, 1), (126, .iconst 1, 1), (127, .isub, 1)],
  [(128, .iload 11, 2), (130, .iload 5, 2), (132, .isub, 1), (133, .iload 11, 2), (135, .iload 9, 2), (137, .isub, 1), (138, .invokestatic 26, 3), (141, .isub, 1), (142, .istore 12, 2)],
  [(144, .iload 12, 2), (146, .iload 9, 2), (148, .if_icmp .gt 11, 3), (151, .aload_n 1, 1), (152, .iload_n 2, 1), (153, .iaload, 1), (154, .bipush (-9), 2), (156, .if_icmp .ne 12, 3), (159, .iload 12, 2)],
  [(161, .istore 9, 2), (163, .aload_n 1, 1), (164, .iload_n 2, 1), (165, .iload 10, 2), (167, .iastore, 1), (168, .iinc 10 1, 3), (171, .goto (-109), 3), (174, .aload_n 1, 1), (175, .iload_n 2, 1)],
  [(176, .iaload, 1), (177, .bipush (-9), 2), (179, .if_icmp .ne 7, 3), (182, .iconst 0, 1), (183, .goto 5, 3), (186, .iload 9, 2), (188, .ireturn, 1)]]
def mX0_gainOf : x_M := (yX0_gainOf, prog_2_method_4_code, 13, (some .int), kX0_gainOf, IX0)
set_option maxRecDepth 100000 in
theorem decX0_gainOf : x_dec mX0_gainOf := by unfold x_dec; decide +kernel
theorem gX0_gainOf : x_good mX0_gainOf := ⟨plX0, decX0_gainOf, okX0, rfl, x_k2 (List.mem_of_getElem? (i := 152) rfl) rfl, iniX0, mhX0, vhX0⟩
theorem vX0_gainOf : Cond.static yX0_gainOf ∈ x_tb := x_k2 (List.mem_of_getElem? (i := 151) rfl) rfl
def kX1_init : List (List (Nat × Instr × Nat)) := [[(0, .aload_n 0, 1), (1, .invokespecial 5, 3), (4, .aload_n 0, 1), (5, .sipush 7381, 3), (8, .newarray .long, 2), (10, .putfield 11, 3), (13, .aload_n 0, 1), (14, .sipush 7381, 3)],
  [(17, .newarray .int, 2), (19, .putfield 15, 3), (22, .aload_n 0, 1), (23, .sipush 16384, 3), (26, .newarray .int, 2), (28, .putfield 19, 3), (31, .aload_n 0, 1)],
  [(32, .new 22, 3), (35, .dup, 1), (36, .invokespecial 24, 3), (39, .putfield 25, 3), (42, .aload_n 0, 1), (43, .new 22, 3), (46, .dup, 1), (47, .invokespecial 24, 3)],
  [(50, .putfield 29, 3), (53, .aload_n 0, 1), (54, .iconst 0, 1), (55, .putfield 32, 3), (58, .aload_n 0, 1), (59, .bipush (-9), 2), (61, .putfield 36, 3)],
  [(64, .aload_n 0, 1), (65, .bipush (-9), 2), (67, .putfield 39, 3), (70, .return_, 1)]]
def mX1_init : x_M := (yX1_init, prog_3_method_1_code, 1, none, kX1_init, IX1)
set_option maxRecDepth 100000 in
theorem decX1_init : x_dec mX1_init := by unfold x_dec; decide +kernel
theorem gX1_init : x_good mX1_init := ⟨plX1, decX1_init, okX1, rfl, x_k1 (List.mem_of_getElem? (i := 114) rfl) rfl, iniX1, mhX1, vhX1⟩
theorem vX1_init : Cond.instanceMethod yX1_init ∈ x_tb := x_k1 (List.mem_of_getElem? (i := 113) rfl) rfl
def kX1_seek : List (List (Nat × Instr × Nat)) := [[(0, .aload_n 0, 1), (1, .bipush (-9), 2), (3, .putfield 39, 3), (6, .aload_n 0, 1), (7, .aload_n 1, 1), (8, .iload_n 2, 1), (9, .invokevirtual 42, 3), (12, .ifCond .ne 7, 3), (15, .iconst 0, 1)],
  [(16, .goto 5, 3), (19, .bipush (-9), 2), (21, .putfield 36, 3), (24, .aload_n 0, 1), (25, .getfield 36, 3), (28, .ifCond .ne 4, 3), (31, .return_, 1)],
  [(32, .aload_n 0, 1), (33, .iconst 0, 1), (34, .putfield 32, 3), (37, .aload_n 0, 1), (38, .getfield 19, 3), (41, .iconst 0, 1), (42, .invokestatic 46, 3), (45, .aload_n 0, 1), (46, .getfield 25, 3)],
  [(49, .aload_n 1, 1), (50, .invokevirtual 52, 3), (53, .aload_n 0, 1), (54, .aload_n 0, 1), (55, .getfield 25, 3), (58, .invokevirtual 56, 3), (61, .bipush (-9), 2), (63, .invokevirtual 60, 3)],
  [(66, .iconst 0, 1), (67, .istore_n 3, 1), (68, .iconst 1, 1), (69, .istore 4, 2), (71, .iload 4, 2), (73, .iconst 5, 1), (74, .if_icmp .gt 61, 3), (77, .aload_n 0, 1), (78, .getfield 36, 3)],
  [(81, .bipush (-9), 2), (83, .if_icmp .ne 52, 3), (86, .aload_n 0, 1), (87, .getfield 32, 3), (90, .istore 5, 2), (92, .iload_n 3, 1), (93, .istore 6, 2), (95, .iload 6, 2)],
  [(97, .iload 5, 2), (99, .if_icmp .ge 27, 3), (102, .aload_n 0, 1), (103, .getfield 36, 3), (106, .bipush (-9), 2), (108, .if_icmp .ne 18, 3), (111, .aload_n 0, 1)],
  [(112, .iload 6, 2), (114, .iload_n 2, 1), (115, .iload 4, 2), (117, .invokevirtual 64, 3), (120, .iinc 6 1, 3), (123, .goto (-28), 3), (126, .iload 5, 2)],
  [(128, .istore_n 3, 1), (129, .iinc 4 1, 3), (132, .goto (-61), 3), (135, .return_, 1)]]
def mX1_seek : x_M := (yX1_seek, prog_3_method_2_code, 7, none, kX1_seek, IX1)
set_option maxRecDepth 100000 in
theorem decX1_seek : x_dec mX1_seek := by unfold x_dec; decide +kernel
theorem gX1_seek : x_good mX1_seek := ⟨plX1, decX1_seek, okX1, rfl, x_k2 (List.mem_of_getElem? (i := 200) rfl) rfl, iniX1, mhX1, vhX1⟩
theorem vX1_seek : Cond.instanceMethod yX1_seek ∈ x_tb ∧ Cond.selects RX1 yX1_seek yX1_seek ∈ x_tb := ⟨x_k2 (List.mem_of_getElem? (i := 198) rfl) rfl, x_k2 (List.mem_of_getElem? (i := 199) rfl) rfl⟩
def kX1_goOnFrom : List (List (Nat × Instr × Nat)) := [[(0, .iload_n 1, 1), (1, .ifCond .lt 10, 3), (4, .iload_n 1, 1), (5, .sipush 7381, 3), (8, .if_icmp .lt 4, 3), (11, .return_, 1), (12, .aload_n 0, 1), (13, .getfield 25, 3)],
  [(16, .aload_n 0, 1), (17, .getfield 11, 3), (20, .iload_n 1, 1), (21, .laload, 1), (22, .invokevirtual 68, 3), (25, .iconst 0, 1), (26, .istore 4, 2), (28, .iload 4, 2), (30, .aload_n 0, 1), (31, .getfield 25, 3)],
  [(34, .getfield 72, 3), (37, .if_icmp .ge 111, 3), (40, .aload_n 0, 1), (41, .getfield 36, 3), (44, .bipush (-9), 2), (46, .if_icmp .ne 102, 3)],
  [(49, .aload_n 0, 1), (50, .getfield 25, 3), (53, .iload 4, 2), (55, .invokevirtual 73, 3), (58, .ifCond .eq 84, 3), (61, .aload_n 0, 1), (62, .getfield 29, 3)],
  [(65, .aload_n 0, 1), (66, .getfield 25, 3), (69, .invokevirtual 52, 3), (72, .aload_n 0, 1), (73, .getfield 29, 3), (76, .iload 4, 2), (78, .invokevirtual 77, 3)],
  [(81, .iload_n 3, 1), (82, .iconst 1, 1), (83, .if_icmp .ne 8, 3), (86, .iload 4, 2), (88, .goto 9, 3), (91, .aload_n 0, 1), (92, .getfield 15, 3), (95, .iload_n 1, 1)],
  [(96, .iaload, 1), (97, .istore 5, 2), (99, .aload_n 0, 1), (100, .getfield 29, 3), (103, .iload_n 2, 1), (104, .invokevirtual 42, 3), (107, .ifCond .ne 17, 3), (110, .aload_n 0, 1), (111, .iload_n 3, 1)],
  [(112, .putfield 36, 3), (115, .aload_n 0, 1), (116, .iload 5, 2), (118, .putfield 39, 3), (121, .goto 21, 3), (124, .iload_n 3, 1), (125, .iconst 5, 1), (126, .if_icmp .ge 16, 3)],
  [(129, .aload_n 0, 1), (130, .aload_n 0, 1), (131, .getfield 29, 3), (134, .invokevirtual 56, 3), (137, .iload 5, 2), (139, .invokevirtual 60, 3), (142, .iinc 4 1, 3)],
  [(145, .goto (-117), 3), (148, .return_, 1)]]
def mX1_goOnFrom : x_M := (yX1_goOnFrom, prog_3_method_3_code, 6, none, kX1_goOnFrom, IX1)
set_option maxRecDepth 100000 in
theorem decX1_goOnFrom : x_dec mX1_goOnFrom := by unfold x_dec; decide +kernel
theorem gX1_goOnFrom : x_good mX1_goOnFrom := ⟨plX1, decX1_goOnFrom, okX1, rfl, x_k2 (List.mem_of_getElem? (i := 218) rfl) rfl, iniX1, mhX1, vhX1⟩
theorem vX1_goOnFrom : Cond.instanceMethod yX1_goOnFrom ∈ x_tb ∧ Cond.selects RX1 yX1_goOnFrom yX1_goOnFrom ∈ x_tb := ⟨x_k2 (List.mem_of_getElem? (i := 217) rfl) rfl, x_tb_in (List.mem_of_getElem? (i := 18) rfl) rfl⟩
def kX1_keep : List (List (Nat × Instr × Nat)) := [[(0, .lload_n 1, 1), (1, .ldc2_w 81, 3), (4, .lmul, 1), (5, .bipush 50, 2), (7, .lushr, 1), (8, .l2i, 1), (9, .istore 4, 2), (11, .iconst 0, 1), (12, .istore 5, 2), (14, .iload 5, 2)],
  [(16, .sipush 16384, 3), (19, .if_icmp .ge 109, 3), (22, .aload_n 0, 1), (23, .getfield 32, 3), (26, .sipush 7381, 3), (29, .if_icmp .ge 99, 3)],
  [(32, .aload_n 0, 1), (33, .getfield 19, 3), (36, .iload 4, 2), (38, .sipush 16383, 3), (41, .iand, 1), (42, .iaload, 1), (43, .iconst 1, 1), (44, .isub, 1), (45, .istore 6, 2), (47, .iload 6, 2)],
  [(49, .ifCond .lt 11, 3), (52, .iload 6, 2), (54, .sipush 7381, 3), (57, .if_icmp .lt 49, 3), (60, .aload_n 0, 1), (61, .getfield 11, 3)],
  [(64, .aload_n 0, 1), (65, .getfield 32, 3), (68, .lload_n 1, 1), (69, .lastore, 1), (70, .aload_n 0, 1), (71, .getfield 15, 3), (74, .aload_n 0, 1), (75, .getfield 32, 3), (78, .iload_n 3, 1), (79, .iastore, 1)],
  [(80, .aload_n 0, 1), (81, .dup, 1), (82, .getfield 32, 3), (85, .iconst 1, 1), (86, .iadd, 1), (87, .putfield 32, 3), (90, .aload_n 0, 1), (91, .getfield 19, 3), (94, .iload 4, 2)],
  [(96, .sipush 16383, 3), (99, .iand, 1), (100, .aload_n 0, 1), (101, .getfield 32, 3), (104, .iastore, 1), (105, .return_, 1), (106, .aload_n 0, 1), (107, .getfield 11, 3), (110, .iload 6, 2)],
  [(112, .laload, 1), (113, .lload_n 1, 1), (114, .lcmp, 1), (115, .ifCond .ne 4, 3), (118, .return_, 1), (119, .iinc 4 1, 3), (122, .iinc 5 1, 3), (125, .goto (-111), 3)],
  [(128, .return_, 1)]]
def mX1_keep : x_M := (yX1_keep, prog_3_method_4_code, 7, none, kX1_keep, IX1)
set_option maxRecDepth 100000 in
theorem decX1_keep : x_dec mX1_keep := by unfold x_dec; decide +kernel
theorem gX1_keep : x_good mX1_keep := ⟨plX1, decX1_keep, okX1, rfl, x_k2 (List.mem_of_getElem? (i := 213) rfl) rfl, iniX1, mhX1, vhX1⟩
theorem vX1_keep : Cond.instanceMethod yX1_keep ∈ x_tb ∧ Cond.selects RX1 yX1_keep yX1_keep ∈ x_tb := ⟨x_k2 (List.mem_of_getElem? (i := 212) rfl) rfl, x_tb_in (List.mem_of_getElem? (i := 17) rfl) rfl⟩
def kX2_init : List (List (Nat × Instr × Nat)) := [[(0, .aload_n 0, 1), (1, .invokespecial 3, 3), (4, .aload_n 0, 1), (5, .bipush 96, 2), (7, .newarray .int, 2), (9, .putfield 9, 3), (12, .aload_n 0, 1), (13, .iconst 0, 1), (14, .putfield 15, 3)],
  [(17, .return_, 1)]]
def mX2_init : x_M := (yX2_init, prog_4_method_1_code, 1, none, kX2_init, IX2)
set_option maxRecDepth 100000 in
theorem decX2_init : x_dec mX2_init := by unfold x_dec; decide +kernel
theorem gX2_init : x_good mX2_init := ⟨plX2, decX2_init, okX2, rfl, x_k1 (List.mem_of_getElem? (i := 84) rfl) rfl, iniX2, mhX2, vhX2⟩
theorem vX2_init : Cond.instanceMethod yX2_init ∈ x_tb := x_k1 (List.mem_of_getElem? (i := 83) rfl) rfl
def kX2_add : List (List (Nat × Instr × Nat)) := [[(0, .aload_n 0, 1), (1, .getfield 15, 3), (4, .ifCond .lt 12, 3), (7, .aload_n 0, 1), (8, .getfield 15, 3), (11, .bipush 96, 2), (13, .if_icmp .lt 5, 3)],
  [(16, .iconst 0, 1), (17, .ireturn, 1), (18, .aload_n 0, 1), (19, .getfield 9, 3), (22, .aload_n 0, 1), (23, .getfield 15, 3), (26, .iload_n 1, 1), (27, .iastore, 1), (28, .aload_n 0, 1), (29, .dup, 1), (30, .getfield 15, 3)],
  [(33, .iconst 1, 1), (34, .iadd, 1), (35, .putfield 15, 3), (38, .iconst 1, 1), (39, .ireturn, 1)]]
def mX2_add : x_M := (yX2_add, prog_4_method_2_code, 2, (some .boolean), kX2_add, IX2)
set_option maxRecDepth 100000 in
theorem decX2_add : x_dec mX2_add := by unfold x_dec; decide +kernel
theorem gX2_add : x_good mX2_add := ⟨plX2, decX2_add, okX2, rfl, x_k1 (List.mem_of_getElem? (i := 207) rfl) rfl, iniX2, mhX2, vhX2⟩
theorem vX2_add : Cond.instanceMethod yX2_add ∈ x_tb ∧ Cond.selects RX2 yX2_add yX2_add ∈ x_tb := ⟨x_k1 (List.mem_of_getElem? (i := 205) rfl) rfl, x_k1 (List.mem_of_getElem? (i := 206) rfl) rfl⟩
def kX2_clear : List (List (Nat × Instr × Nat)) := [[(0, .aload_n 0, 1), (1, .iconst 0, 1), (2, .putfield 15, 3), (5, .return_, 1)]]
def mX2_clear : x_M := (yX2_clear, prog_4_method_3_code, 1, none, kX2_clear, IX2)
set_option maxRecDepth 100000 in
theorem decX2_clear : x_dec mX2_clear := by unfold x_dec; decide +kernel
theorem gX2_clear : x_good mX2_clear := ⟨plX2, decX2_clear, okX2, rfl, x_k2 (List.mem_of_getElem? (i := 85) rfl) rfl, iniX2, mhX2, vhX2⟩
theorem vX2_clear : Cond.instanceMethod yX2_clear ∈ x_tb ∧ Cond.selects RX2 yX2_clear yX2_clear ∈ x_tb := ⟨x_k2 (List.mem_of_getElem? (i := 83) rfl) rfl, x_k2 (List.mem_of_getElem? (i := 84) rfl) rfl⟩
def kX2_playOn : List (List (Nat × Instr × Nat)) := [[(0, .aload_n 0, 1), (1, .invokevirtual 19, 3), (4, .istore_n 2, 1), (5, .iload_n 2, 1), (6, .bipush (-9), 2), (8, .if_icmp .eq 9, 3), (11, .sipush (-1000), 3), (14, .iload_n 2, 1), (15, .isub, 1)],
  [(16, .ireturn, 1), (17, .iconst 0, 1), (18, .istore_n 3, 1), (19, .iconst 0, 1), (20, .istore 4, 2), (22, .iload_n 3, 1), (23, .aload_n 0, 1), (24, .getfield 15, 3), (27, .if_icmp .ge 37, 3), (30, .iload 4, 2)],
  [(32, .bipush 96, 2), (34, .if_icmp .ge 30, 3), (37, .aload_n 0, 1), (38, .iload_n 3, 1), (39, .aload_n 1, 1), (40, .invokevirtual 23, 3), (43, .ifCond .ne 9, 3), (46, .sipush (-2000), 3)],
  [(49, .iload_n 3, 1), (50, .isub, 1), (51, .ireturn, 1), (52, .aload_n 0, 1), (53, .iload_n 3, 1), (54, .invokevirtual 27, 3), (57, .istore_n 3, 1), (58, .iinc 4 1, 3), (61, .goto (-39), 3)],
  [(64, .iload 4, 2), (66, .ireturn, 1)]]
def mX2_playOn : x_M := (yX2_playOn, prog_4_method_4_code, 5, (some .int), kX2_playOn, IX2)
set_option maxRecDepth 100000 in
theorem decX2_playOn : x_dec mX2_playOn := by unfold x_dec; decide +kernel
theorem gX2_playOn : x_good mX2_playOn := ⟨plX2, decX2_playOn, okX2, rfl, x_k1 (List.mem_of_getElem? (i := 222) rfl) rfl, iniX2, mhX2, vhX2⟩
theorem vX2_playOn : Cond.instanceMethod yX2_playOn ∈ x_tb ∧ Cond.selects RX2 yX2_playOn yX2_playOn ∈ x_tb := ⟨x_k1 (List.mem_of_getElem? (i := 220) rfl) rfl, x_k1 (List.mem_of_getElem? (i := 221) rfl) rfl⟩
def kX2_stuckAt : List (List (Nat × Instr × Nat)) := [[(0, .iconst 0, 1), (1, .istore_n 1, 1), (2, .iconst 0, 1), (3, .istore_n 2, 1), (4, .iload_n 2, 1), (5, .ifCond .eq 17, 3), (8, .iload_n 2, 1), (9, .bipush 96, 2), (11, .if_icmp .ge 37, 3), (14, .iload_n 1, 1), (15, .aload_n 0, 1)],
  [(16, .getfield 15, 3), (19, .if_icmp .ge 29, 3), (22, .aload_n 0, 1), (23, .iload_n 1, 1), (24, .invokevirtual 31, 3), (27, .istore_n 3, 1), (28, .iload_n 3, 1), (29, .bipush (-9), 2), (31, .if_icmp .eq 5, 3)],
  [(34, .iload_n 3, 1), (35, .ireturn, 1), (36, .aload_n 0, 1), (37, .iload_n 1, 1), (38, .invokevirtual 27, 3), (41, .istore_n 1, 1), (42, .iinc 2 1, 3), (45, .goto (-41), 3)],
  [(48, .bipush (-9), 2), (50, .ireturn, 1)]]
def mX2_stuckAt : x_M := (yX2_stuckAt, prog_4_method_5_code, 4, (some .int), kX2_stuckAt, IX2)
set_option maxRecDepth 100000 in
theorem decX2_stuckAt : x_dec mX2_stuckAt := by unfold x_dec; decide +kernel
theorem gX2_stuckAt : x_good mX2_stuckAt := ⟨plX2, decX2_stuckAt, okX2, rfl, x_k1 (List.mem_of_getElem? (i := 226) rfl) rfl, iniX2, mhX2, vhX2⟩
theorem vX2_stuckAt : Cond.instanceMethod yX2_stuckAt ∈ x_tb ∧ Cond.selects RX2 yX2_stuckAt yX2_stuckAt ∈ x_tb := ⟨x_k1 (List.mem_of_getElem? (i := 225) rfl) rfl, x_tb_in (List.mem_of_getElem? (i := 1) rfl) rfl⟩
def kX2_stuckIn : List (List (Nat × Instr × Nat)) := [[(0, .aload_n 0, 1), (1, .iload_n 1, 1), (2, .invokevirtual 34, 3), (5, .istore_n 2, 1), (6, .iload_n 2, 1), (7, .invokestatic 37, 3), (10, .ifCond .ne 5, 3), (13, .iload_n 1, 1), (14, .ireturn, 1), (15, .iload_n 1, 1)],
  [(16, .iconst 1, 1), (17, .iadd, 1), (18, .istore_n 3, 1), (19, .iload_n 2, 1), (20, .bipush 98, 2), (22, .if_icmp .ne 21, 3), (25, .aload_n 0, 1), (26, .iload_n 3, 1), (27, .invokevirtual 34, 3), (30, .invokestatic 40, 3)],
  [(33, .bipush (-9), 2), (35, .if_icmp .ne 5, 3), (38, .iload_n 3, 1), (39, .ireturn, 1), (40, .iinc 3 1, 3), (43, .aload_n 0, 1), (44, .iload_n 3, 1), (45, .iload_n 2, 1), (46, .invokestatic 37, 3)],
  [(49, .invokevirtual 43, 3), (52, .istore 4, 2), (54, .iload_n 3, 1), (55, .iload 4, 2), (57, .iadd, 1), (58, .istore_n 3, 1), (59, .iload 4, 2), (61, .iload_n 2, 1), (62, .invokestatic 47, 3)],
  [(65, .if_icmp .lt 13, 3), (68, .aload_n 0, 1), (69, .iload_n 3, 1), (70, .invokevirtual 34, 3), (73, .bipush 59, 2), (75, .if_icmp .eq 7, 3), (78, .iload_n 3, 1), (79, .goto 5, 3)],
  [(82, .bipush (-9), 2), (84, .ireturn, 1)]]
def mX2_stuckIn : x_M := (yX2_stuckIn, prog_4_method_6_code, 5, (some .int), kX2_stuckIn, IX2)
set_option maxRecDepth 100000 in
theorem decX2_stuckIn : x_dec mX2_stuckIn := by unfold x_dec; decide +kernel
theorem gX2_stuckIn : x_good mX2_stuckIn := ⟨plX2, decX2_stuckIn, okX2, rfl, x_k1 (List.mem_of_getElem? (i := 230) rfl) rfl, iniX2, mhX2, vhX2⟩
theorem vX2_stuckIn : Cond.instanceMethod yX2_stuckIn ∈ x_tb ∧ Cond.selects RX2 yX2_stuckIn yX2_stuckIn ∈ x_tb := ⟨x_k1 (List.mem_of_getElem? (i := 229) rfl) rfl, x_tb_in (List.mem_of_getElem? (i := 2) rfl) rfl⟩
def kX2_letterAt : List (List (Nat × Instr × Nat)) := [[(0, .iload_n 1, 1), (1, .ifCond .lt 26, 3), (4, .iload_n 1, 1), (5, .aload_n 0, 1), (6, .getfield 15, 3), (9, .if_icmp .ge 18, 3), (12, .iload_n 1, 1), (13, .bipush 96, 2), (15, .if_icmp .ge 12, 3)],
  [(18, .aload_n 0, 1), (19, .getfield 9, 3), (22, .iload_n 1, 1), (23, .iaload, 1), (24, .goto 4, 3), (27, .iconst (-1), 1), (28, .ireturn, 1)]]
def mX2_letterAt : x_M := (yX2_letterAt, prog_4_method_7_code, 2, (some .int), kX2_letterAt, IX2)
set_option maxRecDepth 100000 in
theorem decX2_letterAt : x_dec mX2_letterAt := by unfold x_dec; decide +kernel
theorem gX2_letterAt : x_good mX2_letterAt := ⟨plX2, decX2_letterAt, okX2, rfl, x_k1 (List.mem_of_getElem? (i := 234) rfl) rfl, iniX2, mhX2, vhX2⟩
theorem vX2_letterAt : Cond.instanceMethod yX2_letterAt ∈ x_tb ∧ Cond.selects RX2 yX2_letterAt yX2_letterAt ∈ x_tb := ⟨x_k1 (List.mem_of_getElem? (i := 233) rfl) rfl, x_tb_in (List.mem_of_getElem? (i := 3) rfl) rfl⟩
def kX2_digitAt : List (List (Nat × Instr × Nat)) := [[(0, .aload_n 0, 1), (1, .iload_n 1, 1), (2, .invokevirtual 34, 3), (5, .istore_n 2, 1), (6, .iload_n 2, 1), (7, .bipush 48, 2), (9, .if_icmp .lt 16, 3), (12, .iload_n 2, 1), (13, .bipush 57, 2), (15, .if_icmp .gt 10, 3)],
  [(18, .iload_n 2, 1), (19, .bipush 48, 2), (21, .isub, 1), (22, .goto 5, 3), (25, .bipush (-9), 2), (27, .ireturn, 1)]]
def mX2_digitAt : x_M := (yX2_digitAt, prog_4_method_8_code, 3, (some .int), kX2_digitAt, IX2)
set_option maxRecDepth 100000 in
theorem decX2_digitAt : x_dec mX2_digitAt := by unfold x_dec; decide +kernel
theorem gX2_digitAt : x_good mX2_digitAt := ⟨plX2, decX2_digitAt, okX2, rfl, x_k2 (List.mem_of_getElem? (i := 8) rfl) rfl, iniX2, mhX2, vhX2⟩
theorem vX2_digitAt : Cond.instanceMethod yX2_digitAt ∈ x_tb ∧ Cond.selects RX2 yX2_digitAt yX2_digitAt ∈ x_tb := ⟨x_k2 (List.mem_of_getElem? (i := 7) rfl) rfl, x_tb_in (List.mem_of_getElem? (i := 5) rfl) rfl⟩
def kX2_digitsFrom : List (List (Nat × Instr × Nat)) := [[(0, .iconst 0, 1), (1, .istore_n 3, 1), (2, .iload_n 3, 1), (3, .iload_n 2, 1), (4, .if_icmp .ge 21, 3), (7, .aload_n 0, 1), (8, .iload_n 1, 1), (9, .iload_n 3, 1), (10, .iadd, 1), (11, .invokevirtual 50, 3), (14, .bipush (-9), 2)],
  [(16, .if_icmp .eq 9, 3), (19, .iinc 3 1, 3), (22, .goto (-20), 3), (25, .iload_n 3, 1), (26, .ireturn, 1)]]
def mX2_digitsFrom : x_M := (yX2_digitsFrom, prog_4_method_9_code, 4, (some .int), kX2_digitsFrom, IX2)
set_option maxRecDepth 100000 in
theorem decX2_digitsFrom : x_dec mX2_digitsFrom := by unfold x_dec; decide +kernel
theorem gX2_digitsFrom : x_good mX2_digitsFrom := ⟨plX2, decX2_digitsFrom, okX2, rfl, x_k2 (List.mem_of_getElem? (i := 4) rfl) rfl, iniX2, mhX2, vhX2⟩
theorem vX2_digitsFrom : Cond.instanceMethod yX2_digitsFrom ∈ x_tb ∧ Cond.selects RX2 yX2_digitsFrom yX2_digitsFrom ∈ x_tb := ⟨x_k2 (List.mem_of_getElem? (i := 3) rfl) rfl, x_tb_in (List.mem_of_getElem? (i := 4) rfl) rfl⟩
def kX2_behindStatement : List (List (Nat × Instr × Nat)) := [[(0, .iload_n 1, 1), (1, .istore_n 2, 1), (2, .iload_n 2, 1), (3, .aload_n 0, 1), (4, .getfield 15, 3), (7, .if_icmp .ge 19, 3), (10, .aload_n 0, 1), (11, .iload_n 2, 1), (12, .invokevirtual 34, 3), (15, .bipush 59, 2)],
  [(17, .if_icmp .eq 9, 3), (20, .iinc 2 1, 3), (23, .goto (-21), 3), (26, .iload_n 2, 1), (27, .iconst 1, 1), (28, .iadd, 1), (29, .ireturn, 1)]]
def mX2_behindStatement : x_M := (yX2_behindStatement, prog_4_method_10_code, 3, (some .int), kX2_behindStatement, IX2)
set_option maxRecDepth 100000 in
theorem decX2_behindStatement : x_dec mX2_behindStatement := by unfold x_dec; decide +kernel
theorem gX2_behindStatement : x_good mX2_behindStatement := ⟨plX2, decX2_behindStatement, okX2, rfl, x_k2 (List.mem_of_getElem? (i := 15) rfl) rfl, iniX2, mhX2, vhX2⟩
theorem vX2_behindStatement : Cond.instanceMethod yX2_behindStatement ∈ x_tb ∧ Cond.selects RX2 yX2_behindStatement yX2_behindStatement ∈ x_tb := ⟨x_k2 (List.mem_of_getElem? (i := 14) rfl) rfl, x_tb_in (List.mem_of_getElem? (i := 6) rfl) rfl⟩
def kX2_mostDigits : List (List (Nat × Instr × Nat)) := [[(0, .iload_n 0, 1), (1, .tableswitch 98 98 116 #[91, 91, 98, 98, 93, 98, 98, 98, 98, 98, 93, 98, 98, 98, 98, 98, 98, 95, 93], 91)],
  [],
  [],
  [],
  [],
  [(92, .iconst 2, 1), (93, .ireturn, 1), (94, .iconst 1, 1), (95, .ireturn, 1)],
  [(96, .bipush 9, 2), (98, .ireturn, 1), (99, .iconst 0, 1), (100, .ireturn, 1)]]
def mX2_mostDigits : x_M := (yX2_mostDigits, prog_4_method_11_code, 1, (some .int), kX2_mostDigits, IX2)
set_option maxRecDepth 100000 in
theorem decX2_mostDigits : x_dec mX2_mostDigits := by unfold x_dec; decide +kernel
theorem gX2_mostDigits : x_good mX2_mostDigits := ⟨plX2, decX2_mostDigits, okX2, rfl, x_k1 (List.mem_of_getElem? (i := 237) rfl) rfl, iniX2, mhX2, vhX2⟩
theorem vX2_mostDigits : Cond.static yX2_mostDigits ∈ x_tb := x_k1 (List.mem_of_getElem? (i := 236) rfl) rfl
def kX2_leastDigits : List (List (Nat × Instr × Nat)) := [[(0, .iload_n 0, 1), (1, .bipush 115, 2), (3, .if_icmp .ne 7, 3), (6, .iconst 1, 1), (7, .goto 7, 3), (10, .iload_n 0, 1), (11, .invokestatic 37, 3), (14, .ireturn, 1)]]
def mX2_leastDigits : x_M := (yX2_leastDigits, prog_4_method_12_code, 1, (some .int), kX2_leastDigits, IX2)
set_option maxRecDepth 100000 in
theorem decX2_leastDigits : x_dec mX2_leastDigits := by unfold x_dec; decide +kernel
theorem gX2_leastDigits : x_good mX2_leastDigits := ⟨plX2, decX2_leastDigits, okX2, rfl, x_k2 (List.mem_of_getElem? (i := 11) rfl) rfl, iniX2, mhX2, vhX2⟩
theorem vX2_leastDigits : Cond.static yX2_leastDigits ∈ x_tb := x_k2 (List.mem_of_getElem? (i := 10) rfl) rfl
def kX2_kindFor : List (List (Nat × Instr × Nat)) := [[(0, .iload_n 0, 1), (1, .tableswitch 107 100 119 #[99, 107, 107, 107, 97, 107, 107, 107, 107, 107, 103, 95, 107, 105, 107, 107, 107, 107, 107, 101], 95)],
  [],
  [],
  [],
  [],
  [],
  [(96, .iconst 0, 1), (97, .ireturn, 1), (98, .iconst 1, 1), (99, .ireturn, 1), (100, .iconst 2, 1), (101, .ireturn, 1), (102, .iconst 3, 1), (103, .ireturn, 1), (104, .iconst 4, 1), (105, .ireturn, 1), (106, .iconst 5, 1), (107, .ireturn, 1), (108, .bipush (-9), 2), (110, .ireturn, 1)]]
def mX2_kindFor : x_M := (yX2_kindFor, prog_4_method_13_code, 1, (some .int), kX2_kindFor, IX2)
set_option maxRecDepth 100000 in
theorem decX2_kindFor : x_dec mX2_kindFor := by unfold x_dec; decide +kernel
theorem gX2_kindFor : x_good mX2_kindFor := ⟨plX2, decX2_kindFor, okX2, rfl, x_k2 (List.mem_of_getElem? (i := 0) rfl) rfl, iniX2, mhX2, vhX2⟩
theorem vX2_kindFor : Cond.static yX2_kindFor ∈ x_tb := x_k1 (List.mem_of_getElem? (i := 239) rfl) rfl
def kX2_apply : List (List (Nat × Instr × Nat)) := [[(0, .aload_n 0, 1), (1, .iload_n 1, 1), (2, .iconst 1, 1), (3, .iadd, 1), (4, .invokevirtual 50, 3), (7, .istore_n 3, 1), (8, .aload_n 0, 1), (9, .iload_n 1, 1), (10, .iconst 2, 1), (11, .iadd, 1), (12, .invokevirtual 50, 3), (15, .istore 4, 2)],
  [(17, .aload_n 0, 1), (18, .iload_n 1, 1), (19, .invokevirtual 34, 3), (22, .lookupswitch 141 #[(98, 50), (99, 105), (102, 57), (108, 73), (116, 89)], 50)],
  [],
  [],
  [(72, .aload_n 0, 1), (73, .iload_n 1, 1), (74, .aload_n 2, 1), (75, .invokevirtual 53, 3), (78, .ireturn, 1), (79, .aload_n 2, 1)],
  [(80, .iload_n 3, 1), (81, .putfield 56, 3), (84, .iload_n 3, 1), (85, .iconst 1, 1), (86, .if_icmp .lt 7, 3), (89, .iconst 1, 1), (90, .goto 4, 3), (93, .iconst 0, 1), (94, .ireturn, 1), (95, .aload_n 2, 1)],
  [(96, .iload_n 3, 1), (97, .putfield 61, 3), (100, .iload_n 3, 1), (101, .iconst 1, 1), (102, .if_icmp .gt 7, 3), (105, .iconst 1, 1), (106, .goto 4, 3), (109, .iconst 0, 1), (110, .ireturn, 1), (111, .aload_n 2, 1)],
  [(112, .iload_n 3, 1), (113, .putfield 64, 3), (116, .iload_n 3, 1), (117, .iconst 1, 1), (118, .if_icmp .gt 7, 3), (121, .iconst 1, 1), (122, .goto 4, 3), (125, .iconst 0, 1), (126, .ireturn, 1), (127, .aload_n 2, 1)],
  [(128, .iload_n 3, 1), (129, .iload 4, 2), (131, .invokevirtual 67, 3), (134, .iload_n 3, 1), (135, .iload 4, 2), (137, .if_icmp .eq 24, 3), (140, .aload_n 2, 1), (141, .iload_n 3, 1), (142, .invokevirtual 71, 3)],
  [(145, .ifCond .eq 16, 3), (148, .aload_n 2, 1), (149, .iload 4, 2), (151, .invokevirtual 71, 3), (154, .ifCond .eq 7, 3), (157, .iconst 1, 1), (158, .goto 4, 3)],
  [(161, .iconst 0, 1), (162, .ireturn, 1), (163, .aload_n 0, 1), (164, .iload_n 1, 1), (165, .iconst 1, 1), (166, .iadd, 1), (167, .aload_n 2, 1), (168, .invokevirtual 75, 3), (171, .ireturn, 1)]]
def mX2_apply : x_M := (yX2_apply, prog_4_method_14_code, 5, (some .boolean), kX2_apply, IX2)
set_option maxRecDepth 100000 in
theorem decX2_apply : x_dec mX2_apply := by unfold x_dec; decide +kernel
theorem gX2_apply : x_good mX2_apply := ⟨plX2, decX2_apply, okX2, rfl, x_k2 (List.mem_of_getElem? (i := 19) rfl) rfl, iniX2, mhX2, vhX2⟩
theorem vX2_apply : Cond.instanceMethod yX2_apply ∈ x_tb ∧ Cond.selects RX2 yX2_apply yX2_apply ∈ x_tb := ⟨x_k2 (List.mem_of_getElem? (i := 18) rfl) rfl, x_tb_in (List.mem_of_getElem? (i := 7) rfl) rfl⟩
def kX2_addBowl : List (List (Nat × Instr × Nat)) := [[(0, .bipush 10, 2), (2, .aload_n 0, 1), (3, .iload_n 1, 1), (4, .iconst 2, 1), (5, .iadd, 1), (6, .invokevirtual 50, 3), (9, .imul, 1), (10, .aload_n 0, 1), (11, .iload_n 1, 1), (12, .iconst 3, 1), (13, .iadd, 1), (14, .invokevirtual 50, 3)],
  [(17, .iadd, 1), (18, .istore_n 3, 1), (19, .iload_n 3, 1), (20, .bipush 20, 2), (22, .if_icmp .gt 25, 3), (25, .aload_n 2, 1), (26, .aload_n 0, 1), (27, .iload_n 1, 1), (28, .iconst 1, 1), (29, .iadd, 1), (30, .invokevirtual 34, 3)],
  [(33, .invokestatic 40, 3), (36, .iload_n 3, 1), (37, .invokevirtual 78, 3), (40, .ifCond .eq 7, 3), (43, .iconst 1, 1), (44, .goto 4, 3), (47, .iconst 0, 1)],
  [(48, .ireturn, 1)]]
def mX2_addBowl : x_M := (yX2_addBowl, prog_4_method_15_code, 4, (some .boolean), kX2_addBowl, IX2)
set_option maxRecDepth 100000 in
theorem decX2_addBowl : x_dec mX2_addBowl := by unfold x_dec; decide +kernel
theorem gX2_addBowl : x_good mX2_addBowl := ⟨plX2, decX2_addBowl, okX2, rfl, x_k2 (List.mem_of_getElem? (i := 23) rfl) rfl, iniX2, mhX2, vhX2⟩
theorem vX2_addBowl : Cond.instanceMethod yX2_addBowl ∈ x_tb ∧ Cond.selects RX2 yX2_addBowl yX2_addBowl ∈ x_tb := ⟨x_k2 (List.mem_of_getElem? (i := 22) rfl) rfl, x_tb_in (List.mem_of_getElem? (i := 8) rfl) rfl⟩
def kX2_makeMoves : List (List (Nat × Instr × Nat)) := [[(0, .iload_n 1, 1), (1, .istore_n 3, 1), (2, .iload_n 3, 1), (3, .aload_n 0, 1), (4, .getfield 15, 3), (7, .if_icmp .ge 52, 3), (10, .aload_n 0, 1), (11, .iload_n 3, 1), (12, .invokevirtual 50, 3), (15, .bipush (-9), 2)],
  [(17, .if_icmp .eq 42, 3), (20, .aload_n 2, 1), (21, .aload_n 0, 1), (22, .iload_n 3, 1), (23, .invokevirtual 50, 3), (26, .invokevirtual 81, 3), (29, .ifCond .eq 13, 3)],
  [(32, .aload_n 2, 1), (33, .getfield 84, 3), (36, .sipush 999, 3), (39, .if_icmp .lt 5, 3), (42, .iconst 0, 1), (43, .ireturn, 1), (44, .aload_n 2, 1), (45, .aload_n 0, 1), (46, .iload_n 3, 1), (47, .invokevirtual 50, 3)],
  [(50, .invokevirtual 87, 3), (53, .iinc 3 1, 3), (56, .goto (-54), 3), (59, .iconst 1, 1), (60, .ireturn, 1)]]
def mX2_makeMoves : x_M := (yX2_makeMoves, prog_4_method_16_code, 4, (some .boolean), kX2_makeMoves, IX2)
set_option maxRecDepth 100000 in
theorem decX2_makeMoves : x_dec mX2_makeMoves := by unfold x_dec; decide +kernel
theorem gX2_makeMoves : x_good mX2_makeMoves := ⟨plX2, decX2_makeMoves, okX2, rfl, x_k2 (List.mem_of_getElem? (i := 48) rfl) rfl, iniX2, mhX2, vhX2⟩
theorem vX2_makeMoves : Cond.instanceMethod yX2_makeMoves ∈ x_tb ∧ Cond.selects RX2 yX2_makeMoves yX2_makeMoves ∈ x_tb := ⟨x_k2 (List.mem_of_getElem? (i := 47) rfl) rfl, x_tb_in (List.mem_of_getElem? (i := 9) rfl) rfl⟩
def kX3_init : List (List (Nat × Instr × Nat)) := [[(0, .aload_n 0, 1), (1, .invokespecial 3, 3), (4, .aload_n 0, 1), (5, .bipush 9, 2), (7, .newarray .int, 2), (9, .putfield 9, 3), (12, .aload_n 0, 1), (13, .bipush 9, 2), (15, .newarray .int, 2)],
  [(17, .putfield 15, 3), (20, .aload_n 0, 1), (21, .iconst 2, 1), (22, .newarray .int, 2), (24, .putfield 18, 3), (27, .aload_n 0, 1), (28, .iconst 0, 1), (29, .putfield 21, 3)],
  [(32, .aload_n 0, 1), (33, .iconst 4, 1), (34, .putfield 25, 3), (37, .aload_n 0, 1), (38, .iconst 0, 1), (39, .putfield 28, 3), (42, .aload_n 0, 1), (43, .iconst 0, 1), (44, .putfield 31, 3), (47, .aload_n 0, 1)],
  [(48, .iconst 0, 1), (49, .putfield 34, 3), (52, .aload_n 0, 1), (53, .iconst 0, 1), (54, .putfield 37, 3), (57, .aload_n 0, 1), (58, .bipush (-9), 2), (60, .putfield 40, 3), (63, .aload_n 0, 1)],
  [(64, .iconst 0, 1), (65, .putfield 43, 3), (68, .aload_n 0, 1), (69, .iconst 0, 1), (70, .putfield 46, 3), (73, .return_, 1)]]
def mX3_init : x_M := (yX3_init, prog_5_method_1_code, 1, none, kX3_init, IX3)
set_option maxRecDepth 100000 in
theorem decX3_init : x_dec mX3_init := by unfold x_dec; decide +kernel
theorem gX3_init : x_good mX3_init := ⟨plX3, decX3_init, okX3, rfl, x_k1 (List.mem_of_getElem? (i := 23) rfl) rfl, iniX3, mhX3, vhX3⟩
theorem vX3_init : Cond.instanceMethod yX3_init ∈ x_tb := x_k1 (List.mem_of_getElem? (i := 22) rfl) rfl
def kX3_copyFrom : List (List (Nat × Instr × Nat)) := [[(0, .aload_n 1, 1), (1, .ifnonnull 4, 3), (4, .return_, 1), (5, .aload_n 1, 1), (6, .getfield 9, 3), (9, .iconst 0, 1), (10, .aload_n 0, 1), (11, .getfield 9, 3), (14, .iconst 0, 1), (15, .bipush 9, 2)],
  [(17, .invokestatic 49, 3), (20, .aload_n 1, 1), (21, .getfield 15, 3), (24, .iconst 0, 1), (25, .aload_n 0, 1), (26, .getfield 15, 3), (29, .iconst 0, 1), (30, .bipush 9, 2)],
  [(32, .invokestatic 49, 3), (35, .aload_n 1, 1), (36, .getfield 18, 3), (39, .iconst 0, 1), (40, .aload_n 0, 1), (41, .getfield 18, 3), (44, .iconst 0, 1), (45, .iconst 2, 1), (46, .invokestatic 49, 3)],
  [(49, .aload_n 0, 1), (50, .aload_n 1, 1), (51, .getfield 21, 3), (54, .putfield 21, 3), (57, .aload_n 0, 1), (58, .aload_n 1, 1), (59, .getfield 25, 3), (62, .putfield 25, 3)],
  [(65, .aload_n 0, 1), (66, .aload_n 1, 1), (67, .getfield 28, 3), (70, .putfield 28, 3), (73, .aload_n 0, 1), (74, .aload_n 1, 1), (75, .getfield 31, 3), (78, .putfield 31, 3)],
  [(81, .aload_n 0, 1), (82, .aload_n 1, 1), (83, .getfield 34, 3), (86, .putfield 34, 3), (89, .return_, 1)]]
def mX3_copyFrom : x_M := (yX3_copyFrom, prog_5_method_2_code, 2, none, kX3_copyFrom, IX3)
set_option maxRecDepth 100000 in
theorem decX3_copyFrom : x_dec mX3_copyFrom := by unfold x_dec; decide +kernel
theorem gX3_copyFrom : x_good mX3_copyFrom := ⟨plX3, decX3_copyFrom, okX3, rfl, x_k1 (List.mem_of_getElem? (i := 215) rfl) rfl, iniX3, mhX3, vhX3⟩
theorem vX3_copyFrom : Cond.instanceMethod yX3_copyFrom ∈ x_tb ∧ Cond.selects RX3 yX3_copyFrom yX3_copyFrom ∈ x_tb := ⟨x_k1 (List.mem_of_getElem? (i := 213) rfl) rfl, x_k1 (List.mem_of_getElem? (i := 214) rfl) rfl⟩
def kX3_has : List (List (Nat × Instr × Nat)) := [[(0, .iload_n 1, 1), (1, .ifCond .lt 21, 3), (4, .iload_n 1, 1), (5, .aload_n 0, 1), (6, .getfield 21, 3), (9, .if_icmp .ge 13, 3), (12, .iload_n 1, 1), (13, .bipush 9, 2), (15, .if_icmp .ge 7, 3)],
  [(18, .iconst 1, 1), (19, .goto 4, 3), (22, .iconst 0, 1), (23, .ireturn, 1)]]
def mX3_has : x_M := (yX3_has, prog_5_method_3_code, 2, (some .boolean), kX3_has, IX3)
set_option maxRecDepth 100000 in
theorem decX3_has : x_dec mX3_has := by unfold x_dec; decide +kernel
theorem gX3_has : x_good mX3_has := ⟨plX3, decX3_has, okX3, rfl, x_k2 (List.mem_of_getElem? (i := 39) rfl) rfl, iniX3, mhX3, vhX3⟩
theorem vX3_has : Cond.instanceMethod yX3_has ∈ x_tb ∧ Cond.selects RX3 yX3_has yX3_has ∈ x_tb := ⟨x_k2 (List.mem_of_getElem? (i := 37) rfl) rfl, x_k2 (List.mem_of_getElem? (i := 38) rfl) rfl⟩
def kX3_addBowl : List (List (Nat × Instr × Nat)) := [[(0, .aload_n 0, 1), (1, .getfield 21, 3), (4, .ifCond .lt 12, 3), (7, .aload_n 0, 1), (8, .getfield 21, 3), (11, .bipush 9, 2), (13, .if_icmp .lt 5, 3)],
  [(16, .iconst 0, 1), (17, .ireturn, 1), (18, .aload_n 0, 1), (19, .getfield 9, 3), (22, .aload_n 0, 1), (23, .getfield 21, 3), (26, .iload_n 1, 1), (27, .iastore, 1), (28, .aload_n 0, 1), (29, .getfield 15, 3)],
  [(32, .aload_n 0, 1), (33, .getfield 21, 3), (36, .iload_n 2, 1), (37, .iastore, 1), (38, .aload_n 0, 1), (39, .dup, 1), (40, .getfield 21, 3), (43, .iconst 1, 1), (44, .iadd, 1), (45, .putfield 21, 3)],
  [(48, .iconst 1, 1), (49, .ireturn, 1)]]
def mX3_addBowl : x_M := (yX3_addBowl, prog_5_method_4_code, 3, (some .boolean), kX3_addBowl, IX3)
set_option maxRecDepth 100000 in
theorem decX3_addBowl : x_dec mX3_addBowl := by unfold x_dec; decide +kernel
theorem gX3_addBowl : x_good mX3_addBowl := ⟨plX3, decX3_addBowl, okX3, rfl, x_k2 (List.mem_of_getElem? (i := 27) rfl) rfl, iniX3, mhX3, vhX3⟩
theorem vX3_addBowl : Cond.instanceMethod yX3_addBowl ∈ x_tb ∧ Cond.selects RX3 yX3_addBowl yX3_addBowl ∈ x_tb := ⟨x_k2 (List.mem_of_getElem? (i := 25) rfl) rfl, x_k2 (List.mem_of_getElem? (i := 26) rfl) rfl⟩
def kX3_kindOf : List (List (Nat × Instr × Nat)) := [[(0, .aload_n 0, 1), (1, .iload_n 1, 1), (2, .invokevirtual 55, 3), (5, .ifCond .eq 12, 3), (8, .aload_n 0, 1), (9, .getfield 9, 3), (12, .iload_n 1, 1), (13, .iaload, 1), (14, .goto 5, 3)],
  [(17, .bipush (-9), 2), (19, .ireturn, 1)]]
def mX3_kindOf : x_M := (yX3_kindOf, prog_5_method_5_code, 2, (some .int), kX3_kindOf, IX3)
set_option maxRecDepth 100000 in
theorem decX3_kindOf : x_dec mX3_kindOf := by unfold x_dec; decide +kernel
theorem gX3_kindOf : x_good mX3_kindOf := ⟨plX3, decX3_kindOf, okX3, rfl, x_k2 (List.mem_of_getElem? (i := 94) rfl) rfl, iniX3, mhX3, vhX3⟩
theorem vX3_kindOf : Cond.instanceMethod yX3_kindOf ∈ x_tb ∧ Cond.selects RX3 yX3_kindOf yX3_kindOf ∈ x_tb := ⟨x_k2 (List.mem_of_getElem? (i := 92) rfl) rfl, x_k2 (List.mem_of_getElem? (i := 93) rfl) rfl⟩
def kX3_beansOf : List (List (Nat × Instr × Nat)) := [[(0, .aload_n 0, 1), (1, .iload_n 1, 1), (2, .invokevirtual 55, 3), (5, .ifCond .eq 12, 3), (8, .aload_n 0, 1), (9, .getfield 15, 3), (12, .iload_n 1, 1), (13, .iaload, 1), (14, .goto 4, 3)],
  [(17, .iconst 0, 1), (18, .ireturn, 1)]]
def mX3_beansOf : x_M := (yX3_beansOf, prog_5_method_6_code, 2, (some .int), kX3_beansOf, IX3)
set_option maxRecDepth 100000 in
theorem decX3_beansOf : x_dec mX3_beansOf := by unfold x_dec; decide +kernel
theorem gX3_beansOf : x_good mX3_beansOf := ⟨plX3, decX3_beansOf, okX3, rfl, x_k2 (List.mem_of_getElem? (i := 35) rfl) rfl, iniX3, mhX3, vhX3⟩
theorem vX3_beansOf : Cond.instanceMethod yX3_beansOf ∈ x_tb ∧ Cond.selects RX3 yX3_beansOf yX3_beansOf ∈ x_tb := ⟨x_k2 (List.mem_of_getElem? (i := 33) rfl) rfl, x_k2 (List.mem_of_getElem? (i := 34) rfl) rfl⟩
def kX3_purseOf : List (List (Nat × Instr × Nat)) := [[(0, .iload_n 1, 1), (1, .ifCond .lt 21, 3), (4, .iload_n 1, 1), (5, .aload_n 0, 1), (6, .getfield 18, 3), (9, .arraylength, 1), (10, .if_icmp .ge 12, 3), (13, .aload_n 0, 1), (14, .getfield 18, 3)],
  [(17, .iload_n 1, 1), (18, .iaload, 1), (19, .goto 4, 3), (22, .iconst 0, 1), (23, .ireturn, 1)]]
def mX3_purseOf : x_M := (yX3_purseOf, prog_5_method_7_code, 2, (some .int), kX3_purseOf, IX3)
set_option maxRecDepth 100000 in
theorem decX3_purseOf : x_dec mX3_purseOf := by unfold x_dec; decide +kernel
theorem gX3_purseOf : x_good mX3_purseOf := ⟨plX3, decX3_purseOf, okX3, rfl, x_k3 (List.mem_of_getElem? (i := 58) rfl) rfl, iniX3, mhX3, vhX3⟩
theorem vX3_purseOf : Cond.instanceMethod yX3_purseOf ∈ x_tb ∧ Cond.selects RX3 yX3_purseOf yX3_purseOf ∈ x_tb := ⟨x_k3 (List.mem_of_getElem? (i := 56) rfl) rfl, x_k3 (List.mem_of_getElem? (i := 57) rfl) rfl⟩
def kX3_lay : List (List (Nat × Instr × Nat)) := [[(0, .aload_n 0, 1), (1, .iload_n 1, 1), (2, .invokevirtual 55, 3), (5, .ifCond .eq 10, 3), (8, .aload_n 0, 1), (9, .getfield 15, 3), (12, .iload_n 1, 1), (13, .iload_n 2, 1), (14, .iastore, 1), (15, .return_, 1)]]
def mX3_lay : x_M := (yX3_lay, prog_5_method_8_code, 3, none, kX3_lay, IX3)
set_option maxRecDepth 100000 in
theorem decX3_lay : x_dec mX3_lay := by unfold x_dec; decide +kernel
theorem gX3_lay : x_good mX3_lay := ⟨plX3, decX3_lay, okX3, rfl, x_k2 (List.mem_of_getElem? (i := 43) rfl) rfl, iniX3, mhX3, vhX3⟩
theorem vX3_lay : Cond.instanceMethod yX3_lay ∈ x_tb ∧ Cond.selects RX3 yX3_lay yX3_lay ∈ x_tb := ⟨x_k2 (List.mem_of_getElem? (i := 41) rfl) rfl, x_k2 (List.mem_of_getElem? (i := 42) rfl) rfl⟩
def kX3_swapBeans : List (List (Nat × Instr × Nat)) := [[(0, .aload_n 0, 1), (1, .iload_n 1, 1), (2, .invokevirtual 59, 3), (5, .istore_n 3, 1), (6, .aload_n 0, 1), (7, .iload_n 1, 1), (8, .aload_n 0, 1), (9, .iload_n 2, 1), (10, .invokevirtual 59, 3), (13, .invokevirtual 63, 3)],
  [(16, .aload_n 0, 1), (17, .iload_n 2, 1), (18, .iload_n 3, 1), (19, .invokevirtual 63, 3), (22, .return_, 1)]]
def mX3_swapBeans : x_M := (yX3_swapBeans, prog_5_method_9_code, 4, none, kX3_swapBeans, IX3)
set_option maxRecDepth 100000 in
theorem decX3_swapBeans : x_dec mX3_swapBeans := by unfold x_dec; decide +kernel
theorem gX3_swapBeans : x_good mX3_swapBeans := ⟨plX3, decX3_swapBeans, okX3, rfl, x_k2 (List.mem_of_getElem? (i := 31) rfl) rfl, iniX3, mhX3, vhX3⟩
theorem vX3_swapBeans : Cond.instanceMethod yX3_swapBeans ∈ x_tb ∧ Cond.selects RX3 yX3_swapBeans yX3_swapBeans ∈ x_tb := ⟨x_k2 (List.mem_of_getElem? (i := 29) rfl) rfl, x_k2 (List.mem_of_getElem? (i := 30) rfl) rfl⟩
def kX3_allBeans : List (List (Nat × Instr × Nat)) := [[(0, .iconst 0, 1), (1, .istore_n 1, 1), (2, .iconst 0, 1), (3, .istore_n 2, 1), (4, .iload_n 2, 1), (5, .aload_n 0, 1), (6, .getfield 21, 3), (9, .if_icmp .ge 17, 3), (12, .iload_n 1, 1), (13, .aload_n 0, 1), (14, .iload_n 2, 1), (15, .invokevirtual 59, 3)],
  [(18, .iadd, 1), (19, .istore_n 1, 1), (20, .iinc 2 1, 3), (23, .goto (-19), 3), (26, .iload_n 1, 1), (27, .ireturn, 1)]]
def mX3_allBeans : x_M := (yX3_allBeans, prog_5_method_10_code, 3, (some .int), kX3_allBeans, IX3)
set_option maxRecDepth 100000 in
theorem decX3_allBeans : x_dec mX3_allBeans := by unfold x_dec; decide +kernel
theorem gX3_allBeans : x_good mX3_allBeans := ⟨plX3, decX3_allBeans, okX3, rfl, x_k2 (List.mem_of_getElem? (i := 124) rfl) rfl, iniX3, mhX3, vhX3⟩
theorem vX3_allBeans : Cond.instanceMethod yX3_allBeans ∈ x_tb ∧ Cond.selects RX3 yX3_allBeans yX3_allBeans ∈ x_tb := ⟨x_k2 (List.mem_of_getElem? (i := 122) rfl) rfl, x_k2 (List.mem_of_getElem? (i := 123) rfl) rfl⟩
def kX3_sameBeans : List (List (Nat × Instr × Nat)) := [[(0, .iconst 0, 1), (1, .istore_n 2, 1), (2, .iload_n 2, 1), (3, .aload_n 0, 1), (4, .getfield 21, 3), (7, .if_icmp .ge 24, 3), (10, .aload_n 0, 1), (11, .iload_n 2, 1), (12, .invokevirtual 59, 3), (15, .aload_n 1, 1)],
  [(16, .iload_n 2, 1), (17, .invokevirtual 59, 3), (20, .if_icmp .eq 5, 3), (23, .iconst 0, 1), (24, .ireturn, 1), (25, .iinc 2 1, 3), (28, .goto (-26), 3), (31, .iconst 1, 1)],
  [(32, .ireturn, 1)]]
def mX3_sameBeans : x_M := (yX3_sameBeans, prog_5_method_11_code, 3, (some .boolean), kX3_sameBeans, IX3)
set_option maxRecDepth 100000 in
theorem decX3_sameBeans : x_dec mX3_sameBeans := by unfold x_dec; decide +kernel
theorem gX3_sameBeans : x_good mX3_sameBeans := ⟨plX3, decX3_sameBeans, okX3, rfl, x_k2 (List.mem_of_getElem? (i := 179) rfl) rfl, iniX3, mhX3, vhX3⟩
theorem vX3_sameBeans : Cond.instanceMethod yX3_sameBeans ∈ x_tb ∧ Cond.selects RX3 yX3_sameBeans yX3_sameBeans ∈ x_tb := ⟨x_k2 (List.mem_of_getElem? (i := 177) rfl) rfl, x_k2 (List.mem_of_getElem? (i := 178) rfl) rfl⟩
def kX3_soundsFrom : List (List (Nat × Instr × Nat)) := [[(0, .aload_n 0, 1), (1, .iload_n 1, 1), (2, .invokevirtual 55, 3), (5, .ifCond .ne 6, 3), (8, .bipush (-9), 2), (10, .ireturn, 1), (11, .aload_n 0, 1), (12, .getfield 9, 3), (15, .iload_n 1, 1)],
  [(16, .iaload, 1), (17, .tableswitch 59 0 4 #[35, 40, 49, 52, 40], 35)],
  [],
  [(52, .aload_n 0, 1), (53, .getfield 25, 3), (56, .ireturn, 1), (57, .aload_n 0, 1), (58, .getfield 25, 3), (61, .iconst 1, 1), (62, .iadd, 1), (63, .iconst 2, 1)],
  [(64, .idiv, 1), (65, .ireturn, 1), (66, .bipush (-9), 2), (68, .ireturn, 1), (69, .iconst 2, 1), (70, .aload_n 0, 1), (71, .getfield 25, 3), (74, .imul, 1), (75, .ireturn, 1), (76, .bipush 12, 2), (78, .ireturn, 1)]]
def mX3_soundsFrom : x_M := (yX3_soundsFrom, prog_5_method_12_code, 2, (some .int), kX3_soundsFrom, IX3)
set_option maxRecDepth 100000 in
theorem decX3_soundsFrom : x_dec mX3_soundsFrom := by unfold x_dec; decide +kernel
theorem gX3_soundsFrom : x_good mX3_soundsFrom := ⟨plX3, decX3_soundsFrom, okX3, rfl, x_k2 (List.mem_of_getElem? (i := 77) rfl) rfl, iniX3, mhX3, vhX3⟩
theorem vX3_soundsFrom : Cond.instanceMethod yX3_soundsFrom ∈ x_tb ∧ Cond.selects RX3 yX3_soundsFrom yX3_soundsFrom ∈ x_tb := ⟨x_k2 (List.mem_of_getElem? (i := 75) rfl) rfl, x_k2 (List.mem_of_getElem? (i := 76) rfl) rfl⟩
def kX3_isFull : List (List (Nat × Instr × Nat)) := [[(0, .aload_n 0, 1), (1, .iload_n 1, 1), (2, .invokevirtual 67, 3), (5, .istore_n 2, 1), (6, .iload_n 2, 1), (7, .bipush (-9), 2), (9, .if_icmp .eq 16, 3), (12, .aload_n 0, 1), (13, .iload_n 1, 1), (14, .invokevirtual 59, 3)],
  [(17, .iload_n 2, 1), (18, .if_icmp .lt 7, 3), (21, .iconst 1, 1), (22, .goto 4, 3), (25, .iconst 0, 1), (26, .ireturn, 1)]]
def mX3_isFull : x_M := (yX3_isFull, prog_5_method_13_code, 3, (some .boolean), kX3_isFull, IX3)
set_option maxRecDepth 100000 in
theorem decX3_isFull : x_dec mX3_isFull := by unfold x_dec; decide +kernel
theorem gX3_isFull : x_good mX3_isFull := ⟨plX3, decX3_isFull, okX3, rfl, x_k2 (List.mem_of_getElem? (i := 73) rfl) rfl, iniX3, mhX3, vhX3⟩
theorem vX3_isFull : Cond.instanceMethod yX3_isFull ∈ x_tb ∧ Cond.selects RX3 yX3_isFull yX3_isFull ∈ x_tb := ⟨x_k2 (List.mem_of_getElem? (i := 71) rfl) rfl, x_k2 (List.mem_of_getElem? (i := 72) rfl) rfl⟩
def kX3_takes : List (List (Nat × Instr × Nat)) := [[(0, .aload_n 0, 1), (1, .iload_n 1, 1), (2, .invokevirtual 55, 3), (5, .ifCond .eq 14, 3), (8, .aload_n 0, 1), (9, .getfield 15, 3), (12, .iload_n 1, 1), (13, .iaload, 1), (14, .bipush 99, 2)],
  [(16, .if_icmp .lt 5, 3), (19, .iconst 0, 1), (20, .ireturn, 1), (21, .aload_n 0, 1), (22, .getfield 9, 3), (25, .iload_n 1, 1), (26, .iaload, 1), (27, .iconst 4, 1), (28, .if_icmp .ne 16, 3), (31, .aload_n 0, 1)],
  [(32, .getfield 15, 3), (35, .iload_n 1, 1), (36, .iaload, 1), (37, .aload_n 0, 1), (38, .getfield 25, 3), (41, .if_icmp .ge 7, 3), (44, .iconst 1, 1), (45, .goto 4, 3)],
  [(48, .iconst 0, 1), (49, .ireturn, 1)]]
def mX3_takes : x_M := (yX3_takes, prog_5_method_14_code, 2, (some .boolean), kX3_takes, IX3)
set_option maxRecDepth 100000 in
theorem decX3_takes : x_dec mX3_takes := by unfold x_dec; decide +kernel
theorem gX3_takes : x_good mX3_takes := ⟨plX3, decX3_takes, okX3, rfl, x_k2 (List.mem_of_getElem? (i := 69) rfl) rfl, iniX3, mhX3, vhX3⟩
theorem vX3_takes : Cond.instanceMethod yX3_takes ∈ x_tb ∧ Cond.selects RX3 yX3_takes yX3_takes ∈ x_tb := ⟨x_k2 (List.mem_of_getElem? (i := 67) rfl) rfl, x_k2 (List.mem_of_getElem? (i := 68) rfl) rfl⟩
def kX3_canMove : List (List (Nat × Instr × Nat)) := [[(0, .aload_n 0, 1), (1, .getfield 21, 3), (4, .iconst 2, 1), (5, .if_icmp .lt 24, 3), (8, .aload_n 0, 1), (9, .iload_n 1, 1), (10, .invokevirtual 55, 3), (13, .ifCond .eq 16, 3)],
  [(16, .aload_n 0, 1), (17, .getfield 15, 3), (20, .iload_n 1, 1), (21, .iaload, 1), (22, .ifCond .le 7, 3), (25, .iconst 1, 1), (26, .goto 4, 3), (29, .iconst 0, 1), (30, .ireturn, 1)]]
def mX3_canMove : x_M := (yX3_canMove, prog_5_method_15_code, 2, (some .boolean), kX3_canMove, IX3)
set_option maxRecDepth 100000 in
theorem decX3_canMove : x_dec mX3_canMove := by unfold x_dec; decide +kernel
theorem gX3_canMove : x_good mX3_canMove := ⟨plX3, decX3_canMove, okX3, rfl, x_k2 (List.mem_of_getElem? (i := 52) rfl) rfl, iniX3, mhX3, vhX3⟩
theorem vX3_canMove : Cond.instanceMethod yX3_canMove ∈ x_tb ∧ Cond.selects RX3 yX3_canMove yX3_canMove ∈ x_tb := ⟨x_k2 (List.mem_of_getElem? (i := 50) rfl) rfl, x_k2 (List.mem_of_getElem? (i := 51) rfl) rfl⟩
def kX3_makeMove : List (List (Nat × Instr × Nat)) := [[(0, .aload_n 0, 1), (1, .iconst 0, 1), (2, .putfield 37, 3), (5, .aload_n 0, 1), (6, .bipush (-9), 2), (8, .putfield 40, 3), (11, .aload_n 0, 1), (12, .iconst 0, 1), (13, .putfield 43, 3)],
  [(16, .iload_n 1, 1), (17, .istore_n 2, 1), (18, .aload_n 0, 1), (19, .iload_n 1, 1), (20, .invokevirtual 70, 3), (23, .istore_n 3, 1), (24, .iload_n 3, 1), (25, .ifCond .eq 55, 3), (28, .aload_n 0, 1), (29, .getfield 37, 3)],
  [(32, .bipush 60, 2), (34, .if_icmp .ge 46, 3), (37, .aload_n 0, 1), (38, .dup, 1), (39, .getfield 37, 3), (42, .iconst 1, 1), (43, .iadd, 1), (44, .putfield 37, 3), (47, .aload_n 0, 1)],
  [(48, .iload_n 2, 1), (49, .invokevirtual 73, 3), (52, .ifCond .eq 18, 3), (55, .aload_n 0, 1), (56, .aload_n 0, 1), (57, .getfield 40, 3), (60, .invokevirtual 76, 3), (63, .ifCond .eq 7, 3)],
  [(66, .iconst 1, 1), (67, .goto 4, 3), (70, .iconst 0, 1), (71, .istore_n 3, 1), (72, .aload_n 0, 1), (73, .getfield 40, 3), (76, .istore_n 2, 1), (77, .goto (-53), 3)],
  [(80, .aload_n 0, 1), (81, .aload_n 0, 1), (82, .invokevirtual 79, 3), (85, .ifCond .eq 7, 3), (88, .iconst 1, 1), (89, .goto 4, 3), (92, .iconst 0, 1), (93, .putfield 46, 3)],
  [(96, .aload_n 0, 1), (97, .iconst 1, 1), (98, .aload_n 0, 1), (99, .getfield 31, 3), (102, .isub, 1), (103, .putfield 31, 3), (106, .aload_n 0, 1), (107, .dup, 1), (108, .getfield 34, 3), (111, .iconst 1, 1)],
  [(112, .iadd, 1), (113, .putfield 34, 3), (116, .return_, 1)]]
def mX3_makeMove : x_M := (yX3_makeMove, prog_5_method_16_code, 4, none, kX3_makeMove, IX3)
set_option maxRecDepth 100000 in
theorem decX3_makeMove : x_dec mX3_makeMove := by unfold x_dec; decide +kernel
theorem gX3_makeMove : x_good mX3_makeMove := ⟨plX3, decX3_makeMove, okX3, rfl, x_k2 (List.mem_of_getElem? (i := 56) rfl) rfl, iniX3, mhX3, vhX3⟩
theorem vX3_makeMove : Cond.instanceMethod yX3_makeMove ∈ x_tb ∧ Cond.selects RX3 yX3_makeMove yX3_makeMove ∈ x_tb := ⟨x_k2 (List.mem_of_getElem? (i := 54) rfl) rfl, x_k2 (List.mem_of_getElem? (i := 55) rfl) rfl⟩
def kX3_sowHand : List (List (Nat × Instr × Nat)) := [[(0, .aload_n 0, 1), (1, .iload_n 1, 1), (2, .invokevirtual 59, 3), (5, .istore_n 2, 1), (6, .aload_n 0, 1), (7, .getfield 43, 3), (10, .istore_n 3, 1), (11, .iconst 0, 1), (12, .istore 4, 2), (14, .iload_n 1, 1), (15, .istore 5, 2)],
  [(17, .aload_n 0, 1), (18, .iload_n 1, 1), (19, .iconst 0, 1), (20, .invokevirtual 63, 3), (23, .iconst 0, 1), (24, .istore 6, 2), (26, .iload 6, 2), (28, .sipush 1000, 3), (31, .if_icmp .ge 78, 3)],
  [(34, .iload_n 2, 1), (35, .ifCond .le 74, 3), (38, .iload 4, 2), (40, .aload_n 0, 1), (41, .getfield 21, 3), (44, .if_icmp .ge 65, 3), (47, .aload_n 0, 1)],
  [(48, .iload 5, 2), (50, .invokevirtual 83, 3), (53, .istore 5, 2), (55, .aload_n 0, 1), (56, .iload 5, 2), (58, .invokevirtual 86, 3), (61, .ifCond .eq 39, 3)],
  [(64, .aload_n 0, 1), (65, .getfield 15, 3), (68, .iload 5, 2), (70, .dup2, 1), (71, .iaload, 1), (72, .iconst 1, 1), (73, .iadd, 1), (74, .iastore, 1), (75, .iinc 2 (-1), 3), (78, .aload_n 0, 1), (79, .dup, 1)],
  [(80, .getfield 43, 3), (83, .iconst 1, 1), (84, .iadd, 1), (85, .putfield 43, 3), (88, .aload_n 0, 1), (89, .iload 5, 2), (91, .putfield 40, 3), (94, .iconst 0, 1), (95, .istore 4, 2)],
  [(97, .goto 6, 3), (100, .iinc 4 1, 3), (103, .iinc 6 1, 3), (106, .goto (-80), 3), (109, .aload_n 0, 1), (110, .iload_n 1, 1), (111, .aload_n 0, 1)],
  [(112, .iload_n 1, 1), (113, .invokevirtual 59, 3), (116, .iload_n 2, 1), (117, .iadd, 1), (118, .invokevirtual 63, 3), (121, .aload_n 0, 1), (122, .getfield 43, 3), (125, .iload_n 3, 1), (126, .if_icmp .le 7, 3)],
  [(129, .iconst 1, 1), (130, .goto 4, 3), (133, .iconst 0, 1), (134, .ireturn, 1)]]
def mX3_sowHand : x_M := (yX3_sowHand, prog_5_method_17_code, 7, (some .boolean), kX3_sowHand, IX3)
set_option maxRecDepth 100000 in
theorem decX3_sowHand : x_dec mX3_sowHand := by unfold x_dec; decide +kernel
theorem gX3_sowHand : x_good mX3_sowHand := ⟨plX3, decX3_sowHand, okX3, rfl, x_k2 (List.mem_of_getElem? (i := 61) rfl) rfl, iniX3, mhX3, vhX3⟩
theorem vX3_sowHand : Cond.instanceMethod yX3_sowHand ∈ x_tb ∧ Cond.selects RX3 yX3_sowHand yX3_sowHand ∈ x_tb := ⟨x_k2 (List.mem_of_getElem? (i := 60) rfl) rfl, x_tb_in (List.mem_of_getElem? (i := 10) rfl) rfl⟩
def kX3_rightOrLeftOf : List (List (Nat × Instr × Nat)) := [[(0, .aload_n 0, 1), (1, .getfield 28, 3), (4, .iconst 1, 1), (5, .if_icmp .ne 20, 3), (8, .iload_n 1, 1), (9, .ifCond .gt 12, 3), (12, .aload_n 0, 1), (13, .getfield 21, 3)],
  [(16, .iconst 1, 1), (17, .isub, 1), (18, .goto 6, 3), (21, .iload_n 1, 1), (22, .iconst 1, 1), (23, .isub, 1), (24, .ireturn, 1), (25, .iload_n 1, 1), (26, .iconst 1, 1), (27, .iadd, 1), (28, .aload_n 0, 1), (29, .getfield 21, 3)],
  [(32, .if_icmp .lt 7, 3), (35, .iconst 0, 1), (36, .goto 6, 3), (39, .iload_n 1, 1), (40, .iconst 1, 1), (41, .iadd, 1), (42, .ireturn, 1)]]
def mX3_rightOrLeftOf : x_M := (yX3_rightOrLeftOf, prog_5_method_18_code, 2, (some .int), kX3_rightOrLeftOf, IX3)
set_option maxRecDepth 100000 in
theorem decX3_rightOrLeftOf : x_dec mX3_rightOrLeftOf := by unfold x_dec; decide +kernel
theorem gX3_rightOrLeftOf : x_good mX3_rightOrLeftOf := ⟨plX3, decX3_rightOrLeftOf, okX3, rfl, x_k2 (List.mem_of_getElem? (i := 65) rfl) rfl, iniX3, mhX3, vhX3⟩
theorem vX3_rightOrLeftOf : Cond.instanceMethod yX3_rightOrLeftOf ∈ x_tb ∧ Cond.selects RX3 yX3_rightOrLeftOf yX3_rightOrLeftOf ∈ x_tb := ⟨x_k2 (List.mem_of_getElem? (i := 64) rfl) rfl, x_tb_in (List.mem_of_getElem? (i := 11) rfl) rfl⟩
def kX3_takeSingle : List (List (Nat × Instr × Nat)) := [[(0, .aload_n 0, 1), (1, .aload_n 0, 1), (2, .getfield 40, 3), (5, .invokevirtual 59, 3), (8, .iconst 1, 1), (9, .if_icmp .ne 37, 3), (12, .aload_n 0, 1), (13, .getfield 31, 3)],
  [(16, .ifCond .lt 30, 3), (19, .aload_n 0, 1), (20, .getfield 31, 3), (23, .aload_n 0, 1), (24, .getfield 18, 3), (27, .arraylength, 1), (28, .if_icmp .ge 18, 3), (31, .aload_n 0, 1)],
  [(32, .getfield 18, 3), (35, .aload_n 0, 1), (36, .getfield 31, 3), (39, .iaload, 1), (40, .sipush 999, 3), (43, .if_icmp .lt 5, 3), (46, .iconst 0, 1), (47, .ireturn, 1)],
  [(48, .aload_n 0, 1), (49, .aload_n 0, 1), (50, .getfield 40, 3), (53, .iconst 0, 1), (54, .invokevirtual 63, 3), (57, .aload_n 0, 1), (58, .getfield 18, 3), (61, .aload_n 0, 1), (62, .getfield 31, 3)],
  [(65, .dup2, 1), (66, .iaload, 1), (67, .iconst 1, 1), (68, .iadd, 1), (69, .iastore, 1), (70, .iconst 1, 1), (71, .ireturn, 1)]]
def mX3_takeSingle : x_M := (yX3_takeSingle, prog_5_method_19_code, 1, (some .boolean), kX3_takeSingle, IX3)
set_option maxRecDepth 100000 in
theorem decX3_takeSingle : x_dec mX3_takeSingle := by unfold x_dec; decide +kernel
theorem gX3_takeSingle : x_good mX3_takeSingle := ⟨plX3, decX3_takeSingle, okX3, rfl, x_k2 (List.mem_of_getElem? (i := 81) rfl) rfl, iniX3, mhX3, vhX3⟩
theorem vX3_takeSingle : Cond.instanceMethod yX3_takeSingle ∈ x_tb ∧ Cond.selects RX3 yX3_takeSingle yX3_takeSingle ∈ x_tb := ⟨x_k2 (List.mem_of_getElem? (i := 80) rfl) rfl, x_tb_in (List.mem_of_getElem? (i := 12) rfl) rfl⟩
def kX3_beansInOne : List (List (Nat × Instr × Nat)) := [[(0, .lconst 0, 1), (1, .lstore_n 1, 1), (2, .aload_n 0, 1), (3, .getfield 21, 3), (6, .iconst 1, 1), (7, .isub, 1), (8, .istore_n 3, 1), (9, .iload_n 3, 1), (10, .ifCond .lt 21, 3), (13, .lload_n 1, 1), (14, .bipush 7, 2)],
  [(16, .lshl, 1), (17, .aload_n 0, 1), (18, .iload_n 3, 1), (19, .invokevirtual 59, 3), (22, .i2l, 1), (23, .lor, 1), (24, .lstore_n 1, 1), (25, .iinc 3 (-1), 3), (28, .goto (-19), 3), (31, .lload_n 1, 1)],
  [(32, .lreturn, 1)]]
def mX3_beansInOne : x_M := (yX3_beansInOne, prog_5_method_20_code, 4, (some .long), kX3_beansInOne, IX3)
set_option maxRecDepth 100000 in
theorem decX3_beansInOne : x_dec mX3_beansInOne := by unfold x_dec; decide +kernel
theorem gX3_beansInOne : x_good mX3_beansInOne := ⟨plX3, decX3_beansInOne, okX3, rfl, x_k2 (List.mem_of_getElem? (i := 209) rfl) rfl, iniX3, mhX3, vhX3⟩
theorem vX3_beansInOne : Cond.instanceMethod yX3_beansInOne ∈ x_tb ∧ Cond.selects RX3 yX3_beansInOne yX3_beansInOne ∈ x_tb := ⟨x_k2 (List.mem_of_getElem? (i := 207) rfl) rfl, x_k2 (List.mem_of_getElem? (i := 208) rfl) rfl⟩
def kX3_layFrom : List (List (Nat × Instr × Nat)) := [[(0, .lload_n 1, 1), (1, .lstore_n 3, 1), (2, .iconst 0, 1), (3, .istore 5, 2), (5, .iload 5, 2), (7, .aload_n 0, 1), (8, .getfield 21, 3), (11, .if_icmp .ge 26, 3), (14, .aload_n 0, 1), (15, .iload 5, 2)],
  [(17, .lload_n 3, 1), (18, .ldc2_w 89, 3), (21, .land, 1), (22, .l2i, 1), (23, .invokevirtual 63, 3), (26, .lload_n 3, 1), (27, .bipush 7, 2), (29, .lushr, 1), (30, .lstore_n 3, 1), (31, .iinc 5 1, 3)],
  [(34, .goto (-29), 3), (37, .return_, 1)]]
def mX3_layFrom : x_M := (yX3_layFrom, prog_5_method_21_code, 6, none, kX3_layFrom, IX3)
set_option maxRecDepth 100000 in
theorem decX3_layFrom : x_dec mX3_layFrom := by unfold x_dec; decide +kernel
theorem gX3_layFrom : x_good mX3_layFrom := ⟨plX3, decX3_layFrom, okX3, rfl, x_k2 (List.mem_of_getElem? (i := 222) rfl) rfl, iniX3, mhX3, vhX3⟩
theorem vX3_layFrom : Cond.instanceMethod yX3_layFrom ∈ x_tb ∧ Cond.selects RX3 yX3_layFrom yX3_layFrom ∈ x_tb := ⟨x_k2 (List.mem_of_getElem? (i := 220) rfl) rfl, x_k2 (List.mem_of_getElem? (i := 221) rfl) rfl⟩
def kX4_init : List (List (Nat × Instr × Nat)) := [[(0, .aload_n 0, 1), (1, .invokespecial 3, 3), (4, .aload_n 0, 1), (5, .bipush 41, 2), (7, .newarray .long, 2), (9, .putfield 9, 3), (12, .aload_n 0, 1), (13, .bipush 12, 2), (15, .newarray .int, 2)],
  [(17, .putfield 15, 3), (20, .return_, 1)]]
def mX4_init : x_M := (yX4_init, prog_6_method_1_code, 1, none, kX4_init, IX4)
set_option maxRecDepth 100000 in
theorem decX4_init : x_dec mX4_init := by unfold x_dec; decide +kernel
theorem gX4_init : x_good mX4_init := ⟨plX4, decX4_init, okX4, rfl, x_k1 (List.mem_of_getElem? (i := 150) rfl) rfl, iniX4, mhX4, vhX4⟩
theorem vX4_init : Cond.instanceMethod yX4_init ∈ x_tb := x_k1 (List.mem_of_getElem? (i := 149) rfl) rfl
def kX4_toLay : List (List (Nat × Instr × Nat)) := [[(0, .iload_n 3, 1), (1, .ifCond .lt 9, 3), (4, .iload_n 3, 1), (5, .bipush 40, 2), (7, .if_icmp .le 5, 3), (10, .lconst 0, 1), (11, .lreturn, 1), (12, .aload_n 0, 1), (13, .getfield 9, 3)],
  [(16, .lconst 0, 1), (17, .invokestatic 19, 3), (20, .aload_n 0, 1), (21, .getfield 9, 3), (24, .iconst 0, 1), (25, .lconst 1, 1), (26, .lastore, 1), (27, .iconst 0, 1), (28, .istore 4, 2), (30, .iload 4, 2)],
  [(32, .aload_n 1, 1), (33, .getfield 25, 3), (36, .if_icmp .ge 87, 3), (39, .iload 4, 2), (41, .aload_n 2, 1), (42, .arraylength, 1), (43, .if_icmp .ge 80, 3), (46, .aload_n 1, 1), (47, .iload 4, 2)],
  [(49, .invokevirtual 31, 3), (52, .bipush (-9), 2), (54, .if_icmp .ne 8, 3), (57, .bipush 21, 2), (59, .goto 9, 3), (62, .aload_n 1, 1), (63, .iload 4, 2)],
  [(65, .invokevirtual 31, 3), (68, .istore 5, 2), (70, .aload_n 2, 1), (71, .iload 4, 2), (73, .iaload, 1), (74, .iconst 1, 1), (75, .if_icmp .ne 8, 3), (78, .iload 5, 2)],
  [(80, .goto 4, 3), (83, .iconst 0, 1), (84, .istore 6, 2), (86, .aload_n 2, 1), (87, .iload 4, 2), (89, .iaload, 1), (90, .ifCond .ne 15, 3), (93, .iload 5, 2), (95, .iconst 1, 1)],
  [(96, .isub, 1), (97, .bipush 20, 2), (99, .invokestatic 35, 3), (102, .goto 5, 3), (105, .bipush 20, 2), (107, .istore 7, 2), (109, .aload_n 0, 1), (110, .iload 6, 2)],
  [(112, .iload 7, 2), (114, .invokevirtual 41, 3), (117, .iinc 4 1, 3), (120, .goto (-90), 3), (123, .aload_n 0, 1), (124, .getfield 9, 3), (127, .iload_n 3, 1)],
  [(128, .laload, 1), (129, .lreturn, 1)]]
def mX4_toLay : x_M := (yX4_toLay, prog_6_method_2_code, 8, (some .long), kX4_toLay, IX4)
set_option maxRecDepth 100000 in
theorem decX4_toLay : x_dec mX4_toLay := by unfold x_dec; decide +kernel
theorem gX4_toLay : x_good mX4_toLay := ⟨plX4, decX4_toLay, okX4, rfl, x_k3 (List.mem_of_getElem? (i := 18) rfl) rfl, iniX4, mhX4, vhX4⟩
theorem vX4_toLay : Cond.instanceMethod yX4_toLay ∈ x_tb ∧ Cond.selects RX4 yX4_toLay yX4_toLay ∈ x_tb := ⟨x_k3 (List.mem_of_getElem? (i := 16) rfl) rfl, x_k3 (List.mem_of_getElem? (i := 17) rfl) rfl⟩
def kX4_layOneMore : List (List (Nat × Instr × Nat)) := [[(0, .bipush 40, 2), (2, .istore_n 3, 1), (3, .iload_n 3, 1), (4, .ifCond .lt 59, 3), (7, .lconst 0, 1), (8, .lstore 4, 2), (10, .iload_n 1, 1), (11, .iconst 0, 1), (12, .invokestatic 45, 3), (15, .istore 6, 2)],
  [(17, .iload 6, 2), (19, .iload_n 2, 1), (20, .if_icmp .gt 29, 3), (23, .iload 6, 2), (25, .iload_n 3, 1), (26, .if_icmp .gt 23, 3), (29, .lload 4, 2), (31, .aload_n 0, 1)],
  [(32, .getfield 9, 3), (35, .iload_n 3, 1), (36, .iload 6, 2), (38, .isub, 1), (39, .laload, 1), (40, .ladd, 1), (41, .lstore 4, 2), (43, .iinc 6 1, 3), (46, .goto (-29), 3)],
  [(49, .aload_n 0, 1), (50, .getfield 9, 3), (53, .iload_n 3, 1), (54, .lload 4, 2), (56, .lastore, 1), (57, .iinc 3 (-1), 3), (60, .goto (-57), 3), (63, .return_, 1)]]
def mX4_layOneMore : x_M := (yX4_layOneMore, prog_6_method_3_code, 7, none, kX4_layOneMore, IX4)
set_option maxRecDepth 100000 in
theorem decX4_layOneMore : x_dec mX4_layOneMore := by unfold x_dec; decide +kernel
theorem gX4_layOneMore : x_good mX4_layOneMore := ⟨plX4, decX4_layOneMore, okX4, rfl, x_k3 (List.mem_of_getElem? (i := 27) rfl) rfl, iniX4, mhX4, vhX4⟩
theorem vX4_layOneMore : Cond.instanceMethod yX4_layOneMore ∈ x_tb ∧ Cond.selects RX4 yX4_layOneMore yX4_layOneMore ∈ x_tb := ⟨x_k3 (List.mem_of_getElem? (i := 26) rfl) rfl, x_tb_in (List.mem_of_getElem? (i := 21) rfl) rfl⟩
def kX4_bowlToAsk : List (List (Nat × Instr × Nat)) := [[(0, .bipush (-9), 2), (2, .istore 4, 2), (4, .ldc2_w 48, 3), (7, .lstore 5, 2), (9, .aload_n 2, 1), (10, .iconst 0, 1), (11, .aload_n 0, 1), (12, .getfield 15, 3), (15, .iconst 0, 1)],
  [(16, .aload_n 2, 1), (17, .arraylength, 1), (18, .bipush 12, 2), (20, .invokestatic 35, 3), (23, .invokestatic 50, 3), (26, .iconst 0, 1), (27, .istore 7, 2), (29, .iload 7, 2), (31, .aload_n 1, 1)],
  [(32, .getfield 25, 3), (35, .if_icmp .ge 96, 3), (38, .iload 7, 2), (40, .bipush 12, 2), (42, .if_icmp .ge 89, 3), (45, .aload_n 0, 1), (46, .getfield 15, 3)],
  [(49, .iload 7, 2), (51, .iaload, 1), (52, .iconst 2, 1), (53, .if_icmp .ne 72, 3), (56, .aload_n 0, 1), (57, .getfield 15, 3), (60, .iload 7, 2), (62, .iconst 0, 1), (63, .iastore, 1)],
  [(64, .aload_n 0, 1), (65, .aload_n 1, 1), (66, .aload_n 0, 1), (67, .getfield 15, 3), (70, .iload_n 3, 1), (71, .invokevirtual 56, 3), (74, .lstore 8, 2), (76, .aload_n 0, 1), (77, .getfield 15, 3)],
  [(80, .iload 7, 2), (82, .iconst 1, 1), (83, .iastore, 1), (84, .lload 8, 2), (86, .aload_n 0, 1), (87, .aload_n 1, 1), (88, .aload_n 0, 1), (89, .getfield 15, 3), (92, .iload_n 3, 1), (93, .invokevirtual 56, 3)],
  [(96, .invokestatic 60, 3), (99, .lstore 10, 2), (101, .aload_n 0, 1), (102, .getfield 15, 3), (105, .iload 7, 2), (107, .iconst 2, 1), (108, .iastore, 1), (109, .lload 10, 2), (111, .lload 5, 2)],
  [(113, .lcmp, 1), (114, .ifCond .le 11, 3), (117, .lload 10, 2), (119, .lstore 5, 2), (121, .iload 7, 2), (123, .istore 4, 2), (125, .iinc 7 1, 3)],
  [(128, .goto (-99), 3), (131, .iload 4, 2), (133, .ireturn, 1)]]
def mX4_bowlToAsk : x_M := (yX4_bowlToAsk, prog_6_method_4_code, 12, (some .int), kX4_bowlToAsk, IX4)
set_option maxRecDepth 100000 in
theorem decX4_bowlToAsk : x_dec mX4_bowlToAsk := by unfold x_dec; decide +kernel
theorem gX4_bowlToAsk : x_good mX4_bowlToAsk := ⟨plX4, decX4_bowlToAsk, okX4, rfl, x_k3 (List.mem_of_getElem? (i := 42) rfl) rfl, iniX4, mhX4, vhX4⟩
theorem vX4_bowlToAsk : Cond.instanceMethod yX4_bowlToAsk ∈ x_tb ∧ Cond.selects RX4 yX4_bowlToAsk yX4_bowlToAsk ∈ x_tb := ⟨x_k3 (List.mem_of_getElem? (i := 40) rfl) rfl, x_k3 (List.mem_of_getElem? (i := 41) rfl) rfl⟩
def kJ7_fill_d0a16 : List (List (Nat × Instr × Nat)) := [[(0, .iconst 0, 1), (1, .istore_n 3, 1), (2, .aload_n 0, 1), (3, .arraylength, 1), (4, .istore 4, 2), (6, .iload_n 3, 1), (7, .iload 4, 2), (9, .if_icmp .ge 13, 3), (12, .aload_n 0, 1), (13, .iload_n 3, 1), (14, .lload_n 1, 1), (15, .lastore, 1)],
  [(16, .iinc 3 1, 3), (19, .goto (-13), 3), (22, .return_, 1)]]
def mJ7_fill_d0a16 : x_M := (yJ7_fill_d0a16, prog_11_method_101_code, 5, none, kJ7_fill_d0a16, IJ7)
set_option maxRecDepth 100000 in
theorem decJ7_fill_d0a16 : x_dec mJ7_fill_d0a16 := by unfold x_dec; decide +kernel
theorem gJ7_fill_d0a16 : x_good mJ7_fill_d0a16 := ⟨plJ7, decJ7_fill_d0a16, okJ7, rfl, x_k3 (List.mem_of_getElem? (i := 21) rfl) rfl, iniJ7, mhJ7, vhJ7⟩
theorem vJ7_fill_d0a16 : Cond.static yJ7_fill_d0a16 ∈ x_tb := x_k3 (List.mem_of_getElem? (i := 20) rfl) rfl
def kJ7_fill_53178 : List (List (Nat × Instr × Nat)) := [[(0, .iconst 0, 1), (1, .istore_n 2, 1), (2, .aload_n 0, 1), (3, .arraylength, 1), (4, .istore_n 3, 1), (5, .iload_n 2, 1), (6, .iload_n 3, 1), (7, .if_icmp .ge 13, 3), (10, .aload_n 0, 1), (11, .iload_n 2, 1), (12, .iload_n 1, 1), (13, .iastore, 1), (14, .iinc 2 1, 3)],
  [(17, .goto (-12), 3), (20, .return_, 1)]]
def mJ7_fill_53178 : x_M := (yJ7_fill_53178, prog_11_method_103_code, 4, none, kJ7_fill_53178, IJ7)
set_option maxRecDepth 100000 in
theorem decJ7_fill_53178 : x_dec mJ7_fill_53178 := by unfold x_dec; decide +kernel
theorem gJ7_fill_53178 : x_good mJ7_fill_53178 := ⟨plJ7, decJ7_fill_53178, okJ7, rfl, x_k2 (List.mem_of_getElem? (i := 204) rfl) rfl, iniJ7, mhJ7, vhJ7⟩
theorem vJ7_fill_53178 : Cond.static yJ7_fill_53178 ∈ x_tb := x_k2 (List.mem_of_getElem? (i := 203) rfl) rfl
theorem sX0_3 : Cond.methodLink RX0 3 objectInit ∈ x_tb := x_k1 (List.mem_of_getElem? (i := 99) rfl) rfl
theorem sX0_21 : x_sI RX0 21 mX3_init 0 true := ⟨fun h => (by cases h), fun _ => List.mem_of_getElem? (i := 20) rfl, vX3_init, rfl, rfl, x_pd0⟩
theorem sX0_30 : x_sV RX0 30 mX0_gainFor 2 0 := ⟨x_k2 (List.mem_of_getElem? (i := 145) rfl) rfl, vX0_gainFor.1, vX0_gainFor.2, x_pd1, (RX0, TX0, 2), rfl, rfl⟩
theorem sX0_22 : x_sV RX0 22 mX3_copyFrom 1 3 := ⟨x_k2 (List.mem_of_getElem? (i := 149) rfl) rfl, vX3_copyFrom.1, vX3_copyFrom.2, x_pd2, (RX3, TX3, 12), rfl, rfl⟩
theorem sX0_26 : x_sS RX0 26 mX0_gainOf 6 := ⟨x_k2 (List.mem_of_getElem? (i := 150) rfl) rfl, vX0_gainOf, x_pd3⟩
theorem sX0_34 : Cond.methodLink RX0 34 Lib.Math.min.name ∈ x_tb := x_k2 (List.mem_of_getElem? (i := 153) rfl) rfl
theorem sX0_44 : x_sV RX0 44 mX3_canMove 1 3 := ⟨x_k2 (List.mem_of_getElem? (i := 156) rfl) rfl, vX3_canMove.1, vX3_canMove.2, x_pd4, (RX3, TX3, 12), rfl, rfl⟩
theorem sX0_48 : x_sV RX0 48 mX3_makeMove 1 3 := ⟨x_k2 (List.mem_of_getElem? (i := 157) rfl) rfl, vX3_makeMove.1, vX3_makeMove.2, x_pd5, (RX3, TX3, 12), rfl, rfl⟩
theorem sX1_5 : Cond.methodLink RX1 5 objectInit ∈ x_tb := x_k1 (List.mem_of_getElem? (i := 115) rfl) rfl
theorem sX1_24 : x_sI RX1 24 mX3_init 0 true := ⟨fun h => (by cases h), fun _ => List.mem_of_getElem? (i := 22) rfl, vX3_init, rfl, rfl, x_pd0⟩
theorem sX1_42 : x_sV RX1 42 mX3_beansOf 1 3 := ⟨x_k2 (List.mem_of_getElem? (i := 201) rfl) rfl, vX3_beansOf.1, vX3_beansOf.2, x_pd6, (RX3, TX3, 12), rfl, rfl⟩
theorem sX1_46 : x_sS RX1 46 mJ7_fill_53178 2 := ⟨x_k2 (List.mem_of_getElem? (i := 202) rfl) rfl, vJ7_fill_53178, x_pd7⟩
theorem sX1_52 : x_sV RX1 52 mX3_copyFrom 1 3 := ⟨x_k2 (List.mem_of_getElem? (i := 205) rfl) rfl, vX3_copyFrom.1, vX3_copyFrom.2, x_pd2, (RX3, TX3, 12), rfl, rfl⟩
theorem sX1_56 : x_sV RX1 56 mX3_beansInOne 0 3 := ⟨x_k2 (List.mem_of_getElem? (i := 206) rfl) rfl, vX3_beansInOne.1, vX3_beansInOne.2, x_pd8, (RX3, TX3, 12), rfl, rfl⟩
theorem sX1_60 : x_sV RX1 60 mX1_keep 2 1 := ⟨x_k2 (List.mem_of_getElem? (i := 210) rfl) rfl, vX1_keep.1, vX1_keep.2, x_pd9, (RX1, TX1, 8), rfl, rfl⟩
theorem sX1_64 : x_sV RX1 64 mX1_goOnFrom 3 1 := ⟨x_k2 (List.mem_of_getElem? (i := 215) rfl) rfl, vX1_goOnFrom.1, vX1_goOnFrom.2, x_pd10, (RX1, TX1, 8), rfl, rfl⟩
theorem sX1_68 : x_sV RX1 68 mX3_layFrom 1 3 := ⟨x_k2 (List.mem_of_getElem? (i := 219) rfl) rfl, vX3_layFrom.1, vX3_layFrom.2, x_pd11, (RX3, TX3, 12), rfl, rfl⟩
theorem sX1_73 : x_sV RX1 73 mX3_canMove 1 3 := ⟨x_k2 (List.mem_of_getElem? (i := 224) rfl) rfl, vX3_canMove.1, vX3_canMove.2, x_pd4, (RX3, TX3, 12), rfl, rfl⟩
theorem sX1_77 : x_sV RX1 77 mX3_makeMove 1 3 := ⟨x_k2 (List.mem_of_getElem? (i := 225) rfl) rfl, vX3_makeMove.1, vX3_makeMove.2, x_pd5, (RX3, TX3, 12), rfl, rfl⟩
theorem sX2_3 : Cond.methodLink RX2 3 objectInit ∈ x_tb := x_k1 (List.mem_of_getElem? (i := 85) rfl) rfl
theorem sX2_19 : x_sV RX2 19 mX2_stuckAt 0 2 := ⟨x_k1 (List.mem_of_getElem? (i := 223) rfl) rfl, vX2_stuckAt.1, vX2_stuckAt.2, x_pd12, (RX2, TX2, 2), rfl, rfl⟩
theorem sX2_31 : x_sV RX2 31 mX2_stuckIn 1 2 := ⟨x_k1 (List.mem_of_getElem? (i := 227) rfl) rfl, vX2_stuckIn.1, vX2_stuckIn.2, x_pd6, (RX2, TX2, 2), rfl, rfl⟩
theorem sX2_34 : x_sV RX2 34 mX2_letterAt 1 2 := ⟨x_k1 (List.mem_of_getElem? (i := 231) rfl) rfl, vX2_letterAt.1, vX2_letterAt.2, x_pd6, (RX2, TX2, 2), rfl, rfl⟩
theorem sX2_37 : x_sS RX2 37 mX2_mostDigits 1 := ⟨x_k1 (List.mem_of_getElem? (i := 235) rfl) rfl, vX2_mostDigits, x_pd6⟩
theorem sX2_40 : x_sS RX2 40 mX2_kindFor 1 := ⟨x_k1 (List.mem_of_getElem? (i := 238) rfl) rfl, vX2_kindFor, x_pd6⟩
theorem sX2_43 : x_sV RX2 43 mX2_digitsFrom 2 2 := ⟨x_k2 (List.mem_of_getElem? (i := 1) rfl) rfl, vX2_digitsFrom.1, vX2_digitsFrom.2, x_pd13, (RX2, TX2, 2), rfl, rfl⟩
theorem sX2_50 : x_sV RX2 50 mX2_digitAt 1 2 := ⟨x_k2 (List.mem_of_getElem? (i := 5) rfl) rfl, vX2_digitAt.1, vX2_digitAt.2, x_pd6, (RX2, TX2, 2), rfl, rfl⟩
theorem sX2_47 : x_sS RX2 47 mX2_leastDigits 1 := ⟨x_k2 (List.mem_of_getElem? (i := 9) rfl) rfl, vX2_leastDigits, x_pd6⟩
theorem sX2_27 : x_sV RX2 27 mX2_behindStatement 1 2 := ⟨x_k2 (List.mem_of_getElem? (i := 12) rfl) rfl, vX2_behindStatement.1, vX2_behindStatement.2, x_pd6, (RX2, TX2, 2), rfl, rfl⟩
theorem sX2_23 : x_sV RX2 23 mX2_apply 2 2 := ⟨x_k2 (List.mem_of_getElem? (i := 16) rfl) rfl, vX2_apply.1, vX2_apply.2, x_pd14, (RX2, TX2, 2), rfl, rfl⟩
theorem sX2_53 : x_sV RX2 53 mX2_addBowl 2 2 := ⟨x_k2 (List.mem_of_getElem? (i := 20) rfl) rfl, vX2_addBowl.1, vX2_addBowl.2, x_pd14, (RX2, TX2, 2), rfl, rfl⟩
theorem sX2_78 : x_sV RX2 78 mX3_addBowl 2 3 := ⟨x_k2 (List.mem_of_getElem? (i := 24) rfl) rfl, vX3_addBowl.1, vX3_addBowl.2, x_pd15, (RX3, TX3, 12), rfl, rfl⟩
theorem sX2_67 : x_sV RX2 67 mX3_swapBeans 2 3 := ⟨x_k2 (List.mem_of_getElem? (i := 28) rfl) rfl, vX3_swapBeans.1, vX3_swapBeans.2, x_pd16, (RX3, TX3, 12), rfl, rfl⟩
theorem sX2_71 : x_sV RX2 71 mX3_has 1 3 := ⟨x_k2 (List.mem_of_getElem? (i := 44) rfl) rfl, vX3_has.1, vX3_has.2, x_pd4, (RX3, TX3, 12), rfl, rfl⟩
theorem sX2_75 : x_sV RX2 75 mX2_makeMoves 2 2 := ⟨x_k2 (List.mem_of_getElem? (i := 45) rfl) rfl, vX2_makeMoves.1, vX2_makeMoves.2, x_pd14, (RX2, TX2, 2), rfl, rfl⟩
theorem sX2_81 : x_sV RX2 81 mX3_canMove 1 3 := ⟨x_k2 (List.mem_of_getElem? (i := 49) rfl) rfl, vX3_canMove.1, vX3_canMove.2, x_pd4, (RX3, TX3, 12), rfl, rfl⟩
theorem sX2_87 : x_sV RX2 87 mX3_makeMove 1 3 := ⟨x_k2 (List.mem_of_getElem? (i := 53) rfl) rfl, vX3_makeMove.1, vX3_makeMove.2, x_pd5, (RX3, TX3, 12), rfl, rfl⟩
theorem sX3_3 : Cond.methodLink RX3 3 objectInit ∈ x_tb := x_k1 (List.mem_of_getElem? (i := 24) rfl) rfl
theorem sX3_49 : Cond.methodLink RX3 49 arraycopyName ∈ x_tb := x_k1 (List.mem_of_getElem? (i := 216) rfl) rfl
theorem sX3_59 : x_sV RX3 59 mX3_beansOf 1 3 := ⟨x_k2 (List.mem_of_getElem? (i := 32) rfl) rfl, vX3_beansOf.1, vX3_beansOf.2, x_pd6, (RX3, TX3, 12), rfl, rfl⟩
theorem sX3_55 : x_sV RX3 55 mX3_has 1 3 := ⟨x_k2 (List.mem_of_getElem? (i := 36) rfl) rfl, vX3_has.1, vX3_has.2, x_pd4, (RX3, TX3, 12), rfl, rfl⟩
theorem sX3_63 : x_sV RX3 63 mX3_lay 2 3 := ⟨x_k2 (List.mem_of_getElem? (i := 40) rfl) rfl, vX3_lay.1, vX3_lay.2, x_pd16, (RX3, TX3, 12), rfl, rfl⟩
theorem sX3_70 : x_sV RX3 70 mX3_canMove 1 3 := ⟨x_k2 (List.mem_of_getElem? (i := 57) rfl) rfl, vX3_canMove.1, vX3_canMove.2, x_pd4, (RX3, TX3, 12), rfl, rfl⟩
theorem sX3_73 : x_sV RX3 73 mX3_sowHand 1 3 := ⟨x_k2 (List.mem_of_getElem? (i := 58) rfl) rfl, vX3_sowHand.1, vX3_sowHand.2, x_pd4, (RX3, TX3, 12), rfl, rfl⟩
theorem sX3_83 : x_sV RX3 83 mX3_rightOrLeftOf 1 3 := ⟨x_k2 (List.mem_of_getElem? (i := 62) rfl) rfl, vX3_rightOrLeftOf.1, vX3_rightOrLeftOf.2, x_pd6, (RX3, TX3, 12), rfl, rfl⟩
theorem sX3_86 : x_sV RX3 86 mX3_takes 1 3 := ⟨x_k2 (List.mem_of_getElem? (i := 66) rfl) rfl, vX3_takes.1, vX3_takes.2, x_pd4, (RX3, TX3, 12), rfl, rfl⟩
theorem sX3_76 : x_sV RX3 76 mX3_isFull 1 3 := ⟨x_k2 (List.mem_of_getElem? (i := 70) rfl) rfl, vX3_isFull.1, vX3_isFull.2, x_pd4, (RX3, TX3, 12), rfl, rfl⟩
theorem sX3_67 : x_sV RX3 67 mX3_soundsFrom 1 3 := ⟨x_k2 (List.mem_of_getElem? (i := 74) rfl) rfl, vX3_soundsFrom.1, vX3_soundsFrom.2, x_pd6, (RX3, TX3, 12), rfl, rfl⟩
theorem sX3_79 : x_sV RX3 79 mX3_takeSingle 0 3 := ⟨x_k2 (List.mem_of_getElem? (i := 78) rfl) rfl, vX3_takeSingle.1, vX3_takeSingle.2, x_pd17, (RX3, TX3, 12), rfl, rfl⟩
theorem sX4_3 : Cond.methodLink RX4 3 objectInit ∈ x_tb := x_k1 (List.mem_of_getElem? (i := 151) rfl) rfl
theorem sX4_19 : x_sS RX4 19 mJ7_fill_d0a16 2 := ⟨x_k3 (List.mem_of_getElem? (i := 19) rfl) rfl, vJ7_fill_d0a16, x_pd18⟩
theorem sX4_31 : x_sV RX4 31 mX3_soundsFrom 1 3 := ⟨x_k3 (List.mem_of_getElem? (i := 22) rfl) rfl, vX3_soundsFrom.1, vX3_soundsFrom.2, x_pd6, (RX3, TX3, 12), rfl, rfl⟩
theorem sX4_35 : Cond.methodLink RX4 35 Lib.Math.min.name ∈ x_tb := x_k3 (List.mem_of_getElem? (i := 23) rfl) rfl
theorem sX4_41 : x_sV RX4 41 mX4_layOneMore 2 4 := ⟨x_k3 (List.mem_of_getElem? (i := 24) rfl) rfl, vX4_layOneMore.1, vX4_layOneMore.2, x_pd16, (RX4, TX4, 2), rfl, rfl⟩
theorem sX4_45 : Cond.methodLink RX4 45 Lib.Math.max.name ∈ x_tb := x_k3 (List.mem_of_getElem? (i := 28) rfl) rfl
theorem sX4_50 : Cond.methodLink RX4 50 arraycopyName ∈ x_tb := x_k3 (List.mem_of_getElem? (i := 44) rfl) rfl
theorem sX4_56 : x_sV RX4 56 mX4_toLay 3 4 := ⟨x_k3 (List.mem_of_getElem? (i := 45) rfl) rfl, vX4_toLay.1, vX4_toLay.2, x_pd19, (RX4, TX4, 2), rfl, rfl⟩
theorem sX4_60 : Cond.methodLink RX4 60 Lib.MathLoose.min_long.x ∈ x_tb := x_k3 (List.mem_of_getElem? (i := 46) rfl) rfl
theorem mth_minS : Cond.static Lib.Math.min.name ∈ x_tb := x_k2 (List.mem_of_getElem? (i := 154) rfl) rfl
theorem mth_minC : Cond.code Lib.Math.min.name Lib.Math.min.code 2 (some .int) ∈ x_tb := x_k2 (List.mem_of_getElem? (i := 155) rfl) rfl
theorem x_mmin {pc' : Nat} {E : x_E} {R : Room} {me : x_M} {QQ : List Frame → Array Value → State → State → Prop} {pc : Nat} {lv : x_L} {st : List Value} {z : Nat} {f : x_H} {cl sl : Nat} {i : Nat} {x y : Int32} (hc : x_at me pc = some (.invokestatic i, 3)) (hp : pc + 3 = pc') (hs : Cond.methodLink me.2.2.2.2.2.1 i Lib.Math.min.name ∈ x_tb) (hR : 1 ≤ R.frames ∧ 8 + 15 ≤ R.locals) (hw : (st.map fun v => v.category).sum ≤ 8) (h1 : cl ≤ R.cells) (h2 : sl ≤ R.slots) (k : X E R me QQ pc' lv (.int (if y < x then y else x) :: st) z f cl sl) : X E R me QQ pc lv (.int y :: .int x :: st) z f cl sl := by
  subst hp
  intro p e s m args below meth c H locs ls cx hz hP hS hl
  obtain ⟨hx, hb, hr, hml, hown, hts, hlk, hK, hbs, hin, hd, hI⟩ := id cx
  have h9 : ((st.map (x_sh E)).map fun v => v.category).sum = (st.map fun v => v.category).sum := by rw [List.map_map]; congr 2; funext v; exact x_sh_cat E v
  exact va_mmin hx hb (by rw [hml]; exact hl.1.symm) hown (hts _ hs) (hts _ mth_minS) (hts _ iniJ9) (hts _ mth_minC) hR.1 (by rw [h9]; have := hR.2; omega) h1 h2 (x_dec_at hd hc) (k p e s m args below meth c H locs ls cx hz hP hS hl)
theorem mth_maxS : Cond.static Lib.Math.max.name ∈ x_tb := x_k3 (List.mem_of_getElem? (i := 29) rfl) rfl
theorem mth_maxC : Cond.code Lib.Math.max.name Lib.Math.max.code 2 (some .int) ∈ x_tb := x_k3 (List.mem_of_getElem? (i := 30) rfl) rfl
theorem x_mmax {pc' : Nat} {E : x_E} {R : Room} {me : x_M} {QQ : List Frame → Array Value → State → State → Prop} {pc : Nat} {lv : x_L} {st : List Value} {z : Nat} {f : x_H} {cl sl : Nat} {i : Nat} {x y : Int32} (hc : x_at me pc = some (.invokestatic i, 3)) (hp : pc + 3 = pc') (hs : Cond.methodLink me.2.2.2.2.2.1 i Lib.Math.max.name ∈ x_tb) (hR : 1 ≤ R.frames ∧ 8 + 15 ≤ R.locals) (hw : (st.map fun v => v.category).sum ≤ 8) (h1 : cl ≤ R.cells) (h2 : sl ≤ R.slots) (k : X E R me QQ pc' lv (.int (if x < y then y else x) :: st) z f cl sl) : X E R me QQ pc lv (.int y :: .int x :: st) z f cl sl := by
  subst hp
  intro p e s m args below meth c H locs ls cx hz hP hS hl
  obtain ⟨hx, hb, hr, hml, hown, hts, hlk, hK, hbs, hin, hd, hI⟩ := id cx
  have h9 : ((st.map (x_sh E)).map fun v => v.category).sum = (st.map fun v => v.category).sum := by rw [List.map_map]; congr 2; funext v; exact x_sh_cat E v
  exact va_mmax hx hb (by rw [hml]; exact hl.1.symm) hown (hts _ hs) (hts _ mth_maxS) (hts _ iniJ9) (hts _ mth_maxC) hR.1 (by rw [h9]; have := hR.2; omega) h1 h2 (x_dec_at hd hc) (k p e s m args below meth c H locs ls cx hz hP hS hl)
theorem mth_minLS : Cond.static Lib.MathLoose.min_long.x ∈ x_tb := x_k3 (List.mem_of_getElem? (i := 33) rfl) rfl
theorem mth_minLC : Cond.code Lib.MathLoose.min_long.x Lib.MathLoose.min_long.code 4 (some .long) ∈ x_tb := x_k3 (List.mem_of_getElem? (i := 34) rfl) rfl
theorem x_mminL {pc' : Nat} {E : x_E} {R : Room} {me : x_M} {QQ : List Frame → Array Value → State → State → Prop} {pc : Nat} {lv : x_L} {st : List Value} {z : Nat} {f : x_H} {cl sl : Nat} {i : Nat} {x y : Int64} (hc : x_at me pc = some (.invokestatic i, 3)) (hp : pc + 3 = pc') (hs : Cond.methodLink me.2.2.2.2.2.1 i Lib.MathLoose.min_long.x ∈ x_tb) (hR : 1 ≤ R.frames ∧ 8 + 15 ≤ R.locals) (hw : (st.map fun v => v.category).sum ≤ 8) (h1 : cl ≤ R.cells) (h2 : sl ≤ R.slots) (k : X E R me QQ pc' lv (.long (if y < x then y else x) :: st) z f cl sl) : X E R me QQ pc lv (.long y :: .long x :: st) z f cl sl := by
  subst hp
  intro p e s m args below meth c H locs ls cx hz hP hS hl
  obtain ⟨hx, hb, hr, hml, hown, hts, hlk, hK, hbs, hin, hd, hI⟩ := id cx
  have h9 : ((st.map (x_sh E)).map fun v => v.category).sum = (st.map fun v => v.category).sum := by rw [List.map_map]; congr 2; funext v; exact x_sh_cat E v
  exact va_mmin_long hx hb (by rw [hml]; exact hl.1.symm) hown (hts _ hs) (hts _ mth_minLS) (hts _ iniJ9) (hts _ mth_minLC) hR.1 (by rw [h9]; have := hR.2; omega) h1 h2 (x_dec_at hd hc) (k p e s m args below meth c H locs ls cx hz hP hS hl)
