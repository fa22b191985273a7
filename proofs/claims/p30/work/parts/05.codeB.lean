theorem plX5 : plainName RX5 = true := by decide +kernel
theorem mhX5 : RX5 ≠ "java/lang/invoke/MethodHandle" := by decide +kernel
theorem vhX5 : RX5 ≠ "java/lang/invoke/VarHandle" := by decide +kernel
def IX5 : x_I := (RX5, [(147, 3, 3, true), (109, 3, 4, true), (112, 3, 5, true), (115, 3, 6, true), (121, 3, 7, true), (134, 3, 8, true), (137, 3, 9, true), (140, 3, 10, true), (128, 3, 11, true), (76, 2, 1, true), (173, 1, 6, true), (174, 1, 7, true), (10, 5, 0, false), (16, 5, 1, false), (19, 5, 2, false), (23, 5, 3, false), (26, 5, 4, false), (32, 5, 5, false), (39, 5, 6, false), (46, 5, 7, false), (53, 5, 8, false), (57, 5, 9, false), (61, 5, 10, false), (65, 5, 11, false)], [(211, 1000000000), (212, 4000000), (213, 1664525), (214, 1013904223), (215, 2147483647)], [(190, 1000000000)], [(7, 3), (29, 2), (36, 0), (43, 1), (50, 4)])
set_option maxRecDepth 100000 in
theorem okX5 : x_okI IX5 := ⟨List.forall_mem_cons.mpr ⟨⟨(RX3, TX3, 12), rfl, by decide, fun h => (by cases h), fun _ => List.mem_of_getElem? (i := 4) rfl⟩, List.forall_mem_cons.mpr ⟨⟨(RX3, TX3, 12), rfl, by decide, fun h => (by cases h), fun _ => List.mem_of_getElem? (i := 5) rfl⟩, List.forall_mem_cons.mpr ⟨⟨(RX3, TX3, 12), rfl, by decide, fun h => (by cases h), fun _ => List.mem_of_getElem? (i := 7) rfl⟩, List.forall_mem_cons.mpr ⟨⟨(RX3, TX3, 12), rfl, by decide, fun h => (by cases h), fun _ => List.mem_of_getElem? (i := 9) rfl⟩, List.forall_mem_cons.mpr ⟨⟨(RX3, TX3, 12), rfl, by decide, fun h => (by cases h), fun _ => List.mem_of_getElem? (i := 11) rfl⟩, List.forall_mem_cons.mpr ⟨⟨(RX3, TX3, 12), rfl, by decide, fun h => (by cases h), fun _ => List.mem_of_getElem? (i := 13) rfl⟩, List.forall_mem_cons.mpr ⟨⟨(RX3, TX3, 12), rfl, by decide, fun h => (by cases h), fun _ => List.mem_of_getElem? (i := 14) rfl⟩, List.forall_mem_cons.mpr ⟨⟨(RX3, TX3, 12), rfl, by decide, fun h => (by cases h), fun _ => List.mem_of_getElem? (i := 15) rfl⟩, List.forall_mem_cons.mpr ⟨⟨(RX3, TX3, 12), rfl, by decide, fun h => (by cases h), fun _ => List.mem_of_getElem? (i := 17) rfl⟩, List.forall_mem_cons.mpr ⟨⟨(RX2, TX2, 2), rfl, by decide, fun h => (by cases h), fun _ => List.mem_of_getElem? (i := 19) rfl⟩, List.forall_mem_cons.mpr ⟨⟨(RX1, TX1, 8), rfl, by decide, fun h => (by cases h), fun _ => List.mem_of_getElem? (i := 23) rfl⟩, List.forall_mem_cons.mpr ⟨⟨(RX1, TX1, 8), rfl, by decide, fun h => (by cases h), fun _ => List.mem_of_getElem? (i := 24) rfl⟩, List.forall_mem_cons.mpr ⟨⟨(RX5, TX5, 12), rfl, by decide, fun _ => x_k1 (List.mem_of_getElem? (i := 159) rfl) rfl, fun h => (by cases h)⟩, List.forall_mem_cons.mpr ⟨⟨(RX5, TX5, 12), rfl, by decide, fun _ => x_k1 (List.mem_of_getElem? (i := 160) rfl) rfl, fun h => (by cases h)⟩, List.forall_mem_cons.mpr ⟨⟨(RX5, TX5, 12), rfl, by decide, fun _ => x_k1 (List.mem_of_getElem? (i := 161) rfl) rfl, fun h => (by cases h)⟩, List.forall_mem_cons.mpr ⟨⟨(RX5, TX5, 12), rfl, by decide, fun _ => x_k1 (List.mem_of_getElem? (i := 162) rfl) rfl, fun h => (by cases h)⟩, List.forall_mem_cons.mpr ⟨⟨(RX5, TX5, 12), rfl, by decide, fun _ => x_k1 (List.mem_of_getElem? (i := 163) rfl) rfl, fun h => (by cases h)⟩, List.forall_mem_cons.mpr ⟨⟨(RX5, TX5, 12), rfl, by decide, fun _ => x_k1 (List.mem_of_getElem? (i := 164) rfl) rfl, fun h => (by cases h)⟩, List.forall_mem_cons.mpr ⟨⟨(RX5, TX5, 12), rfl, by decide, fun _ => x_k1 (List.mem_of_getElem? (i := 165) rfl) rfl, fun h => (by cases h)⟩, List.forall_mem_cons.mpr ⟨⟨(RX5, TX5, 12), rfl, by decide, fun _ => x_k1 (List.mem_of_getElem? (i := 166) rfl) rfl, fun h => (by cases h)⟩, List.forall_mem_cons.mpr ⟨⟨(RX5, TX5, 12), rfl, by decide, fun _ => x_k1 (List.mem_of_getElem? (i := 167) rfl) rfl, fun h => (by cases h)⟩, List.forall_mem_cons.mpr ⟨⟨(RX5, TX5, 12), rfl, by decide, fun _ => x_k1 (List.mem_of_getElem? (i := 168) rfl) rfl, fun h => (by cases h)⟩, List.forall_mem_cons.mpr ⟨⟨(RX5, TX5, 12), rfl, by decide, fun _ => x_k1 (List.mem_of_getElem? (i := 169) rfl) rfl, fun h => (by cases h)⟩, List.forall_mem_cons.mpr ⟨⟨(RX5, TX5, 12), rfl, by decide, fun _ => x_k1 (List.mem_of_getElem? (i := 170) rfl) rfl, fun h => (by cases h)⟩, fun _ h => absurd h List.not_mem_nil⟩⟩⟩⟩⟩⟩⟩⟩⟩⟩⟩⟩⟩⟩⟩⟩⟩⟩⟩⟩⟩⟩⟩⟩, List.forall_mem_cons.mpr ⟨x_k2 (List.mem_of_getElem? (i := 166) rfl) rfl, List.forall_mem_cons.mpr ⟨x_k2 (List.mem_of_getElem? (i := 188) rfl) rfl, List.forall_mem_cons.mpr ⟨x_k3 (List.mem_of_getElem? (i := 75) rfl) rfl, List.forall_mem_cons.mpr ⟨x_k3 (List.mem_of_getElem? (i := 76) rfl) rfl, List.forall_mem_cons.mpr ⟨x_k3 (List.mem_of_getElem? (i := 77) rfl) rfl, fun _ h => absurd h List.not_mem_nil⟩⟩⟩⟩⟩, List.forall_mem_cons.mpr ⟨x_k3 (List.mem_of_getElem? (i := 31) rfl) rfl, fun _ h => absurd h List.not_mem_nil⟩, List.forall_mem_cons.mpr ⟨⟨(RX3, TX3, 12), rfl, x_k1 (List.mem_of_getElem? (i := 19) rfl) rfl⟩, List.forall_mem_cons.mpr ⟨⟨(RX2, TX2, 2), rfl, x_k1 (List.mem_of_getElem? (i := 80) rfl) rfl⟩, List.forall_mem_cons.mpr ⟨⟨(RX0, TX0, 2), rfl, x_k1 (List.mem_of_getElem? (i := 94) rfl) rfl⟩, List.forall_mem_cons.mpr ⟨⟨(RX1, TX1, 8), rfl, x_k1 (List.mem_of_getElem? (i := 110) rfl) rfl⟩, List.forall_mem_cons.mpr ⟨⟨(RX4, TX4, 2), rfl, x_k1 (List.mem_of_getElem? (i := 146) rfl) rfl⟩, fun _ h => absurd h List.not_mem_nil⟩⟩⟩⟩⟩⟩
def kX5_init : List (List (Nat × Instr × Nat)) := [[(0, .aload_n 0, 1), (1, .invokespecial 1, 3), (4, .aload_n 0, 1), (5, .new 7, 3), (8, .dup, 1), (9, .invokespecial 9, 3), (12, .putfield 10, 3), (15, .aload_n 0, 1)],
  [(16, .new 7, 3), (19, .dup, 1), (20, .invokespecial 9, 3), (23, .putfield 16, 3), (26, .aload_n 0, 1), (27, .iconst 0, 1), (28, .putfield 19, 3), (31, .aload_n 0, 1)],
  [(32, .new 7, 3), (35, .dup, 1), (36, .invokespecial 9, 3), (39, .putfield 23, 3), (42, .aload_n 0, 1), (43, .new 7, 3), (46, .dup, 1), (47, .invokespecial 9, 3)],
  [(50, .putfield 26, 3), (53, .aload_n 0, 1), (54, .new 29, 3), (57, .dup, 1), (58, .invokespecial 31, 3), (61, .putfield 32, 3)],
  [(64, .aload_n 0, 1), (65, .new 36, 3), (68, .dup, 1), (69, .invokespecial 38, 3), (72, .putfield 39, 3), (75, .aload_n 0, 1), (76, .new 43, 3), (79, .dup, 1)],
  [(80, .invokespecial 45, 3), (83, .putfield 46, 3), (86, .aload_n 0, 1), (87, .new 50, 3), (90, .dup, 1), (91, .invokespecial 52, 3), (94, .putfield 53, 3)],
  [(97, .aload_n 0, 1), (98, .bipush 12, 2), (100, .newarray .int, 2), (102, .putfield 57, 3), (105, .aload_n 0, 1), (106, .iconst 0, 1), (107, .putfield 61, 3), (110, .aload_n 0, 1), (111, .bipush 7, 2)],
  [(113, .newarray .int, 2), (115, .putfield 65, 3), (118, .return_, 1)]]
def mX5_init : x_M := (yX5_init, prog_1_method_1_code, 1, none, kX5_init, IX5)
set_option maxRecDepth 100000 in
theorem decX5_init : x_dec mX5_init := by unfold x_dec; decide +kernel
theorem gX5_init : x_good mX5_init := ⟨plX5, decX5_init, okX5, rfl, x_k1 (List.mem_of_getElem? (i := 15) rfl) rfl, iniX5, mhX5, vhX5⟩
theorem vX5_init : Cond.instanceMethod yX5_init ∈ x_tb := x_k1 (List.mem_of_getElem? (i := 14) rfl) rfl
def kX5_letter : List (List (Nat × Instr × Nat)) := [[(0, .iload_n 1, 1), (1, .ifCond .ge 10, 3), (4, .aload_n 0, 1), (5, .bipush (-4), 2), (7, .invokevirtual 68, 3), (10, .ireturn, 1), (11, .iload_n 1, 1), (12, .sipush 255, 3), (15, .if_icmp .gt 14, 3)],
  [(18, .aload_n 0, 1), (19, .getfield 32, 3), (22, .iload_n 1, 1), (23, .invokevirtual 72, 3), (26, .ifCond .ne 10, 3), (29, .aload_n 0, 1), (30, .bipush (-6), 2)],
  [(32, .invokevirtual 68, 3), (35, .ireturn, 1), (36, .aload_n 0, 1), (37, .getfield 32, 3), (40, .getfield 76, 3), (43, .ireturn, 1)]]
def mX5_letter : x_M := (yX5_letter, prog_1_method_2_code, 2, (some .int), kX5_letter, IX5)
set_option maxRecDepth 100000 in
theorem decX5_letter : x_dec mX5_letter := by unfold x_dec; decide +kernel
theorem gX5_letter : x_good mX5_letter := ⟨plX5, decX5_letter, okX5, rfl, x_k1 (List.mem_of_getElem? (i := 199) rfl) rfl, iniX5, mhX5, vhX5⟩
theorem vX5_letter : Cond.instanceMethod yX5_letter ∈ x_tb ∧ Cond.selects RX5 yX5_letter yX5_letter ∈ x_tb := ⟨x_k1 (List.mem_of_getElem? (i := 197) rfl) rfl, x_k1 (List.mem_of_getElem? (i := 198) rfl) rfl⟩
def kX5_game : List (List (Nat × Instr × Nat)) := [[(0, .aload_n 0, 1), (1, .getfield 23, 3), (4, .aload_n 0, 1), (5, .getfield 10, 3), (8, .invokevirtual 79, 3), (11, .aload_n 0, 1), (12, .getfield 32, 3), (15, .aload_n 0, 1)],
  [(16, .getfield 23, 3), (19, .invokevirtual 83, 3), (22, .istore_n 1, 1), (23, .aload_n 0, 1), (24, .getfield 32, 3), (27, .invokevirtual 87, 3), (30, .iload_n 1, 1), (31, .ifCond .lt 14, 3)],
  [(34, .aload_n 0, 1), (35, .getfield 10, 3), (38, .aload_n 0, 1), (39, .getfield 23, 3), (42, .invokevirtual 79, 3), (45, .iload_n 1, 1), (46, .ireturn, 1)]]
def mX5_game : x_M := (yX5_game, prog_1_method_3_code, 2, (some .int), kX5_game, IX5)
set_option maxRecDepth 100000 in
theorem decX5_game : x_dec mX5_game := by unfold x_dec; decide +kernel
theorem gX5_game : x_good mX5_game := ⟨plX5, decX5_game, okX5, rfl, x_k1 (List.mem_of_getElem? (i := 211) rfl) rfl, iniX5, mhX5, vhX5⟩
theorem vX5_game : Cond.instanceMethod yX5_game ∈ x_tb ∧ Cond.selects RX5 yX5_game yX5_game ∈ x_tb := ⟨x_k1 (List.mem_of_getElem? (i := 209) rfl) rfl, x_k1 (List.mem_of_getElem? (i := 210) rfl) rfl⟩
def kX5_bowl : List (List (Nat × Instr × Nat)) := [[(0, .aload_n 0, 1), (1, .getfield 10, 3), (4, .iload_n 1, 1), (5, .invokevirtual 90, 3), (8, .ifCond .ne 9, 3), (11, .aload_n 0, 1), (12, .iconst (-1), 1), (13, .invokevirtual 68, 3)],
  [(16, .ireturn, 1), (17, .iload_n 2, 1), (18, .tableswitch 74 0 3 #[30, 39, 48, 57], 30)],
  [],
  [(48, .aload_n 0, 1), (49, .getfield 10, 3), (52, .iload_n 1, 1), (53, .invokevirtual 93, 3), (56, .ireturn, 1), (57, .aload_n 0, 1), (58, .getfield 10, 3), (61, .iload_n 1, 1), (62, .invokevirtual 96, 3)],
  [(65, .ireturn, 1), (66, .aload_n 0, 1), (67, .getfield 10, 3), (70, .iload_n 1, 1), (71, .invokevirtual 99, 3), (74, .ireturn, 1), (75, .aload_n 0, 1), (76, .getfield 10, 3), (79, .iload_n 1, 1)],
  [(80, .invokevirtual 102, 3), (83, .ifCond .eq 7, 3), (86, .iconst 1, 1), (87, .goto 4, 3), (90, .iconst 0, 1), (91, .ireturn, 1), (92, .aload_n 0, 1), (93, .bipush (-2), 2), (95, .invokevirtual 68, 3)],
  [(98, .ireturn, 1)]]
def mX5_bowl : x_M := (yX5_bowl, prog_1_method_4_code, 3, (some .int), kX5_bowl, IX5)
set_option maxRecDepth 100000 in
theorem decX5_bowl : x_dec mX5_bowl := by unfold x_dec; decide +kernel
theorem gX5_bowl : x_good mX5_bowl := ⟨plX5, decX5_bowl, okX5, rfl, x_k2 (List.mem_of_getElem? (i := 89) rfl) rfl, iniX5, mhX5, vhX5⟩
theorem vX5_bowl : Cond.instanceMethod yX5_bowl ∈ x_tb ∧ Cond.selects RX5 yX5_bowl yX5_bowl ∈ x_tb := ⟨x_k2 (List.mem_of_getElem? (i := 87) rfl) rfl, x_k2 (List.mem_of_getElem? (i := 88) rfl) rfl⟩
def kX5_put : List (List (Nat × Instr × Nat)) := [[(0, .aload_n 0, 1), (1, .getfield 10, 3), (4, .iload_n 1, 1), (5, .invokevirtual 90, 3), (8, .ifCond .ne 9, 3), (11, .aload_n 0, 1), (12, .iconst (-1), 1), (13, .invokevirtual 68, 3)],
  [(16, .ireturn, 1), (17, .iload_n 2, 1), (18, .ifCond .ge 10, 3), (21, .aload_n 0, 1), (22, .bipush (-4), 2), (24, .invokevirtual 68, 3), (27, .ireturn, 1), (28, .iload_n 2, 1), (29, .bipush 20, 2), (31, .if_icmp .le 10, 3)],
  [(34, .aload_n 0, 1), (35, .bipush (-6), 2), (37, .invokevirtual 68, 3), (40, .ireturn, 1), (41, .aload_n 0, 1), (42, .getfield 10, 3), (45, .iload_n 1, 1), (46, .invokevirtual 96, 3)],
  [(49, .istore_n 3, 1), (50, .aload_n 0, 1), (51, .getfield 10, 3), (54, .iload_n 1, 1), (55, .iload_n 2, 1), (56, .invokevirtual 105, 3), (59, .iload_n 3, 1), (60, .ireturn, 1)]]
def mX5_put : x_M := (yX5_put, prog_1_method_5_code, 4, (some .int), kX5_put, IX5)
set_option maxRecDepth 100000 in
theorem decX5_put : x_dec mX5_put := by unfold x_dec; decide +kernel
theorem gX5_put : x_good mX5_put := ⟨plX5, decX5_put, okX5, rfl, x_k2 (List.mem_of_getElem? (i := 101) rfl) rfl, iniX5, mhX5, vhX5⟩
theorem vX5_put : Cond.instanceMethod yX5_put ∈ x_tb ∧ Cond.selects RX5 yX5_put yX5_put ∈ x_tb := ⟨x_k2 (List.mem_of_getElem? (i := 99) rfl) rfl, x_k2 (List.mem_of_getElem? (i := 100) rfl) rfl⟩
def kX5_set : List (List (Nat × Instr × Nat)) := [[(0, .iload_n 1, 1), (1, .ifCond .lt 8, 3), (4, .iload_n 1, 1), (5, .iconst 2, 1), (6, .if_icmp .le 10, 3), (9, .aload_n 0, 1), (10, .bipush (-2), 2), (12, .invokevirtual 68, 3), (15, .ireturn, 1)],
  [(16, .iload_n 2, 1), (17, .iload_n 1, 1), (18, .ifCond .ne 7, 3), (21, .iconst 1, 1), (22, .goto 4, 3), (25, .iconst 0, 1), (26, .if_icmp .ge 10, 3), (29, .aload_n 0, 1), (30, .bipush (-4), 2)],
  [(32, .invokevirtual 68, 3), (35, .ireturn, 1), (36, .iload_n 2, 1), (37, .iload_n 1, 1), (38, .ifCond .ne 8, 3), (41, .bipush 9, 2), (43, .goto 4, 3), (46, .iconst 1, 1), (47, .if_icmp .le 10, 3)],
  [(50, .aload_n 0, 1), (51, .bipush (-6), 2), (53, .invokevirtual 68, 3), (56, .ireturn, 1), (57, .iload_n 1, 1), (58, .ifCond .ne 22, 3), (61, .aload_n 0, 1), (62, .getfield 10, 3)],
  [(65, .getfield 109, 3), (68, .istore_n 3, 1), (69, .aload_n 0, 1), (70, .getfield 10, 3), (73, .iload_n 2, 1), (74, .putfield 109, 3), (77, .goto 43, 3)],
  [(80, .iload_n 1, 1), (81, .iconst 1, 1), (82, .if_icmp .ne 22, 3), (85, .aload_n 0, 1), (86, .getfield 10, 3), (89, .getfield 112, 3), (92, .istore_n 3, 1), (93, .aload_n 0, 1), (94, .getfield 10, 3)],
  [(97, .iload_n 2, 1), (98, .putfield 112, 3), (101, .goto 19, 3), (104, .aload_n 0, 1), (105, .getfield 10, 3), (108, .getfield 115, 3), (111, .istore_n 3, 1)],
  [(112, .aload_n 0, 1), (113, .getfield 10, 3), (116, .iload_n 2, 1), (117, .putfield 115, 3), (120, .iload_n 3, 1), (121, .ireturn, 1)]]
def mX5_set : x_M := (yX5_set, prog_1_method_6_code, 4, (some .int), kX5_set, IX5)
set_option maxRecDepth 100000 in
theorem decX5_set : x_dec mX5_set := by unfold x_dec; decide +kernel
theorem gX5_set : x_good mX5_set := ⟨plX5, decX5_set, okX5, rfl, x_k2 (List.mem_of_getElem? (i := 106) rfl) rfl, iniX5, mhX5, vhX5⟩
theorem vX5_set : Cond.instanceMethod yX5_set ∈ x_tb ∧ Cond.selects RX5 yX5_set yX5_set ∈ x_tb := ⟨x_k2 (List.mem_of_getElem? (i := 104) rfl) rfl, x_k2 (List.mem_of_getElem? (i := 105) rfl) rfl⟩
def kX5_move : List (List (Nat × Instr × Nat)) := [[(0, .aload_n 0, 1), (1, .getfield 10, 3), (4, .iload_n 1, 1), (5, .invokevirtual 90, 3), (8, .ifCond .ne 9, 3), (11, .aload_n 0, 1), (12, .iconst (-1), 1), (13, .invokevirtual 68, 3)],
  [(16, .ireturn, 1), (17, .aload_n 0, 1), (18, .getfield 10, 3), (21, .iload_n 1, 1), (22, .invokevirtual 118, 3), (25, .ifCond .ne 10, 3), (28, .aload_n 0, 1), (29, .bipush (-3), 2), (31, .invokevirtual 68, 3)],
  [(34, .ireturn, 1), (35, .aload_n 0, 1), (36, .getfield 10, 3), (39, .getfield 121, 3), (42, .sipush 999, 3), (45, .if_icmp .lt 10, 3)],
  [(48, .aload_n 0, 1), (49, .bipush (-6), 2), (51, .invokevirtual 68, 3), (54, .ireturn, 1), (55, .aload_n 0, 1), (56, .getfield 10, 3), (59, .iload_n 1, 1), (60, .invokevirtual 124, 3), (63, .aload_n 0, 1)],
  [(64, .getfield 10, 3), (67, .getfield 128, 3), (70, .ireturn, 1)]]
def mX5_move : x_M := (yX5_move, prog_1_method_7_code, 2, (some .int), kX5_move, IX5)
set_option maxRecDepth 100000 in
theorem decX5_move : x_dec mX5_move := by unfold x_dec; decide +kernel
theorem gX5_move : x_good mX5_move := ⟨plX5, decX5_move, okX5, rfl, x_k2 (List.mem_of_getElem? (i := 110) rfl) rfl, iniX5, mhX5, vhX5⟩
theorem vX5_move : Cond.instanceMethod yX5_move ∈ x_tb ∧ Cond.selects RX5 yX5_move yX5_move ∈ x_tb := ⟨x_k2 (List.mem_of_getElem? (i := 108) rfl) rfl, x_k2 (List.mem_of_getElem? (i := 109) rfl) rfl⟩
def kX5_by : List (List (Nat × Instr × Nat)) := [[(0, .aload_n 0, 1), (1, .getfield 10, 3), (4, .iload_n 1, 1), (5, .invokevirtual 90, 3), (8, .ifCond .ne 9, 3), (11, .aload_n 0, 1), (12, .iconst (-1), 1), (13, .invokevirtual 68, 3)],
  [(16, .ireturn, 1), (17, .iload_n 2, 1), (18, .ifCond .lt 8, 3), (21, .iload_n 2, 1), (22, .iconst 4, 1), (23, .if_icmp .le 10, 3), (26, .aload_n 0, 1), (27, .bipush (-2), 2), (29, .invokevirtual 68, 3)],
  [(32, .ireturn, 1), (33, .aload_n 0, 1), (34, .iload_n 1, 1), (35, .invokevirtual 131, 3), (38, .ifCond .ne 10, 3), (41, .aload_n 0, 1), (42, .bipush (-3), 2), (44, .invokevirtual 68, 3), (47, .ireturn, 1)],
  [(48, .iload_n 2, 1), (49, .tableswitch 63 0 3 #[31, 39, 47, 55], 31)],
  [],
  [(80, .aload_n 0, 1), (81, .getfield 23, 3), (84, .getfield 134, 3), (87, .ireturn, 1), (88, .aload_n 0, 1), (89, .getfield 23, 3), (92, .getfield 137, 3), (95, .ireturn, 1)],
  [(96, .aload_n 0, 1), (97, .getfield 23, 3), (100, .getfield 140, 3), (103, .ireturn, 1), (104, .aload_n 0, 1), (105, .getfield 23, 3), (108, .getfield 128, 3), (111, .ireturn, 1)],
  [(112, .aload_n 0, 1), (113, .getfield 23, 3), (116, .invokevirtual 143, 3), (119, .ireturn, 1)]]
def mX5_by : x_M := (yX5_by, prog_1_method_8_code, 3, (some .int), kX5_by, IX5)
set_option maxRecDepth 100000 in
theorem decX5_by : x_dec mX5_by := by unfold x_dec; decide +kernel
theorem gX5_by : x_good mX5_by := ⟨plX5, decX5_by, okX5, rfl, x_k2 (List.mem_of_getElem? (i := 116) rfl) rfl, iniX5, mhX5, vhX5⟩
theorem vX5_by : Cond.instanceMethod yX5_by ∈ x_tb ∧ Cond.selects RX5 yX5_by yX5_by ∈ x_tb := ⟨x_k2 (List.mem_of_getElem? (i := 114) rfl) rfl, x_k2 (List.mem_of_getElem? (i := 115) rfl) rfl⟩
def kX5_behind : List (List (Nat × Instr × Nat)) := [[(0, .aload_n 0, 1), (1, .getfield 10, 3), (4, .iload_n 1, 1), (5, .invokevirtual 90, 3), (8, .ifCond .eq 14, 3), (11, .aload_n 0, 1), (12, .getfield 10, 3), (15, .iload_n 2, 1)],
  [(16, .invokevirtual 90, 3), (19, .ifCond .ne 9, 3), (22, .aload_n 0, 1), (23, .iconst (-1), 1), (24, .invokevirtual 68, 3), (27, .ireturn, 1), (28, .aload_n 0, 1), (29, .iload_n 1, 1), (30, .invokevirtual 131, 3)],
  [(33, .ifCond .eq 14, 3), (36, .aload_n 0, 1), (37, .getfield 23, 3), (40, .iload_n 2, 1), (41, .invokevirtual 96, 3), (44, .goto 9, 3), (47, .aload_n 0, 1)],
  [(48, .bipush (-3), 2), (50, .invokevirtual 68, 3), (53, .ireturn, 1)]]
def mX5_behind : x_M := (yX5_behind, prog_1_method_9_code, 3, (some .int), kX5_behind, IX5)
set_option maxRecDepth 100000 in
theorem decX5_behind : x_dec mX5_behind := by unfold x_dec; decide +kernel
theorem gX5_behind : x_good mX5_behind := ⟨plX5, decX5_behind, okX5, rfl, x_k2 (List.mem_of_getElem? (i := 128) rfl) rfl, iniX5, mhX5, vhX5⟩
theorem vX5_behind : Cond.instanceMethod yX5_behind ∈ x_tb ∧ Cond.selects RX5 yX5_behind yX5_behind ∈ x_tb := ⟨x_k2 (List.mem_of_getElem? (i := 126) rfl) rfl, x_k2 (List.mem_of_getElem? (i := 127) rfl) rfl⟩
def kX5_empties : List (List (Nat × Instr × Nat)) := [[(0, .aload_n 0, 1), (1, .getfield 10, 3), (4, .iload_n 1, 1), (5, .invokevirtual 90, 3), (8, .ifCond .ne 9, 3), (11, .aload_n 0, 1), (12, .iconst (-1), 1), (13, .invokevirtual 68, 3)],
  [(16, .ireturn, 1), (17, .aload_n 0, 1), (18, .iload_n 1, 1), (19, .invokevirtual 131, 3), (22, .ifCond .ne 10, 3), (25, .aload_n 0, 1), (26, .bipush (-3), 2), (28, .invokevirtual 68, 3), (31, .ireturn, 1)],
  [(32, .iconst 0, 1), (33, .istore_n 2, 1), (34, .iconst 0, 1), (35, .istore_n 3, 1), (36, .iload_n 3, 1), (37, .aload_n 0, 1), (38, .getfield 23, 3), (41, .getfield 147, 3), (44, .if_icmp .ge 26, 3), (47, .aload_n 0, 1)],
  [(48, .getfield 23, 3), (51, .iload_n 3, 1), (52, .invokevirtual 96, 3), (55, .ifCond .ne 9, 3), (58, .iload_n 2, 1), (59, .iconst 1, 1), (60, .iload_n 3, 1), (61, .ishl, 1), (62, .ior, 1), (63, .istore_n 2, 1)],
  [(64, .iinc 3 1, 3), (67, .goto (-31), 3), (70, .iload_n 2, 1), (71, .ireturn, 1)]]
def mX5_empties : x_M := (yX5_empties, prog_1_method_10_code, 4, (some .int), kX5_empties, IX5)
set_option maxRecDepth 100000 in
theorem decX5_empties : x_dec mX5_empties := by unfold x_dec; decide +kernel
theorem gX5_empties : x_good mX5_empties := ⟨plX5, decX5_empties, okX5, rfl, x_k2 (List.mem_of_getElem? (i := 132) rfl) rfl, iniX5, mhX5, vhX5⟩
theorem vX5_empties : Cond.instanceMethod yX5_empties ∈ x_tb ∧ Cond.selects RX5 yX5_empties yX5_empties ∈ x_tb := ⟨x_k2 (List.mem_of_getElem? (i := 130) rfl) rfl, x_k2 (List.mem_of_getElem? (i := 131) rfl) rfl⟩
def kX5_longest : List (List (Nat × Instr × Nat)) := [[(0, .bipush (-9), 2), (2, .istore_n 1, 1), (3, .iconst 0, 1), (4, .istore_n 2, 1), (5, .iconst 0, 1), (6, .istore_n 3, 1), (7, .iload_n 3, 1), (8, .aload_n 0, 1), (9, .getfield 10, 3), (12, .getfield 147, 3), (15, .if_icmp .ge 38, 3)],
  [(18, .aload_n 0, 1), (19, .iload_n 3, 1), (20, .invokevirtual 131, 3), (23, .ifCond .eq 24, 3), (26, .aload_n 0, 1), (27, .getfield 23, 3), (30, .getfield 140, 3)],
  [(33, .iload_n 2, 1), (34, .if_icmp .le 13, 3), (37, .aload_n 0, 1), (38, .getfield 23, 3), (41, .getfield 140, 3), (44, .istore_n 2, 1), (45, .iload_n 3, 1), (46, .istore_n 1, 1), (47, .iinc 3 1, 3)],
  [(50, .goto (-43), 3), (53, .iload_n 1, 1), (54, .ireturn, 1)]]
def mX5_longest : x_M := (yX5_longest, prog_1_method_11_code, 4, (some .int), kX5_longest, IX5)
set_option maxRecDepth 100000 in
theorem decX5_longest : x_dec mX5_longest := by unfold x_dec; decide +kernel
theorem gX5_longest : x_good mX5_longest := ⟨plX5, decX5_longest, okX5, rfl, x_k2 (List.mem_of_getElem? (i := 136) rfl) rfl, iniX5, mhX5, vhX5⟩
theorem vX5_longest : Cond.instanceMethod yX5_longest ∈ x_tb ∧ Cond.selects RX5 yX5_longest yX5_longest ∈ x_tb := ⟨x_k2 (List.mem_of_getElem? (i := 134) rfl) rfl, x_k2 (List.mem_of_getElem? (i := 135) rfl) rfl⟩
def kX5_best : List (List (Nat × Instr × Nat)) := [[(0, .iload_n 1, 1), (1, .iconst 1, 1), (2, .if_icmp .ge 10, 3), (5, .aload_n 0, 1), (6, .bipush (-4), 2), (8, .invokevirtual 68, 3), (11, .ireturn, 1), (12, .iload_n 1, 1), (13, .iconst 4, 1), (14, .if_icmp .le 10, 3)],
  [(17, .aload_n 0, 1), (18, .bipush (-6), 2), (20, .invokevirtual 68, 3), (23, .ireturn, 1), (24, .aload_n 0, 1), (25, .getfield 39, 3), (28, .aload_n 0, 1), (29, .getfield 10, 3)],
  [(32, .iload_n 1, 1), (33, .invokevirtual 148, 3), (36, .ireturn, 1)]]
def mX5_best : x_M := (yX5_best, prog_1_method_12_code, 2, (some .int), kX5_best, IX5)
set_option maxRecDepth 100000 in
theorem decX5_best : x_dec mX5_best := by unfold x_dec; decide +kernel
theorem gX5_best : x_good mX5_best := ⟨plX5, decX5_best, okX5, rfl, x_k2 (List.mem_of_getElem? (i := 140) rfl) rfl, iniX5, mhX5, vhX5⟩
theorem vX5_best : Cond.instanceMethod yX5_best ∈ x_tb ∧ Cond.selects RX5 yX5_best yX5_best ∈ x_tb := ⟨x_k2 (List.mem_of_getElem? (i := 138) rfl) rfl, x_k2 (List.mem_of_getElem? (i := 139) rfl) rfl⟩
def kX5_worth : List (List (Nat × Instr × Nat)) := [[(0, .iload_n 1, 1), (1, .iconst 1, 1), (2, .if_icmp .ge 10, 3), (5, .aload_n 0, 1), (6, .bipush (-4), 2), (8, .invokevirtual 152, 3), (11, .ireturn, 1), (12, .iload_n 1, 1), (13, .iconst 4, 1), (14, .if_icmp .le 10, 3)],
  [(17, .aload_n 0, 1), (18, .bipush (-6), 2), (20, .invokevirtual 152, 3), (23, .ireturn, 1), (24, .aload_n 0, 1), (25, .getfield 39, 3), (28, .aload_n 0, 1), (29, .getfield 10, 3)],
  [(32, .iload_n 1, 1), (33, .invokevirtual 155, 3), (36, .ireturn, 1)]]
def mX5_worth : x_M := (yX5_worth, prog_1_method_13_code, 2, (some .int), kX5_worth, IX5)
set_option maxRecDepth 100000 in
theorem decX5_worth : x_dec mX5_worth := by unfold x_dec; decide +kernel
theorem gX5_worth : x_good mX5_worth := ⟨plX5, decX5_worth, okX5, rfl, x_k2 (List.mem_of_getElem? (i := 161) rfl) rfl, iniX5, mhX5, vhX5⟩
theorem vX5_worth : Cond.instanceMethod yX5_worth ∈ x_tb ∧ Cond.selects RX5 yX5_worth yX5_worth ∈ x_tb := ⟨x_k2 (List.mem_of_getElem? (i := 159) rfl) rfl, x_k2 (List.mem_of_getElem? (i := 160) rfl) rfl⟩
def kX5_lost : List (List (Nat × Instr × Nat)) := [[(0, .iconst 0, 1), (1, .istore_n 1, 1), (2, .iload_n 1, 1), (3, .aload_n 0, 1), (4, .getfield 10, 3), (7, .getfield 147, 3), (10, .if_icmp .ge 22, 3), (13, .aload_n 0, 1), (14, .getfield 10, 3)],
  [(17, .iload_n 1, 1), (18, .invokevirtual 118, 3), (21, .ifCond .eq 5, 3), (24, .iconst 0, 1), (25, .ireturn, 1), (26, .iinc 1 1, 3), (29, .goto (-27), 3)],
  [(32, .iconst 1, 1), (33, .ireturn, 1)]]
def mX5_lost : x_M := (yX5_lost, prog_1_method_14_code, 2, (some .int), kX5_lost, IX5)
set_option maxRecDepth 100000 in
theorem decX5_lost : x_dec mX5_lost := by unfold x_dec; decide +kernel
theorem gX5_lost : x_good mX5_lost := ⟨plX5, decX5_lost, okX5, rfl, x_k2 (List.mem_of_getElem? (i := 171) rfl) rfl, iniX5, mhX5, vhX5⟩
theorem vX5_lost : Cond.instanceMethod yX5_lost ∈ x_tb ∧ Cond.selects RX5 yX5_lost yX5_lost ∈ x_tb := ⟨x_k2 (List.mem_of_getElem? (i := 169) rfl) rfl, x_k2 (List.mem_of_getElem? (i := 170) rfl) rfl⟩
def kX5_back : List (List (Nat × Instr × Nat)) := [[(0, .aload_n 0, 1), (1, .getfield 10, 3), (4, .iload_n 1, 1), (5, .invokevirtual 90, 3), (8, .ifCond .ne 9, 3), (11, .aload_n 0, 1), (12, .iconst (-1), 1), (13, .invokevirtual 68, 3)],
  [(16, .ireturn, 1), (17, .aload_n 0, 1), (18, .getfield 23, 3), (21, .aload_n 0, 1), (22, .getfield 10, 3), (25, .invokevirtual 79, 3), (28, .iconst 1, 1), (29, .istore_n 2, 1), (30, .iload_n 2, 1), (31, .sipush 200, 3)],
  [(34, .if_icmp .gt 44, 3), (37, .aload_n 0, 1), (38, .getfield 23, 3), (41, .iload_n 1, 1), (42, .invokevirtual 118, 3), (45, .ifCond .eq 33, 3)],
  [(48, .aload_n 0, 1), (49, .getfield 23, 3), (52, .iload_n 1, 1), (53, .invokevirtual 124, 3), (56, .aload_n 0, 1), (57, .getfield 23, 3), (60, .aload_n 0, 1), (61, .getfield 10, 3)],
  [(64, .invokevirtual 158, 3), (67, .ifCond .eq 5, 3), (70, .iload_n 2, 1), (71, .ireturn, 1), (72, .iinc 2 1, 3), (75, .goto (-45), 3), (78, .bipush (-9), 2)],
  [(80, .ireturn, 1)]]
def mX5_back : x_M := (yX5_back, prog_1_method_15_code, 3, (some .int), kX5_back, IX5)
set_option maxRecDepth 100000 in
theorem decX5_back : x_dec mX5_back := by unfold x_dec; decide +kernel
theorem gX5_back : x_good mX5_back := ⟨plX5, decX5_back, okX5, rfl, x_k2 (List.mem_of_getElem? (i := 175) rfl) rfl, iniX5, mhX5, vhX5⟩
theorem vX5_back : Cond.instanceMethod yX5_back ∈ x_tb ∧ Cond.selects RX5 yX5_back yX5_back ∈ x_tb := ⟨x_k2 (List.mem_of_getElem? (i := 173) rfl) rfl, x_k2 (List.mem_of_getElem? (i := 174) rfl) rfl⟩
def kX5_loop : List (List (Nat × Instr × Nat)) := [[(0, .aload_n 0, 1), (1, .getfield 10, 3), (4, .iload_n 1, 1), (5, .invokevirtual 90, 3), (8, .ifCond .ne 9, 3), (11, .aload_n 0, 1), (12, .iconst (-1), 1), (13, .invokevirtual 68, 3)],
  [(16, .ireturn, 1), (17, .iload_n 2, 1), (18, .ifCond .lt 8, 3), (21, .iload_n 2, 1), (22, .iconst 1, 1), (23, .if_icmp .le 10, 3), (26, .aload_n 0, 1), (27, .bipush (-2), 2), (29, .invokevirtual 68, 3)],
  [(32, .ireturn, 1), (33, .aload_n 0, 1), (34, .iload_n 1, 1), (35, .invokevirtual 162, 3), (38, .istore_n 3, 1), (39, .iload_n 3, 1), (40, .bipush (-9), 2), (42, .if_icmp .ne 6, 3), (45, .bipush (-9), 2), (47, .ireturn, 1)],
  [(48, .aload_n 0, 1), (49, .iload_n 1, 1), (50, .iload_n 3, 1), (51, .invokevirtual 165, 3), (54, .istore 4, 2), (56, .iload_n 2, 1), (57, .ifCond .eq 10, 3), (60, .iload 4, 2), (62, .bipush (-9), 2)],
  [(64, .if_icmp .ne 8, 3), (67, .iload 4, 2), (69, .goto 4, 3), (72, .iload_n 3, 1), (73, .ireturn, 1)]]
def mX5_loop : x_M := (yX5_loop, prog_1_method_16_code, 5, (some .int), kX5_loop, IX5)
set_option maxRecDepth 100000 in
theorem decX5_loop : x_dec mX5_loop := by unfold x_dec; decide +kernel
theorem gX5_loop : x_good mX5_loop := ⟨plX5, decX5_loop, okX5, rfl, x_k2 (List.mem_of_getElem? (i := 183) rfl) rfl, iniX5, mhX5, vhX5⟩
theorem vX5_loop : Cond.instanceMethod yX5_loop ∈ x_tb ∧ Cond.selects RX5 yX5_loop yX5_loop ∈ x_tb := ⟨x_k2 (List.mem_of_getElem? (i := 181) rfl) rfl, x_k2 (List.mem_of_getElem? (i := 182) rfl) rfl⟩
def kX5_toEmpty : List (List (Nat × Instr × Nat)) := [[(0, .aload_n 0, 1), (1, .getfield 10, 3), (4, .iload_n 1, 1), (5, .invokevirtual 90, 3), (8, .ifCond .ne 9, 3), (11, .aload_n 0, 1), (12, .iconst (-1), 1), (13, .invokevirtual 68, 3)],
  [(16, .ireturn, 1), (17, .iload_n 2, 1), (18, .ifCond .lt 8, 3), (21, .iload_n 2, 1), (22, .iconst 1, 1), (23, .if_icmp .le 10, 3), (26, .aload_n 0, 1), (27, .bipush (-2), 2), (29, .invokevirtual 68, 3)],
  [(32, .ireturn, 1), (33, .aload_n 0, 1), (34, .getfield 46, 3), (37, .aload_n 0, 1), (38, .getfield 10, 3), (41, .iload_n 1, 1), (42, .invokevirtual 169, 3), (45, .iload_n 2, 1), (46, .ifCond .ne 13, 3)],
  [(49, .aload_n 0, 1), (50, .getfield 46, 3), (53, .getfield 173, 3), (56, .goto 10, 3), (59, .aload_n 0, 1), (60, .getfield 46, 3), (63, .getfield 174, 3)],
  [(66, .ireturn, 1)]]
def mX5_toEmpty : x_M := (yX5_toEmpty, prog_1_method_17_code, 3, (some .int), kX5_toEmpty, IX5)
set_option maxRecDepth 100000 in
theorem decX5_toEmpty : x_dec mX5_toEmpty := by unfold x_dec; decide +kernel
theorem gX5_toEmpty : x_good mX5_toEmpty := ⟨plX5, decX5_toEmpty, okX5, rfl, x_k2 (List.mem_of_getElem? (i := 196) rfl) rfl, iniX5, mhX5, vhX5⟩
theorem vX5_toEmpty : Cond.instanceMethod yX5_toEmpty ∈ x_tb ∧ Cond.selects RX5 yX5_toEmpty yX5_toEmpty ∈ x_tb := ⟨x_k2 (List.mem_of_getElem? (i := 194) rfl) rfl, x_k2 (List.mem_of_getElem? (i := 195) rfl) rfl⟩
def kX5_price : List (List (Nat × Instr × Nat)) := [[(0, .aload_n 0, 1), (1, .getfield 10, 3), (4, .iload_n 1, 1), (5, .invokevirtual 90, 3), (8, .ifCond .ne 9, 3), (11, .aload_n 0, 1), (12, .iconst (-1), 1), (13, .invokevirtual 152, 3)],
  [(16, .ireturn, 1), (17, .aload_n 0, 1), (18, .iload_n 1, 1), (19, .iconst 1, 1), (20, .invokevirtual 177, 3), (23, .ireturn, 1)]]
def mX5_price : x_M := (yX5_price, prog_1_method_18_code, 2, (some .int), kX5_price, IX5)
set_option maxRecDepth 100000 in
theorem decX5_price : x_dec mX5_price := by unfold x_dec; decide +kernel
theorem gX5_price : x_good mX5_price := ⟨plX5, decX5_price, okX5, rfl, x_k2 (List.mem_of_getElem? (i := 229) rfl) rfl, iniX5, mhX5, vhX5⟩
theorem vX5_price : Cond.instanceMethod yX5_price ∈ x_tb ∧ Cond.selects RX5 yX5_price yX5_price ∈ x_tb := ⟨x_k2 (List.mem_of_getElem? (i := 227) rfl) rfl, x_k2 (List.mem_of_getElem? (i := 228) rfl) rfl⟩
def kX5_sold : List (List (Nat × Instr × Nat)) := [[(0, .aload_n 0, 1), (1, .getfield 10, 3), (4, .iload_n 1, 1), (5, .invokevirtual 90, 3), (8, .ifCond .ne 9, 3), (11, .aload_n 0, 1), (12, .iconst (-1), 1), (13, .invokevirtual 152, 3)],
  [(16, .ireturn, 1), (17, .aload_n 0, 1), (18, .getfield 10, 3), (21, .iload_n 1, 1), (22, .invokevirtual 96, 3), (25, .ifCond .ne 10, 3), (28, .aload_n 0, 1), (29, .bipush (-3), 2), (31, .invokevirtual 152, 3)],
  [(34, .ireturn, 1), (35, .aload_n 0, 1), (36, .iload_n 1, 1), (37, .iconst (-1), 1), (38, .invokevirtual 177, 3), (41, .ireturn, 1)]]
def mX5_sold : x_M := (yX5_sold, prog_1_method_19_code, 2, (some .int), kX5_sold, IX5)
set_option maxRecDepth 100000 in
theorem decX5_sold : x_dec mX5_sold := by unfold x_dec; decide +kernel
theorem gX5_sold : x_good mX5_sold := ⟨plX5, decX5_sold, okX5, rfl, x_k2 (List.mem_of_getElem? (i := 237) rfl) rfl, iniX5, mhX5, vhX5⟩
theorem vX5_sold : Cond.instanceMethod yX5_sold ∈ x_tb ∧ Cond.selects RX5 yX5_sold yX5_sold ∈ x_tb := ⟨x_k2 (List.mem_of_getElem? (i := 235) rfl) rfl, x_k2 (List.mem_of_getElem? (i := 236) rfl) rfl⟩
def kX5_change : List (List (Nat × Instr × Nat)) := [[(0, .bipush (-9), 2), (2, .istore_n 1, 1), (3, .aload_n 0, 1), (4, .getfield 39, 3), (7, .aload_n 0, 1), (8, .getfield 10, 3), (11, .iconst 2, 1), (12, .invokevirtual 155, 3), (15, .istore_n 2, 1)],
  [(16, .iconst 0, 1), (17, .istore_n 3, 1), (18, .iload_n 3, 1), (19, .aload_n 0, 1), (20, .getfield 10, 3), (23, .getfield 147, 3), (26, .if_icmp .ge 84, 3), (29, .iload_n 3, 1), (30, .iconst 1, 1), (31, .iadd, 1)],
  [(32, .istore 4, 2), (34, .iload 4, 2), (36, .aload_n 0, 1), (37, .getfield 10, 3), (40, .getfield 147, 3), (43, .if_icmp .ge 61, 3), (46, .aload_n 0, 1), (47, .getfield 23, 3)],
  [(50, .aload_n 0, 1), (51, .getfield 10, 3), (54, .invokevirtual 79, 3), (57, .aload_n 0, 1), (58, .getfield 23, 3), (61, .iload_n 3, 1), (62, .iload 4, 2)],
  [(64, .invokevirtual 180, 3), (67, .aload_n 0, 1), (68, .getfield 39, 3), (71, .aload_n 0, 1), (72, .getfield 23, 3), (75, .iconst 2, 1), (76, .invokevirtual 155, 3), (79, .istore 5, 2)],
  [(81, .iload 5, 2), (83, .iload_n 2, 1), (84, .if_icmp .le 14, 3), (87, .iload 5, 2), (89, .istore_n 2, 1), (90, .bipush 10, 2), (92, .iload_n 3, 1), (93, .imul, 1), (94, .iload 4, 2)],
  [(96, .iadd, 1), (97, .istore_n 1, 1), (98, .iinc 4 1, 3), (101, .goto (-67), 3), (104, .iinc 3 1, 3), (107, .goto (-89), 3), (110, .iload_n 1, 1), (111, .ireturn, 1)]]
def mX5_change : x_M := (yX5_change, prog_1_method_20_code, 6, (some .int), kX5_change, IX5)
set_option maxRecDepth 100000 in
theorem decX5_change : x_dec mX5_change := by unfold x_dec; decide +kernel
theorem gX5_change : x_good mX5_change := ⟨plX5, decX5_change, okX5, rfl, x_k3 (List.mem_of_getElem? (i := 1) rfl) rfl, iniX5, mhX5, vhX5⟩
theorem vX5_change : Cond.instanceMethod yX5_change ∈ x_tb ∧ Cond.selects RX5 yX5_change yX5_change ∈ x_tb := ⟨x_k2 (List.mem_of_getElem? (i := 239) rfl) rfl, x_k3 (List.mem_of_getElem? (i := 0) rfl) rfl⟩
def kX5_fair : List (List (Nat × Instr × Nat)) := [[(0, .iconst 1, 1), (1, .istore_n 1, 1), (2, .iload_n 1, 1), (3, .bipush 9, 2), (5, .if_icmp .gt 65, 3), (8, .aload_n 0, 1), (9, .getfield 23, 3), (12, .aload_n 0, 1), (13, .getfield 10, 3)],
  [(16, .invokevirtual 79, 3), (19, .iconst 0, 1), (20, .istore_n 2, 1), (21, .iload_n 2, 1), (22, .aload_n 0, 1), (23, .getfield 23, 3), (26, .getfield 147, 3), (29, .if_icmp .ge 18, 3)],
  [(32, .aload_n 0, 1), (33, .getfield 23, 3), (36, .iload_n 2, 1), (37, .iload_n 1, 1), (38, .invokevirtual 105, 3), (41, .iinc 2 1, 3), (44, .goto (-23), 3), (47, .aload_n 0, 1)],
  [(48, .getfield 39, 3), (51, .aload_n 0, 1), (52, .getfield 23, 3), (55, .iconst 2, 1), (56, .invokevirtual 155, 3), (59, .ifCond .ne 5, 3), (62, .iload_n 1, 1), (63, .ireturn, 1)],
  [(64, .iinc 1 1, 3), (67, .goto (-65), 3), (70, .bipush (-9), 2), (72, .ireturn, 1)]]
def mX5_fair : x_M := (yX5_fair, prog_1_method_21_code, 3, (some .int), kX5_fair, IX5)
set_option maxRecDepth 100000 in
theorem decX5_fair : x_dec mX5_fair := by unfold x_dec; decide +kernel
theorem gX5_fair : x_good mX5_fair := ⟨plX5, decX5_fair, okX5, rfl, x_k3 (List.mem_of_getElem? (i := 6) rfl) rfl, iniX5, mhX5, vhX5⟩
theorem vX5_fair : Cond.instanceMethod yX5_fair ∈ x_tb ∧ Cond.selects RX5 yX5_fair yX5_fair ∈ x_tb := ⟨x_k3 (List.mem_of_getElem? (i := 4) rfl) rfl, x_k3 (List.mem_of_getElem? (i := 5) rfl) rfl⟩
def kX5_sounds : List (List (Nat × Instr × Nat)) := [[(0, .aload_n 0, 1), (1, .iload_n 1, 1), (2, .invokevirtual 183, 3), (5, .istore_n 2, 1), (6, .iload_n 2, 1), (7, .ifCond .eq 9, 3), (10, .aload_n 0, 1), (11, .iload_n 2, 1), (12, .invokevirtual 68, 3), (15, .ireturn, 1)],
  [(16, .aload_n 0, 1), (17, .getfield 53, 3), (20, .aload_n 0, 1), (21, .getfield 10, 3), (24, .aload_n 0, 1), (25, .getfield 57, 3), (28, .iload_n 1, 1), (29, .invokevirtual 186, 3)],
  [(32, .ldc2_w 190, 3), (35, .invokestatic 192, 3), (38, .l2i, 1), (39, .ireturn, 1)]]
def mX5_sounds : x_M := (yX5_sounds, prog_1_method_22_code, 3, (some .int), kX5_sounds, IX5)
set_option maxRecDepth 100000 in
theorem decX5_sounds : x_dec mX5_sounds := by unfold x_dec; decide +kernel
theorem gX5_sounds : x_good mX5_sounds := ⟨plX5, decX5_sounds, okX5, rfl, x_k3 (List.mem_of_getElem? (i := 10) rfl) rfl, iniX5, mhX5, vhX5⟩
theorem vX5_sounds : Cond.instanceMethod yX5_sounds ∈ x_tb ∧ Cond.selects RX5 yX5_sounds yX5_sounds ∈ x_tb := ⟨x_k3 (List.mem_of_getElem? (i := 8) rfl) rfl, x_k3 (List.mem_of_getElem? (i := 9) rfl) rfl⟩
def kX5_next : List (List (Nat × Instr × Nat)) := [[(0, .aload_n 0, 1), (1, .iload_n 1, 1), (2, .invokevirtual 183, 3), (5, .istore_n 2, 1), (6, .iload_n 2, 1), (7, .ifCond .eq 11, 3), (10, .aload_n 0, 1), (11, .iload_n 2, 1), (12, .invokevirtual 68, 3), (15, .goto 19, 3)],
  [(18, .aload_n 0, 1), (19, .getfield 53, 3), (22, .aload_n 0, 1), (23, .getfield 10, 3), (26, .aload_n 0, 1), (27, .getfield 57, 3), (30, .iload_n 1, 1), (31, .invokevirtual 198, 3)],
  [(34, .ireturn, 1)]]
def mX5_next : x_M := (yX5_next, prog_1_method_23_code, 3, (some .int), kX5_next, IX5)
set_option maxRecDepth 100000 in
theorem decX5_next : x_dec mX5_next := by unfold x_dec; decide +kernel
theorem gX5_next : x_good mX5_next := ⟨plX5, decX5_next, okX5, rfl, x_k3 (List.mem_of_getElem? (i := 38) rfl) rfl, iniX5, mhX5, vhX5⟩
theorem vX5_next : Cond.instanceMethod yX5_next ∈ x_tb ∧ Cond.selects RX5 yX5_next yX5_next ∈ x_tb := ⟨x_k3 (List.mem_of_getElem? (i := 36) rfl) rfl, x_k3 (List.mem_of_getElem? (i := 37) rfl) rfl⟩
def kX5_played : List (List (Nat × Instr × Nat)) := [[(0, .iload_n 1, 1), (1, .ifCond .lt 8, 3), (4, .iload_n 1, 1), (5, .iconst 1, 1), (6, .if_icmp .le 10, 3), (9, .aload_n 0, 1), (10, .bipush (-2), 2), (12, .invokevirtual 68, 3), (15, .ireturn, 1)],
  [(16, .aload_n 0, 1), (17, .invokevirtual 202, 3), (20, .pop, 1), (21, .aload_n 0, 1), (22, .getfield 23, 3), (25, .iload_n 1, 1), (26, .invokevirtual 205, 3), (29, .ireturn, 1)]]
def mX5_played : x_M := (yX5_played, prog_1_method_24_code, 2, (some .int), kX5_played, IX5)
set_option maxRecDepth 100000 in
theorem decX5_played : x_dec mX5_played := by unfold x_dec; decide +kernel
theorem gX5_played : x_good mX5_played := ⟨plX5, decX5_played, okX5, rfl, x_k3 (List.mem_of_getElem? (i := 50) rfl) rfl, iniX5, mhX5, vhX5⟩
theorem vX5_played : Cond.instanceMethod yX5_played ∈ x_tb ∧ Cond.selects RX5 yX5_played yX5_played ∈ x_tb := ⟨x_k3 (List.mem_of_getElem? (i := 48) rfl) rfl, x_k3 (List.mem_of_getElem? (i := 49) rfl) rfl⟩
def kX5_row : List (List (Nat × Instr × Nat)) := [[(0, .iload_n 1, 1), (1, .ifCond .ge 10, 3), (4, .aload_n 0, 1), (5, .bipush (-4), 2), (7, .invokevirtual 68, 3), (10, .ireturn, 1), (11, .iload_n 1, 1), (12, .bipush 9, 2), (14, .if_icmp .gt 22, 3)],
  [(17, .aload_n 0, 1), (18, .getfield 61, 3), (21, .ifCond .lt 15, 3), (24, .aload_n 0, 1), (25, .getfield 61, 3), (28, .aload_n 0, 1), (29, .getfield 57, 3)],
  [(32, .arraylength, 1), (33, .if_icmp .lt 10, 3), (36, .aload_n 0, 1), (37, .bipush (-6), 2), (39, .invokevirtual 68, 3), (42, .ireturn, 1), (43, .aload_n 0, 1), (44, .getfield 57, 3), (47, .aload_n 0, 1)],
  [(48, .getfield 61, 3), (51, .iload_n 1, 1), (52, .iastore, 1), (53, .aload_n 0, 1), (54, .dup, 1), (55, .getfield 61, 3), (58, .iconst 1, 1), (59, .iadd, 1), (60, .putfield 61, 3), (63, .aload_n 0, 1)],
  [(64, .getfield 61, 3), (67, .ireturn, 1)]]
def mX5_row : x_M := (yX5_row, prog_1_method_25_code, 2, (some .int), kX5_row, IX5)
set_option maxRecDepth 100000 in
theorem decX5_row : x_dec mX5_row := by unfold x_dec; decide +kernel
theorem gX5_row : x_good mX5_row := ⟨plX5, decX5_row, okX5, rfl, x_k3 (List.mem_of_getElem? (i := 62) rfl) rfl, iniX5, mhX5, vhX5⟩
theorem vX5_row : Cond.instanceMethod yX5_row ∈ x_tb ∧ Cond.selects RX5 yX5_row yX5_row ∈ x_tb := ⟨x_k3 (List.mem_of_getElem? (i := 60) rfl) rfl, x_k3 (List.mem_of_getElem? (i := 61) rfl) rfl⟩
def kX5_judge : List (List (Nat × Instr × Nat)) := [[(0, .aload_n 0, 1), (1, .invokevirtual 202, 3), (4, .istore_n 1, 1), (5, .iload_n 1, 1), (6, .aload_n 0, 1), (7, .getfield 61, 3), (10, .if_icmp .ge 7, 3), (13, .iload_n 1, 1), (14, .goto 5, 3)],
  [(17, .bipush (-9), 2), (19, .istore_n 2, 1), (20, .aload_n 0, 1), (21, .iconst 0, 1), (22, .putfield 61, 3), (25, .iload_n 2, 1), (26, .ireturn, 1)]]
def mX5_judge : x_M := (yX5_judge, prog_1_method_26_code, 3, (some .int), kX5_judge, IX5)
set_option maxRecDepth 100000 in
theorem decX5_judge : x_dec mX5_judge := by unfold x_dec; decide +kernel
theorem gX5_judge : x_good mX5_judge := ⟨plX5, decX5_judge, okX5, rfl, x_k3 (List.mem_of_getElem? (i := 66) rfl) rfl, iniX5, mhX5, vhX5⟩
theorem vX5_judge : Cond.instanceMethod yX5_judge ∈ x_tb ∧ Cond.selects RX5 yX5_judge yX5_judge ∈ x_tb := ⟨x_k3 (List.mem_of_getElem? (i := 64) rfl) rfl, x_k3 (List.mem_of_getElem? (i := 65) rfl) rfl⟩
def kX5_lots : List (List (Nat × Instr × Nat)) := [[(0, .iload_n 1, 1), (1, .iconst 1, 1), (2, .if_icmp .ge 10, 3), (5, .aload_n 0, 1), (6, .bipush (-4), 2), (8, .invokevirtual 152, 3), (11, .ireturn, 1), (12, .iload_n 1, 1), (13, .bipush 20, 2), (15, .if_icmp .le 10, 3)],
  [(18, .aload_n 0, 1), (19, .bipush (-6), 2), (21, .invokevirtual 152, 3), (24, .ireturn, 1), (25, .aload_n 0, 1), (26, .getfield 10, 3), (29, .getfield 147, 3)],
  [(32, .iconst 2, 1), (33, .if_icmp .ge 10, 3), (36, .aload_n 0, 1), (37, .bipush (-3), 2), (39, .invokevirtual 152, 3), (42, .ireturn, 1), (43, .iload_n 2, 1), (44, .istore_n 3, 1), (45, .iconst 0, 1), (46, .istore 4, 2)],
  [(48, .iconst 0, 1), (49, .istore 5, 2), (51, .iload 5, 2), (53, .iload_n 1, 1), (54, .if_icmp .ge 62, 3), (57, .aload_n 0, 1), (58, .getfield 23, 3), (61, .aload_n 0, 1), (62, .getfield 10, 3)],
  [(65, .invokevirtual 79, 3), (68, .aload_n 0, 1), (69, .iload_n 3, 1), (70, .invokevirtual 208, 3), (73, .istore_n 3, 1), (74, .iload 4, 2), (76, .aload_n 0, 1), (77, .getfield 23, 3)],
  [(80, .aload_n 0, 1), (81, .getfield 10, 3), (84, .getfield 115, 3), (87, .invokevirtual 205, 3), (90, .aload_n 0, 1), (91, .getfield 23, 3), (94, .iconst 1, 1), (95, .aload_n 0, 1)],
  [(96, .getfield 10, 3), (99, .getfield 115, 3), (102, .isub, 1), (103, .invokevirtual 205, 3), (106, .isub, 1), (107, .iadd, 1), (108, .istore 4, 2), (110, .iinc 5 1, 3)],
  [(113, .goto (-62), 3), (116, .iload 4, 2), (118, .ireturn, 1)]]
def mX5_lots : x_M := (yX5_lots, prog_1_method_27_code, 6, (some .int), kX5_lots, IX5)
set_option maxRecDepth 100000 in
theorem decX5_lots : x_dec mX5_lots := by unfold x_dec; decide +kernel
theorem gX5_lots : x_good mX5_lots := ⟨plX5, decX5_lots, okX5, rfl, x_k3 (List.mem_of_getElem? (i := 70) rfl) rfl, iniX5, mhX5, vhX5⟩
theorem vX5_lots : Cond.instanceMethod yX5_lots ∈ x_tb ∧ Cond.selects RX5 yX5_lots yX5_lots ∈ x_tb := ⟨x_k3 (List.mem_of_getElem? (i := 68) rfl) rfl, x_k3 (List.mem_of_getElem? (i := 69) rfl) rfl⟩
def kX5_image : List (List (Nat × Instr × Nat)) := [[(0, .aload_n 0, 1), (1, .getfield 16, 3), (4, .aload_n 0, 1), (5, .getfield 10, 3), (8, .invokevirtual 79, 3), (11, .aload_n 0, 1), (12, .iconst 1, 1), (13, .putfield 19, 3)],
  [(16, .aload_n 0, 1), (17, .getfield 10, 3), (20, .getfield 121, 3), (23, .ireturn, 1)]]
def mX5_image : x_M := (yX5_image, prog_1_method_28_code, 1, (some .int), kX5_image, IX5)
set_option maxRecDepth 100000 in
theorem decX5_image : x_dec mX5_image := by unfold x_dec; decide +kernel
theorem gX5_image : x_good mX5_image := ⟨plX5, decX5_image, okX5, rfl, x_k3 (List.mem_of_getElem? (i := 81) rfl) rfl, iniX5, mhX5, vhX5⟩
theorem vX5_image : Cond.instanceMethod yX5_image ∈ x_tb ∧ Cond.selects RX5 yX5_image yX5_image ∈ x_tb := ⟨x_k3 (List.mem_of_getElem? (i := 79) rfl) rfl, x_k3 (List.mem_of_getElem? (i := 80) rfl) rfl⟩
def kX5_on : List (List (Nat × Instr × Nat)) := [[(0, .aload_n 0, 1), (1, .getfield 19, 3), (4, .ifCond .ne 10, 3), (7, .aload_n 0, 1), (8, .bipush (-3), 2), (10, .invokevirtual 68, 3), (13, .ireturn, 1), (14, .aload_n 0, 1), (15, .getfield 10, 3)],
  [(18, .aload_n 0, 1), (19, .getfield 16, 3), (22, .invokevirtual 79, 3), (25, .aload_n 0, 1), (26, .getfield 10, 3), (29, .getfield 121, 3)],
  [(32, .ireturn, 1)]]
def mX5_on : x_M := (yX5_on, prog_1_method_29_code, 1, (some .int), kX5_on, IX5)
set_option maxRecDepth 100000 in
theorem decX5_on : x_dec mX5_on := by unfold x_dec; decide +kernel
theorem gX5_on : x_good mX5_on := ⟨plX5, decX5_on, okX5, rfl, x_k3 (List.mem_of_getElem? (i := 85) rfl) rfl, iniX5, mhX5, vhX5⟩
theorem vX5_on : Cond.instanceMethod yX5_on ∈ x_tb ∧ Cond.selects RX5 yX5_on yX5_on ∈ x_tb := ⟨x_k3 (List.mem_of_getElem? (i := 83) rfl) rfl, x_k3 (List.mem_of_getElem? (i := 84) rfl) rfl⟩
def kX5_count : List (List (Nat × Instr × Nat)) := [[(0, .iload_n 1, 1), (1, .tableswitch 134 0 9 #[55, 63, 71, 80, 89, 97, 105, 113, 121, 126], 55)],
  [],
  [],
  [(56, .aload_n 0, 1), (57, .getfield 10, 3), (60, .getfield 147, 3), (63, .ireturn, 1)],
  [(64, .aload_n 0, 1), (65, .getfield 10, 3), (68, .invokevirtual 143, 3), (71, .ireturn, 1), (72, .aload_n 0, 1), (73, .getfield 10, 3), (76, .iconst 0, 1), (77, .invokevirtual 205, 3)],
  [(80, .ireturn, 1), (81, .aload_n 0, 1), (82, .getfield 10, 3), (85, .iconst 1, 1), (86, .invokevirtual 205, 3), (89, .ireturn, 1), (90, .aload_n 0, 1), (91, .getfield 10, 3), (94, .getfield 115, 3)],
  [(97, .ireturn, 1), (98, .aload_n 0, 1), (99, .getfield 10, 3), (102, .getfield 121, 3), (105, .ireturn, 1), (106, .aload_n 0, 1), (107, .getfield 10, 3), (110, .getfield 109, 3)],
  [(113, .ireturn, 1), (114, .aload_n 0, 1), (115, .getfield 10, 3), (118, .getfield 112, 3), (121, .ireturn, 1), (122, .aload_n 0, 1), (123, .getfield 61, 3), (126, .ireturn, 1), (127, .aload_n 0, 1)],
  [(128, .getfield 32, 3), (131, .getfield 76, 3), (134, .ireturn, 1), (135, .iload_n 1, 1), (136, .bipush 11, 2), (138, .if_icmp .lt 21, 3), (141, .iload_n 1, 1), (142, .bipush 16, 2)],
  [(144, .if_icmp .gt 15, 3), (147, .aload_n 0, 1), (148, .getfield 65, 3), (151, .iload_n 1, 1), (152, .bipush 10, 2), (154, .isub, 1), (155, .iaload, 1), (156, .goto 5, 3), (159, .bipush (-9), 2)],
  [(161, .ireturn, 1)]]
def mX5_count : x_M := (yX5_count, prog_1_method_30_code, 2, (some .int), kX5_count, IX5)
set_option maxRecDepth 100000 in
theorem decX5_count : x_dec mX5_count := by unfold x_dec; decide +kernel
theorem gX5_count : x_good mX5_count := ⟨plX5, decX5_count, okX5, rfl, x_k3 (List.mem_of_getElem? (i := 89) rfl) rfl, iniX5, mhX5, vhX5⟩
theorem vX5_count : Cond.instanceMethod yX5_count ∈ x_tb ∧ Cond.selects RX5 yX5_count yX5_count ∈ x_tb := ⟨x_k3 (List.mem_of_getElem? (i := 87) rfl) rfl, x_k3 (List.mem_of_getElem? (i := 88) rfl) rfl⟩
def kX5_refuse : List (List (Nat × Instr × Nat)) := [[(0, .iload_n 1, 1), (1, .ineg, 1), (2, .istore_n 2, 1), (3, .iload_n 2, 1), (4, .ifCond .lt 22, 3), (7, .iload_n 2, 1), (8, .aload_n 0, 1), (9, .getfield 65, 3), (12, .arraylength, 1), (13, .if_icmp .ge 13, 3)],
  [(16, .aload_n 0, 1), (17, .getfield 65, 3), (20, .iload_n 2, 1), (21, .dup2, 1), (22, .iaload, 1), (23, .iconst 1, 1), (24, .iadd, 1), (25, .iastore, 1), (26, .iload_n 1, 1), (27, .ireturn, 1)]]
def mX5_refuse : x_M := (yX5_refuse, prog_1_method_31_code, 3, (some .int), kX5_refuse, IX5)
set_option maxRecDepth 100000 in
theorem decX5_refuse : x_dec mX5_refuse := by unfold x_dec; decide +kernel
theorem gX5_refuse : x_good mX5_refuse := ⟨plX5, decX5_refuse, okX5, rfl, x_k1 (List.mem_of_getElem? (i := 203) rfl) rfl, iniX5, mhX5, vhX5⟩
theorem vX5_refuse : Cond.instanceMethod yX5_refuse ∈ x_tb ∧ Cond.selects RX5 yX5_refuse yX5_refuse ∈ x_tb := ⟨x_k1 (List.mem_of_getElem? (i := 202) rfl) rfl, x_tb_in (List.mem_of_getElem? (i := 0) rfl) rfl⟩
def kX5_refuseFar : List (List (Nat × Instr × Nat)) := [[(0, .ldc 211, 2), (2, .aload_n 0, 1), (3, .iload_n 1, 1), (4, .invokevirtual 68, 3), (7, .isub, 1), (8, .ireturn, 1)]]
def mX5_refuseFar : x_M := (yX5_refuseFar, prog_1_method_32_code, 2, (some .int), kX5_refuseFar, IX5)
set_option maxRecDepth 100000 in
theorem decX5_refuseFar : x_dec mX5_refuseFar := by unfold x_dec; decide +kernel
theorem gX5_refuseFar : x_good mX5_refuseFar := ⟨plX5, decX5_refuseFar, okX5, rfl, x_k2 (List.mem_of_getElem? (i := 165) rfl) rfl, iniX5, mhX5, vhX5⟩
theorem vX5_refuseFar : Cond.instanceMethod yX5_refuseFar ∈ x_tb ∧ Cond.selects RX5 yX5_refuseFar yX5_refuseFar ∈ x_tb := ⟨x_k2 (List.mem_of_getElem? (i := 164) rfl) rfl, x_tb_in (List.mem_of_getElem? (i := 14) rfl) rfl⟩
def kX5_tryMove : List (List (Nat × Instr × Nat)) := [[(0, .aload_n 0, 1), (1, .getfield 10, 3), (4, .iload_n 1, 1), (5, .invokevirtual 118, 3), (8, .ifCond .ne 5, 3), (11, .iconst 0, 1), (12, .ireturn, 1), (13, .aload_n 0, 1), (14, .getfield 23, 3)],
  [(17, .aload_n 0, 1), (18, .getfield 10, 3), (21, .invokevirtual 79, 3), (24, .aload_n 0, 1), (25, .getfield 23, 3), (28, .iload_n 1, 1), (29, .invokevirtual 124, 3)],
  [(32, .iconst 1, 1), (33, .ireturn, 1)]]
def mX5_tryMove : x_M := (yX5_tryMove, prog_1_method_33_code, 2, (some .boolean), kX5_tryMove, IX5)
set_option maxRecDepth 100000 in
theorem decX5_tryMove : x_dec mX5_tryMove := by unfold x_dec; decide +kernel
theorem gX5_tryMove : x_good mX5_tryMove := ⟨plX5, decX5_tryMove, okX5, rfl, x_k2 (List.mem_of_getElem? (i := 120) rfl) rfl, iniX5, mhX5, vhX5⟩
theorem vX5_tryMove : Cond.instanceMethod yX5_tryMove ∈ x_tb ∧ Cond.selects RX5 yX5_tryMove yX5_tryMove ∈ x_tb := ⟨x_k2 (List.mem_of_getElem? (i := 119) rfl) rfl, x_tb_in (List.mem_of_getElem? (i := 13) rfl) rfl⟩
def kX5_roundOf : List (List (Nat × Instr × Nat)) := [[(0, .aload_n 0, 1), (1, .getfield 23, 3), (4, .aload_n 0, 1), (5, .getfield 10, 3), (8, .invokevirtual 79, 3), (11, .aload_n 0, 1), (12, .getfield 26, 3), (15, .aload_n 0, 1)],
  [(16, .getfield 10, 3), (19, .invokevirtual 79, 3), (22, .iconst 1, 1), (23, .istore_n 2, 1), (24, .iconst 0, 1), (25, .istore_n 3, 1), (26, .iconst 0, 1), (27, .istore 4, 2), (29, .iload 4, 2), (31, .ldc 212, 2)],
  [(33, .if_icmp .ge 69, 3), (36, .aload_n 0, 1), (37, .getfield 23, 3), (40, .iload_n 1, 1), (41, .invokevirtual 118, 3), (44, .ifCond .eq 58, 3), (47, .aload_n 0, 1)],
  [(48, .getfield 23, 3), (51, .iload_n 1, 1), (52, .invokevirtual 124, 3), (55, .iinc 3 1, 3), (58, .aload_n 0, 1), (59, .getfield 23, 3), (62, .aload_n 0, 1), (63, .getfield 26, 3)],
  [(66, .invokevirtual 158, 3), (69, .ifCond .eq 5, 3), (72, .iload_n 3, 1), (73, .ireturn, 1), (74, .iload_n 3, 1), (75, .iload_n 2, 1), (76, .if_icmp .ne 20, 3), (79, .aload_n 0, 1)],
  [(80, .getfield 26, 3), (83, .aload_n 0, 1), (84, .getfield 23, 3), (87, .invokevirtual 79, 3), (90, .iload_n 2, 1), (91, .iconst 2, 1), (92, .imul, 1), (93, .istore_n 2, 1), (94, .iconst 0, 1), (95, .istore_n 3, 1)],
  [(96, .iinc 4 1, 3), (99, .goto (-70), 3), (102, .bipush (-9), 2), (104, .ireturn, 1)]]
def mX5_roundOf : x_M := (yX5_roundOf, prog_1_method_34_code, 5, (some .int), kX5_roundOf, IX5)
set_option maxRecDepth 100000 in
theorem decX5_roundOf : x_dec mX5_roundOf := by unfold x_dec; decide +kernel
theorem gX5_roundOf : x_good mX5_roundOf := ⟨plX5, decX5_roundOf, okX5, rfl, x_k2 (List.mem_of_getElem? (i := 187) rfl) rfl, iniX5, mhX5, vhX5⟩
theorem vX5_roundOf : Cond.instanceMethod yX5_roundOf ∈ x_tb ∧ Cond.selects RX5 yX5_roundOf yX5_roundOf ∈ x_tb := ⟨x_k2 (List.mem_of_getElem? (i := 186) rfl) rfl, x_tb_in (List.mem_of_getElem? (i := 15) rfl) rfl⟩
def kX5_entryOf : List (List (Nat × Instr × Nat)) := [[(0, .aload_n 0, 1), (1, .getfield 23, 3), (4, .aload_n 0, 1), (5, .getfield 10, 3), (8, .invokevirtual 79, 3), (11, .aload_n 0, 1), (12, .getfield 26, 3), (15, .aload_n 0, 1)],
  [(16, .getfield 10, 3), (19, .invokevirtual 79, 3), (22, .iconst 0, 1), (23, .istore_n 3, 1), (24, .iload_n 3, 1), (25, .iload_n 2, 1), (26, .if_icmp .ge 17, 3), (29, .aload_n 0, 1), (30, .getfield 23, 3)],
  [(33, .iload_n 1, 1), (34, .invokevirtual 124, 3), (37, .iinc 3 1, 3), (40, .goto (-16), 3), (43, .iconst 0, 1), (44, .istore_n 3, 1), (45, .iload_n 3, 1), (46, .sipush 200, 3)],
  [(49, .if_icmp .gt 41, 3), (52, .aload_n 0, 1), (53, .getfield 23, 3), (56, .aload_n 0, 1), (57, .getfield 26, 3), (60, .invokevirtual 158, 3), (63, .ifCond .eq 5, 3)],
  [(66, .iload_n 3, 1), (67, .ireturn, 1), (68, .aload_n 0, 1), (69, .getfield 23, 3), (72, .iload_n 1, 1), (73, .invokevirtual 124, 3), (76, .aload_n 0, 1), (77, .getfield 26, 3)],
  [(80, .iload_n 1, 1), (81, .invokevirtual 124, 3), (84, .iinc 3 1, 3), (87, .goto (-42), 3), (90, .bipush (-9), 2), (92, .ireturn, 1)]]
def mX5_entryOf : x_M := (yX5_entryOf, prog_1_method_35_code, 4, (some .int), kX5_entryOf, IX5)
set_option maxRecDepth 100000 in
theorem decX5_entryOf : x_dec mX5_entryOf := by unfold x_dec; decide +kernel
theorem gX5_entryOf : x_good mX5_entryOf := ⟨plX5, decX5_entryOf, okX5, rfl, x_k2 (List.mem_of_getElem? (i := 192) rfl) rfl, iniX5, mhX5, vhX5⟩
theorem vX5_entryOf : Cond.instanceMethod yX5_entryOf ∈ x_tb ∧ Cond.selects RX5 yX5_entryOf yX5_entryOf ∈ x_tb := ⟨x_k2 (List.mem_of_getElem? (i := 191) rfl) rfl, x_tb_in (List.mem_of_getElem? (i := 16) rfl) rfl⟩
def kX5_worthChange : List (List (Nat × Instr × Nat)) := [[(0, .aload_n 0, 1), (1, .getfield 23, 3), (4, .aload_n 0, 1), (5, .getfield 10, 3), (8, .invokevirtual 79, 3), (11, .aload_n 0, 1), (12, .getfield 23, 3), (15, .iload_n 1, 1)],
  [(16, .aload_n 0, 1), (17, .getfield 10, 3), (20, .iload_n 1, 1), (21, .invokevirtual 96, 3), (24, .iload_n 2, 1), (25, .iadd, 1), (26, .invokevirtual 105, 3), (29, .aload_n 0, 1), (30, .getfield 39, 3)],
  [(33, .aload_n 0, 1), (34, .getfield 23, 3), (37, .iconst 2, 1), (38, .invokevirtual 155, 3), (41, .aload_n 0, 1), (42, .getfield 39, 3), (45, .aload_n 0, 1), (46, .getfield 10, 3)],
  [(49, .iconst 2, 1), (50, .invokevirtual 155, 3), (53, .isub, 1), (54, .ireturn, 1)]]
def mX5_worthChange : x_M := (yX5_worthChange, prog_1_method_36_code, 3, (some .int), kX5_worthChange, IX5)
set_option maxRecDepth 100000 in
theorem decX5_worthChange : x_dec mX5_worthChange := by unfold x_dec; decide +kernel
theorem gX5_worthChange : x_good mX5_worthChange := ⟨plX5, decX5_worthChange, okX5, rfl, x_k2 (List.mem_of_getElem? (i := 233) rfl) rfl, iniX5, mhX5, vhX5⟩
theorem vX5_worthChange : Cond.instanceMethod yX5_worthChange ∈ x_tb ∧ Cond.selects RX5 yX5_worthChange yX5_worthChange ∈ x_tb := ⟨x_k2 (List.mem_of_getElem? (i := 232) rfl) rfl, x_tb_in (List.mem_of_getElem? (i := 19) rfl) rfl⟩
def kX5_refusalToLay : List (List (Nat × Instr × Nat)) := [[(0, .iload_n 1, 1), (1, .ifCond .ge 6, 3), (4, .bipush (-4), 2), (6, .ireturn, 1), (7, .iload_n 1, 1), (8, .bipush 40, 2), (10, .if_icmp .le 6, 3), (13, .bipush (-6), 2), (15, .ireturn, 1)],
  [(16, .aload_n 0, 1), (17, .getfield 61, 3), (20, .aload_n 0, 1), (21, .getfield 10, 3), (24, .getfield 147, 3), (27, .if_icmp .eq 6, 3), (30, .bipush (-3), 2)],
  [(32, .ireturn, 1), (33, .iconst 0, 1), (34, .istore_n 2, 1), (35, .iload_n 2, 1), (36, .aload_n 0, 1), (37, .getfield 61, 3), (40, .if_icmp .ge 31, 3), (43, .iload_n 2, 1), (44, .aload_n 0, 1), (45, .getfield 57, 3)],
  [(48, .arraylength, 1), (49, .if_icmp .ge 22, 3), (52, .aload_n 0, 1), (53, .getfield 57, 3), (56, .iload_n 2, 1), (57, .iaload, 1), (58, .iconst 2, 1), (59, .if_icmp .le 6, 3), (62, .bipush (-3), 2)],
  [(64, .ireturn, 1), (65, .iinc 2 1, 3), (68, .goto (-33), 3), (71, .iconst 0, 1), (72, .ireturn, 1)]]
def mX5_refusalToLay : x_M := (yX5_refusalToLay, prog_1_method_37_code, 3, (some .int), kX5_refusalToLay, IX5)
set_option maxRecDepth 100000 in
theorem decX5_refusalToLay : x_dec mX5_refusalToLay := by unfold x_dec; decide +kernel
theorem gX5_refusalToLay : x_good mX5_refusalToLay := ⟨plX5, decX5_refusalToLay, okX5, rfl, x_k3 (List.mem_of_getElem? (i := 14) rfl) rfl, iniX5, mhX5, vhX5⟩
theorem vX5_refusalToLay : Cond.instanceMethod yX5_refusalToLay ∈ x_tb ∧ Cond.selects RX5 yX5_refusalToLay yX5_refusalToLay ∈ x_tb := ⟨x_k3 (List.mem_of_getElem? (i := 13) rfl) rfl, x_tb_in (List.mem_of_getElem? (i := 20) rfl) rfl⟩
def kX5_playRow : List (List (Nat × Instr × Nat)) := [[(0, .aload_n 0, 1), (1, .getfield 23, 3), (4, .aload_n 0, 1), (5, .getfield 10, 3), (8, .invokevirtual 79, 3), (11, .iconst 0, 1), (12, .istore_n 1, 1), (13, .iload_n 1, 1), (14, .aload_n 0, 1), (15, .getfield 61, 3)],
  [(18, .if_icmp .ge 47, 3), (21, .iload_n 1, 1), (22, .aload_n 0, 1), (23, .getfield 57, 3), (26, .arraylength, 1), (27, .if_icmp .ge 38, 3), (30, .aload_n 0, 1), (31, .getfield 23, 3)],
  [(34, .aload_n 0, 1), (35, .getfield 57, 3), (38, .iload_n 1, 1), (39, .iaload, 1), (40, .invokevirtual 118, 3), (43, .ifCond .eq 22, 3), (46, .aload_n 0, 1), (47, .getfield 23, 3)],
  [(50, .aload_n 0, 1), (51, .getfield 57, 3), (54, .iload_n 1, 1), (55, .iaload, 1), (56, .invokevirtual 124, 3), (59, .iinc 1 1, 3), (62, .goto (-49), 3)],
  [(65, .iload_n 1, 1), (66, .ireturn, 1)]]
def mX5_playRow : x_M := (yX5_playRow, prog_1_method_38_code, 2, (some .int), kX5_playRow, IX5)
set_option maxRecDepth 100000 in
theorem decX5_playRow : x_dec mX5_playRow := by unfold x_dec; decide +kernel
theorem gX5_playRow : x_good mX5_playRow := ⟨plX5, decX5_playRow, okX5, rfl, x_k3 (List.mem_of_getElem? (i := 54) rfl) rfl, iniX5, mhX5, vhX5⟩
theorem vX5_playRow : Cond.instanceMethod yX5_playRow ∈ x_tb ∧ Cond.selects RX5 yX5_playRow yX5_playRow ∈ x_tb := ⟨x_k3 (List.mem_of_getElem? (i := 53) rfl) rfl, x_tb_in (List.mem_of_getElem? (i := 22) rfl) rfl⟩
def kX5_playLot : List (List (Nat × Instr × Nat)) := [[(0, .iload_n 1, 1), (1, .istore_n 2, 1), (2, .iconst 0, 1), (3, .istore_n 3, 1), (4, .iload_n 3, 1), (5, .bipush 20, 2), (7, .if_icmp .ge 85, 3), (10, .aload_n 0, 1), (11, .getfield 23, 3), (14, .getfield 147, 3)],
  [(17, .ifCond .le 75, 3), (20, .iload_n 2, 1), (21, .ldc 213, 2), (23, .imul, 1), (24, .ldc 214, 2), (26, .iadd, 1), (27, .istore_n 2, 1), (28, .iload_n 2, 1), (29, .ldc 215, 2), (31, .iand, 1)],
  [(32, .sipush 256, 3), (35, .idiv, 1), (36, .aload_n 0, 1), (37, .getfield 23, 3), (40, .getfield 147, 3), (43, .irem, 1), (44, .istore 4, 2), (46, .aload_n 0, 1), (47, .getfield 23, 3)],
  [(50, .iload 4, 2), (52, .invokevirtual 118, 3), (55, .ifCond .eq 15, 3), (58, .aload_n 0, 1), (59, .getfield 23, 3), (62, .iload 4, 2)],
  [(64, .invokevirtual 124, 3), (67, .goto 19, 3), (70, .aload_n 0, 1), (71, .getfield 23, 3), (74, .iconst 1, 1), (75, .aload_n 0, 1), (76, .getfield 23, 3), (79, .getfield 115, 3)],
  [(82, .isub, 1), (83, .putfield 115, 3), (86, .iinc 3 1, 3), (89, .goto (-85), 3), (92, .iload_n 2, 1), (93, .ireturn, 1)]]
def mX5_playLot : x_M := (yX5_playLot, prog_1_method_39_code, 5, (some .int), kX5_playLot, IX5)
set_option maxRecDepth 100000 in
theorem decX5_playLot : x_dec mX5_playLot := by unfold x_dec; decide +kernel
theorem gX5_playLot : x_good mX5_playLot := ⟨plX5, decX5_playLot, okX5, rfl, x_k3 (List.mem_of_getElem? (i := 74) rfl) rfl, iniX5, mhX5, vhX5⟩
theorem vX5_playLot : Cond.instanceMethod yX5_playLot ∈ x_tb ∧ Cond.selects RX5 yX5_playLot yX5_playLot ∈ x_tb := ⟨x_k3 (List.mem_of_getElem? (i := 73) rfl) rfl, x_tb_in (List.mem_of_getElem? (i := 23) rfl) rfl⟩
theorem sX5_1 : Cond.methodLink RX5 1 objectInit ∈ x_tb := x_k1 (List.mem_of_getElem? (i := 16) rfl) rfl
theorem sX5_9 : x_sI RX5 9 mX3_init 0 true := ⟨fun h => (by cases h), fun _ => List.mem_of_getElem? (i := 0) rfl, vX3_init, rfl, rfl, x_pd0⟩
theorem sX5_31 : x_sI RX5 31 mX2_init 0 true := ⟨fun h => (by cases h), fun _ => List.mem_of_getElem? (i := 18) rfl, vX2_init, rfl, rfl, x_pd0⟩
theorem sX5_38 : x_sI RX5 38 mX0_init 0 false := ⟨fun _ => x_k1 (List.mem_of_getElem? (i := 96) rfl) rfl, fun h => (by cases h), vX0_init, rfl, rfl, x_pd0⟩
theorem sX5_45 : x_sI RX5 45 mX1_init 0 true := ⟨fun h => (by cases h), fun _ => List.mem_of_getElem? (i := 21) rfl, vX1_init, rfl, rfl, x_pd0⟩
theorem sX5_52 : x_sI RX5 52 mX4_init 0 true := ⟨fun h => (by cases h), fun _ => List.mem_of_getElem? (i := 25) rfl, vX4_init, rfl, rfl, x_pd0⟩
theorem sX5_68 : x_sV RX5 68 mX5_refuse 1 5 := ⟨x_k1 (List.mem_of_getElem? (i := 200) rfl) rfl, vX5_refuse.1, vX5_refuse.2, x_pd6, (RX5, TX5, 12), rfl, rfl⟩
theorem sX5_72 : x_sV RX5 72 mX2_add 1 2 := ⟨x_k1 (List.mem_of_getElem? (i := 204) rfl) rfl, vX2_add.1, vX2_add.2, x_pd4, (RX2, TX2, 2), rfl, rfl⟩
theorem sX5_79 : x_sV RX5 79 mX3_copyFrom 1 3 := ⟨x_k1 (List.mem_of_getElem? (i := 212) rfl) rfl, vX3_copyFrom.1, vX3_copyFrom.2, x_pd2, (RX3, TX3, 12), rfl, rfl⟩
theorem sX5_83 : x_sV RX5 83 mX2_playOn 1 2 := ⟨x_k1 (List.mem_of_getElem? (i := 219) rfl) rfl, vX2_playOn.1, vX2_playOn.2, x_pd20, (RX2, TX2, 2), rfl, rfl⟩
theorem sX5_87 : x_sV RX5 87 mX2_clear 0 2 := ⟨x_k2 (List.mem_of_getElem? (i := 82) rfl) rfl, vX2_clear.1, vX2_clear.2, x_pd0, (RX2, TX2, 2), rfl, rfl⟩
theorem sX5_90 : x_sV RX5 90 mX3_has 1 3 := ⟨x_k2 (List.mem_of_getElem? (i := 90) rfl) rfl, vX3_has.1, vX3_has.2, x_pd4, (RX3, TX3, 12), rfl, rfl⟩
theorem sX5_93 : x_sV RX5 93 mX3_kindOf 1 3 := ⟨x_k2 (List.mem_of_getElem? (i := 91) rfl) rfl, vX3_kindOf.1, vX3_kindOf.2, x_pd6, (RX3, TX3, 12), rfl, rfl⟩
theorem sX5_96 : x_sV RX5 96 mX3_beansOf 1 3 := ⟨x_k2 (List.mem_of_getElem? (i := 95) rfl) rfl, vX3_beansOf.1, vX3_beansOf.2, x_pd6, (RX3, TX3, 12), rfl, rfl⟩
theorem sX5_99 : x_sV RX5 99 mX3_soundsFrom 1 3 := ⟨x_k2 (List.mem_of_getElem? (i := 96) rfl) rfl, vX3_soundsFrom.1, vX3_soundsFrom.2, x_pd6, (RX3, TX3, 12), rfl, rfl⟩
theorem sX5_102 : x_sV RX5 102 mX3_takes 1 3 := ⟨x_k2 (List.mem_of_getElem? (i := 97) rfl) rfl, vX3_takes.1, vX3_takes.2, x_pd4, (RX3, TX3, 12), rfl, rfl⟩
theorem sX5_105 : x_sV RX5 105 mX3_lay 2 3 := ⟨x_k2 (List.mem_of_getElem? (i := 102) rfl) rfl, vX3_lay.1, vX3_lay.2, x_pd16, (RX3, TX3, 12), rfl, rfl⟩
theorem sX5_118 : x_sV RX5 118 mX3_canMove 1 3 := ⟨x_k2 (List.mem_of_getElem? (i := 111) rfl) rfl, vX3_canMove.1, vX3_canMove.2, x_pd4, (RX3, TX3, 12), rfl, rfl⟩
theorem sX5_124 : x_sV RX5 124 mX3_makeMove 1 3 := ⟨x_k2 (List.mem_of_getElem? (i := 112) rfl) rfl, vX3_makeMove.1, vX3_makeMove.2, x_pd5, (RX3, TX3, 12), rfl, rfl⟩
theorem sX5_131 : x_sV RX5 131 mX5_tryMove 1 5 := ⟨x_k2 (List.mem_of_getElem? (i := 117) rfl) rfl, vX5_tryMove.1, vX5_tryMove.2, x_pd4, (RX5, TX5, 12), rfl, rfl⟩
theorem sX5_143 : x_sV RX5 143 mX3_allBeans 0 3 := ⟨x_k2 (List.mem_of_getElem? (i := 121) rfl) rfl, vX3_allBeans.1, vX3_allBeans.2, x_pd12, (RX3, TX3, 12), rfl, rfl⟩
theorem sX5_148 : x_sV RX5 148 mX0_bowlFor 2 0 := ⟨x_k2 (List.mem_of_getElem? (i := 141) rfl) rfl, vX0_bowlFor.1, vX0_bowlFor.2, x_pd1, (RX0, TX0, 2), rfl, rfl⟩
theorem sX5_152 : x_sV RX5 152 mX5_refuseFar 1 5 := ⟨x_k2 (List.mem_of_getElem? (i := 162) rfl) rfl, vX5_refuseFar.1, vX5_refuseFar.2, x_pd6, (RX5, TX5, 12), rfl, rfl⟩
theorem sX5_155 : x_sV RX5 155 mX0_gainFor 2 0 := ⟨x_k2 (List.mem_of_getElem? (i := 167) rfl) rfl, vX0_gainFor.1, vX0_gainFor.2, x_pd1, (RX0, TX0, 2), rfl, rfl⟩
theorem sX5_158 : x_sV RX5 158 mX3_sameBeans 1 3 := ⟨x_k2 (List.mem_of_getElem? (i := 176) rfl) rfl, vX3_sameBeans.1, vX3_sameBeans.2, x_pd21, (RX3, TX3, 12), rfl, rfl⟩
theorem sX5_162 : x_sV RX5 162 mX5_roundOf 1 5 := ⟨x_k2 (List.mem_of_getElem? (i := 184) rfl) rfl, vX5_roundOf.1, vX5_roundOf.2, x_pd6, (RX5, TX5, 12), rfl, rfl⟩
theorem sX5_165 : x_sV RX5 165 mX5_entryOf 2 5 := ⟨x_k2 (List.mem_of_getElem? (i := 189) rfl) rfl, vX5_entryOf.1, vX5_entryOf.2, x_pd13, (RX5, TX5, 12), rfl, rfl⟩
theorem sX5_169 : x_sV RX5 169 mX1_seek 2 1 := ⟨x_k2 (List.mem_of_getElem? (i := 197) rfl) rfl, vX1_seek.1, vX1_seek.2, x_pd22, (RX1, TX1, 8), rfl, rfl⟩
theorem sX5_177 : x_sV RX5 177 mX5_worthChange 2 5 := ⟨x_k2 (List.mem_of_getElem? (i := 230) rfl) rfl, vX5_worthChange.1, vX5_worthChange.2, x_pd13, (RX5, TX5, 12), rfl, rfl⟩
theorem sX5_180 : x_sV RX5 180 mX3_swapBeans 2 3 := ⟨x_k3 (List.mem_of_getElem? (i := 2) rfl) rfl, vX3_swapBeans.1, vX3_swapBeans.2, x_pd16, (RX3, TX3, 12), rfl, rfl⟩
theorem sX5_183 : x_sV RX5 183 mX5_refusalToLay 1 5 := ⟨x_k3 (List.mem_of_getElem? (i := 11) rfl) rfl, vX5_refusalToLay.1, vX5_refusalToLay.2, x_pd6, (RX5, TX5, 12), rfl, rfl⟩
theorem sX5_186 : x_sV RX5 186 mX4_toLay 3 4 := ⟨x_k3 (List.mem_of_getElem? (i := 15) rfl) rfl, vX4_toLay.1, vX4_toLay.2, x_pd19, (RX4, TX4, 2), rfl, rfl⟩
theorem sX5_192 : Cond.methodLink RX5 192 Lib.MathLoose.min_long.x ∈ x_tb := x_k3 (List.mem_of_getElem? (i := 32) rfl) rfl
theorem sX5_198 : x_sV RX5 198 mX4_bowlToAsk 3 4 := ⟨x_k3 (List.mem_of_getElem? (i := 39) rfl) rfl, vX4_bowlToAsk.1, vX4_bowlToAsk.2, x_pd23, (RX4, TX4, 2), rfl, rfl⟩
theorem sX5_202 : x_sV RX5 202 mX5_playRow 0 5 := ⟨x_k3 (List.mem_of_getElem? (i := 51) rfl) rfl, vX5_playRow.1, vX5_playRow.2, x_pd12, (RX5, TX5, 12), rfl, rfl⟩
theorem sX5_205 : x_sV RX5 205 mX3_purseOf 1 3 := ⟨x_k3 (List.mem_of_getElem? (i := 55) rfl) rfl, vX3_purseOf.1, vX3_purseOf.2, x_pd6, (RX3, TX3, 12), rfl, rfl⟩
theorem sX5_208 : x_sV RX5 208 mX5_playLot 1 5 := ⟨x_k3 (List.mem_of_getElem? (i := 71) rfl) rfl, vX5_playLot.1, vX5_playLot.2, x_pd6, (RX5, TX5, 12), rfl, rfl⟩
