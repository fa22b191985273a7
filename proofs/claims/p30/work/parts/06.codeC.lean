theorem plX6 : plainName RX6 = true := by decide +kernel
theorem mhX6 : RX6 ≠ "java/lang/invoke/MethodHandle" := by decide +kernel
theorem vhX6 : RX6 ≠ "java/lang/invoke/VarHandle" := by decide +kernel
def IX6 : x_I := (RX6, [(13, 6, 1, false), (17, 6, 2, false), (60, 6, 3, false), (20, 6, 4, false), (67, 6, 5, false), (23, 6, 6, false), (100, 6, 7, false), (138, 6, 8, false), (26, 6, 9, false), (29, 6, 10, false), (113, 6, 11, false), (32, 6, 12, false), (203, 6, 13, false), (81, 6, 14, false), (78, 6, 15, false), (84, 6, 16, false), (87, 6, 17, false), (96, 6, 18, false), (35, 6, 19, false), (125, 6, 20, false), (38, 6, 21, false), (176, 6, 22, false), (41, 6, 23, false), (44, 6, 24, false), (48, 6, 25, false), (51, 6, 26, false), (54, 6, 27, false), (57, 6, 28, false), (221, 6, 29, false), (224, 6, 30, false), (227, 6, 31, false)], [(179, 1000000000), (218, 1664525), (219, 1013904223), (220, 2147483647)], [(163, 3), (165, 2), (167, 4), (206, 1000000000), (230, 11), (232, 16), (234, 9)], [])
set_option maxRecDepth 100000 in
theorem okX6 : x_okI IX6 := ⟨List.forall_mem_cons.mpr ⟨⟨(RX6, TX6, 32), rfl, by decide, fun _ => x_k3 (List.mem_of_getElem? (i := 96) rfl) rfl, fun h => (by cases h)⟩, List.forall_mem_cons.mpr ⟨⟨(RX6, TX6, 32), rfl, by decide, fun _ => x_k3 (List.mem_of_getElem? (i := 97) rfl) rfl, fun h => (by cases h)⟩, List.forall_mem_cons.mpr ⟨⟨(RX6, TX6, 32), rfl, by decide, fun _ => x_k3 (List.mem_of_getElem? (i := 98) rfl) rfl, fun h => (by cases h)⟩, List.forall_mem_cons.mpr ⟨⟨(RX6, TX6, 32), rfl, by decide, fun _ => x_k3 (List.mem_of_getElem? (i := 99) rfl) rfl, fun h => (by cases h)⟩, List.forall_mem_cons.mpr ⟨⟨(RX6, TX6, 32), rfl, by decide, fun _ => x_k3 (List.mem_of_getElem? (i := 100) rfl) rfl, fun h => (by cases h)⟩, List.forall_mem_cons.mpr ⟨⟨(RX6, TX6, 32), rfl, by decide, fun _ => x_k3 (List.mem_of_getElem? (i := 101) rfl) rfl, fun h => (by cases h)⟩, List.forall_mem_cons.mpr ⟨⟨(RX6, TX6, 32), rfl, by decide, fun _ => x_k3 (List.mem_of_getElem? (i := 102) rfl) rfl, fun h => (by cases h)⟩, List.forall_mem_cons.mpr ⟨⟨(RX6, TX6, 32), rfl, by decide, fun _ => x_k3 (List.mem_of_getElem? (i := 103) rfl) rfl, fun h => (by cases h)⟩, List.forall_mem_cons.mpr ⟨⟨(RX6, TX6, 32), rfl, by decide, fun _ => x_k3 (List.mem_of_getElem? (i := 104) rfl) rfl, fun h => (by cases h)⟩, List.forall_mem_cons.mpr ⟨⟨(RX6, TX6, 32), rfl, by decide, fun _ => x_k3 (List.mem_of_getElem? (i := 105) rfl) rfl, fun h => (by cases h)⟩, List.forall_mem_cons.mpr ⟨⟨(RX6, TX6, 32), rfl, by decide, fun _ => x_k3 (List.mem_of_getElem? (i := 106) rfl) rfl, fun h => (by cases h)⟩, List.forall_mem_cons.mpr ⟨⟨(RX6, TX6, 32), rfl, by decide, fun _ => x_k3 (List.mem_of_getElem? (i := 107) rfl) rfl, fun h => (by cases h)⟩, List.forall_mem_cons.mpr ⟨⟨(RX6, TX6, 32), rfl, by decide, fun _ => x_k3 (List.mem_of_getElem? (i := 108) rfl) rfl, fun h => (by cases h)⟩, List.forall_mem_cons.mpr ⟨⟨(RX6, TX6, 32), rfl, by decide, fun _ => x_k3 (List.mem_of_getElem? (i := 109) rfl) rfl, fun h => (by cases h)⟩, List.forall_mem_cons.mpr ⟨⟨(RX6, TX6, 32), rfl, by decide, fun _ => x_k3 (List.mem_of_getElem? (i := 110) rfl) rfl, fun h => (by cases h)⟩, List.forall_mem_cons.mpr ⟨⟨(RX6, TX6, 32), rfl, by decide, fun _ => x_k3 (List.mem_of_getElem? (i := 111) rfl) rfl, fun h => (by cases h)⟩, List.forall_mem_cons.mpr ⟨⟨(RX6, TX6, 32), rfl, by decide, fun _ => x_k3 (List.mem_of_getElem? (i := 112) rfl) rfl, fun h => (by cases h)⟩, List.forall_mem_cons.mpr ⟨⟨(RX6, TX6, 32), rfl, by decide, fun _ => x_k3 (List.mem_of_getElem? (i := 113) rfl) rfl, fun h => (by cases h)⟩, List.forall_mem_cons.mpr ⟨⟨(RX6, TX6, 32), rfl, by decide, fun _ => x_k3 (List.mem_of_getElem? (i := 114) rfl) rfl, fun h => (by cases h)⟩, List.forall_mem_cons.mpr ⟨⟨(RX6, TX6, 32), rfl, by decide, fun _ => x_k3 (List.mem_of_getElem? (i := 115) rfl) rfl, fun h => (by cases h)⟩, List.forall_mem_cons.mpr ⟨⟨(RX6, TX6, 32), rfl, by decide, fun _ => x_k3 (List.mem_of_getElem? (i := 116) rfl) rfl, fun h => (by cases h)⟩, List.forall_mem_cons.mpr ⟨⟨(RX6, TX6, 32), rfl, by decide, fun _ => x_k3 (List.mem_of_getElem? (i := 117) rfl) rfl, fun h => (by cases h)⟩, List.forall_mem_cons.mpr ⟨⟨(RX6, TX6, 32), rfl, by decide, fun _ => x_k3 (List.mem_of_getElem? (i := 118) rfl) rfl, fun h => (by cases h)⟩, List.forall_mem_cons.mpr ⟨⟨(RX6, TX6, 32), rfl, by decide, fun _ => x_k3 (List.mem_of_getElem? (i := 119) rfl) rfl, fun h => (by cases h)⟩, List.forall_mem_cons.mpr ⟨⟨(RX6, TX6, 32), rfl, by decide, fun _ => x_k3 (List.mem_of_getElem? (i := 120) rfl) rfl, fun h => (by cases h)⟩, List.forall_mem_cons.mpr ⟨⟨(RX6, TX6, 32), rfl, by decide, fun _ => x_k3 (List.mem_of_getElem? (i := 121) rfl) rfl, fun h => (by cases h)⟩, List.forall_mem_cons.mpr ⟨⟨(RX6, TX6, 32), rfl, by decide, fun _ => x_k3 (List.mem_of_getElem? (i := 122) rfl) rfl, fun h => (by cases h)⟩, List.forall_mem_cons.mpr ⟨⟨(RX6, TX6, 32), rfl, by decide, fun _ => x_k3 (List.mem_of_getElem? (i := 123) rfl) rfl, fun h => (by cases h)⟩, List.forall_mem_cons.mpr ⟨⟨(RX6, TX6, 32), rfl, by decide, fun _ => x_k3 (List.mem_of_getElem? (i := 124) rfl) rfl, fun h => (by cases h)⟩, List.forall_mem_cons.mpr ⟨⟨(RX6, TX6, 32), rfl, by decide, fun _ => x_k3 (List.mem_of_getElem? (i := 125) rfl) rfl, fun h => (by cases h)⟩, List.forall_mem_cons.mpr ⟨⟨(RX6, TX6, 32), rfl, by decide, fun _ => x_k3 (List.mem_of_getElem? (i := 126) rfl) rfl, fun h => (by cases h)⟩, fun _ h => absurd h List.not_mem_nil⟩⟩⟩⟩⟩⟩⟩⟩⟩⟩⟩⟩⟩⟩⟩⟩⟩⟩⟩⟩⟩⟩⟩⟩⟩⟩⟩⟩⟩⟩⟩, List.forall_mem_cons.mpr ⟨x_k4 (List.mem_of_getElem? (i := 96) rfl) rfl, List.forall_mem_cons.mpr ⟨x_k4 (List.mem_of_getElem? (i := 190) rfl) rfl, List.forall_mem_cons.mpr ⟨x_k4 (List.mem_of_getElem? (i := 191) rfl) rfl, List.forall_mem_cons.mpr ⟨x_k4 (List.mem_of_getElem? (i := 192) rfl) rfl, fun _ h => absurd h List.not_mem_nil⟩⟩⟩⟩, List.forall_mem_cons.mpr ⟨x_k4 (List.mem_of_getElem? (i := 45) rfl) rfl, List.forall_mem_cons.mpr ⟨x_k4 (List.mem_of_getElem? (i := 54) rfl) rfl, List.forall_mem_cons.mpr ⟨x_k4 (List.mem_of_getElem? (i := 63) rfl) rfl, List.forall_mem_cons.mpr ⟨x_k4 (List.mem_of_getElem? (i := 165) rfl) rfl, List.forall_mem_cons.mpr ⟨x_k4 (List.mem_of_getElem? (i := 205) rfl) rfl, List.forall_mem_cons.mpr ⟨x_k4 (List.mem_of_getElem? (i := 206) rfl) rfl, List.forall_mem_cons.mpr ⟨x_k4 (List.mem_of_getElem? (i := 207) rfl) rfl, fun _ h => absurd h List.not_mem_nil⟩⟩⟩⟩⟩⟩⟩, fun _ h => absurd h List.not_mem_nil⟩
def kX6_in : List (List (Nat × Instr × Nat)) := [[(0, .lload_n 0, 1), (1, .lload_n 2, 1), (2, .lcmp, 1), (3, .ifCond .lt 14, 3), (6, .lload_n 0, 1), (7, .lload 4, 2), (9, .lcmp, 1), (10, .ifCond .gt 7, 3), (13, .iconst 1, 1), (14, .goto 4, 3)],
  [(17, .iconst 0, 1), (18, .ireturn, 1)]]
def mX6_in : x_M := (yX6_in, prog_8_method_2_code, 6, (some .boolean), kX6_in, IX6)
set_option maxRecDepth 100000 in
theorem decX6_in : x_dec mX6_in := by unfold x_dec; decide +kernel
theorem gX6_in : x_good mX6_in := ⟨plX6, decX6_in, okX6, rfl, x_k4 (List.mem_of_getElem? (i := 8) rfl) rfl, iniX6, mhX6, vhX6⟩
theorem vX6_in : Cond.static yX6_in ∈ x_tb := x_k4 (List.mem_of_getElem? (i := 7) rfl) rfl
def kX6_init : List (List (Nat × Instr × Nat)) := [[(0, .aload_n 0, 1), (1, .invokespecial 7, 3), (4, .aload_n 0, 1), (5, .bipush 9, 2), (7, .newarray .int, 2), (9, .putfield 13, 3), (12, .aload_n 0, 1), (13, .bipush 9, 2), (15, .newarray .int, 2)],
  [(17, .putfield 17, 3), (20, .aload_n 0, 1), (21, .iconst 4, 1), (22, .putfield 20, 3), (25, .aload_n 0, 1), (26, .iconst 2, 1), (27, .newarray .int, 2), (29, .putfield 23, 3)],
  [(32, .aload_n 0, 1), (33, .bipush 6, 2), (35, .newarray .int, 2), (37, .putfield 26, 3), (40, .aload_n 0, 1), (41, .bipush 96, 2), (43, .newarray .int, 2), (45, .putfield 29, 3)],
  [(48, .aload_n 0, 1), (49, .bipush 12, 2), (51, .newarray .int, 2), (53, .putfield 32, 3), (56, .aload_n 0, 1), (57, .bipush 96, 2), (59, .newarray .int, 2), (61, .putfield 35, 3)],
  [(64, .aload_n 0, 1), (65, .bipush 9, 2), (67, .newarray .int, 2), (69, .putfield 38, 3), (72, .aload_n 0, 1), (73, .sipush 1809, 3), (76, .newarray .int, 2), (78, .putfield 41, 3)],
  [(81, .aload_n 0, 1), (82, .bipush 41, 2), (84, .newarray .long, 2), (86, .putfield 44, 3), (89, .aload_n 0, 1), (90, .bipush 41, 2), (92, .newarray .long, 2), (94, .putfield 48, 3)],
  [(97, .aload_n 0, 1), (98, .bipush 12, 2), (100, .newarray .int, 2), (102, .putfield 51, 3), (105, .aload_n 0, 1), (106, .bipush 9, 2), (108, .newarray .int, 2), (110, .putfield 54, 3)],
  [(113, .aload_n 0, 1), (114, .iconst (-1), 1), (115, .putfield 57, 3), (118, .return_, 1)]]
def mX6_init : x_M := (yX6_init, prog_8_method_3_code, 1, none, kX6_init, IX6)
set_option maxRecDepth 100000 in
theorem decX6_init : x_dec mX6_init := by unfold x_dec; decide +kernel
theorem gX6_init : x_good mX6_init := ⟨plX6, decX6_init, okX6, rfl, x_k3 (List.mem_of_getElem? (i := 94) rfl) rfl, iniX6, mhX6, vhX6⟩
theorem vX6_init : Cond.instanceMethod yX6_init ∈ x_tb := x_k3 (List.mem_of_getElem? (i := 93) rfl) rfl
def kX6_refuse : List (List (Nat × Instr × Nat)) := [[(0, .aload_n 0, 1), (1, .getfield 26, 3), (4, .iload_n 1, 1), (5, .ineg, 1), (6, .iconst 1, 1), (7, .isub, 1), (8, .dup2, 1), (9, .iaload, 1), (10, .iconst 1, 1), (11, .iadd, 1), (12, .iastore, 1), (13, .iload_n 1, 1), (14, .ireturn, 1)]]
def mX6_refuse : x_M := (yX6_refuse, prog_8_method_4_code, 2, (some .int), kX6_refuse, IX6)
set_option maxRecDepth 100000 in
theorem decX6_refuse : x_dec mX6_refuse := by unfold x_dec; decide +kernel
theorem gX6_refuse : x_good mX6_refuse := ⟨plX6, decX6_refuse, okX6, rfl, x_k3 (List.mem_of_getElem? (i := 199) rfl) rfl, iniX6, mhX6, vhX6⟩
theorem vX6_refuse : Cond.instanceMethod yX6_refuse ∈ x_tb ∧ Cond.selects RX6 yX6_refuse yX6_refuse ∈ x_tb := ⟨x_k3 (List.mem_of_getElem? (i := 198) rfl) rfl, x_tb_in (List.mem_of_getElem? (i := 24) rfl) rfl⟩
def kX6_isBowl : List (List (Nat × Instr × Nat)) := [[(0, .iload_n 1, 1), (1, .i2l, 1), (2, .lconst 0, 1), (3, .aload_n 0, 1), (4, .getfield 60, 3), (7, .iconst 1, 1), (8, .isub, 1), (9, .i2l, 1), (10, .invokestatic 63, 3), (13, .ireturn, 1)]]
def mX6_isBowl : x_M := (yX6_isBowl, prog_8_method_5_code, 2, (some .boolean), kX6_isBowl, IX6)
set_option maxRecDepth 100000 in
theorem decX6_isBowl : x_dec mX6_isBowl := by unfold x_dec; decide +kernel
theorem gX6_isBowl : x_good mX6_isBowl := ⟨plX6, decX6_isBowl, okX6, rfl, x_k4 (List.mem_of_getElem? (i := 5) rfl) rfl, iniX6, mhX6, vhX6⟩
theorem vX6_isBowl : Cond.instanceMethod yX6_isBowl ∈ x_tb ∧ Cond.selects RX6 yX6_isBowl yX6_isBowl ∈ x_tb := ⟨x_k4 (List.mem_of_getElem? (i := 4) rfl) rfl, x_tb_in (List.mem_of_getElem? (i := 33) rfl) rfl⟩
def kX6_soundsFrom : List (List (Nat × Instr × Nat)) := [[(0, .iload_n 1, 1), (1, .iconst 2, 1), (2, .if_icmp .ne 7, 3), (5, .sipush 1000, 3), (8, .ireturn, 1), (9, .iload_n 1, 1), (10, .ifCond .ne 8, 3), (13, .aload_n 0, 1), (14, .getfield 20, 3)],
  [(17, .ireturn, 1), (18, .iload_n 1, 1), (19, .iconst 3, 1), (20, .if_icmp .ne 12, 3), (23, .iconst 2, 1), (24, .aload_n 0, 1), (25, .getfield 20, 3), (28, .imul, 1), (29, .goto 21, 3)],
  [(32, .iload_n 1, 1), (33, .iconst 5, 1), (34, .if_icmp .ne 8, 3), (37, .bipush 12, 2), (39, .goto 11, 3), (42, .aload_n 0, 1), (43, .getfield 20, 3), (46, .iconst 1, 1), (47, .iadd, 1)],
  [(48, .iconst 2, 1), (49, .idiv, 1), (50, .ireturn, 1)]]
def mX6_soundsFrom : x_M := (yX6_soundsFrom, prog_8_method_6_code, 2, (some .int), kX6_soundsFrom, IX6)
set_option maxRecDepth 100000 in
theorem decX6_soundsFrom : x_dec mX6_soundsFrom := by unfold x_dec; decide +kernel
theorem gX6_soundsFrom : x_good mX6_soundsFrom := ⟨plX6, decX6_soundsFrom, okX6, rfl, x_k4 (List.mem_of_getElem? (i := 32) rfl) rfl, iniX6, mhX6, vhX6⟩
theorem vX6_soundsFrom : Cond.instanceMethod yX6_soundsFrom ∈ x_tb ∧ Cond.selects RX6 yX6_soundsFrom yX6_soundsFrom ∈ x_tb := ⟨x_k4 (List.mem_of_getElem? (i := 31) rfl) rfl, x_tb_in (List.mem_of_getElem? (i := 39) rfl) rfl⟩
def kX6_takes : List (List (Nat × Instr × Nat)) := [[(0, .aload_n 0, 1), (1, .getfield 17, 3), (4, .iload_n 1, 1), (5, .iaload, 1), (6, .bipush 99, 2), (8, .if_icmp .ge 30, 3), (11, .aload_n 0, 1), (12, .getfield 13, 3), (15, .iload_n 1, 1)],
  [(16, .iaload, 1), (17, .iconst 4, 1), (18, .if_icmp .ne 16, 3), (21, .aload_n 0, 1), (22, .getfield 17, 3), (25, .iload_n 1, 1), (26, .iaload, 1), (27, .aload_n 0, 1), (28, .getfield 20, 3), (31, .if_icmp .ge 7, 3)],
  [(34, .iconst 1, 1), (35, .goto 4, 3), (38, .iconst 0, 1), (39, .ireturn, 1)]]
def mX6_takes : x_M := (yX6_takes, prog_8_method_7_code, 2, (some .boolean), kX6_takes, IX6)
set_option maxRecDepth 100000 in
theorem decX6_takes : x_dec mX6_takes := by unfold x_dec; decide +kernel
theorem gX6_takes : x_good mX6_takes := ⟨plX6, decX6_takes, okX6, rfl, x_k4 (List.mem_of_getElem? (i := 28) rfl) rfl, iniX6, mhX6, vhX6⟩
theorem vX6_takes : Cond.instanceMethod yX6_takes ∈ x_tb ∧ Cond.selects RX6 yX6_takes yX6_takes ∈ x_tb := ⟨x_k4 (List.mem_of_getElem? (i := 27) rfl) rfl, x_tb_in (List.mem_of_getElem? (i := 38) rfl) rfl⟩
def kX6_beside : List (List (Nat × Instr × Nat)) := [[(0, .aload_n 0, 1), (1, .getfield 67, 3), (4, .iconst 1, 1), (5, .if_icmp .ne 19, 3), (8, .iload_n 1, 1), (9, .aload_n 0, 1), (10, .getfield 60, 3), (13, .iadd, 1), (14, .iconst 1, 1), (15, .isub, 1)],
  [(16, .aload_n 0, 1), (17, .getfield 60, 3), (20, .irem, 1), (21, .goto 11, 3), (24, .iload_n 1, 1), (25, .iconst 1, 1), (26, .iadd, 1), (27, .aload_n 0, 1), (28, .getfield 60, 3), (31, .irem, 1)],
  [(32, .ireturn, 1)]]
def mX6_beside : x_M := (yX6_beside, prog_8_method_8_code, 2, (some .int), kX6_beside, IX6)
set_option maxRecDepth 100000 in
theorem decX6_beside : x_dec mX6_beside := by unfold x_dec; decide +kernel
theorem gX6_beside : x_good mX6_beside := ⟨plX6, decX6_beside, okX6, rfl, x_k4 (List.mem_of_getElem? (i := 24) rfl) rfl, iniX6, mhX6, vhX6⟩
theorem vX6_beside : Cond.instanceMethod yX6_beside ∈ x_tb ∧ Cond.selects RX6 yX6_beside yX6_beside ∈ x_tb := ⟨x_k4 (List.mem_of_getElem? (i := 23) rfl) rfl, x_tb_in (List.mem_of_getElem? (i := 37) rfl) rfl⟩
def kX6_sowsHand : List (List (Nat × Instr × Nat)) := [[(0, .aload_n 0, 1), (1, .getfield 17, 3), (4, .iload_n 1, 1), (5, .iaload, 1), (6, .istore_n 2, 1), (7, .iconst 0, 1), (8, .istore_n 3, 1), (9, .iconst 0, 1), (10, .istore 4, 2), (12, .iload_n 1, 1), (13, .istore 5, 2), (15, .aload_n 0, 1)],
  [(16, .getfield 17, 3), (19, .iload_n 1, 1), (20, .iconst 0, 1), (21, .iastore, 1), (22, .iload_n 2, 1), (23, .ifCond .le 64, 3), (26, .iload 4, 2), (28, .aload_n 0, 1), (29, .getfield 60, 3)],
  [(32, .if_icmp .ge 55, 3), (35, .aload_n 0, 1), (36, .iload 5, 2), (38, .invokevirtual 70, 3), (41, .istore 5, 2), (43, .aload_n 0, 1), (44, .iload 5, 2), (46, .invokevirtual 74, 3)],
  [(49, .ifCond .eq 32, 3), (52, .aload_n 0, 1), (53, .getfield 17, 3), (56, .iload 5, 2), (58, .dup2, 1), (59, .iaload, 1), (60, .iconst 1, 1), (61, .iadd, 1), (62, .iastore, 1), (63, .iinc 2 (-1), 3)],
  [(66, .iinc 3 1, 3), (69, .iconst 0, 1), (70, .istore 4, 2), (72, .aload_n 0, 1), (73, .iload 5, 2), (75, .putfield 78, 3), (78, .goto (-56), 3)],
  [(81, .iinc 4 1, 3), (84, .goto (-62), 3), (87, .aload_n 0, 1), (88, .getfield 17, 3), (91, .iload_n 1, 1), (92, .dup2, 1), (93, .iaload, 1), (94, .iload_n 2, 1), (95, .iadd, 1)],
  [(96, .iastore, 1), (97, .aload_n 0, 1), (98, .dup, 1), (99, .getfield 81, 3), (102, .iconst 1, 1), (103, .iadd, 1), (104, .putfield 81, 3), (107, .aload_n 0, 1), (108, .dup, 1), (109, .getfield 84, 3)],
  [(112, .iload_n 3, 1), (113, .iadd, 1), (114, .putfield 84, 3), (117, .iload_n 3, 1), (118, .ireturn, 1)]]
def mX6_sowsHand : x_M := (yX6_sowsHand, prog_8_method_9_code, 6, (some .int), kX6_sowsHand, IX6)
set_option maxRecDepth 100000 in
theorem decX6_sowsHand : x_dec mX6_sowsHand := by unfold x_dec; decide +kernel
theorem gX6_sowsHand : x_good mX6_sowsHand := ⟨plX6, decX6_sowsHand, okX6, rfl, x_k4 (List.mem_of_getElem? (i := 20) rfl) rfl, iniX6, mhX6, vhX6⟩
theorem vX6_sowsHand : Cond.instanceMethod yX6_sowsHand ∈ x_tb ∧ Cond.selects RX6 yX6_sowsHand yX6_sowsHand ∈ x_tb := ⟨x_k4 (List.mem_of_getElem? (i := 19) rfl) rfl, x_tb_in (List.mem_of_getElem? (i := 36) rfl) rfl⟩
def kX6_sows : List (List (Nat × Instr × Nat)) := [[(0, .aload_n 0, 1), (1, .iconst 0, 1), (2, .putfield 81, 3), (5, .aload_n 0, 1), (6, .bipush (-9), 2), (8, .putfield 78, 3), (11, .aload_n 0, 1), (12, .iconst 0, 1), (13, .putfield 84, 3)],
  [(16, .aload_n 0, 1), (17, .iconst 0, 1), (18, .putfield 87, 3), (21, .aload_n 0, 1), (22, .iload_n 1, 1), (23, .invokevirtual 90, 3), (26, .istore_n 2, 1), (27, .iload_n 2, 1), (28, .ifCond .le 49, 3), (31, .aload_n 0, 1)],
  [(32, .getfield 81, 3), (35, .bipush 60, 2), (37, .if_icmp .ge 40, 3), (40, .aload_n 0, 1), (41, .getfield 17, 3), (44, .aload_n 0, 1), (45, .getfield 78, 3)],
  [(48, .iaload, 1), (49, .aload_n 0, 1), (50, .aload_n 0, 1), (51, .getfield 13, 3), (54, .aload_n 0, 1), (55, .getfield 78, 3), (58, .iaload, 1), (59, .invokevirtual 93, 3), (62, .if_icmp .lt 15, 3)],
  [(65, .aload_n 0, 1), (66, .aload_n 0, 1), (67, .getfield 78, 3), (70, .invokevirtual 90, 3), (73, .istore_n 2, 1), (74, .goto (-47), 3), (77, .aload_n 0, 1), (78, .getfield 78, 3)],
  [(81, .bipush (-9), 2), (83, .if_icmp .eq 77, 3), (86, .aload_n 0, 1), (87, .getfield 17, 3), (90, .aload_n 0, 1), (91, .getfield 78, 3), (94, .iaload, 1), (95, .iconst 1, 1)],
  [(96, .if_icmp .ne 64, 3), (99, .aload_n 0, 1), (100, .getfield 96, 3), (103, .ifCond .ne 18, 3), (106, .aload_n 0, 1), (107, .getfield 23, 3), (110, .aload_n 0, 1), (111, .getfield 100, 3)],
  [(114, .iaload, 1), (115, .sipush 999, 3), (118, .if_icmp .ge 42, 3), (121, .aload_n 0, 1), (122, .getfield 17, 3), (125, .aload_n 0, 1), (126, .getfield 78, 3)],
  [(129, .iconst 0, 1), (130, .iastore, 1), (131, .aload_n 0, 1), (132, .iconst 1, 1), (133, .putfield 87, 3), (136, .aload_n 0, 1), (137, .getfield 23, 3), (140, .aload_n 0, 1), (141, .getfield 100, 3)],
  [(144, .dup2, 1), (145, .iaload, 1), (146, .aload_n 0, 1), (147, .getfield 96, 3), (150, .ifCond .eq 7, 3), (153, .iconst 0, 1), (154, .goto 4, 3), (157, .iconst 1, 1), (158, .iadd, 1), (159, .iastore, 1)],
  [(160, .return_, 1)]]
def mX6_sows : x_M := (yX6_sows, prog_8_method_10_code, 3, none, kX6_sows, IX6)
set_option maxRecDepth 100000 in
theorem decX6_sows : x_dec mX6_sows := by unfold x_dec; decide +kernel
theorem gX6_sows : x_good mX6_sows := ⟨plX6, decX6_sows, okX6, rfl, x_k4 (List.mem_of_getElem? (i := 16) rfl) rfl, iniX6, mhX6, vhX6⟩
theorem vX6_sows : Cond.instanceMethod yX6_sows ∈ x_tb ∧ Cond.selects RX6 yX6_sows yX6_sows ∈ x_tb := ⟨x_k4 (List.mem_of_getElem? (i := 15) rfl) rfl, x_tb_in (List.mem_of_getElem? (i := 35) rfl) rfl⟩
def kX6_canMove : List (List (Nat × Instr × Nat)) := [[(0, .aload_n 0, 1), (1, .iload_n 1, 1), (2, .invokevirtual 103, 3), (5, .ifCond .eq 24, 3), (8, .aload_n 0, 1), (9, .getfield 60, 3), (12, .iconst 1, 1), (13, .if_icmp .le 16, 3)],
  [(16, .aload_n 0, 1), (17, .getfield 17, 3), (20, .iload_n 1, 1), (21, .iaload, 1), (22, .ifCond .le 7, 3), (25, .iconst 1, 1), (26, .goto 4, 3), (29, .iconst 0, 1), (30, .ireturn, 1)]]
def mX6_canMove : x_M := (yX6_canMove, prog_8_method_11_code, 2, (some .boolean), kX6_canMove, IX6)
set_option maxRecDepth 100000 in
theorem decX6_canMove : x_dec mX6_canMove := by unfold x_dec; decide +kernel
theorem gX6_canMove : x_good mX6_canMove := ⟨plX6, decX6_canMove, okX6, rfl, x_k4 (List.mem_of_getElem? (i := 1) rfl) rfl, iniX6, mhX6, vhX6⟩
theorem vX6_canMove : Cond.instanceMethod yX6_canMove ∈ x_tb ∧ Cond.selects RX6 yX6_canMove yX6_canMove ∈ x_tb := ⟨x_k4 (List.mem_of_getElem? (i := 0) rfl) rfl, x_tb_in (List.mem_of_getElem? (i := 32) rfl) rfl⟩
def kX6_moves : List (List (Nat × Instr × Nat)) := [[(0, .aload_n 0, 1), (1, .iload_n 1, 1), (2, .invokevirtual 106, 3), (5, .aload_n 0, 1), (6, .iconst 1, 1), (7, .aload_n 0, 1), (8, .getfield 100, 3), (11, .isub, 1), (12, .putfield 100, 3), (15, .return_, 1)]]
def mX6_moves : x_M := (yX6_moves, prog_8_method_12_code, 2, none, kX6_moves, IX6)
set_option maxRecDepth 100000 in
theorem decX6_moves : x_dec mX6_moves := by unfold x_dec; decide +kernel
theorem gX6_moves : x_good mX6_moves := ⟨plX6, decX6_moves, okX6, rfl, x_k4 (List.mem_of_getElem? (i := 12) rfl) rfl, iniX6, mhX6, vhX6⟩
theorem vX6_moves : Cond.instanceMethod yX6_moves ∈ x_tb ∧ Cond.selects RX6 yX6_moves yX6_moves ∈ x_tb := ⟨x_k4 (List.mem_of_getElem? (i := 11) rfl) rfl, x_tb_in (List.mem_of_getElem? (i := 34) rfl) rfl⟩
def kX6_keeps : List (List (Nat × Instr × Nat)) := [[(0, .bipush 12, 2), (2, .iload_n 1, 1), (3, .imul, 1), (4, .istore_n 2, 1), (5, .iconst 0, 1), (6, .istore_n 3, 1), (7, .iload_n 3, 1), (8, .bipush 9, 2), (10, .if_icmp .ge 23, 3), (13, .aload_n 0, 1), (14, .getfield 35, 3)],
  [(17, .iload_n 2, 1), (18, .iload_n 3, 1), (19, .iadd, 1), (20, .aload_n 0, 1), (21, .getfield 17, 3), (24, .iload_n 3, 1), (25, .iaload, 1), (26, .iastore, 1), (27, .iinc 3 1, 3), (30, .goto (-23), 3)],
  [(33, .aload_n 0, 1), (34, .getfield 35, 3), (37, .iload_n 2, 1), (38, .bipush 9, 2), (40, .iadd, 1), (41, .aload_n 0, 1), (42, .getfield 23, 3), (45, .iconst 0, 1), (46, .iaload, 1), (47, .iastore, 1)],
  [(48, .aload_n 0, 1), (49, .getfield 35, 3), (52, .iload_n 2, 1), (53, .bipush 10, 2), (55, .iadd, 1), (56, .aload_n 0, 1), (57, .getfield 23, 3), (60, .iconst 1, 1), (61, .iaload, 1), (62, .iastore, 1), (63, .aload_n 0, 1)],
  [(64, .getfield 35, 3), (67, .iload_n 2, 1), (68, .bipush 11, 2), (70, .iadd, 1), (71, .aload_n 0, 1), (72, .getfield 100, 3), (75, .iastore, 1), (76, .return_, 1)]]
def mX6_keeps : x_M := (yX6_keeps, prog_8_method_13_code, 4, none, kX6_keeps, IX6)
set_option maxRecDepth 100000 in
theorem decX6_keeps : x_dec mX6_keeps := by unfold x_dec; decide +kernel
theorem gX6_keeps : x_good mX6_keeps := ⟨plX6, decX6_keeps, okX6, rfl, x_k3 (List.mem_of_getElem? (i := 225) rfl) rfl, iniX6, mhX6, vhX6⟩
theorem vX6_keeps : Cond.instanceMethod yX6_keeps ∈ x_tb ∧ Cond.selects RX6 yX6_keeps yX6_keeps ∈ x_tb := ⟨x_k3 (List.mem_of_getElem? (i := 224) rfl) rfl, x_tb_in (List.mem_of_getElem? (i := 28) rfl) rfl⟩
def kX6_lays : List (List (Nat × Instr × Nat)) := [[(0, .bipush 12, 2), (2, .iload_n 1, 1), (3, .imul, 1), (4, .istore_n 2, 1), (5, .iconst 0, 1), (6, .istore_n 3, 1), (7, .iload_n 3, 1), (8, .bipush 9, 2), (10, .if_icmp .ge 23, 3), (13, .aload_n 0, 1), (14, .getfield 17, 3)],
  [(17, .iload_n 3, 1), (18, .aload_n 0, 1), (19, .getfield 35, 3), (22, .iload_n 2, 1), (23, .iload_n 3, 1), (24, .iadd, 1), (25, .iaload, 1), (26, .iastore, 1), (27, .iinc 3 1, 3), (30, .goto (-23), 3)],
  [(33, .aload_n 0, 1), (34, .getfield 23, 3), (37, .iconst 0, 1), (38, .aload_n 0, 1), (39, .getfield 35, 3), (42, .iload_n 2, 1), (43, .bipush 9, 2), (45, .iadd, 1), (46, .iaload, 1), (47, .iastore, 1)],
  [(48, .aload_n 0, 1), (49, .getfield 23, 3), (52, .iconst 1, 1), (53, .aload_n 0, 1), (54, .getfield 35, 3), (57, .iload_n 2, 1), (58, .bipush 10, 2), (60, .iadd, 1), (61, .iaload, 1), (62, .iastore, 1), (63, .aload_n 0, 1)],
  [(64, .aload_n 0, 1), (65, .getfield 35, 3), (68, .iload_n 2, 1), (69, .bipush 11, 2), (71, .iadd, 1), (72, .iaload, 1), (73, .putfield 100, 3), (76, .return_, 1)]]
def mX6_lays : x_M := (yX6_lays, prog_8_method_14_code, 4, none, kX6_lays, IX6)
set_option maxRecDepth 100000 in
theorem decX6_lays : x_dec mX6_lays := by unfold x_dec; decide +kernel
theorem gX6_lays : x_good mX6_lays := ⟨plX6, decX6_lays, okX6, rfl, x_k4 (List.mem_of_getElem? (i := 40) rfl) rfl, iniX6, mhX6, vhX6⟩
theorem vX6_lays : Cond.instanceMethod yX6_lays ∈ x_tb ∧ Cond.selects RX6 yX6_lays yX6_lays ∈ x_tb := ⟨x_k4 (List.mem_of_getElem? (i := 39) rfl) rfl, x_tb_in (List.mem_of_getElem? (i := 41) rfl) rfl⟩
def kX6_letter : List (List (Nat × Instr × Nat)) := [[(0, .iload_n 1, 1), (1, .ifCond .ge 10, 3), (4, .aload_n 0, 1), (5, .bipush (-4), 2), (7, .invokevirtual 110, 3), (10, .ireturn, 1), (11, .iload_n 1, 1), (12, .sipush 255, 3), (15, .if_icmp .gt 12, 3)],
  [(18, .aload_n 0, 1), (19, .getfield 113, 3), (22, .bipush 96, 2), (24, .if_icmp .ne 10, 3), (27, .aload_n 0, 1), (28, .bipush (-6), 2), (30, .invokevirtual 110, 3)],
  [(33, .ireturn, 1), (34, .aload_n 0, 1), (35, .getfield 29, 3), (38, .aload_n 0, 1), (39, .getfield 113, 3), (42, .iload_n 1, 1), (43, .iastore, 1), (44, .aload_n 0, 1), (45, .dup, 1), (46, .getfield 113, 3)],
  [(49, .iconst 1, 1), (50, .iadd, 1), (51, .putfield 113, 3), (54, .aload_n 0, 1), (55, .getfield 113, 3), (58, .ireturn, 1)]]
def mX6_letter : x_M := (yX6_letter, prog_8_method_15_code, 2, (some .int), kX6_letter, IX6)
set_option maxRecDepth 100000 in
theorem decX6_letter : x_dec mX6_letter := by unfold x_dec; decide +kernel
theorem gX6_letter : x_good mX6_letter := ⟨plX6, decX6_letter, okX6, rfl, x_k3 (List.mem_of_getElem? (i := 195) rfl) rfl, iniX6, mhX6, vhX6⟩
theorem vX6_letter : Cond.instanceMethod yX6_letter ∈ x_tb ∧ Cond.selects RX6 yX6_letter yX6_letter ∈ x_tb := ⟨x_k3 (List.mem_of_getElem? (i := 193) rfl) rfl, x_k3 (List.mem_of_getElem? (i := 194) rfl) rfl⟩
def kX6_letterAt : List (List (Nat × Instr × Nat)) := [[(0, .iload_n 1, 1), (1, .aload_n 0, 1), (2, .getfield 113, 3), (5, .if_icmp .ge 12, 3), (8, .aload_n 0, 1), (9, .getfield 29, 3), (12, .iload_n 1, 1), (13, .iaload, 1), (14, .goto 4, 3)],
  [(17, .iconst (-1), 1), (18, .ireturn, 1)]]
def mX6_letterAt : x_M := (yX6_letterAt, prog_8_method_16_code, 2, (some .int), kX6_letterAt, IX6)
set_option maxRecDepth 100000 in
theorem decX6_letterAt : x_dec mX6_letterAt := by unfold x_dec; decide +kernel
theorem gX6_letterAt : x_good mX6_letterAt := ⟨plX6, decX6_letterAt, okX6, rfl, x_k3 (List.mem_of_getElem? (i := 211) rfl) rfl, iniX6, mhX6, vhX6⟩
theorem vX6_letterAt : Cond.instanceMethod yX6_letterAt ∈ x_tb ∧ Cond.selects RX6 yX6_letterAt yX6_letterAt ∈ x_tb := ⟨x_k3 (List.mem_of_getElem? (i := 210) rfl) rfl, x_tb_in (List.mem_of_getElem? (i := 26) rfl) rfl⟩
def kX6_isDigit : List (List (Nat × Instr × Nat)) := [[(0, .iload_n 0, 1), (1, .bipush 48, 2), (3, .if_icmp .lt 13, 3), (6, .iload_n 0, 1), (7, .bipush 57, 2), (9, .if_icmp .gt 7, 3), (12, .iconst 1, 1), (13, .goto 4, 3)],
  [(16, .iconst 0, 1), (17, .ireturn, 1)]]
def mX6_isDigit : x_M := (yX6_isDigit, prog_8_method_17_code, 1, (some .boolean), kX6_isDigit, IX6)
set_option maxRecDepth 100000 in
theorem decX6_isDigit : x_dec mX6_isDigit := by unfold x_dec; decide +kernel
theorem gX6_isDigit : x_good mX6_isDigit := ⟨plX6, decX6_isDigit, okX6, rfl, x_k3 (List.mem_of_getElem? (i := 221) rfl) rfl, iniX6, mhX6, vhX6⟩
theorem vX6_isDigit : Cond.static yX6_isDigit ∈ x_tb := x_k3 (List.mem_of_getElem? (i := 220) rfl) rfl
def kX6_kindOf : List (List (Nat × Instr × Nat)) := [[(0, .iload_n 0, 1), (1, .bipush 111, 2), (3, .if_icmp .ne 7, 3), (6, .iconst 0, 1), (7, .goto 54, 3), (10, .iload_n 0, 1), (11, .bipush 104, 2), (13, .if_icmp .ne 7, 3)],
  [(16, .iconst 1, 1), (17, .goto 44, 3), (20, .iload_n 0, 1), (21, .bipush 100, 2), (23, .if_icmp .ne 7, 3), (26, .iconst 2, 1), (27, .goto 34, 3), (30, .iload_n 0, 1), (31, .bipush 119, 2)],
  [(33, .if_icmp .ne 7, 3), (36, .iconst 3, 1), (37, .goto 24, 3), (40, .iload_n 0, 1), (41, .bipush 110, 2), (43, .if_icmp .ne 7, 3), (46, .iconst 4, 1), (47, .goto 14, 3)],
  [(50, .iload_n 0, 1), (51, .bipush 113, 2), (53, .if_icmp .ne 7, 3), (56, .iconst 5, 1), (57, .goto 4, 3), (60, .iconst (-1), 1), (61, .ireturn, 1)]]
def mX6_kindOf : x_M := (yX6_kindOf, prog_8_method_18_code, 1, (some .int), kX6_kindOf, IX6)
set_option maxRecDepth 100000 in
theorem decX6_kindOf : x_dec mX6_kindOf := by unfold x_dec; decide +kernel
theorem gX6_kindOf : x_good mX6_kindOf := ⟨plX6, decX6_kindOf, okX6, rfl, x_k3 (List.mem_of_getElem? (i := 214) rfl) rfl, iniX6, mhX6, vhX6⟩
theorem vX6_kindOf : Cond.static yX6_kindOf ∈ x_tb := x_k3 (List.mem_of_getElem? (i := 213) rfl) rfl
def kX6_digitsFrom : List (List (Nat × Instr × Nat)) := [[(0, .iconst 0, 1), (1, .istore_n 3, 1), (2, .iload_n 3, 1), (3, .iload_n 2, 1), (4, .if_icmp .ge 22, 3), (7, .aload_n 0, 1), (8, .iload_n 1, 1), (9, .iload_n 3, 1), (10, .iadd, 1), (11, .invokevirtual 116, 3), (14, .invokestatic 119, 3)],
  [(17, .ifCond .eq 9, 3), (20, .iinc 3 1, 3), (23, .goto (-21), 3), (26, .iload_n 3, 1), (27, .ireturn, 1)]]
def mX6_digitsFrom : x_M := (yX6_digitsFrom, prog_8_method_19_code, 4, (some .int), kX6_digitsFrom, IX6)
set_option maxRecDepth 100000 in
theorem decX6_digitsFrom : x_dec mX6_digitsFrom := by unfold x_dec; decide +kernel
theorem gX6_digitsFrom : x_good mX6_digitsFrom := ⟨plX6, decX6_digitsFrom, okX6, rfl, x_k3 (List.mem_of_getElem? (i := 218) rfl) rfl, iniX6, mhX6, vhX6⟩
theorem vX6_digitsFrom : Cond.instanceMethod yX6_digitsFrom ∈ x_tb ∧ Cond.selects RX6 yX6_digitsFrom yX6_digitsFrom ∈ x_tb := ⟨x_k3 (List.mem_of_getElem? (i := 217) rfl) rfl, x_tb_in (List.mem_of_getElem? (i := 27) rfl) rfl⟩
def kX6_passes : List (List (Nat × Instr × Nat)) := [[(0, .aload_n 0, 1), (1, .iload_n 1, 1), (2, .invokevirtual 116, 3), (5, .istore_n 2, 1), (6, .iload_n 1, 1), (7, .iconst 1, 1), (8, .iadd, 1), (9, .istore_n 3, 1), (10, .iconst 1, 1), (11, .istore 4, 2), (13, .iconst 1, 1), (14, .istore 5, 2)],
  [(16, .iload_n 2, 1), (17, .bipush 98, 2), (19, .if_icmp .ne 33, 3), (22, .aload_n 0, 1), (23, .iload_n 3, 1), (24, .invokevirtual 116, 3), (27, .invokestatic 122, 3), (30, .ifCond .ge 10, 3)],
  [(33, .aload_n 0, 1), (34, .iload_n 3, 1), (35, .putfield 125, 3), (38, .iload_n 3, 1), (39, .ireturn, 1), (40, .iinc 3 1, 3), (43, .iconst 2, 1), (44, .istore 4, 2), (46, .iconst 2, 1), (47, .istore 5, 2)],
  [(49, .goto 56, 3), (52, .iload_n 2, 1), (53, .bipush 99, 2), (55, .if_icmp .ne 12, 3), (58, .iconst 2, 1), (59, .istore 4, 2), (61, .iconst 2, 1), (62, .istore 5, 2)],
  [(64, .goto 41, 3), (67, .iload_n 2, 1), (68, .bipush 115, 2), (70, .if_icmp .ne 10, 3), (73, .bipush 9, 2), (75, .istore 5, 2), (77, .goto 28, 3)],
  [(80, .iload_n 2, 1), (81, .bipush 102, 2), (83, .if_icmp .eq 22, 3), (86, .iload_n 2, 1), (87, .bipush 108, 2), (89, .if_icmp .eq 16, 3), (92, .iload_n 2, 1), (93, .bipush 116, 2), (95, .if_icmp .eq 10, 3)],
  [(98, .aload_n 0, 1), (99, .iload_n 1, 1), (100, .putfield 125, 3), (103, .iload_n 1, 1), (104, .ireturn, 1), (105, .aload_n 0, 1), (106, .iload_n 3, 1), (107, .iload 5, 2), (109, .invokevirtual 128, 3)],
  [(112, .istore 6, 2), (114, .iload_n 3, 1), (115, .iload 6, 2), (117, .iadd, 1), (118, .istore_n 3, 1), (119, .iload 6, 2), (121, .iload 4, 2), (123, .if_icmp .lt 13, 3), (126, .aload_n 0, 1), (127, .iload_n 3, 1)],
  [(128, .invokevirtual 116, 3), (131, .bipush 59, 2), (133, .if_icmp .eq 8, 3), (136, .aload_n 0, 1), (137, .iload_n 3, 1), (138, .putfield 125, 3), (141, .iload_n 3, 1), (142, .iconst 1, 1), (143, .iadd, 1)],
  [(144, .ireturn, 1)]]
def mX6_passes : x_M := (yX6_passes, prog_8_method_20_code, 7, (some .int), kX6_passes, IX6)
set_option maxRecDepth 100000 in
theorem decX6_passes : x_dec mX6_passes := by unfold x_dec; decide +kernel
theorem gX6_passes : x_good mX6_passes := ⟨plX6, decX6_passes, okX6, rfl, x_k3 (List.mem_of_getElem? (i := 207) rfl) rfl, iniX6, mhX6, vhX6⟩
theorem vX6_passes : Cond.instanceMethod yX6_passes ∈ x_tb ∧ Cond.selects RX6 yX6_passes yX6_passes ∈ x_tb := ⟨x_k3 (List.mem_of_getElem? (i := 206) rfl) rfl, x_tb_in (List.mem_of_getElem? (i := 25) rfl) rfl⟩
def kX6_digit : List (List (Nat × Instr × Nat)) := [[(0, .aload_n 0, 1), (1, .getfield 29, 3), (4, .iload_n 1, 1), (5, .iaload, 1), (6, .bipush 48, 2), (8, .isub, 1), (9, .ireturn, 1)]]
def mX6_digit : x_M := (yX6_digit, prog_8_method_21_code, 2, (some .int), kX6_digit, IX6)
set_option maxRecDepth 100000 in
theorem decX6_digit : x_dec mX6_digit := by unfold x_dec; decide +kernel
theorem gX6_digit : x_good mX6_digit := ⟨plX6, decX6_digit, okX6, rfl, x_k3 (List.mem_of_getElem? (i := 233) rfl) rfl, iniX6, mhX6, vhX6⟩
theorem vX6_digit : Cond.instanceMethod yX6_digit ∈ x_tb ∧ Cond.selects RX6 yX6_digit yX6_digit ∈ x_tb := ⟨x_k3 (List.mem_of_getElem? (i := 232) rfl) rfl, x_tb_in (List.mem_of_getElem? (i := 30) rfl) rfl⟩
def kX6_doesSowings : List (List (Nat × Instr × Nat)) := [[(0, .iload_n 1, 1), (1, .iconst 1, 1), (2, .iadd, 1), (3, .istore_n 2, 1), (4, .aload_n 0, 1), (5, .getfield 29, 3), (8, .iload_n 2, 1), (9, .iaload, 1), (10, .bipush 59, 2), (12, .if_icmp .eq 52, 3), (15, .aload_n 0, 1)],
  [(16, .aload_n 0, 1), (17, .iload_n 2, 1), (18, .invokevirtual 132, 3), (21, .invokevirtual 135, 3), (24, .ifCond .eq 13, 3), (27, .aload_n 0, 1), (28, .getfield 138, 3), (31, .sipush 999, 3)],
  [(34, .if_icmp .ne 5, 3), (37, .iconst 0, 1), (38, .ireturn, 1), (39, .aload_n 0, 1), (40, .aload_n 0, 1), (41, .iload_n 2, 1), (42, .invokevirtual 132, 3), (45, .invokevirtual 141, 3)],
  [(48, .aload_n 0, 1), (49, .dup, 1), (50, .getfield 138, 3), (53, .iconst 1, 1), (54, .iadd, 1), (55, .putfield 138, 3), (58, .iinc 2 1, 3), (61, .goto (-57), 3)],
  [(64, .iconst 1, 1), (65, .ireturn, 1)]]
def mX6_doesSowings : x_M := (yX6_doesSowings, prog_8_method_22_code, 3, (some .boolean), kX6_doesSowings, IX6)
set_option maxRecDepth 100000 in
theorem decX6_doesSowings : x_dec mX6_doesSowings := by unfold x_dec; decide +kernel
theorem gX6_doesSowings : x_good mX6_doesSowings := ⟨plX6, decX6_doesSowings, okX6, rfl, x_k3 (List.mem_of_getElem? (i := 237) rfl) rfl, iniX6, mhX6, vhX6⟩
theorem vX6_doesSowings : Cond.instanceMethod yX6_doesSowings ∈ x_tb ∧ Cond.selects RX6 yX6_doesSowings yX6_doesSowings ∈ x_tb := ⟨x_k3 (List.mem_of_getElem? (i := 236) rfl) rfl, x_tb_in (List.mem_of_getElem? (i := 31) rfl) rfl⟩
def kX6_does : List (List (Nat × Instr × Nat)) := [[(0, .aload_n 0, 1), (1, .getfield 29, 3), (4, .iload_n 1, 1), (5, .iaload, 1), (6, .istore_n 2, 1), (7, .aload_n 0, 1), (8, .iload_n 1, 1), (9, .iconst 1, 1), (10, .iadd, 1), (11, .invokevirtual 132, 3), (14, .istore_n 3, 1), (15, .iload_n 2, 1)],
  [(16, .bipush 98, 2), (18, .if_icmp .ne 84, 3), (21, .bipush 10, 2), (23, .aload_n 0, 1), (24, .iload_n 1, 1), (25, .iconst 2, 1), (26, .iadd, 1), (27, .invokevirtual 132, 3), (30, .imul, 1), (31, .aload_n 0, 1)],
  [(32, .iload_n 1, 1), (33, .iconst 3, 1), (34, .iadd, 1), (35, .invokevirtual 132, 3), (38, .iadd, 1), (39, .istore 4, 2), (41, .iload 4, 2), (43, .bipush 20, 2), (45, .if_icmp .gt 12, 3)],
  [(48, .aload_n 0, 1), (49, .getfield 60, 3), (52, .bipush 9, 2), (54, .if_icmp .ne 5, 3), (57, .iconst 0, 1), (58, .ireturn, 1), (59, .aload_n 0, 1), (60, .getfield 13, 3), (63, .aload_n 0, 1)],
  [(64, .getfield 60, 3), (67, .aload_n 0, 1), (68, .getfield 29, 3), (71, .iload_n 1, 1), (72, .iconst 1, 1), (73, .iadd, 1), (74, .iaload, 1), (75, .invokestatic 122, 3), (78, .iastore, 1), (79, .aload_n 0, 1)],
  [(80, .getfield 17, 3), (83, .aload_n 0, 1), (84, .getfield 60, 3), (87, .iload 4, 2), (89, .iastore, 1), (90, .aload_n 0, 1), (91, .dup, 1), (92, .getfield 60, 3), (95, .iconst 1, 1)],
  [(96, .iadd, 1), (97, .putfield 60, 3), (100, .iconst 1, 1), (101, .ireturn, 1), (102, .iload_n 2, 1), (103, .bipush 115, 2), (105, .if_icmp .ne 9, 3), (108, .aload_n 0, 1), (109, .iload_n 1, 1), (110, .invokevirtual 144, 3)],
  [(113, .ireturn, 1), (114, .iload_n 2, 1), (115, .bipush 99, 2), (117, .if_icmp .ne 46, 3), (120, .aload_n 0, 1), (121, .iload_n 1, 1), (122, .iconst 2, 1), (123, .iadd, 1), (124, .invokevirtual 132, 3), (127, .istore 4, 2)],
  [(129, .aload_n 0, 1), (130, .iload_n 3, 1), (131, .invokevirtual 103, 3), (134, .ifCond .eq 18, 3), (137, .aload_n 0, 1), (138, .iload 4, 2), (140, .invokevirtual 103, 3), (143, .ifCond .eq 9, 3)],
  [(146, .iload_n 3, 1), (147, .iload 4, 2), (149, .if_icmp .ne 5, 3), (152, .iconst 0, 1), (153, .ireturn, 1), (154, .aload_n 0, 1), (155, .iload_n 3, 1), (156, .iload 4, 2), (158, .invokevirtual 147, 3)],
  [(161, .iconst 1, 1), (162, .ireturn, 1), (163, .iload_n 2, 1), (164, .bipush 102, 2), (166, .if_icmp .ne 10, 3), (169, .iload_n 3, 1), (170, .ifCond .ne 13, 3), (173, .goto 8, 3)],
  [(176, .iload_n 3, 1), (177, .iconst 1, 1), (178, .if_icmp .le 5, 3), (181, .iconst 0, 1), (182, .ireturn, 1), (183, .iload_n 2, 1), (184, .bipush 102, 2), (186, .if_icmp .ne 11, 3), (189, .aload_n 0, 1), (190, .iload_n 3, 1), (191, .putfield 20, 3)],
  [(194, .goto 22, 3), (197, .iload_n 2, 1), (198, .bipush 108, 2), (200, .if_icmp .ne 11, 3), (203, .aload_n 0, 1), (204, .iload_n 3, 1), (205, .putfield 67, 3)],
  [(208, .goto 8, 3), (211, .aload_n 0, 1), (212, .iload_n 3, 1), (213, .putfield 100, 3), (216, .iconst 1, 1), (217, .ireturn, 1)]]
def mX6_does : x_M := (yX6_does, prog_8_method_23_code, 5, (some .boolean), kX6_does, IX6)
set_option maxRecDepth 100000 in
theorem decX6_does : x_dec mX6_does := by unfold x_dec; decide +kernel
theorem gX6_does : x_good mX6_does := ⟨plX6, decX6_does, okX6, rfl, x_k3 (List.mem_of_getElem? (i := 229) rfl) rfl, iniX6, mhX6, vhX6⟩
theorem vX6_does : Cond.instanceMethod yX6_does ∈ x_tb ∧ Cond.selects RX6 yX6_does yX6_does ∈ x_tb := ⟨x_k3 (List.mem_of_getElem? (i := 228) rfl) rfl, x_tb_in (List.mem_of_getElem? (i := 29) rfl) rfl⟩
def kX6_exchanges : List (List (Nat × Instr × Nat)) := [[(0, .aload_n 0, 1), (1, .getfield 17, 3), (4, .iload_n 1, 1), (5, .iaload, 1), (6, .istore_n 3, 1), (7, .aload_n 0, 1), (8, .getfield 17, 3), (11, .iload_n 1, 1), (12, .aload_n 0, 1), (13, .getfield 17, 3)],
  [(16, .iload_n 2, 1), (17, .iaload, 1), (18, .iastore, 1), (19, .aload_n 0, 1), (20, .getfield 17, 3), (23, .iload_n 2, 1), (24, .iload_n 3, 1), (25, .iastore, 1), (26, .return_, 1)]]
def mX6_exchanges : x_M := (yX6_exchanges, prog_8_method_24_code, 4, none, kX6_exchanges, IX6)
set_option maxRecDepth 100000 in
theorem decX6_exchanges : x_dec mX6_exchanges := by unfold x_dec; decide +kernel
theorem gX6_exchanges : x_good mX6_exchanges := ⟨plX6, decX6_exchanges, okX6, rfl, x_k4 (List.mem_of_getElem? (i := 36) rfl) rfl, iniX6, mhX6, vhX6⟩
theorem vX6_exchanges : Cond.instanceMethod yX6_exchanges ∈ x_tb ∧ Cond.selects RX6 yX6_exchanges yX6_exchanges ∈ x_tb := ⟨x_k4 (List.mem_of_getElem? (i := 35) rfl) rfl, x_tb_in (List.mem_of_getElem? (i := 40) rfl) rfl⟩
def kX6_game : List (List (Nat × Instr × Nat)) := [[(0, .aload_n 0, 1), (1, .iconst (-1), 1), (2, .putfield 125, 3), (5, .iconst 0, 1), (6, .istore_n 1, 1), (7, .iconst 0, 1), (8, .istore_n 2, 1), (9, .aload_n 0, 1), (10, .getfield 125, 3), (13, .ifCond .ge 27, 3)],
  [(16, .iload_n 1, 1), (17, .aload_n 0, 1), (18, .getfield 113, 3), (21, .if_icmp .lt 7, 3), (24, .iload_n 2, 1), (25, .ifCond .ne 15, 3), (28, .aload_n 0, 1), (29, .iload_n 1, 1), (30, .invokevirtual 151, 3)],
  [(33, .istore_n 1, 1), (34, .iinc 2 1, 3), (37, .goto (-28), 3), (40, .aload_n 0, 1), (41, .getfield 125, 3), (44, .ifCond .lt 17, 3), (47, .aload_n 0, 1)],
  [(48, .iconst 0, 1), (49, .putfield 113, 3), (52, .sipush (-1000), 3), (55, .aload_n 0, 1), (56, .getfield 125, 3), (59, .isub, 1), (60, .ireturn, 1), (61, .aload_n 0, 1), (62, .bipush 7, 2)],
  [(64, .invokevirtual 154, 3), (67, .iconst 0, 1), (68, .istore_n 3, 1), (69, .iload_n 3, 1), (70, .bipush 9, 2), (72, .if_icmp .ge 21, 3), (75, .aload_n 0, 1), (76, .getfield 38, 3), (79, .iload_n 3, 1)],
  [(80, .aload_n 0, 1), (81, .getfield 13, 3), (84, .iload_n 3, 1), (85, .iaload, 1), (86, .iastore, 1), (87, .iinc 3 1, 3), (90, .goto (-21), 3), (93, .aload_n 0, 1), (94, .getfield 60, 3)],
  [(97, .istore_n 3, 1), (98, .aload_n 0, 1), (99, .getfield 20, 3), (102, .istore 4, 2), (104, .aload_n 0, 1), (105, .getfield 67, 3), (108, .istore 5, 2), (110, .aload_n 0, 1), (111, .getfield 138, 3)],
  [(114, .istore 6, 2), (116, .iconst 0, 1), (117, .istore 7, 2), (119, .iconst 0, 1), (120, .istore_n 1, 1), (121, .iload 7, 2), (123, .ifCond .ne 35, 3), (126, .iload_n 1, 1), (127, .aload_n 0, 1)],
  [(128, .getfield 113, 3), (131, .if_icmp .ge 27, 3), (134, .aload_n 0, 1), (135, .iload_n 1, 1), (136, .invokevirtual 157, 3), (139, .ifCond .ne 10, 3), (142, .sipush (-2000), 3)],
  [(145, .iload_n 1, 1), (146, .isub, 1), (147, .istore 7, 2), (149, .aload_n 0, 1), (150, .iload_n 1, 1), (151, .invokevirtual 151, 3), (154, .istore_n 1, 1), (155, .goto (-34), 3), (158, .aload_n 0, 1), (159, .iconst 0, 1)],
  [(160, .putfield 113, 3), (163, .iload 7, 2), (165, .ifCond .ne 5, 3), (168, .iload_n 2, 1), (169, .ireturn, 1), (170, .aload_n 0, 1), (171, .bipush 7, 2), (173, .invokevirtual 160, 3)],
  [(176, .iconst 0, 1), (177, .istore 8, 2), (179, .iload 8, 2), (181, .bipush 9, 2), (183, .if_icmp .ge 23, 3), (186, .aload_n 0, 1), (187, .getfield 13, 3), (190, .iload 8, 2)],
  [(192, .aload_n 0, 1), (193, .getfield 38, 3), (196, .iload 8, 2), (198, .iaload, 1), (199, .iastore, 1), (200, .iinc 8 1, 3), (203, .goto (-24), 3), (206, .aload_n 0, 1), (207, .iload_n 3, 1)],
  [(208, .putfield 60, 3), (211, .aload_n 0, 1), (212, .iload 4, 2), (214, .putfield 20, 3), (217, .aload_n 0, 1), (218, .iload 5, 2), (220, .putfield 67, 3), (223, .aload_n 0, 1)],
  [(224, .iload 6, 2), (226, .putfield 138, 3), (229, .iload 7, 2), (231, .ireturn, 1)]]
def mX6_game : x_M := (yX6_game, prog_8_method_25_code, 9, (some .int), kX6_game, IX6)
set_option maxRecDepth 100000 in
theorem decX6_game : x_dec mX6_game := by unfold x_dec; decide +kernel
theorem gX6_game : x_good mX6_game := ⟨plX6, decX6_game, okX6, rfl, x_k3 (List.mem_of_getElem? (i := 203) rfl) rfl, iniX6, mhX6, vhX6⟩
theorem vX6_game : Cond.instanceMethod yX6_game ∈ x_tb ∧ Cond.selects RX6 yX6_game yX6_game ∈ x_tb := ⟨x_k3 (List.mem_of_getElem? (i := 201) rfl) rfl, x_k3 (List.mem_of_getElem? (i := 202) rfl) rfl⟩
def kX6_bowl : List (List (Nat × Instr × Nat)) := [[(0, .aload_n 0, 1), (1, .iload_n 1, 1), (2, .invokevirtual 103, 3), (5, .ifCond .ne 9, 3), (8, .aload_n 0, 1), (9, .iconst (-1), 1), (10, .invokevirtual 110, 3), (13, .ireturn, 1), (14, .iload_n 2, 1), (15, .i2l, 1)],
  [(16, .lconst 0, 1), (17, .ldc2_w 163, 3), (20, .invokestatic 63, 3), (23, .ifCond .ne 10, 3), (26, .aload_n 0, 1), (27, .bipush (-2), 2), (29, .invokevirtual 110, 3)],
  [(32, .ireturn, 1), (33, .aload_n 0, 1), (34, .aload_n 0, 1), (35, .getfield 13, 3), (38, .iload_n 1, 1), (39, .iaload, 1), (40, .invokevirtual 93, 3), (43, .istore_n 3, 1), (44, .iload_n 2, 1), (45, .ifCond .ne 12, 3)],
  [(48, .aload_n 0, 1), (49, .getfield 13, 3), (52, .iload_n 1, 1), (53, .iaload, 1), (54, .goto 51, 3), (57, .iload_n 2, 1), (58, .iconst 1, 1), (59, .if_icmp .ne 12, 3), (62, .aload_n 0, 1), (63, .getfield 17, 3)],
  [(66, .iload_n 1, 1), (67, .iaload, 1), (68, .goto 37, 3), (71, .iload_n 2, 1), (72, .iconst 2, 1), (73, .if_icmp .ne 19, 3), (76, .iload_n 3, 1), (77, .sipush 1000, 3)],
  [(80, .if_icmp .ne 8, 3), (83, .bipush (-9), 2), (85, .goto 20, 3), (88, .iload_n 3, 1), (89, .goto 16, 3), (92, .aload_n 0, 1), (93, .iload_n 1, 1), (94, .invokevirtual 74, 3)],
  [(97, .ifCond .eq 7, 3), (100, .iconst 1, 1), (101, .goto 4, 3), (104, .iconst 0, 1), (105, .ireturn, 1)]]
def mX6_bowl : x_M := (yX6_bowl, prog_8_method_26_code, 4, (some .int), kX6_bowl, IX6)
set_option maxRecDepth 100000 in
theorem decX6_bowl : x_dec mX6_bowl := by unfold x_dec; decide +kernel
theorem gX6_bowl : x_good mX6_bowl := ⟨plX6, decX6_bowl, okX6, rfl, x_k4 (List.mem_of_getElem? (i := 44) rfl) rfl, iniX6, mhX6, vhX6⟩
theorem vX6_bowl : Cond.instanceMethod yX6_bowl ∈ x_tb ∧ Cond.selects RX6 yX6_bowl yX6_bowl ∈ x_tb := ⟨x_k4 (List.mem_of_getElem? (i := 42) rfl) rfl, x_k4 (List.mem_of_getElem? (i := 43) rfl) rfl⟩
def kX6_put : List (List (Nat × Instr × Nat)) := [[(0, .aload_n 0, 1), (1, .iload_n 1, 1), (2, .invokevirtual 103, 3), (5, .ifCond .ne 9, 3), (8, .aload_n 0, 1), (9, .iconst (-1), 1), (10, .invokevirtual 110, 3), (13, .ireturn, 1), (14, .iload_n 2, 1), (15, .ifCond .ge 10, 3)],
  [(18, .aload_n 0, 1), (19, .bipush (-4), 2), (21, .invokevirtual 110, 3), (24, .ireturn, 1), (25, .iload_n 2, 1), (26, .bipush 20, 2), (28, .if_icmp .le 10, 3), (31, .aload_n 0, 1)],
  [(32, .bipush (-6), 2), (34, .invokevirtual 110, 3), (37, .ireturn, 1), (38, .aload_n 0, 1), (39, .getfield 17, 3), (42, .iload_n 1, 1), (43, .iaload, 1), (44, .istore_n 3, 1), (45, .aload_n 0, 1), (46, .getfield 17, 3)],
  [(49, .iload_n 1, 1), (50, .iload_n 2, 1), (51, .iastore, 1), (52, .iload_n 3, 1), (53, .ireturn, 1)]]
def mX6_put : x_M := (yX6_put, prog_8_method_27_code, 4, (some .int), kX6_put, IX6)
set_option maxRecDepth 100000 in
theorem decX6_put : x_dec mX6_put := by unfold x_dec; decide +kernel
theorem gX6_put : x_good mX6_put := ⟨plX6, decX6_put, okX6, rfl, x_k4 (List.mem_of_getElem? (i := 49) rfl) rfl, iniX6, mhX6, vhX6⟩
theorem vX6_put : Cond.instanceMethod yX6_put ∈ x_tb ∧ Cond.selects RX6 yX6_put yX6_put ∈ x_tb := ⟨x_k4 (List.mem_of_getElem? (i := 47) rfl) rfl, x_k4 (List.mem_of_getElem? (i := 48) rfl) rfl⟩
def kX6_set : List (List (Nat × Instr × Nat)) := [[(0, .iload_n 1, 1), (1, .i2l, 1), (2, .lconst 0, 1), (3, .ldc2_w 165, 3), (6, .invokestatic 63, 3), (9, .ifCond .ne 10, 3), (12, .aload_n 0, 1), (13, .bipush (-2), 2), (15, .invokevirtual 110, 3)],
  [(18, .ireturn, 1), (19, .iload_n 2, 1), (20, .iload_n 1, 1), (21, .ifCond .ne 7, 3), (24, .iconst 1, 1), (25, .goto 4, 3), (28, .iconst 0, 1), (29, .if_icmp .ge 10, 3)],
  [(32, .aload_n 0, 1), (33, .bipush (-4), 2), (35, .invokevirtual 110, 3), (38, .ireturn, 1), (39, .iload_n 2, 1), (40, .iload_n 1, 1), (41, .ifCond .ne 8, 3), (44, .bipush 9, 2), (46, .goto 4, 3)],
  [(49, .iconst 1, 1), (50, .if_icmp .le 10, 3), (53, .aload_n 0, 1), (54, .bipush (-6), 2), (56, .invokevirtual 110, 3), (59, .ireturn, 1), (60, .iload_n 1, 1), (61, .ifCond .ne 10, 3)],
  [(64, .aload_n 0, 1), (65, .getfield 20, 3), (68, .goto 19, 3), (71, .iload_n 1, 1), (72, .iconst 1, 1), (73, .if_icmp .ne 10, 3), (76, .aload_n 0, 1), (77, .getfield 67, 3)],
  [(80, .goto 7, 3), (83, .aload_n 0, 1), (84, .getfield 100, 3), (87, .istore_n 3, 1), (88, .iload_n 1, 1), (89, .ifCond .ne 11, 3), (92, .aload_n 0, 1), (93, .iload_n 2, 1), (94, .putfield 20, 3)],
  [(97, .goto 21, 3), (100, .iload_n 1, 1), (101, .iconst 1, 1), (102, .if_icmp .ne 11, 3), (105, .aload_n 0, 1), (106, .iload_n 2, 1), (107, .putfield 67, 3), (110, .goto 8, 3)],
  [(113, .aload_n 0, 1), (114, .iload_n 2, 1), (115, .putfield 100, 3), (118, .iload_n 3, 1), (119, .ireturn, 1)]]
def mX6_set : x_M := (yX6_set, prog_8_method_28_code, 4, (some .int), kX6_set, IX6)
set_option maxRecDepth 100000 in
theorem decX6_set : x_dec mX6_set := by unfold x_dec; decide +kernel
theorem gX6_set : x_good mX6_set := ⟨plX6, decX6_set, okX6, rfl, x_k4 (List.mem_of_getElem? (i := 53) rfl) rfl, iniX6, mhX6, vhX6⟩
theorem vX6_set : Cond.instanceMethod yX6_set ∈ x_tb ∧ Cond.selects RX6 yX6_set yX6_set ∈ x_tb := ⟨x_k4 (List.mem_of_getElem? (i := 51) rfl) rfl, x_k4 (List.mem_of_getElem? (i := 52) rfl) rfl⟩
def kX6_move : List (List (Nat × Instr × Nat)) := [[(0, .aload_n 0, 1), (1, .iload_n 1, 1), (2, .invokevirtual 103, 3), (5, .ifCond .ne 9, 3), (8, .aload_n 0, 1), (9, .iconst (-1), 1), (10, .invokevirtual 110, 3), (13, .ireturn, 1), (14, .aload_n 0, 1), (15, .iload_n 1, 1)],
  [(16, .invokevirtual 135, 3), (19, .ifCond .ne 10, 3), (22, .aload_n 0, 1), (23, .bipush (-3), 2), (25, .invokevirtual 110, 3), (28, .ireturn, 1), (29, .aload_n 0, 1), (30, .getfield 138, 3)],
  [(33, .sipush 999, 3), (36, .if_icmp .ne 10, 3), (39, .aload_n 0, 1), (40, .bipush (-6), 2), (42, .invokevirtual 110, 3), (45, .ireturn, 1), (46, .aload_n 0, 1), (47, .iload_n 1, 1)],
  [(48, .invokevirtual 141, 3), (51, .aload_n 0, 1), (52, .dup, 1), (53, .getfield 138, 3), (56, .iconst 1, 1), (57, .iadd, 1), (58, .putfield 138, 3), (61, .aload_n 0, 1), (62, .getfield 87, 3)],
  [(65, .ireturn, 1)]]
def mX6_move : x_M := (yX6_move, prog_8_method_29_code, 2, (some .int), kX6_move, IX6)
set_option maxRecDepth 100000 in
theorem decX6_move : x_dec mX6_move := by unfold x_dec; decide +kernel
theorem gX6_move : x_good mX6_move := ⟨plX6, decX6_move, okX6, rfl, x_k4 (List.mem_of_getElem? (i := 58) rfl) rfl, iniX6, mhX6, vhX6⟩
theorem vX6_move : Cond.instanceMethod yX6_move ∈ x_tb ∧ Cond.selects RX6 yX6_move yX6_move ∈ x_tb := ⟨x_k4 (List.mem_of_getElem? (i := 56) rfl) rfl, x_k4 (List.mem_of_getElem? (i := 57) rfl) rfl⟩
def kX6_all : List (List (Nat × Instr × Nat)) := [[(0, .iconst 0, 1), (1, .istore_n 1, 1), (2, .iconst 0, 1), (3, .istore_n 2, 1), (4, .iload_n 2, 1), (5, .aload_n 0, 1), (6, .getfield 60, 3), (9, .if_icmp .ge 18, 3), (12, .iload_n 1, 1), (13, .aload_n 0, 1), (14, .getfield 17, 3)],
  [(17, .iload_n 2, 1), (18, .iaload, 1), (19, .iadd, 1), (20, .istore_n 1, 1), (21, .iinc 2 1, 3), (24, .goto (-20), 3), (27, .iload_n 1, 1), (28, .ireturn, 1)]]
def mX6_all : x_M := (yX6_all, prog_8_method_30_code, 3, (some .int), kX6_all, IX6)
set_option maxRecDepth 100000 in
theorem decX6_all : x_dec mX6_all := by unfold x_dec; decide +kernel
theorem gX6_all : x_good mX6_all := ⟨plX6, decX6_all, okX6, rfl, x_k4 (List.mem_of_getElem? (i := 67) rfl) rfl, iniX6, mhX6, vhX6⟩
theorem vX6_all : Cond.instanceMethod yX6_all ∈ x_tb ∧ Cond.selects RX6 yX6_all yX6_all ∈ x_tb := ⟨x_k4 (List.mem_of_getElem? (i := 66) rfl) rfl, x_tb_in (List.mem_of_getElem? (i := 42) rfl) rfl⟩
def kX6_by : List (List (Nat × Instr × Nat)) := [[(0, .aload_n 0, 1), (1, .iload_n 1, 1), (2, .invokevirtual 103, 3), (5, .ifCond .ne 9, 3), (8, .aload_n 0, 1), (9, .iconst (-1), 1), (10, .invokevirtual 110, 3), (13, .ireturn, 1), (14, .iload_n 2, 1), (15, .i2l, 1)],
  [(16, .lconst 0, 1), (17, .ldc2_w 167, 3), (20, .invokestatic 63, 3), (23, .ifCond .ne 10, 3), (26, .aload_n 0, 1), (27, .bipush (-2), 2), (29, .invokevirtual 110, 3)],
  [(32, .ireturn, 1), (33, .aload_n 0, 1), (34, .iload_n 1, 1), (35, .invokevirtual 135, 3), (38, .ifCond .ne 10, 3), (41, .aload_n 0, 1), (42, .bipush (-3), 2), (44, .invokevirtual 110, 3), (47, .ireturn, 1)],
  [(48, .aload_n 0, 1), (49, .iconst 0, 1), (50, .invokevirtual 154, 3), (53, .aload_n 0, 1), (54, .iload_n 1, 1), (55, .invokevirtual 141, 3), (58, .aload_n 0, 1), (59, .invokevirtual 169, 3), (62, .istore_n 3, 1), (63, .aload_n 0, 1)],
  [(64, .iconst 0, 1), (65, .invokevirtual 160, 3), (68, .iload_n 2, 1), (69, .ifCond .ne 10, 3), (72, .aload_n 0, 1), (73, .getfield 81, 3), (76, .goto 40, 3), (79, .iload_n 2, 1)],
  [(80, .iconst 1, 1), (81, .if_icmp .ne 10, 3), (84, .aload_n 0, 1), (85, .getfield 78, 3), (88, .goto 28, 3), (91, .iload_n 2, 1), (92, .iconst 2, 1), (93, .if_icmp .ne 10, 3)],
  [(96, .aload_n 0, 1), (97, .getfield 84, 3), (100, .goto 16, 3), (103, .iload_n 2, 1), (104, .iconst 3, 1), (105, .if_icmp .ne 10, 3), (108, .aload_n 0, 1), (109, .getfield 87, 3)],
  [(112, .goto 4, 3), (115, .iload_n 3, 1), (116, .ireturn, 1)]]
def mX6_by : x_M := (yX6_by, prog_8_method_31_code, 4, (some .int), kX6_by, IX6)
set_option maxRecDepth 100000 in
theorem decX6_by : x_dec mX6_by := by unfold x_dec; decide +kernel
theorem gX6_by : x_good mX6_by := ⟨plX6, decX6_by, okX6, rfl, x_k4 (List.mem_of_getElem? (i := 62) rfl) rfl, iniX6, mhX6, vhX6⟩
theorem vX6_by : Cond.instanceMethod yX6_by ∈ x_tb ∧ Cond.selects RX6 yX6_by yX6_by ∈ x_tb := ⟨x_k4 (List.mem_of_getElem? (i := 60) rfl) rfl, x_k4 (List.mem_of_getElem? (i := 61) rfl) rfl⟩
def kX6_behind : List (List (Nat × Instr × Nat)) := [[(0, .aload_n 0, 1), (1, .iload_n 1, 1), (2, .invokevirtual 103, 3), (5, .ifCond .eq 11, 3), (8, .aload_n 0, 1), (9, .iload_n 2, 1), (10, .invokevirtual 103, 3), (13, .ifCond .ne 9, 3)],
  [(16, .aload_n 0, 1), (17, .iconst (-1), 1), (18, .invokevirtual 110, 3), (21, .ireturn, 1), (22, .aload_n 0, 1), (23, .iload_n 1, 1), (24, .invokevirtual 135, 3), (27, .ifCond .ne 10, 3), (30, .aload_n 0, 1), (31, .bipush (-3), 2)],
  [(33, .invokevirtual 110, 3), (36, .ireturn, 1), (37, .aload_n 0, 1), (38, .iconst 0, 1), (39, .invokevirtual 154, 3), (42, .aload_n 0, 1), (43, .iload_n 1, 1), (44, .invokevirtual 141, 3), (47, .aload_n 0, 1)],
  [(48, .getfield 17, 3), (51, .iload_n 2, 1), (52, .iaload, 1), (53, .istore_n 3, 1), (54, .aload_n 0, 1), (55, .iconst 0, 1), (56, .invokevirtual 160, 3), (59, .iload_n 3, 1), (60, .ireturn, 1)]]
def mX6_behind : x_M := (yX6_behind, prog_8_method_32_code, 4, (some .int), kX6_behind, IX6)
set_option maxRecDepth 100000 in
theorem decX6_behind : x_dec mX6_behind := by unfold x_dec; decide +kernel
theorem gX6_behind : x_good mX6_behind := ⟨plX6, decX6_behind, okX6, rfl, x_k4 (List.mem_of_getElem? (i := 71) rfl) rfl, iniX6, mhX6, vhX6⟩
theorem vX6_behind : Cond.instanceMethod yX6_behind ∈ x_tb ∧ Cond.selects RX6 yX6_behind yX6_behind ∈ x_tb := ⟨x_k4 (List.mem_of_getElem? (i := 69) rfl) rfl, x_k4 (List.mem_of_getElem? (i := 70) rfl) rfl⟩
def kX6_empties : List (List (Nat × Instr × Nat)) := [[(0, .aload_n 0, 1), (1, .iload_n 1, 1), (2, .invokevirtual 103, 3), (5, .ifCond .ne 9, 3), (8, .aload_n 0, 1), (9, .iconst (-1), 1), (10, .invokevirtual 110, 3), (13, .ireturn, 1), (14, .aload_n 0, 1), (15, .iload_n 1, 1)],
  [(16, .invokevirtual 135, 3), (19, .ifCond .ne 10, 3), (22, .aload_n 0, 1), (23, .bipush (-3), 2), (25, .invokevirtual 110, 3), (28, .ireturn, 1), (29, .aload_n 0, 1), (30, .iconst 0, 1), (31, .invokevirtual 154, 3)],
  [(34, .aload_n 0, 1), (35, .iload_n 1, 1), (36, .invokevirtual 141, 3), (39, .iconst 0, 1), (40, .istore_n 2, 1), (41, .iconst 0, 1), (42, .istore_n 3, 1), (43, .iload_n 3, 1), (44, .aload_n 0, 1), (45, .getfield 60, 3)],
  [(48, .if_icmp .ge 28, 3), (51, .iload_n 2, 1), (52, .aload_n 0, 1), (53, .getfield 17, 3), (56, .iload_n 3, 1), (57, .iaload, 1), (58, .ifCond .ne 7, 3), (61, .iconst 1, 1), (62, .goto 4, 3)],
  [(65, .iconst 0, 1), (66, .iload_n 3, 1), (67, .ishl, 1), (68, .ior, 1), (69, .istore_n 2, 1), (70, .iinc 3 1, 3), (73, .goto (-30), 3), (76, .aload_n 0, 1), (77, .iconst 0, 1), (78, .invokevirtual 160, 3)],
  [(81, .iload_n 2, 1), (82, .ireturn, 1)]]
def mX6_empties : x_M := (yX6_empties, prog_8_method_33_code, 4, (some .int), kX6_empties, IX6)
set_option maxRecDepth 100000 in
theorem decX6_empties : x_dec mX6_empties := by unfold x_dec; decide +kernel
theorem gX6_empties : x_good mX6_empties := ⟨plX6, decX6_empties, okX6, rfl, x_k4 (List.mem_of_getElem? (i := 75) rfl) rfl, iniX6, mhX6, vhX6⟩
theorem vX6_empties : Cond.instanceMethod yX6_empties ∈ x_tb ∧ Cond.selects RX6 yX6_empties yX6_empties ∈ x_tb := ⟨x_k4 (List.mem_of_getElem? (i := 73) rfl) rfl, x_k4 (List.mem_of_getElem? (i := 74) rfl) rfl⟩
def kX6_longest : List (List (Nat × Instr × Nat)) := [[(0, .bipush (-9), 2), (2, .istore_n 1, 1), (3, .iconst 0, 1), (4, .istore_n 2, 1), (5, .aload_n 0, 1), (6, .iconst 0, 1), (7, .invokevirtual 154, 3), (10, .iconst 0, 1), (11, .istore_n 3, 1), (12, .iload_n 3, 1), (13, .aload_n 0, 1), (14, .getfield 60, 3)],
  [(17, .if_icmp .ge 48, 3), (20, .aload_n 0, 1), (21, .iload_n 3, 1), (22, .invokevirtual 135, 3), (25, .ifCond .eq 34, 3), (28, .aload_n 0, 1), (29, .iload_n 3, 1), (30, .invokevirtual 141, 3)],
  [(33, .aload_n 0, 1), (34, .iconst 0, 1), (35, .invokevirtual 160, 3), (38, .iload_n 1, 1), (39, .bipush (-9), 2), (41, .if_icmp .eq 11, 3), (44, .aload_n 0, 1), (45, .getfield 84, 3)],
  [(48, .iload_n 2, 1), (49, .if_icmp .le 10, 3), (52, .iload_n 3, 1), (53, .istore_n 1, 1), (54, .aload_n 0, 1), (55, .getfield 84, 3), (58, .istore_n 2, 1), (59, .iinc 3 1, 3), (62, .goto (-50), 3)],
  [(65, .iload_n 1, 1), (66, .ireturn, 1)]]
def mX6_longest : x_M := (yX6_longest, prog_8_method_34_code, 4, (some .int), kX6_longest, IX6)
set_option maxRecDepth 100000 in
theorem decX6_longest : x_dec mX6_longest := by unfold x_dec; decide +kernel
theorem gX6_longest : x_good mX6_longest := ⟨plX6, decX6_longest, okX6, rfl, x_k4 (List.mem_of_getElem? (i := 79) rfl) rfl, iniX6, mhX6, vhX6⟩
theorem vX6_longest : Cond.instanceMethod yX6_longest ∈ x_tb ∧ Cond.selects RX6 yX6_longest yX6_longest ∈ x_tb := ⟨x_k4 (List.mem_of_getElem? (i := 77) rfl) rfl, x_k4 (List.mem_of_getElem? (i := 78) rfl) rfl⟩
def kX6_seeks : List (List (Nat × Instr × Nat)) := [[(0, .bipush (-9), 2), (2, .istore_n 3, 1), (3, .aload_n 0, 1), (4, .getfield 23, 3), (7, .aload_n 0, 1), (8, .getfield 100, 3), (11, .iaload, 1), (12, .aload_n 0, 1), (13, .getfield 23, 3)],
  [(16, .iconst 1, 1), (17, .aload_n 0, 1), (18, .getfield 100, 3), (21, .isub, 1), (22, .iaload, 1), (23, .isub, 1), (24, .istore 4, 2), (26, .iload_n 1, 1), (27, .ifCond .le 79, 3), (30, .aload_n 0, 1), (31, .iload_n 2, 1)],
  [(32, .invokevirtual 154, 3), (35, .iconst 0, 1), (36, .istore 5, 2), (38, .iload 5, 2), (40, .aload_n 0, 1), (41, .getfield 60, 3), (44, .if_icmp .ge 62, 3), (47, .aload_n 0, 1)],
  [(48, .iload 5, 2), (50, .invokevirtual 135, 3), (53, .ifCond .eq 47, 3), (56, .aload_n 0, 1), (57, .iload 5, 2), (59, .invokevirtual 141, 3), (62, .aload_n 0, 1), (63, .iload_n 1, 1)],
  [(64, .iconst 1, 1), (65, .isub, 1), (66, .iload_n 2, 1), (67, .iconst 1, 1), (68, .iadd, 1), (69, .invokevirtual 173, 3), (72, .ineg, 1), (73, .istore 6, 2), (75, .aload_n 0, 1), (76, .iload_n 2, 1), (77, .invokevirtual 160, 3)],
  [(80, .iload_n 3, 1), (81, .bipush (-9), 2), (83, .if_icmp .eq 10, 3), (86, .iload 6, 2), (88, .iload 4, 2), (90, .if_icmp .le 10, 3), (93, .iload 5, 2), (95, .istore_n 3, 1)],
  [(96, .iload 6, 2), (98, .istore 4, 2), (100, .iinc 5 1, 3), (103, .goto (-65), 3), (106, .aload_n 0, 1), (107, .iload_n 3, 1), (108, .putfield 176, 3), (111, .iload 4, 2)],
  [(113, .ireturn, 1)]]
def mX6_seeks : x_M := (yX6_seeks, prog_8_method_35_code, 7, (some .int), kX6_seeks, IX6)
set_option maxRecDepth 100000 in
theorem decX6_seeks : x_dec mX6_seeks := by unfold x_dec; decide +kernel
theorem gX6_seeks : x_good mX6_seeks := ⟨plX6, decX6_seeks, okX6, rfl, x_k4 (List.mem_of_getElem? (i := 87) rfl) rfl, iniX6, mhX6, vhX6⟩
theorem vX6_seeks : Cond.instanceMethod yX6_seeks ∈ x_tb ∧ Cond.selects RX6 yX6_seeks yX6_seeks ∈ x_tb := ⟨x_k4 (List.mem_of_getElem? (i := 86) rfl) rfl, x_tb_in (List.mem_of_getElem? (i := 43) rfl) rfl⟩
def kX6_best : List (List (Nat × Instr × Nat)) := [[(0, .iload_n 1, 1), (1, .iconst 1, 1), (2, .if_icmp .ge 10, 3), (5, .aload_n 0, 1), (6, .bipush (-4), 2), (8, .invokevirtual 110, 3), (11, .ireturn, 1), (12, .iload_n 1, 1), (13, .iconst 4, 1), (14, .if_icmp .le 10, 3)],
  [(17, .aload_n 0, 1), (18, .bipush (-6), 2), (20, .invokevirtual 110, 3), (23, .ireturn, 1), (24, .aload_n 0, 1), (25, .iload_n 1, 1), (26, .iconst 0, 1), (27, .invokevirtual 173, 3), (30, .pop, 1), (31, .aload_n 0, 1)],
  [(32, .getfield 176, 3), (35, .ireturn, 1)]]
def mX6_best : x_M := (yX6_best, prog_8_method_36_code, 2, (some .int), kX6_best, IX6)
set_option maxRecDepth 100000 in
theorem decX6_best : x_dec mX6_best := by unfold x_dec; decide +kernel
theorem gX6_best : x_good mX6_best := ⟨plX6, decX6_best, okX6, rfl, x_k4 (List.mem_of_getElem? (i := 83) rfl) rfl, iniX6, mhX6, vhX6⟩
theorem vX6_best : Cond.instanceMethod yX6_best ∈ x_tb ∧ Cond.selects RX6 yX6_best yX6_best ∈ x_tb := ⟨x_k4 (List.mem_of_getElem? (i := 81) rfl) rfl, x_k4 (List.mem_of_getElem? (i := 82) rfl) rfl⟩
def kX6_worthOf : List (List (Nat × Instr × Nat)) := [[(0, .aload_n 0, 1), (1, .iload_n 1, 1), (2, .iconst 0, 1), (3, .invokevirtual 173, 3), (6, .aload_n 0, 1), (7, .getfield 23, 3), (10, .aload_n 0, 1), (11, .getfield 100, 3), (14, .iaload, 1), (15, .aload_n 0, 1)],
  [(16, .getfield 23, 3), (19, .iconst 1, 1), (20, .aload_n 0, 1), (21, .getfield 100, 3), (24, .isub, 1), (25, .iaload, 1), (26, .isub, 1), (27, .isub, 1), (28, .ireturn, 1)]]
def mX6_worthOf : x_M := (yX6_worthOf, prog_8_method_37_code, 2, (some .int), kX6_worthOf, IX6)
set_option maxRecDepth 100000 in
theorem decX6_worthOf : x_dec mX6_worthOf := by unfold x_dec; decide +kernel
theorem gX6_worthOf : x_good mX6_worthOf := ⟨plX6, decX6_worthOf, okX6, rfl, x_k4 (List.mem_of_getElem? (i := 100) rfl) rfl, iniX6, mhX6, vhX6⟩
theorem vX6_worthOf : Cond.instanceMethod yX6_worthOf ∈ x_tb ∧ Cond.selects RX6 yX6_worthOf yX6_worthOf ∈ x_tb := ⟨x_k4 (List.mem_of_getElem? (i := 99) rfl) rfl, x_tb_in (List.mem_of_getElem? (i := 45) rfl) rfl⟩
def kX6_told : List (List (Nat × Instr × Nat)) := [[(0, .ldc 179, 2), (2, .aload_n 0, 1), (3, .iload_n 1, 1), (4, .invokevirtual 110, 3), (7, .isub, 1), (8, .ireturn, 1)]]
def mX6_told : x_M := (yX6_told, prog_8_method_38_code, 2, (some .int), kX6_told, IX6)
set_option maxRecDepth 100000 in
theorem decX6_told : x_dec mX6_told := by unfold x_dec; decide +kernel
theorem gX6_told : x_good mX6_told := ⟨plX6, decX6_told, okX6, rfl, x_k4 (List.mem_of_getElem? (i := 95) rfl) rfl, iniX6, mhX6, vhX6⟩
theorem vX6_told : Cond.instanceMethod yX6_told ∈ x_tb ∧ Cond.selects RX6 yX6_told yX6_told ∈ x_tb := ⟨x_k4 (List.mem_of_getElem? (i := 94) rfl) rfl, x_tb_in (List.mem_of_getElem? (i := 44) rfl) rfl⟩
def kX6_worth : List (List (Nat × Instr × Nat)) := [[(0, .iload_n 1, 1), (1, .iconst 1, 1), (2, .if_icmp .ge 10, 3), (5, .aload_n 0, 1), (6, .bipush (-4), 2), (8, .invokevirtual 180, 3), (11, .ireturn, 1), (12, .iload_n 1, 1), (13, .iconst 4, 1), (14, .if_icmp .le 10, 3)],
  [(17, .aload_n 0, 1), (18, .bipush (-6), 2), (20, .invokevirtual 180, 3), (23, .ireturn, 1), (24, .aload_n 0, 1), (25, .iload_n 1, 1), (26, .invokevirtual 183, 3), (29, .ireturn, 1)]]
def mX6_worth : x_M := (yX6_worth, prog_8_method_39_code, 2, (some .int), kX6_worth, IX6)
set_option maxRecDepth 100000 in
theorem decX6_worth : x_dec mX6_worth := by unfold x_dec; decide +kernel
theorem gX6_worth : x_good mX6_worth := ⟨plX6, decX6_worth, okX6, rfl, x_k4 (List.mem_of_getElem? (i := 91) rfl) rfl, iniX6, mhX6, vhX6⟩
theorem vX6_worth : Cond.instanceMethod yX6_worth ∈ x_tb ∧ Cond.selects RX6 yX6_worth yX6_worth ∈ x_tb := ⟨x_k4 (List.mem_of_getElem? (i := 89) rfl) rfl, x_k4 (List.mem_of_getElem? (i := 90) rfl) rfl⟩
def kX6_lost : List (List (Nat × Instr × Nat)) := [[(0, .iconst 0, 1), (1, .istore_n 1, 1), (2, .iload_n 1, 1), (3, .aload_n 0, 1), (4, .getfield 60, 3), (7, .if_icmp .ge 19, 3), (10, .aload_n 0, 1), (11, .iload_n 1, 1), (12, .invokevirtual 135, 3), (15, .ifCond .eq 5, 3)],
  [(18, .iconst 0, 1), (19, .ireturn, 1), (20, .iinc 1 1, 3), (23, .goto (-21), 3), (26, .iconst 1, 1), (27, .ireturn, 1)]]
def mX6_lost : x_M := (yX6_lost, prog_8_method_40_code, 2, (some .int), kX6_lost, IX6)
set_option maxRecDepth 100000 in
theorem decX6_lost : x_dec mX6_lost := by unfold x_dec; decide +kernel
theorem gX6_lost : x_good mX6_lost := ⟨plX6, decX6_lost, okX6, rfl, x_k4 (List.mem_of_getElem? (i := 104) rfl) rfl, iniX6, mhX6, vhX6⟩
theorem vX6_lost : Cond.instanceMethod yX6_lost ∈ x_tb ∧ Cond.selects RX6 yX6_lost yX6_lost ∈ x_tb := ⟨x_k4 (List.mem_of_getElem? (i := 102) rfl) rfl, x_k4 (List.mem_of_getElem? (i := 103) rfl) rfl⟩
def kX6_records : List (List (Nat × Instr × Nat)) := [[(0, .iconst 0, 1), (1, .istore_n 2, 1), (2, .iload_n 2, 1), (3, .bipush 9, 2), (5, .if_icmp .ge 26, 3), (8, .aload_n 0, 1), (9, .getfield 41, 3), (12, .bipush 9, 2), (14, .iload_n 1, 1), (15, .imul, 1)],
  [(16, .iload_n 2, 1), (17, .iadd, 1), (18, .aload_n 0, 1), (19, .getfield 17, 3), (22, .iload_n 2, 1), (23, .iaload, 1), (24, .iastore, 1), (25, .iinc 2 1, 3), (28, .goto (-26), 3), (31, .return_, 1)]]
def mX6_records : x_M := (yX6_records, prog_8_method_41_code, 3, none, kX6_records, IX6)
set_option maxRecDepth 100000 in
theorem decX6_records : x_dec mX6_records := by unfold x_dec; decide +kernel
theorem gX6_records : x_good mX6_records := ⟨plX6, decX6_records, okX6, rfl, x_k4 (List.mem_of_getElem? (i := 116) rfl) rfl, iniX6, mhX6, vhX6⟩
theorem vX6_records : Cond.instanceMethod yX6_records ∈ x_tb ∧ Cond.selects RX6 yX6_records yX6_records ∈ x_tb := ⟨x_k4 (List.mem_of_getElem? (i := 115) rfl) rfl, x_tb_in (List.mem_of_getElem? (i := 47) rfl) rfl⟩
def kX6_isLike : List (List (Nat × Instr × Nat)) := [[(0, .iconst 0, 1), (1, .istore_n 3, 1), (2, .iload_n 3, 1), (3, .aload_n 0, 1), (4, .getfield 60, 3), (7, .if_icmp .ge 36, 3), (10, .aload_n 0, 1), (11, .getfield 41, 3), (14, .bipush 9, 2)],
  [(16, .iload_n 1, 1), (17, .imul, 1), (18, .iload_n 3, 1), (19, .iadd, 1), (20, .iaload, 1), (21, .aload_n 0, 1), (22, .getfield 41, 3), (25, .bipush 9, 2), (27, .iload_n 2, 1), (28, .imul, 1), (29, .iload_n 3, 1), (30, .iadd, 1), (31, .iaload, 1)],
  [(32, .if_icmp .eq 5, 3), (35, .iconst 0, 1), (36, .ireturn, 1), (37, .iinc 3 1, 3), (40, .goto (-38), 3), (43, .iconst 1, 1), (44, .ireturn, 1)]]
def mX6_isLike : x_M := (yX6_isLike, prog_8_method_42_code, 4, (some .boolean), kX6_isLike, IX6)
set_option maxRecDepth 100000 in
theorem decX6_isLike : x_dec mX6_isLike := by unfold x_dec; decide +kernel
theorem gX6_isLike : x_good mX6_isLike := ⟨plX6, decX6_isLike, okX6, rfl, x_k4 (List.mem_of_getElem? (i := 120) rfl) rfl, iniX6, mhX6, vhX6⟩
theorem vX6_isLike : Cond.instanceMethod yX6_isLike ∈ x_tb ∧ Cond.selects RX6 yX6_isLike yX6_isLike ∈ x_tb := ⟨x_k4 (List.mem_of_getElem? (i := 119) rfl) rfl, x_tb_in (List.mem_of_getElem? (i := 48) rfl) rfl⟩
def kX6_records200 : List (List (Nat × Instr × Nat)) := [[(0, .aload_n 0, 1), (1, .bipush 6, 2), (3, .invokevirtual 154, 3), (6, .aload_n 0, 1), (7, .iconst 1, 1), (8, .putfield 96, 3), (11, .iconst 0, 1), (12, .istore_n 2, 1), (13, .aload_n 0, 1), (14, .iconst 0, 1), (15, .invokevirtual 186, 3)],
  [(18, .iload_n 2, 1), (19, .sipush 200, 3), (22, .if_icmp .ge 27, 3), (25, .aload_n 0, 1), (26, .iload_n 1, 1), (27, .invokevirtual 135, 3), (30, .ifCond .eq 19, 3)],
  [(33, .aload_n 0, 1), (34, .iload_n 1, 1), (35, .invokevirtual 106, 3), (38, .iinc 2 1, 3), (41, .aload_n 0, 1), (42, .iload_n 2, 1), (43, .invokevirtual 186, 3), (46, .goto (-28), 3)],
  [(49, .aload_n 0, 1), (50, .iconst 0, 1), (51, .putfield 96, 3), (54, .aload_n 0, 1), (55, .bipush 6, 2), (57, .invokevirtual 160, 3), (60, .iload_n 2, 1), (61, .ireturn, 1)]]
def mX6_records200 : x_M := (yX6_records200, prog_8_method_43_code, 3, (some .int), kX6_records200, IX6)
set_option maxRecDepth 100000 in
theorem decX6_records200 : x_dec mX6_records200 := by unfold x_dec; decide +kernel
theorem gX6_records200 : x_good mX6_records200 := ⟨plX6, decX6_records200, okX6, rfl, x_k4 (List.mem_of_getElem? (i := 112) rfl) rfl, iniX6, mhX6, vhX6⟩
theorem vX6_records200 : Cond.instanceMethod yX6_records200 ∈ x_tb ∧ Cond.selects RX6 yX6_records200 yX6_records200 ∈ x_tb := ⟨x_k4 (List.mem_of_getElem? (i := 111) rfl) rfl, x_tb_in (List.mem_of_getElem? (i := 46) rfl) rfl⟩
def kX6_back : List (List (Nat × Instr × Nat)) := [[(0, .aload_n 0, 1), (1, .iload_n 1, 1), (2, .invokevirtual 103, 3), (5, .ifCond .ne 9, 3), (8, .aload_n 0, 1), (9, .iconst (-1), 1), (10, .invokevirtual 110, 3), (13, .ireturn, 1), (14, .aload_n 0, 1), (15, .iload_n 1, 1)],
  [(16, .invokevirtual 189, 3), (19, .istore_n 2, 1), (20, .iconst 1, 1), (21, .istore_n 3, 1), (22, .iload_n 3, 1), (23, .iload_n 2, 1), (24, .if_icmp .gt 20, 3), (27, .aload_n 0, 1), (28, .iconst 0, 1), (29, .iload_n 3, 1), (30, .invokevirtual 192, 3)],
  [(33, .ifCond .eq 5, 3), (36, .iload_n 3, 1), (37, .ireturn, 1), (38, .iinc 3 1, 3), (41, .goto (-19), 3), (44, .bipush (-9), 2), (46, .ireturn, 1)]]
def mX6_back : x_M := (yX6_back, prog_8_method_44_code, 4, (some .int), kX6_back, IX6)
set_option maxRecDepth 100000 in
theorem decX6_back : x_dec mX6_back := by unfold x_dec; decide +kernel
theorem gX6_back : x_good mX6_back := ⟨plX6, decX6_back, okX6, rfl, x_k4 (List.mem_of_getElem? (i := 108) rfl) rfl, iniX6, mhX6, vhX6⟩
theorem vX6_back : Cond.instanceMethod yX6_back ∈ x_tb ∧ Cond.selects RX6 yX6_back yX6_back ∈ x_tb := ⟨x_k4 (List.mem_of_getElem? (i := 106) rfl) rfl, x_k4 (List.mem_of_getElem? (i := 107) rfl) rfl⟩
def kX6_loop : List (List (Nat × Instr × Nat)) := [[(0, .aload_n 0, 1), (1, .iload_n 1, 1), (2, .invokevirtual 103, 3), (5, .ifCond .ne 9, 3), (8, .aload_n 0, 1), (9, .iconst (-1), 1), (10, .invokevirtual 110, 3), (13, .ireturn, 1), (14, .iload_n 2, 1), (15, .i2l, 1)],
  [(16, .lconst 0, 1), (17, .lconst 1, 1), (18, .invokestatic 63, 3), (21, .ifCond .ne 10, 3), (24, .aload_n 0, 1), (25, .bipush (-2), 2), (27, .invokevirtual 110, 3), (30, .ireturn, 1), (31, .aload_n 0, 1)],
  [(32, .iload_n 1, 1), (33, .invokevirtual 189, 3), (36, .istore_n 3, 1), (37, .iconst 1, 1), (38, .istore 4, 2), (40, .iload 4, 2), (42, .iload_n 3, 1), (43, .if_icmp .gt 51, 3), (46, .iconst 0, 1), (47, .istore 5, 2)],
  [(49, .iload 5, 2), (51, .iload 4, 2), (53, .if_icmp .ge 35, 3), (56, .aload_n 0, 1), (57, .iload 5, 2), (59, .iload 4, 2), (61, .invokevirtual 192, 3)],
  [(64, .ifCond .eq 18, 3), (67, .iload_n 2, 1), (68, .ifCond .ne 8, 3), (71, .iload 5, 2), (73, .goto 8, 3), (76, .iload 4, 2), (78, .iload 5, 2)],
  [(80, .isub, 1), (81, .ireturn, 1), (82, .iinc 5 1, 3), (85, .goto (-36), 3), (88, .iinc 4 1, 3), (91, .goto (-51), 3), (94, .bipush (-9), 2)],
  [(96, .ireturn, 1)]]
def mX6_loop : x_M := (yX6_loop, prog_8_method_45_code, 6, (some .int), kX6_loop, IX6)
set_option maxRecDepth 100000 in
theorem decX6_loop : x_dec mX6_loop := by unfold x_dec; decide +kernel
theorem gX6_loop : x_good mX6_loop := ⟨plX6, decX6_loop, okX6, rfl, x_k4 (List.mem_of_getElem? (i := 124) rfl) rfl, iniX6, mhX6, vhX6⟩
theorem vX6_loop : Cond.instanceMethod yX6_loop ∈ x_tb ∧ Cond.selects RX6 yX6_loop yX6_loop ∈ x_tb := ⟨x_k4 (List.mem_of_getElem? (i := 122) rfl) rfl, x_k4 (List.mem_of_getElem? (i := 123) rfl) rfl⟩
def kX6_isEmptied : List (List (Nat × Instr × Nat)) := [[(0, .aload_n 0, 1), (1, .getfield 17, 3), (4, .iload_n 1, 1), (5, .iaload, 1), (6, .ifCond .ne 5, 3), (9, .iconst 1, 1), (10, .ireturn, 1), (11, .iload_n 2, 1), (12, .ifCond .ne 5, 3), (15, .iconst 0, 1)],
  [(16, .ireturn, 1), (17, .aload_n 0, 1), (18, .iload_n 3, 1), (19, .invokevirtual 154, 3), (22, .iconst 0, 1), (23, .istore 4, 2), (25, .iload 4, 2), (27, .aload_n 0, 1), (28, .getfield 60, 3), (31, .if_icmp .ge 55, 3)],
  [(34, .aload_n 0, 1), (35, .iload 4, 2), (37, .invokevirtual 135, 3), (40, .ifCond .eq 40, 3), (43, .aload_n 0, 1), (44, .iload 4, 2), (46, .invokevirtual 141, 3)],
  [(49, .aload_n 0, 1), (50, .iload_n 1, 1), (51, .iload_n 2, 1), (52, .iconst 1, 1), (53, .isub, 1), (54, .iload_n 3, 1), (55, .iconst 1, 1), (56, .iadd, 1), (57, .invokevirtual 196, 3), (60, .istore 5, 2), (62, .aload_n 0, 1), (63, .iload_n 3, 1)],
  [(64, .invokevirtual 160, 3), (67, .iload 5, 2), (69, .ifCond .eq 11, 3), (72, .aload_n 0, 1), (73, .iload 4, 2), (75, .putfield 176, 3), (78, .iconst 1, 1), (79, .ireturn, 1)],
  [(80, .iinc 4 1, 3), (83, .goto (-58), 3), (86, .iconst 0, 1), (87, .ireturn, 1)]]
def mX6_isEmptied : x_M := (yX6_isEmptied, prog_8_method_46_code, 6, (some .boolean), kX6_isEmptied, IX6)
set_option maxRecDepth 100000 in
theorem decX6_isEmptied : x_dec mX6_isEmptied := by unfold x_dec; decide +kernel
theorem gX6_isEmptied : x_good mX6_isEmptied := ⟨plX6, decX6_isEmptied, okX6, rfl, x_k4 (List.mem_of_getElem? (i := 132) rfl) rfl, iniX6, mhX6, vhX6⟩
theorem vX6_isEmptied : Cond.instanceMethod yX6_isEmptied ∈ x_tb ∧ Cond.selects RX6 yX6_isEmptied yX6_isEmptied ∈ x_tb := ⟨x_k4 (List.mem_of_getElem? (i := 131) rfl) rfl, x_tb_in (List.mem_of_getElem? (i := 49) rfl) rfl⟩
def kX6_toEmpty : List (List (Nat × Instr × Nat)) := [[(0, .aload_n 0, 1), (1, .iload_n 1, 1), (2, .invokevirtual 103, 3), (5, .ifCond .ne 9, 3), (8, .aload_n 0, 1), (9, .iconst (-1), 1), (10, .invokevirtual 110, 3), (13, .ireturn, 1), (14, .iload_n 2, 1), (15, .i2l, 1)],
  [(16, .lconst 0, 1), (17, .lconst 1, 1), (18, .invokestatic 63, 3), (21, .ifCond .ne 10, 3), (24, .aload_n 0, 1), (25, .bipush (-2), 2), (27, .invokevirtual 110, 3), (30, .ireturn, 1), (31, .iconst 0, 1)],
  [(32, .istore_n 3, 1), (33, .iload_n 3, 1), (34, .bipush 6, 2), (36, .if_icmp .ge 38, 3), (39, .aload_n 0, 1), (40, .bipush (-9), 2), (42, .putfield 176, 3), (45, .aload_n 0, 1), (46, .iload_n 1, 1), (47, .iload_n 3, 1)],
  [(48, .iconst 0, 1), (49, .invokevirtual 196, 3), (52, .ifCond .eq 16, 3), (55, .iload_n 2, 1), (56, .ifCond .ne 7, 3), (59, .iload_n 3, 1), (60, .goto 7, 3), (63, .aload_n 0, 1)],
  [(64, .getfield 176, 3), (67, .ireturn, 1), (68, .iinc 3 1, 3), (71, .goto (-38), 3), (74, .bipush (-9), 2), (76, .ireturn, 1)]]
def mX6_toEmpty : x_M := (yX6_toEmpty, prog_8_method_47_code, 4, (some .int), kX6_toEmpty, IX6)
set_option maxRecDepth 100000 in
theorem decX6_toEmpty : x_dec mX6_toEmpty := by unfold x_dec; decide +kernel
theorem gX6_toEmpty : x_good mX6_toEmpty := ⟨plX6, decX6_toEmpty, okX6, rfl, x_k4 (List.mem_of_getElem? (i := 128) rfl) rfl, iniX6, mhX6, vhX6⟩
theorem vX6_toEmpty : Cond.instanceMethod yX6_toEmpty ∈ x_tb ∧ Cond.selects RX6 yX6_toEmpty yX6_toEmpty ∈ x_tb := ⟨x_k4 (List.mem_of_getElem? (i := 126) rfl) rfl, x_k4 (List.mem_of_getElem? (i := 127) rfl) rfl⟩
def kX6_worthBy : List (List (Nat × Instr × Nat)) := [[(0, .aload_n 0, 1), (1, .getfield 17, 3), (4, .iload_n 1, 1), (5, .dup2, 1), (6, .iaload, 1), (7, .iload_n 2, 1), (8, .iadd, 1), (9, .iastore, 1), (10, .aload_n 0, 1), (11, .iconst 2, 1), (12, .invokevirtual 183, 3), (15, .istore_n 3, 1)],
  [(16, .aload_n 0, 1), (17, .getfield 17, 3), (20, .iload_n 1, 1), (21, .dup2, 1), (22, .iaload, 1), (23, .iload_n 2, 1), (24, .isub, 1), (25, .iastore, 1), (26, .iload_n 3, 1), (27, .aload_n 0, 1), (28, .iconst 2, 1), (29, .invokevirtual 183, 3)],
  [(32, .isub, 1), (33, .ireturn, 1)]]
def mX6_worthBy : x_M := (yX6_worthBy, prog_8_method_48_code, 4, (some .int), kX6_worthBy, IX6)
set_option maxRecDepth 100000 in
theorem decX6_worthBy : x_dec mX6_worthBy := by unfold x_dec; decide +kernel
theorem gX6_worthBy : x_good mX6_worthBy := ⟨plX6, decX6_worthBy, okX6, rfl, x_k4 (List.mem_of_getElem? (i := 140) rfl) rfl, iniX6, mhX6, vhX6⟩
theorem vX6_worthBy : Cond.instanceMethod yX6_worthBy ∈ x_tb ∧ Cond.selects RX6 yX6_worthBy yX6_worthBy ∈ x_tb := ⟨x_k4 (List.mem_of_getElem? (i := 139) rfl) rfl, x_tb_in (List.mem_of_getElem? (i := 50) rfl) rfl⟩
def kX6_price : List (List (Nat × Instr × Nat)) := [[(0, .aload_n 0, 1), (1, .iload_n 1, 1), (2, .invokevirtual 103, 3), (5, .ifCond .eq 12, 3), (8, .aload_n 0, 1), (9, .iload_n 1, 1), (10, .iconst 1, 1), (11, .invokevirtual 200, 3), (14, .goto 8, 3)],
  [(17, .aload_n 0, 1), (18, .iconst (-1), 1), (19, .invokevirtual 180, 3), (22, .ireturn, 1)]]
def mX6_price : x_M := (yX6_price, prog_8_method_49_code, 2, (some .int), kX6_price, IX6)
set_option maxRecDepth 100000 in
theorem decX6_price : x_dec mX6_price := by unfold x_dec; decide +kernel
theorem gX6_price : x_good mX6_price := ⟨plX6, decX6_price, okX6, rfl, x_k4 (List.mem_of_getElem? (i := 136) rfl) rfl, iniX6, mhX6, vhX6⟩
theorem vX6_price : Cond.instanceMethod yX6_price ∈ x_tb ∧ Cond.selects RX6 yX6_price yX6_price ∈ x_tb := ⟨x_k4 (List.mem_of_getElem? (i := 134) rfl) rfl, x_k4 (List.mem_of_getElem? (i := 135) rfl) rfl⟩
def kX6_sold : List (List (Nat × Instr × Nat)) := [[(0, .aload_n 0, 1), (1, .iload_n 1, 1), (2, .invokevirtual 103, 3), (5, .ifCond .ne 9, 3), (8, .aload_n 0, 1), (9, .iconst (-1), 1), (10, .invokevirtual 180, 3), (13, .ireturn, 1), (14, .aload_n 0, 1), (15, .getfield 17, 3)],
  [(18, .iload_n 1, 1), (19, .iaload, 1), (20, .ifCond .ne 12, 3), (23, .aload_n 0, 1), (24, .bipush (-3), 2), (26, .invokevirtual 180, 3), (29, .goto 9, 3)],
  [(32, .aload_n 0, 1), (33, .iload_n 1, 1), (34, .iconst (-1), 1), (35, .invokevirtual 200, 3), (38, .ireturn, 1)]]
def mX6_sold : x_M := (yX6_sold, prog_8_method_50_code, 2, (some .int), kX6_sold, IX6)
set_option maxRecDepth 100000 in
theorem decX6_sold : x_dec mX6_sold := by unfold x_dec; decide +kernel
theorem gX6_sold : x_good mX6_sold := ⟨plX6, decX6_sold, okX6, rfl, x_k4 (List.mem_of_getElem? (i := 144) rfl) rfl, iniX6, mhX6, vhX6⟩
theorem vX6_sold : Cond.instanceMethod yX6_sold ∈ x_tb ∧ Cond.selects RX6 yX6_sold yX6_sold ∈ x_tb := ⟨x_k4 (List.mem_of_getElem? (i := 142) rfl) rfl, x_k4 (List.mem_of_getElem? (i := 143) rfl) rfl⟩
def kX6_change : List (List (Nat × Instr × Nat)) := [[(0, .aload_n 0, 1), (1, .iconst 2, 1), (2, .invokevirtual 183, 3), (5, .istore_n 1, 1), (6, .bipush (-9), 2), (8, .istore_n 2, 1), (9, .iconst 0, 1), (10, .istore_n 3, 1), (11, .iload_n 3, 1), (12, .aload_n 0, 1), (13, .getfield 60, 3)],
  [(16, .if_icmp .ge 67, 3), (19, .iload_n 3, 1), (20, .iconst 1, 1), (21, .iadd, 1), (22, .istore 4, 2), (24, .iload 4, 2), (26, .aload_n 0, 1), (27, .getfield 60, 3), (30, .if_icmp .ge 47, 3)],
  [(33, .aload_n 0, 1), (34, .iload_n 3, 1), (35, .iload 4, 2), (37, .invokevirtual 147, 3), (40, .aload_n 0, 1), (41, .iconst 2, 1), (42, .invokevirtual 183, 3), (45, .istore 5, 2), (47, .aload_n 0, 1)],
  [(48, .iload_n 3, 1), (49, .iload 4, 2), (51, .invokevirtual 147, 3), (54, .iload 5, 2), (56, .iload_n 1, 1), (57, .if_icmp .le 14, 3), (60, .bipush 10, 2), (62, .iload_n 3, 1), (63, .imul, 1)],
  [(64, .iload 4, 2), (66, .iadd, 1), (67, .istore_n 2, 1), (68, .iload 5, 2), (70, .istore_n 1, 1), (71, .iinc 4 1, 3), (74, .goto (-50), 3), (77, .iinc 3 1, 3)],
  [(80, .goto (-69), 3), (83, .iload_n 2, 1), (84, .ireturn, 1)]]
def mX6_change : x_M := (yX6_change, prog_8_method_51_code, 6, (some .int), kX6_change, IX6)
set_option maxRecDepth 100000 in
theorem decX6_change : x_dec mX6_change := by unfold x_dec; decide +kernel
theorem gX6_change : x_good mX6_change := ⟨plX6, decX6_change, okX6, rfl, x_k4 (List.mem_of_getElem? (i := 148) rfl) rfl, iniX6, mhX6, vhX6⟩
theorem vX6_change : Cond.instanceMethod yX6_change ∈ x_tb ∧ Cond.selects RX6 yX6_change yX6_change ∈ x_tb := ⟨x_k4 (List.mem_of_getElem? (i := 146) rfl) rfl, x_k4 (List.mem_of_getElem? (i := 147) rfl) rfl⟩
def kX6_fair : List (List (Nat × Instr × Nat)) := [[(0, .aload_n 0, 1), (1, .bipush 7, 2), (3, .invokevirtual 154, 3), (6, .bipush (-9), 2), (8, .istore_n 1, 1), (9, .iconst 1, 1), (10, .istore_n 2, 1), (11, .iload_n 2, 1), (12, .bipush 10, 2), (14, .if_icmp .ge 53, 3)],
  [(17, .iload_n 1, 1), (18, .bipush (-9), 2), (20, .if_icmp .ne 47, 3), (23, .iconst 0, 1), (24, .istore_n 3, 1), (25, .iload_n 3, 1), (26, .aload_n 0, 1), (27, .getfield 60, 3), (30, .if_icmp .ge 16, 3)],
  [(33, .aload_n 0, 1), (34, .getfield 17, 3), (37, .iload_n 3, 1), (38, .iload_n 2, 1), (39, .iastore, 1), (40, .iinc 3 1, 3), (43, .goto (-18), 3), (46, .aload_n 0, 1), (47, .iconst 2, 1)],
  [(48, .invokevirtual 183, 3), (51, .ifCond .ne 7, 3), (54, .iload_n 2, 1), (55, .goto 5, 3), (58, .bipush (-9), 2), (60, .istore_n 1, 1), (61, .iinc 2 1, 3)],
  [(64, .goto (-53), 3), (67, .aload_n 0, 1), (68, .bipush 7, 2), (70, .invokevirtual 160, 3), (73, .iload_n 1, 1), (74, .ireturn, 1)]]
def mX6_fair : x_M := (yX6_fair, prog_8_method_52_code, 4, (some .int), kX6_fair, IX6)
set_option maxRecDepth 100000 in
theorem decX6_fair : x_dec mX6_fair := by unfold x_dec; decide +kernel
theorem gX6_fair : x_good mX6_fair := ⟨plX6, decX6_fair, okX6, rfl, x_k4 (List.mem_of_getElem? (i := 152) rfl) rfl, iniX6, mhX6, vhX6⟩
theorem vX6_fair : Cond.instanceMethod yX6_fair ∈ x_tb ∧ Cond.selects RX6 yX6_fair yX6_fair ∈ x_tb := ⟨x_k4 (List.mem_of_getElem? (i := 150) rfl) rfl, x_k4 (List.mem_of_getElem? (i := 151) rfl) rfl⟩
def kX6_isRow : List (List (Nat × Instr × Nat)) := [[(0, .aload_n 0, 1), (1, .getfield 203, 3), (4, .aload_n 0, 1), (5, .getfield 60, 3), (8, .if_icmp .eq 5, 3), (11, .iconst 0, 1), (12, .ireturn, 1), (13, .iconst 0, 1), (14, .istore_n 1, 1), (15, .iload_n 1, 1)],
  [(16, .aload_n 0, 1), (17, .getfield 203, 3), (20, .if_icmp .ge 21, 3), (23, .aload_n 0, 1), (24, .getfield 32, 3), (27, .iload_n 1, 1), (28, .iaload, 1), (29, .iconst 2, 1), (30, .if_icmp .le 5, 3)],
  [(33, .iconst 0, 1), (34, .ireturn, 1), (35, .iinc 1 1, 3), (38, .goto (-23), 3), (41, .iconst 1, 1), (42, .ireturn, 1)]]
def mX6_isRow : x_M := (yX6_isRow, prog_8_method_53_code, 2, (some .boolean), kX6_isRow, IX6)
set_option maxRecDepth 100000 in
theorem decX6_isRow : x_dec mX6_isRow := by unfold x_dec; decide +kernel
theorem gX6_isRow : x_good mX6_isRow := ⟨plX6, decX6_isRow, okX6, rfl, x_k4 (List.mem_of_getElem? (i := 160) rfl) rfl, iniX6, mhX6, vhX6⟩
theorem vX6_isRow : Cond.instanceMethod yX6_isRow ∈ x_tb ∧ Cond.selects RX6 yX6_isRow yX6_isRow ∈ x_tb := ⟨x_k4 (List.mem_of_getElem? (i := 159) rfl) rfl, x_tb_in (List.mem_of_getElem? (i := 51) rfl) rfl⟩
def kX6_waysOf : List (List (Nat × Instr × Nat)) := [[(0, .iconst 0, 1), (1, .istore_n 2, 1), (2, .iload_n 2, 1), (3, .bipush 40, 2), (5, .if_icmp .gt 24, 3), (8, .aload_n 0, 1), (9, .getfield 44, 3), (12, .iload_n 2, 1), (13, .iload_n 2, 1), (14, .ifCond .ne 7, 3)],
  [(17, .lconst 1, 1), (18, .goto 4, 3), (21, .lconst 0, 1), (22, .lastore, 1), (23, .iinc 2 1, 3), (26, .goto (-24), 3), (29, .iconst 0, 1), (30, .istore_n 2, 1), (31, .iload_n 2, 1)],
  [(32, .aload_n 0, 1), (33, .getfield 60, 3), (36, .if_icmp .ge 159, 3), (39, .aload_n 0, 1), (40, .aload_n 0, 1), (41, .getfield 13, 3), (44, .iload_n 2, 1), (45, .iaload, 1), (46, .invokevirtual 93, 3)],
  [(49, .istore_n 3, 1), (50, .aload_n 0, 1), (51, .getfield 32, 3), (54, .iload_n 2, 1), (55, .iaload, 1), (56, .iconst 1, 1), (57, .if_icmp .ne 7, 3), (60, .iload_n 3, 1), (61, .goto 4, 3)],
  [(64, .iconst 0, 1), (65, .istore 4, 2), (67, .aload_n 0, 1), (68, .getfield 32, 3), (71, .iload_n 2, 1), (72, .iaload, 1), (73, .ifCond .ne 15, 3), (76, .iload_n 3, 1), (77, .bipush 20, 2), (79, .if_icmp .gt 9, 3)],
  [(82, .iload_n 3, 1), (83, .iconst 1, 1), (84, .isub, 1), (85, .goto 5, 3), (88, .bipush 20, 2), (90, .istore 5, 2), (92, .iconst 0, 1), (93, .istore 6, 2), (95, .iload 6, 2)],
  [(97, .bipush 40, 2), (99, .if_icmp .gt 60, 3), (102, .lconst 0, 1), (103, .lstore 7, 2), (105, .iload 4, 2), (107, .istore 9, 2), (109, .iload 9, 2), (111, .iload 5, 2)],
  [(113, .if_icmp .gt 31, 3), (116, .iload 9, 2), (118, .iload 6, 2), (120, .if_icmp .gt 24, 3), (123, .lload 7, 2), (125, .aload_n 0, 1), (126, .getfield 44, 3)],
  [(129, .iload 6, 2), (131, .iload 9, 2), (133, .isub, 1), (134, .laload, 1), (135, .ladd, 1), (136, .lstore 7, 2), (138, .iinc 9 1, 3), (141, .goto (-32), 3)],
  [(144, .aload_n 0, 1), (145, .getfield 48, 3), (148, .iload 6, 2), (150, .lload 7, 2), (152, .lastore, 1), (153, .iinc 6 1, 3), (156, .goto (-61), 3), (159, .iconst 0, 1)],
  [(160, .istore 6, 2), (162, .iload 6, 2), (164, .bipush 40, 2), (166, .if_icmp .gt 23, 3), (169, .aload_n 0, 1), (170, .getfield 44, 3), (173, .iload 6, 2), (175, .aload_n 0, 1)],
  [(176, .getfield 48, 3), (179, .iload 6, 2), (181, .laload, 1), (182, .lastore, 1), (183, .iinc 6 1, 3), (186, .goto (-24), 3), (189, .iinc 2 1, 3)],
  [(192, .goto (-161), 3), (195, .aload_n 0, 1), (196, .getfield 44, 3), (199, .iload_n 1, 1), (200, .laload, 1), (201, .ldc2_w 206, 3), (204, .lcmp, 1), (205, .ifCond .le 8, 3)],
  [(208, .ldc 179, 2), (210, .goto 10, 3), (213, .aload_n 0, 1), (214, .getfield 44, 3), (217, .iload_n 1, 1), (218, .laload, 1), (219, .l2i, 1), (220, .ireturn, 1)]]
def mX6_waysOf : x_M := (yX6_waysOf, prog_8_method_54_code, 10, (some .int), kX6_waysOf, IX6)
set_option maxRecDepth 100000 in
theorem decX6_waysOf : x_dec mX6_waysOf := by unfold x_dec; decide +kernel
theorem gX6_waysOf : x_good mX6_waysOf := ⟨plX6, decX6_waysOf, okX6, rfl, x_k4 (List.mem_of_getElem? (i := 164) rfl) rfl, iniX6, mhX6, vhX6⟩
theorem vX6_waysOf : Cond.instanceMethod yX6_waysOf ∈ x_tb ∧ Cond.selects RX6 yX6_waysOf yX6_waysOf ∈ x_tb := ⟨x_k4 (List.mem_of_getElem? (i := 163) rfl) rfl, x_tb_in (List.mem_of_getElem? (i := 52) rfl) rfl⟩
def kX6_sounds : List (List (Nat × Instr × Nat)) := [[(0, .iload_n 1, 1), (1, .ifCond .ge 10, 3), (4, .aload_n 0, 1), (5, .bipush (-4), 2), (7, .invokevirtual 110, 3), (10, .ireturn, 1), (11, .iload_n 1, 1), (12, .bipush 40, 2), (14, .if_icmp .le 10, 3)],
  [(17, .aload_n 0, 1), (18, .bipush (-6), 2), (20, .invokevirtual 110, 3), (23, .ireturn, 1), (24, .aload_n 0, 1), (25, .invokevirtual 208, 3), (28, .ifCond .eq 11, 3), (31, .aload_n 0, 1)],
  [(32, .iload_n 1, 1), (33, .invokevirtual 212, 3), (36, .goto 9, 3), (39, .aload_n 0, 1), (40, .bipush (-3), 2), (42, .invokevirtual 110, 3), (45, .ireturn, 1)]]
def mX6_sounds : x_M := (yX6_sounds, prog_8_method_55_code, 2, (some .int), kX6_sounds, IX6)
set_option maxRecDepth 100000 in
theorem decX6_sounds : x_dec mX6_sounds := by unfold x_dec; decide +kernel
theorem gX6_sounds : x_good mX6_sounds := ⟨plX6, decX6_sounds, okX6, rfl, x_k4 (List.mem_of_getElem? (i := 156) rfl) rfl, iniX6, mhX6, vhX6⟩
theorem vX6_sounds : Cond.instanceMethod yX6_sounds ∈ x_tb ∧ Cond.selects RX6 yX6_sounds yX6_sounds ∈ x_tb := ⟨x_k4 (List.mem_of_getElem? (i := 154) rfl) rfl, x_k4 (List.mem_of_getElem? (i := 155) rfl) rfl⟩
def kX6_next : List (List (Nat × Instr × Nat)) := [[(0, .iload_n 1, 1), (1, .ifCond .ge 10, 3), (4, .aload_n 0, 1), (5, .bipush (-4), 2), (7, .invokevirtual 110, 3), (10, .ireturn, 1), (11, .iload_n 1, 1), (12, .bipush 40, 2), (14, .if_icmp .le 10, 3)],
  [(17, .aload_n 0, 1), (18, .bipush (-6), 2), (20, .invokevirtual 110, 3), (23, .ireturn, 1), (24, .aload_n 0, 1), (25, .invokevirtual 208, 3), (28, .ifCond .ne 10, 3), (31, .aload_n 0, 1)],
  [(32, .bipush (-3), 2), (34, .invokevirtual 110, 3), (37, .ireturn, 1), (38, .bipush (-9), 2), (40, .istore_n 2, 1), (41, .iconst (-1), 1), (42, .istore_n 3, 1), (43, .iconst 0, 1), (44, .istore 4, 2), (46, .iload 4, 2)],
  [(48, .aload_n 0, 1), (49, .getfield 60, 3), (52, .if_icmp .ge 86, 3), (55, .aload_n 0, 1), (56, .getfield 32, 3), (59, .iload 4, 2), (61, .iaload, 1), (62, .iconst 2, 1), (63, .if_icmp .ne 69, 3)],
  [(66, .aload_n 0, 1), (67, .getfield 32, 3), (70, .iload 4, 2), (72, .iconst 0, 1), (73, .iastore, 1), (74, .aload_n 0, 1), (75, .iload_n 1, 1), (76, .invokevirtual 212, 3), (79, .istore 5, 2)],
  [(81, .aload_n 0, 1), (82, .getfield 32, 3), (85, .iload 4, 2), (87, .iconst 1, 1), (88, .iastore, 1), (89, .aload_n 0, 1), (90, .iload_n 1, 1), (91, .invokevirtual 212, 3), (94, .istore 6, 2)],
  [(96, .aload_n 0, 1), (97, .getfield 32, 3), (100, .iload 4, 2), (102, .iconst 2, 1), (103, .iastore, 1), (104, .iload 5, 2), (106, .iload 6, 2), (108, .if_icmp .ge 8, 3), (111, .iload 5, 2)],
  [(113, .goto 5, 3), (116, .iload 6, 2), (118, .istore 7, 2), (120, .iload 7, 2), (122, .iload_n 3, 1), (123, .if_icmp .le 9, 3), (126, .iload 4, 2)],
  [(128, .istore_n 2, 1), (129, .iload 7, 2), (131, .istore_n 3, 1), (132, .iinc 4 1, 3), (135, .goto (-89), 3), (138, .iload_n 2, 1), (139, .ireturn, 1)]]
def mX6_next : x_M := (yX6_next, prog_8_method_56_code, 8, (some .int), kX6_next, IX6)
set_option maxRecDepth 100000 in
theorem decX6_next : x_dec mX6_next := by unfold x_dec; decide +kernel
theorem gX6_next : x_good mX6_next := ⟨plX6, decX6_next, okX6, rfl, x_k4 (List.mem_of_getElem? (i := 169) rfl) rfl, iniX6, mhX6, vhX6⟩
theorem vX6_next : Cond.instanceMethod yX6_next ∈ x_tb ∧ Cond.selects RX6 yX6_next yX6_next ∈ x_tb := ⟨x_k4 (List.mem_of_getElem? (i := 167) rfl) rfl, x_k4 (List.mem_of_getElem? (i := 168) rfl) rfl⟩
def kX6_row : List (List (Nat × Instr × Nat)) := [[(0, .iload_n 1, 1), (1, .ifCond .ge 10, 3), (4, .aload_n 0, 1), (5, .bipush (-4), 2), (7, .invokevirtual 110, 3), (10, .ireturn, 1), (11, .iload_n 1, 1), (12, .bipush 9, 2), (14, .if_icmp .gt 12, 3)],
  [(17, .aload_n 0, 1), (18, .getfield 203, 3), (21, .bipush 12, 2), (23, .if_icmp .ne 10, 3), (26, .aload_n 0, 1), (27, .bipush (-6), 2), (29, .invokevirtual 110, 3)],
  [(32, .ireturn, 1), (33, .aload_n 0, 1), (34, .getfield 32, 3), (37, .aload_n 0, 1), (38, .getfield 203, 3), (41, .iload_n 1, 1), (42, .iastore, 1), (43, .aload_n 0, 1), (44, .dup, 1), (45, .getfield 203, 3)],
  [(48, .iconst 1, 1), (49, .iadd, 1), (50, .putfield 203, 3), (53, .aload_n 0, 1), (54, .getfield 203, 3), (57, .ireturn, 1)]]
def mX6_row : x_M := (yX6_row, prog_8_method_57_code, 2, (some .int), kX6_row, IX6)
set_option maxRecDepth 100000 in
theorem decX6_row : x_dec mX6_row := by unfold x_dec; decide +kernel
theorem gX6_row : x_good mX6_row := ⟨plX6, decX6_row, okX6, rfl, x_k4 (List.mem_of_getElem? (i := 173) rfl) rfl, iniX6, mhX6, vhX6⟩
theorem vX6_row : Cond.instanceMethod yX6_row ∈ x_tb ∧ Cond.selects RX6 yX6_row yX6_row ∈ x_tb := ⟨x_k4 (List.mem_of_getElem? (i := 171) rfl) rfl, x_k4 (List.mem_of_getElem? (i := 172) rfl) rfl⟩
def kX6_plays : List (List (Nat × Instr × Nat)) := [[(0, .iconst 0, 1), (1, .istore_n 1, 1), (2, .iload_n 1, 1), (3, .aload_n 0, 1), (4, .getfield 203, 3), (7, .if_icmp .ge 32, 3), (10, .aload_n 0, 1), (11, .aload_n 0, 1), (12, .getfield 32, 3), (15, .iload_n 1, 1)],
  [(16, .iaload, 1), (17, .invokevirtual 135, 3), (20, .ifCond .eq 19, 3), (23, .aload_n 0, 1), (24, .aload_n 0, 1), (25, .getfield 32, 3), (28, .iload_n 1, 1), (29, .iaload, 1), (30, .invokevirtual 141, 3)],
  [(33, .iinc 1 1, 3), (36, .goto (-34), 3), (39, .iload_n 1, 1), (40, .ireturn, 1)]]
def mX6_plays : x_M := (yX6_plays, prog_8_method_58_code, 2, (some .int), kX6_plays, IX6)
set_option maxRecDepth 100000 in
theorem decX6_plays : x_dec mX6_plays := by unfold x_dec; decide +kernel
theorem gX6_plays : x_good mX6_plays := ⟨plX6, decX6_plays, okX6, rfl, x_k4 (List.mem_of_getElem? (i := 181) rfl) rfl, iniX6, mhX6, vhX6⟩
theorem vX6_plays : Cond.instanceMethod yX6_plays ∈ x_tb ∧ Cond.selects RX6 yX6_plays yX6_plays ∈ x_tb := ⟨x_k4 (List.mem_of_getElem? (i := 180) rfl) rfl, x_tb_in (List.mem_of_getElem? (i := 53) rfl) rfl⟩
def kX6_played : List (List (Nat × Instr × Nat)) := [[(0, .iload_n 1, 1), (1, .i2l, 1), (2, .lconst 0, 1), (3, .lconst 1, 1), (4, .invokestatic 63, 3), (7, .ifCond .ne 10, 3), (10, .aload_n 0, 1), (11, .bipush (-2), 2), (13, .invokevirtual 110, 3)],
  [(16, .ireturn, 1), (17, .aload_n 0, 1), (18, .iconst 0, 1), (19, .invokevirtual 154, 3), (22, .aload_n 0, 1), (23, .invokevirtual 215, 3), (26, .pop, 1), (27, .aload_n 0, 1), (28, .getfield 23, 3), (31, .iload_n 1, 1)],
  [(32, .iaload, 1), (33, .istore_n 2, 1), (34, .aload_n 0, 1), (35, .iconst 0, 1), (36, .invokevirtual 160, 3), (39, .iload_n 2, 1), (40, .ireturn, 1)]]
def mX6_played : x_M := (yX6_played, prog_8_method_59_code, 3, (some .int), kX6_played, IX6)
set_option maxRecDepth 100000 in
theorem decX6_played : x_dec mX6_played := by unfold x_dec; decide +kernel
theorem gX6_played : x_good mX6_played := ⟨plX6, decX6_played, okX6, rfl, x_k4 (List.mem_of_getElem? (i := 177) rfl) rfl, iniX6, mhX6, vhX6⟩
theorem vX6_played : Cond.instanceMethod yX6_played ∈ x_tb ∧ Cond.selects RX6 yX6_played yX6_played ∈ x_tb := ⟨x_k4 (List.mem_of_getElem? (i := 175) rfl) rfl, x_k4 (List.mem_of_getElem? (i := 176) rfl) rfl⟩
def kX6_judge : List (List (Nat × Instr × Nat)) := [[(0, .aload_n 0, 1), (1, .iconst 0, 1), (2, .invokevirtual 154, 3), (5, .aload_n 0, 1), (6, .invokevirtual 215, 3), (9, .istore_n 1, 1), (10, .aload_n 0, 1), (11, .iconst 0, 1), (12, .invokevirtual 160, 3), (15, .iload_n 1, 1)],
  [(16, .aload_n 0, 1), (17, .getfield 203, 3), (20, .if_icmp .ge 7, 3), (23, .iload_n 1, 1), (24, .goto 5, 3), (27, .bipush (-9), 2), (29, .istore_n 2, 1), (30, .aload_n 0, 1), (31, .iconst 0, 1)],
  [(32, .putfield 203, 3), (35, .iload_n 2, 1), (36, .ireturn, 1)]]
def mX6_judge : x_M := (yX6_judge, prog_8_method_60_code, 3, (some .int), kX6_judge, IX6)
set_option maxRecDepth 100000 in
theorem decX6_judge : x_dec mX6_judge := by unfold x_dec; decide +kernel
theorem gX6_judge : x_good mX6_judge := ⟨plX6, decX6_judge, okX6, rfl, x_k4 (List.mem_of_getElem? (i := 185) rfl) rfl, iniX6, mhX6, vhX6⟩
theorem vX6_judge : Cond.instanceMethod yX6_judge ∈ x_tb ∧ Cond.selects RX6 yX6_judge yX6_judge ∈ x_tb := ⟨x_k4 (List.mem_of_getElem? (i := 183) rfl) rfl, x_k4 (List.mem_of_getElem? (i := 184) rfl) rfl⟩
def kX6_lots : List (List (Nat × Instr × Nat)) := [[(0, .iload_n 1, 1), (1, .iconst 1, 1), (2, .if_icmp .ge 10, 3), (5, .aload_n 0, 1), (6, .bipush (-4), 2), (8, .invokevirtual 180, 3), (11, .ireturn, 1), (12, .iload_n 1, 1), (13, .bipush 20, 2), (15, .if_icmp .le 10, 3)],
  [(18, .aload_n 0, 1), (19, .bipush (-6), 2), (21, .invokevirtual 180, 3), (24, .ireturn, 1), (25, .aload_n 0, 1), (26, .getfield 60, 3), (29, .iconst 2, 1), (30, .if_icmp .ge 10, 3)],
  [(33, .aload_n 0, 1), (34, .bipush (-3), 2), (36, .invokevirtual 180, 3), (39, .ireturn, 1), (40, .iload_n 2, 1), (41, .istore_n 3, 1), (42, .aload_n 0, 1), (43, .getfield 100, 3), (46, .istore 4, 2)],
  [(48, .iconst 0, 1), (49, .istore 5, 2), (51, .aload_n 0, 1), (52, .iconst 0, 1), (53, .invokevirtual 154, 3), (56, .iconst 0, 1), (57, .istore 6, 2), (59, .iload 6, 2), (61, .iload_n 1, 1), (62, .if_icmp .ge 103, 3)],
  [(65, .iconst 0, 1), (66, .istore 7, 2), (68, .iload 7, 2), (70, .bipush 20, 2), (72, .if_icmp .ge 60, 3), (75, .iload_n 3, 1), (76, .ldc 218, 2), (78, .imul, 1), (79, .ldc 219, 2)],
  [(81, .iadd, 1), (82, .istore_n 3, 1), (83, .iload_n 3, 1), (84, .ldc 220, 2), (86, .iand, 1), (87, .sipush 256, 3), (90, .idiv, 1), (91, .aload_n 0, 1), (92, .getfield 60, 3), (95, .irem, 1)],
  [(96, .istore 8, 2), (98, .aload_n 0, 1), (99, .iload 8, 2), (101, .invokevirtual 135, 3), (104, .ifCond .eq 12, 3), (107, .aload_n 0, 1), (108, .iload 8, 2), (110, .invokevirtual 141, 3)],
  [(113, .goto 13, 3), (116, .aload_n 0, 1), (117, .iconst 1, 1), (118, .aload_n 0, 1), (119, .getfield 100, 3), (122, .isub, 1), (123, .putfield 100, 3), (126, .iinc 7 1, 3)],
  [(129, .goto (-61), 3), (132, .iload 5, 2), (134, .aload_n 0, 1), (135, .getfield 23, 3), (138, .iload 4, 2), (140, .iaload, 1), (141, .aload_n 0, 1), (142, .getfield 23, 3)],
  [(145, .iconst 1, 1), (146, .iload 4, 2), (148, .isub, 1), (149, .iaload, 1), (150, .isub, 1), (151, .iadd, 1), (152, .istore 5, 2), (154, .aload_n 0, 1), (155, .iconst 0, 1), (156, .invokevirtual 160, 3), (159, .iinc 6 1, 3)],
  [(162, .goto (-103), 3), (165, .iload 5, 2), (167, .ireturn, 1)]]
def mX6_lots : x_M := (yX6_lots, prog_8_method_61_code, 9, (some .int), kX6_lots, IX6)
set_option maxRecDepth 100000 in
theorem decX6_lots : x_dec mX6_lots := by unfold x_dec; decide +kernel
theorem gX6_lots : x_good mX6_lots := ⟨plX6, decX6_lots, okX6, rfl, x_k4 (List.mem_of_getElem? (i := 189) rfl) rfl, iniX6, mhX6, vhX6⟩
theorem vX6_lots : Cond.instanceMethod yX6_lots ∈ x_tb ∧ Cond.selects RX6 yX6_lots yX6_lots ∈ x_tb := ⟨x_k4 (List.mem_of_getElem? (i := 187) rfl) rfl, x_k4 (List.mem_of_getElem? (i := 188) rfl) rfl⟩
def kX6_image : List (List (Nat × Instr × Nat)) := [[(0, .aload_n 0, 1), (1, .iconst 0, 1), (2, .invokevirtual 154, 3), (5, .iconst 0, 1), (6, .istore_n 1, 1), (7, .iload_n 1, 1), (8, .bipush 12, 2), (10, .if_icmp .ge 21, 3), (13, .aload_n 0, 1), (14, .getfield 51, 3)],
  [(17, .iload_n 1, 1), (18, .aload_n 0, 1), (19, .getfield 35, 3), (22, .iload_n 1, 1), (23, .iaload, 1), (24, .iastore, 1), (25, .iinc 1 1, 3), (28, .goto (-21), 3), (31, .iconst 0, 1)],
  [(32, .istore_n 1, 1), (33, .iload_n 1, 1), (34, .bipush 9, 2), (36, .if_icmp .ge 21, 3), (39, .aload_n 0, 1), (40, .getfield 54, 3), (43, .iload_n 1, 1), (44, .aload_n 0, 1), (45, .getfield 13, 3)],
  [(48, .iload_n 1, 1), (49, .iaload, 1), (50, .iastore, 1), (51, .iinc 1 1, 3), (54, .goto (-21), 3), (57, .aload_n 0, 1), (58, .aload_n 0, 1), (59, .getfield 60, 3), (62, .putfield 57, 3)],
  [(65, .aload_n 0, 1), (66, .aload_n 0, 1), (67, .getfield 20, 3), (70, .putfield 221, 3), (73, .aload_n 0, 1), (74, .aload_n 0, 1), (75, .getfield 67, 3), (78, .putfield 224, 3)],
  [(81, .aload_n 0, 1), (82, .aload_n 0, 1), (83, .getfield 138, 3), (86, .putfield 227, 3), (89, .aload_n 0, 1), (90, .getfield 138, 3), (93, .ireturn, 1)]]
def mX6_image : x_M := (yX6_image, prog_8_method_62_code, 2, (some .int), kX6_image, IX6)
set_option maxRecDepth 100000 in
theorem decX6_image : x_dec mX6_image := by unfold x_dec; decide +kernel
theorem gX6_image : x_good mX6_image := ⟨plX6, decX6_image, okX6, rfl, x_k4 (List.mem_of_getElem? (i := 196) rfl) rfl, iniX6, mhX6, vhX6⟩
theorem vX6_image : Cond.instanceMethod yX6_image ∈ x_tb ∧ Cond.selects RX6 yX6_image yX6_image ∈ x_tb := ⟨x_k4 (List.mem_of_getElem? (i := 194) rfl) rfl, x_k4 (List.mem_of_getElem? (i := 195) rfl) rfl⟩
def kX6_on : List (List (Nat × Instr × Nat)) := [[(0, .aload_n 0, 1), (1, .getfield 57, 3), (4, .ifCond .ge 10, 3), (7, .aload_n 0, 1), (8, .bipush (-3), 2), (10, .invokevirtual 110, 3), (13, .ireturn, 1), (14, .iconst 0, 1), (15, .istore_n 1, 1)],
  [(16, .iload_n 1, 1), (17, .bipush 12, 2), (19, .if_icmp .ge 21, 3), (22, .aload_n 0, 1), (23, .getfield 35, 3), (26, .iload_n 1, 1), (27, .aload_n 0, 1), (28, .getfield 51, 3), (31, .iload_n 1, 1)],
  [(32, .iaload, 1), (33, .iastore, 1), (34, .iinc 1 1, 3), (37, .goto (-21), 3), (40, .aload_n 0, 1), (41, .iconst 0, 1), (42, .invokevirtual 160, 3), (45, .iconst 0, 1), (46, .istore_n 1, 1), (47, .iload_n 1, 1)],
  [(48, .bipush 9, 2), (50, .if_icmp .ge 21, 3), (53, .aload_n 0, 1), (54, .getfield 13, 3), (57, .iload_n 1, 1), (58, .aload_n 0, 1), (59, .getfield 54, 3), (62, .iload_n 1, 1), (63, .iaload, 1)],
  [(64, .iastore, 1), (65, .iinc 1 1, 3), (68, .goto (-21), 3), (71, .aload_n 0, 1), (72, .aload_n 0, 1), (73, .getfield 57, 3), (76, .putfield 60, 3), (79, .aload_n 0, 1)],
  [(80, .aload_n 0, 1), (81, .getfield 221, 3), (84, .putfield 20, 3), (87, .aload_n 0, 1), (88, .aload_n 0, 1), (89, .getfield 224, 3), (92, .putfield 67, 3), (95, .aload_n 0, 1)],
  [(96, .aload_n 0, 1), (97, .getfield 227, 3), (100, .putfield 138, 3), (103, .aload_n 0, 1), (104, .getfield 138, 3), (107, .ireturn, 1)]]
def mX6_on : x_M := (yX6_on, prog_8_method_63_code, 2, (some .int), kX6_on, IX6)
set_option maxRecDepth 100000 in
theorem decX6_on : x_dec mX6_on := by unfold x_dec; decide +kernel
theorem gX6_on : x_good mX6_on := ⟨plX6, decX6_on, okX6, rfl, x_k4 (List.mem_of_getElem? (i := 200) rfl) rfl, iniX6, mhX6, vhX6⟩
theorem vX6_on : Cond.instanceMethod yX6_on ∈ x_tb ∧ Cond.selects RX6 yX6_on yX6_on ∈ x_tb := ⟨x_k4 (List.mem_of_getElem? (i := 198) rfl) rfl, x_k4 (List.mem_of_getElem? (i := 199) rfl) rfl⟩
def kX6_count : List (List (Nat × Instr × Nat)) := [[(0, .iload_n 1, 1), (1, .i2l, 1), (2, .ldc2_w 230, 3), (5, .ldc2_w 232, 3), (8, .invokestatic 63, 3), (11, .ifCond .eq 13, 3), (14, .aload_n 0, 1), (15, .getfield 26, 3)],
  [(18, .iload_n 1, 1), (19, .bipush 11, 2), (21, .isub, 1), (22, .iaload, 1), (23, .ireturn, 1), (24, .iload_n 1, 1), (25, .i2l, 1), (26, .lconst 0, 1), (27, .ldc2_w 234, 3), (30, .invokestatic 63, 3)],
  [(33, .ifCond .ne 6, 3), (36, .bipush (-9), 2), (38, .ireturn, 1), (39, .iload_n 1, 1), (40, .iconst 4, 1), (41, .if_icmp .ge 35, 3), (44, .iload_n 1, 1), (45, .ifCond .ne 10, 3)],
  [(48, .aload_n 0, 1), (49, .getfield 60, 3), (52, .goto 23, 3), (55, .iload_n 1, 1), (56, .iconst 1, 1), (57, .if_icmp .ne 10, 3), (60, .aload_n 0, 1), (61, .invokevirtual 169, 3)],
  [(64, .goto 11, 3), (67, .aload_n 0, 1), (68, .getfield 23, 3), (71, .iload_n 1, 1), (72, .iconst 2, 1), (73, .isub, 1), (74, .iaload, 1), (75, .ireturn, 1), (76, .iload_n 1, 1), (77, .iconst 4, 1), (78, .if_icmp .ne 10, 3)],
  [(81, .aload_n 0, 1), (82, .getfield 100, 3), (85, .goto 58, 3), (88, .iload_n 1, 1), (89, .iconst 5, 1), (90, .if_icmp .ne 10, 3), (93, .aload_n 0, 1), (94, .getfield 138, 3)],
  [(97, .goto 46, 3), (100, .iload_n 1, 1), (101, .bipush 6, 2), (103, .if_icmp .ne 10, 3), (106, .aload_n 0, 1), (107, .getfield 20, 3), (110, .goto 33, 3)],
  [(113, .iload_n 1, 1), (114, .bipush 7, 2), (116, .if_icmp .ne 10, 3), (119, .aload_n 0, 1), (120, .getfield 67, 3), (123, .goto 20, 3), (126, .iload_n 1, 1), (127, .bipush 8, 2)],
  [(129, .if_icmp .ne 10, 3), (132, .aload_n 0, 1), (133, .getfield 203, 3), (136, .goto 7, 3), (139, .aload_n 0, 1), (140, .getfield 113, 3), (143, .ireturn, 1)]]
def mX6_count : x_M := (yX6_count, prog_8_method_64_code, 2, (some .int), kX6_count, IX6)
set_option maxRecDepth 100000 in
theorem decX6_count : x_dec mX6_count := by unfold x_dec; decide +kernel
theorem gX6_count : x_good mX6_count := ⟨plX6, decX6_count, okX6, rfl, x_k4 (List.mem_of_getElem? (i := 204) rfl) rfl, iniX6, mhX6, vhX6⟩
theorem vX6_count : Cond.instanceMethod yX6_count ∈ x_tb ∧ Cond.selects RX6 yX6_count yX6_count ∈ x_tb := ⟨x_k4 (List.mem_of_getElem? (i := 202) rfl) rfl, x_k4 (List.mem_of_getElem? (i := 203) rfl) rfl⟩
theorem sX6_7 : Cond.methodLink RX6 7 objectInit ∈ x_tb := x_k3 (List.mem_of_getElem? (i := 95) rfl) rfl
theorem sX6_110 : x_sV RX6 110 mX6_refuse 1 6 := ⟨x_k3 (List.mem_of_getElem? (i := 196) rfl) rfl, vX6_refuse.1, vX6_refuse.2, x_pd6, (RX6, TX6, 32), rfl, rfl⟩
theorem sX6_151 : x_sV RX6 151 mX6_passes 1 6 := ⟨x_k3 (List.mem_of_getElem? (i := 204) rfl) rfl, vX6_passes.1, vX6_passes.2, x_pd6, (RX6, TX6, 32), rfl, rfl⟩
theorem sX6_116 : x_sV RX6 116 mX6_letterAt 1 6 := ⟨x_k3 (List.mem_of_getElem? (i := 208) rfl) rfl, vX6_letterAt.1, vX6_letterAt.2, x_pd6, (RX6, TX6, 32), rfl, rfl⟩
theorem sX6_122 : x_sS RX6 122 mX6_kindOf 1 := ⟨x_k3 (List.mem_of_getElem? (i := 212) rfl) rfl, vX6_kindOf, x_pd6⟩
theorem sX6_128 : x_sV RX6 128 mX6_digitsFrom 2 6 := ⟨x_k3 (List.mem_of_getElem? (i := 215) rfl) rfl, vX6_digitsFrom.1, vX6_digitsFrom.2, x_pd13, (RX6, TX6, 32), rfl, rfl⟩
theorem sX6_119 : x_sS RX6 119 mX6_isDigit 1 := ⟨x_k3 (List.mem_of_getElem? (i := 219) rfl) rfl, vX6_isDigit, x_pd4⟩
theorem sX6_154 : x_sV RX6 154 mX6_keeps 1 6 := ⟨x_k3 (List.mem_of_getElem? (i := 222) rfl) rfl, vX6_keeps.1, vX6_keeps.2, x_pd5, (RX6, TX6, 32), rfl, rfl⟩
theorem sX6_157 : x_sV RX6 157 mX6_does 1 6 := ⟨x_k3 (List.mem_of_getElem? (i := 226) rfl) rfl, vX6_does.1, vX6_does.2, x_pd4, (RX6, TX6, 32), rfl, rfl⟩
theorem sX6_132 : x_sV RX6 132 mX6_digit 1 6 := ⟨x_k3 (List.mem_of_getElem? (i := 230) rfl) rfl, vX6_digit.1, vX6_digit.2, x_pd6, (RX6, TX6, 32), rfl, rfl⟩
theorem sX6_144 : x_sV RX6 144 mX6_doesSowings 1 6 := ⟨x_k3 (List.mem_of_getElem? (i := 234) rfl) rfl, vX6_doesSowings.1, vX6_doesSowings.2, x_pd4, (RX6, TX6, 32), rfl, rfl⟩
theorem sX6_135 : x_sV RX6 135 mX6_canMove 1 6 := ⟨x_k3 (List.mem_of_getElem? (i := 238) rfl) rfl, vX6_canMove.1, vX6_canMove.2, x_pd4, (RX6, TX6, 32), rfl, rfl⟩
theorem sX6_103 : x_sV RX6 103 mX6_isBowl 1 6 := ⟨x_k4 (List.mem_of_getElem? (i := 2) rfl) rfl, vX6_isBowl.1, vX6_isBowl.2, x_pd4, (RX6, TX6, 32), rfl, rfl⟩
theorem sX6_63 : x_sS RX6 63 mX6_in 3 := ⟨x_k4 (List.mem_of_getElem? (i := 6) rfl) rfl, vX6_in, x_pd24⟩
theorem sX6_141 : x_sV RX6 141 mX6_moves 1 6 := ⟨x_k4 (List.mem_of_getElem? (i := 9) rfl) rfl, vX6_moves.1, vX6_moves.2, x_pd5, (RX6, TX6, 32), rfl, rfl⟩
theorem sX6_106 : x_sV RX6 106 mX6_sows 1 6 := ⟨x_k4 (List.mem_of_getElem? (i := 13) rfl) rfl, vX6_sows.1, vX6_sows.2, x_pd5, (RX6, TX6, 32), rfl, rfl⟩
theorem sX6_90 : x_sV RX6 90 mX6_sowsHand 1 6 := ⟨x_k4 (List.mem_of_getElem? (i := 17) rfl) rfl, vX6_sowsHand.1, vX6_sowsHand.2, x_pd6, (RX6, TX6, 32), rfl, rfl⟩
theorem sX6_70 : x_sV RX6 70 mX6_beside 1 6 := ⟨x_k4 (List.mem_of_getElem? (i := 21) rfl) rfl, vX6_beside.1, vX6_beside.2, x_pd6, (RX6, TX6, 32), rfl, rfl⟩
theorem sX6_74 : x_sV RX6 74 mX6_takes 1 6 := ⟨x_k4 (List.mem_of_getElem? (i := 25) rfl) rfl, vX6_takes.1, vX6_takes.2, x_pd4, (RX6, TX6, 32), rfl, rfl⟩
theorem sX6_93 : x_sV RX6 93 mX6_soundsFrom 1 6 := ⟨x_k4 (List.mem_of_getElem? (i := 29) rfl) rfl, vX6_soundsFrom.1, vX6_soundsFrom.2, x_pd6, (RX6, TX6, 32), rfl, rfl⟩
theorem sX6_147 : x_sV RX6 147 mX6_exchanges 2 6 := ⟨x_k4 (List.mem_of_getElem? (i := 33) rfl) rfl, vX6_exchanges.1, vX6_exchanges.2, x_pd16, (RX6, TX6, 32), rfl, rfl⟩
theorem sX6_160 : x_sV RX6 160 mX6_lays 1 6 := ⟨x_k4 (List.mem_of_getElem? (i := 37) rfl) rfl, vX6_lays.1, vX6_lays.2, x_pd5, (RX6, TX6, 32), rfl, rfl⟩
theorem sX6_169 : x_sV RX6 169 mX6_all 0 6 := ⟨x_k4 (List.mem_of_getElem? (i := 64) rfl) rfl, vX6_all.1, vX6_all.2, x_pd12, (RX6, TX6, 32), rfl, rfl⟩
theorem sX6_173 : x_sV RX6 173 mX6_seeks 2 6 := ⟨x_k4 (List.mem_of_getElem? (i := 84) rfl) rfl, vX6_seeks.1, vX6_seeks.2, x_pd13, (RX6, TX6, 32), rfl, rfl⟩
theorem sX6_180 : x_sV RX6 180 mX6_told 1 6 := ⟨x_k4 (List.mem_of_getElem? (i := 92) rfl) rfl, vX6_told.1, vX6_told.2, x_pd6, (RX6, TX6, 32), rfl, rfl⟩
theorem sX6_183 : x_sV RX6 183 mX6_worthOf 1 6 := ⟨x_k4 (List.mem_of_getElem? (i := 97) rfl) rfl, vX6_worthOf.1, vX6_worthOf.2, x_pd6, (RX6, TX6, 32), rfl, rfl⟩
theorem sX6_189 : x_sV RX6 189 mX6_records200 1 6 := ⟨x_k4 (List.mem_of_getElem? (i := 109) rfl) rfl, vX6_records200.1, vX6_records200.2, x_pd6, (RX6, TX6, 32), rfl, rfl⟩
theorem sX6_186 : x_sV RX6 186 mX6_records 1 6 := ⟨x_k4 (List.mem_of_getElem? (i := 113) rfl) rfl, vX6_records.1, vX6_records.2, x_pd5, (RX6, TX6, 32), rfl, rfl⟩
theorem sX6_192 : x_sV RX6 192 mX6_isLike 2 6 := ⟨x_k4 (List.mem_of_getElem? (i := 117) rfl) rfl, vX6_isLike.1, vX6_isLike.2, x_pd15, (RX6, TX6, 32), rfl, rfl⟩
theorem sX6_196 : x_sV RX6 196 mX6_isEmptied 3 6 := ⟨x_k4 (List.mem_of_getElem? (i := 129) rfl) rfl, vX6_isEmptied.1, vX6_isEmptied.2, x_pd25, (RX6, TX6, 32), rfl, rfl⟩
theorem sX6_200 : x_sV RX6 200 mX6_worthBy 2 6 := ⟨x_k4 (List.mem_of_getElem? (i := 137) rfl) rfl, vX6_worthBy.1, vX6_worthBy.2, x_pd13, (RX6, TX6, 32), rfl, rfl⟩
theorem sX6_208 : x_sV RX6 208 mX6_isRow 0 6 := ⟨x_k4 (List.mem_of_getElem? (i := 157) rfl) rfl, vX6_isRow.1, vX6_isRow.2, x_pd17, (RX6, TX6, 32), rfl, rfl⟩
theorem sX6_212 : x_sV RX6 212 mX6_waysOf 1 6 := ⟨x_k4 (List.mem_of_getElem? (i := 161) rfl) rfl, vX6_waysOf.1, vX6_waysOf.2, x_pd6, (RX6, TX6, 32), rfl, rfl⟩
theorem sX6_215 : x_sV RX6 215 mX6_plays 0 6 := ⟨x_k4 (List.mem_of_getElem? (i := 178) rfl) rfl, vX6_plays.1, vX6_plays.2, x_pd12, (RX6, TX6, 32), rfl, rfl⟩
