section
-- == 08.steps
section STEPS
variable {E : x_E} {R : Room} {me : x_M} {QQ : List Frame → Array Value → State → State → Prop} {pc : Nat} {lv : x_L} {st : List Value} {z : Nat} {f : x_H} {cl sl : Nat}
theorem x_iconst {pc' : Nat} {n : Int} {v : Int32} (hc : x_at me pc = some (.iconst n, 1)) (hp : pc + 1 = pc') (hv : Int32.ofInt n = v) (k : X E R me QQ pc' lv (.int v :: st) z f cl sl) : X E R me QQ pc lv st z f cl sl := by
  subst hp
  intro p e s m args below meth c H locs ls cx hz hP hS hl
  exact lv_iconst cx.1 cx.2.1 (x_dec_at cx.2.2.2.2.2.2.2.2.2.2.1 hc) hv (k p e s m args below meth c H locs ls cx hz hP hS hl)
theorem x_bipush {pc' : Nat} {n : Int} {v : Int32} (hc : x_at me pc = some (.bipush n, 2)) (hp : pc + 2 = pc') (hv : (Int8.ofInt n).toInt32 = v) (k : X E R me QQ pc' lv (.int v :: st) z f cl sl) : X E R me QQ pc lv st z f cl sl := by
  subst hp
  intro p e s m args below meth c H locs ls cx hz hP hS hl
  exact lv_bipush cx.1 cx.2.1 (x_dec_at cx.2.2.2.2.2.2.2.2.2.2.1 hc) hv (k p e s m args below meth c H locs ls cx hz hP hS hl)
theorem x_sipush {pc' : Nat} {n : Int} {v : Int32} (hc : x_at me pc = some (.sipush n, 3)) (hp : pc + 3 = pc') (hv : (Int16.ofInt n).toInt32 = v) (k : X E R me QQ pc' lv (.int v :: st) z f cl sl) : X E R me QQ pc lv st z f cl sl := by
  subst hp
  intro p e s m args below meth c H locs ls cx hz hP hS hl
  exact lv_sipush cx.1 cx.2.1 (x_dec_at cx.2.2.2.2.2.2.2.2.2.2.1 hc) hv (k p e s m args below meth c H locs ls cx hz hP hS hl)
theorem x_lconst {pc' : Nat} {n : Fin 2} {v : Int64} (hc : x_at me pc = some (.lconst n, 1)) (hp : pc + 1 = pc') (hv : Int64.ofNat (n : Nat) = v) (k : X E R me QQ pc' lv (.long v :: st) z f cl sl) : X E R me QQ pc lv st z f cl sl := by
  subst hp
  intro p e s m args below meth c H locs ls cx hz hP hS hl
  exact lv_lconst cx.1 cx.2.1 (x_dec_at cx.2.2.2.2.2.2.2.2.2.2.1 hc) hv (k p e s m args below meth c H locs ls cx hz hP hS hl)
theorem x_iadd {pc' : Nat} {x y : Int32} (hc : x_at me pc = some (.iadd, 1)) (hp : pc + 1 = pc')  (k : X E R me QQ pc' lv (.int (x + y) :: st) z f cl sl) : X E R me QQ pc lv (.int y :: .int x :: st) z f cl sl := by
  subst hp
  intro p e s m args below meth c H locs ls cx hz hP hS hl
  exact lv_iadd cx.1 cx.2.1 (x_dec_at cx.2.2.2.2.2.2.2.2.2.2.1 hc)  (k p e s m args below meth c H locs ls cx hz hP hS hl)
theorem x_isub {pc' : Nat} {x y : Int32} (hc : x_at me pc = some (.isub, 1)) (hp : pc + 1 = pc')  (k : X E R me QQ pc' lv (.int (x - y) :: st) z f cl sl) : X E R me QQ pc lv (.int y :: .int x :: st) z f cl sl := by
  subst hp
  intro p e s m args below meth c H locs ls cx hz hP hS hl
  exact lv_isub cx.1 cx.2.1 (x_dec_at cx.2.2.2.2.2.2.2.2.2.2.1 hc)  (k p e s m args below meth c H locs ls cx hz hP hS hl)
theorem x_imul {pc' : Nat} {x y : Int32} (hc : x_at me pc = some (.imul, 1)) (hp : pc + 1 = pc')  (k : X E R me QQ pc' lv (.int (x * y) :: st) z f cl sl) : X E R me QQ pc lv (.int y :: .int x :: st) z f cl sl := by
  subst hp
  intro p e s m args below meth c H locs ls cx hz hP hS hl
  exact lv_imul cx.1 cx.2.1 (x_dec_at cx.2.2.2.2.2.2.2.2.2.2.1 hc)  (k p e s m args below meth c H locs ls cx hz hP hS hl)
theorem x_iand {pc' : Nat} {x y : Int32} (hc : x_at me pc = some (.iand, 1)) (hp : pc + 1 = pc')  (k : X E R me QQ pc' lv (.int (x &&& y) :: st) z f cl sl) : X E R me QQ pc lv (.int y :: .int x :: st) z f cl sl := by
  subst hp
  intro p e s m args below meth c H locs ls cx hz hP hS hl
  exact lv_iand cx.1 cx.2.1 (x_dec_at cx.2.2.2.2.2.2.2.2.2.2.1 hc)  (k p e s m args below meth c H locs ls cx hz hP hS hl)
theorem x_ior {pc' : Nat} {x y : Int32} (hc : x_at me pc = some (.ior, 1)) (hp : pc + 1 = pc')  (k : X E R me QQ pc' lv (.int (x ||| y) :: st) z f cl sl) : X E R me QQ pc lv (.int y :: .int x :: st) z f cl sl := by
  subst hp
  intro p e s m args below meth c H locs ls cx hz hP hS hl
  exact lv_ior cx.1 cx.2.1 (x_dec_at cx.2.2.2.2.2.2.2.2.2.2.1 hc)  (k p e s m args below meth c H locs ls cx hz hP hS hl)
theorem x_ishl {pc' : Nat} {x y : Int32} (hc : x_at me pc = some (.ishl, 1)) (hp : pc + 1 = pc')  (k : X E R me QQ pc' lv (.int (x <<< (y &&& 31)) :: st) z f cl sl) : X E R me QQ pc lv (.int y :: .int x :: st) z f cl sl := by
  subst hp
  intro p e s m args below meth c H locs ls cx hz hP hS hl
  exact lv_ishl cx.1 cx.2.1 (x_dec_at cx.2.2.2.2.2.2.2.2.2.2.1 hc)  (k p e s m args below meth c H locs ls cx hz hP hS hl)
theorem x_ishr {pc' : Nat} {x y : Int32} (hc : x_at me pc = some (.ishr, 1)) (hp : pc + 1 = pc')  (k : X E R me QQ pc' lv (.int (x >>> (y &&& 31)) :: st) z f cl sl) : X E R me QQ pc lv (.int y :: .int x :: st) z f cl sl := by
  subst hp
  intro p e s m args below meth c H locs ls cx hz hP hS hl
  exact lv_ishr cx.1 cx.2.1 (x_dec_at cx.2.2.2.2.2.2.2.2.2.2.1 hc)  (k p e s m args below meth c H locs ls cx hz hP hS hl)
theorem x_idiv {pc' : Nat} {x y : Int32} (hc : x_at me pc = some (.idiv, 1)) (hp : pc + 1 = pc') (hne : ¬ y = 0) (k : X E R me QQ pc' lv (.int (x / y) :: st) z f cl sl) : X E R me QQ pc lv (.int y :: .int x :: st) z f cl sl := by
  subst hp
  intro p e s m args below meth c H locs ls cx hz hP hS hl
  exact lv_idiv cx.1 cx.2.1 (x_dec_at cx.2.2.2.2.2.2.2.2.2.2.1 hc) hne (k p e s m args below meth c H locs ls cx hz hP hS hl)
theorem x_irem {pc' : Nat} {x y : Int32} (hc : x_at me pc = some (.irem, 1)) (hp : pc + 1 = pc') (hne : ¬ y = 0) (k : X E R me QQ pc' lv (.int (x - x / y * y) :: st) z f cl sl) : X E R me QQ pc lv (.int y :: .int x :: st) z f cl sl := by
  subst hp
  intro p e s m args below meth c H locs ls cx hz hP hS hl
  exact lv_irem cx.1 cx.2.1 (x_dec_at cx.2.2.2.2.2.2.2.2.2.2.1 hc) hne (k p e s m args below meth c H locs ls cx hz hP hS hl)
theorem x_ineg {pc' : Nat} {x : Int32} (hc : x_at me pc = some (.ineg, 1)) (hp : pc + 1 = pc')  (k : X E R me QQ pc' lv (.int (-x) :: st) z f cl sl) : X E R me QQ pc lv (.int x :: st) z f cl sl := by
  subst hp
  intro p e s m args below meth c H locs ls cx hz hP hS hl
  exact lv_ineg cx.1 cx.2.1 (x_dec_at cx.2.2.2.2.2.2.2.2.2.2.1 hc)  (k p e s m args below meth c H locs ls cx hz hP hS hl)
theorem x_ladd {pc' : Nat} {x y : Int64} (hc : x_at me pc = some (.ladd, 1)) (hp : pc + 1 = pc')  (k : X E R me QQ pc' lv (.long (x + y) :: st) z f cl sl) : X E R me QQ pc lv (.long y :: .long x :: st) z f cl sl := by
  subst hp
  intro p e s m args below meth c H locs ls cx hz hP hS hl
  exact lv_ladd cx.1 cx.2.1 (x_dec_at cx.2.2.2.2.2.2.2.2.2.2.1 hc)  (k p e s m args below meth c H locs ls cx hz hP hS hl)
theorem x_lsub {pc' : Nat} {x y : Int64} (hc : x_at me pc = some (.lsub, 1)) (hp : pc + 1 = pc')  (k : X E R me QQ pc' lv (.long (x - y) :: st) z f cl sl) : X E R me QQ pc lv (.long y :: .long x :: st) z f cl sl := by
  subst hp
  intro p e s m args below meth c H locs ls cx hz hP hS hl
  exact lv_lsub cx.1 cx.2.1 (x_dec_at cx.2.2.2.2.2.2.2.2.2.2.1 hc)  (k p e s m args below meth c H locs ls cx hz hP hS hl)
theorem x_lmul {pc' : Nat} {x y : Int64} (hc : x_at me pc = some (.lmul, 1)) (hp : pc + 1 = pc')  (k : X E R me QQ pc' lv (.long (x * y) :: st) z f cl sl) : X E R me QQ pc lv (.long y :: .long x :: st) z f cl sl := by
  subst hp
  intro p e s m args below meth c H locs ls cx hz hP hS hl
  exact lv_lmul cx.1 cx.2.1 (x_dec_at cx.2.2.2.2.2.2.2.2.2.2.1 hc)  (k p e s m args below meth c H locs ls cx hz hP hS hl)
theorem x_land {pc' : Nat} {x y : Int64} (hc : x_at me pc = some (.land, 1)) (hp : pc + 1 = pc')  (k : X E R me QQ pc' lv (.long (x &&& y) :: st) z f cl sl) : X E R me QQ pc lv (.long y :: .long x :: st) z f cl sl := by
  subst hp
  intro p e s m args below meth c H locs ls cx hz hP hS hl
  exact lv_land cx.1 cx.2.1 (x_dec_at cx.2.2.2.2.2.2.2.2.2.2.1 hc)  (k p e s m args below meth c H locs ls cx hz hP hS hl)
theorem x_lor {pc' : Nat} {x y : Int64} (hc : x_at me pc = some (.lor, 1)) (hp : pc + 1 = pc')  (k : X E R me QQ pc' lv (.long (x ||| y) :: st) z f cl sl) : X E R me QQ pc lv (.long y :: .long x :: st) z f cl sl := by
  subst hp
  intro p e s m args below meth c H locs ls cx hz hP hS hl
  exact lv_lor cx.1 cx.2.1 (x_dec_at cx.2.2.2.2.2.2.2.2.2.2.1 hc)  (k p e s m args below meth c H locs ls cx hz hP hS hl)
theorem x_lshl {pc' : Nat} {x : Int64} {y : Int32} (hc : x_at me pc = some (.lshl, 1)) (hp : pc + 1 = pc')  (k : X E R me QQ pc' lv (.long (x <<< (y.toInt64 &&& 63)) :: st) z f cl sl) : X E R me QQ pc lv (.int y :: .long x :: st) z f cl sl := by
  subst hp
  intro p e s m args below meth c H locs ls cx hz hP hS hl
  exact lv_lshl cx.1 cx.2.1 (x_dec_at cx.2.2.2.2.2.2.2.2.2.2.1 hc) rfl (k p e s m args below meth c H locs ls cx hz hP hS hl)
theorem x_lushr {pc' : Nat} {x : Int64} {y : Int32} (hc : x_at me pc = some (.lushr, 1)) (hp : pc + 1 = pc')  (k : X E R me QQ pc' lv (.long (x.toUInt64 >>> (y.toInt64.toUInt64 &&& Int64.toUInt64 63)).toInt64 :: st) z f cl sl) : X E R me QQ pc lv (.int y :: .long x :: st) z f cl sl := by
  subst hp
  intro p e s m args below meth c H locs ls cx hz hP hS hl
  exact lv_lushr cx.1 cx.2.1 (x_dec_at cx.2.2.2.2.2.2.2.2.2.2.1 hc) rfl (k p e s m args below meth c H locs ls cx hz hP hS hl)
theorem x_i2l {pc' : Nat} {x : Int32} (hc : x_at me pc = some (.i2l, 1)) (hp : pc + 1 = pc')  (k : X E R me QQ pc' lv (.long x.toInt64 :: st) z f cl sl) : X E R me QQ pc lv (.int x :: st) z f cl sl := by
  subst hp
  intro p e s m args below meth c H locs ls cx hz hP hS hl
  exact lv_i2l cx.1 cx.2.1 (x_dec_at cx.2.2.2.2.2.2.2.2.2.2.1 hc) rfl (k p e s m args below meth c H locs ls cx hz hP hS hl)
theorem x_l2i {pc' : Nat} {x : Int64} (hc : x_at me pc = some (.l2i, 1)) (hp : pc + 1 = pc')  (k : X E R me QQ pc' lv (.int x.toInt32 :: st) z f cl sl) : X E R me QQ pc lv (.long x :: st) z f cl sl := by
  subst hp
  intro p e s m args below meth c H locs ls cx hz hP hS hl
  exact lv_l2i cx.1 cx.2.1 (x_dec_at cx.2.2.2.2.2.2.2.2.2.2.1 hc) rfl (k p e s m args below meth c H locs ls cx hz hP hS hl)
theorem x_lcmp {pc' : Nat} {x y : Int64} (hc : x_at me pc = some (.lcmp, 1)) (hp : pc + 1 = pc') (k : X E R me QQ pc' lv (.int (lg_cmp x y) :: st) z f cl sl) : X E R me QQ pc lv (.long y :: .long x :: st) z f cl sl := by
  subst hp
  intro p e s m args below meth c H locs ls cx hz hP hS hl
  exact W.lcmp cx.1 cx.2.1 (x_dec_at cx.2.2.2.2.2.2.2.2.2.2.1 hc) (k p e s m args below meth c H locs ls cx hz hP hS hl)
theorem x_dup {pc' : Nat} {v : Value} (hc : x_at me pc = some (.dup, 1)) (hp : pc + 1 = pc') (hv : v.category = 1) (k : X E R me QQ pc' lv (v :: v :: st) z f cl sl) : X E R me QQ pc lv (v :: st) z f cl sl := by
  subst hp
  intro p e s m args below meth c H locs ls cx hz hP hS hl
  exact lv_dup cx.1 cx.2.1 (x_dec_at cx.2.2.2.2.2.2.2.2.2.2.1 hc) (by rw [x_sh_cat]; exact hv) (k p e s m args below meth c H locs ls cx hz hP hS hl)
theorem x_pop {pc' : Nat} {v : Value} (hc : x_at me pc = some (.pop, 1)) (hp : pc + 1 = pc') (hv : v.category = 1) (k : X E R me QQ pc' lv st z f cl sl) : X E R me QQ pc lv (v :: st) z f cl sl := by
  subst hp
  intro p e s m args below meth c H locs ls cx hz hP hS hl
  exact lv_pop cx.1 cx.2.1 (x_dec_at cx.2.2.2.2.2.2.2.2.2.2.1 hc) (by rw [x_sh_cat]; exact hv) (k p e s m args below meth c H locs ls cx hz hP hS hl)
theorem x_dup2 {pc' : Nat} {v w : Value} (hc : x_at me pc = some (.dup2, 1)) (hp : pc + 1 = pc') (hv : v.category = 1) (hw : w.category = 1) (k : X E R me QQ pc' lv (v :: w :: v :: w :: st) z f cl sl) : X E R me QQ pc lv (v :: w :: st) z f cl sl := by
  subst hp
  intro p e s m args below meth c H locs ls cx hz hP hS hl
  exact lv_dup2_11 cx.1 cx.2.1 (x_dec_at cx.2.2.2.2.2.2.2.2.2.2.1 hc) (by rw [x_sh_cat]; exact hv) (by rw [x_sh_cat]; exact hw) (k p e s m args below meth c H locs ls cx hz hP hS hl)
theorem x_dup2l {pc' : Nat} {v : Value} (hc : x_at me pc = some (.dup2, 1)) (hp : pc + 1 = pc') (hv : v.category = 2) (k : X E R me QQ pc' lv (v :: v :: st) z f cl sl) : X E R me QQ pc lv (v :: st) z f cl sl := by
  subst hp
  intro p e s m args below meth c H locs ls cx hz hP hS hl
  exact lv_dup2_2 cx.1 cx.2.1 (x_dec_at cx.2.2.2.2.2.2.2.2.2.2.1 hc) (by rw [x_sh_cat]; exact hv) (k p e s m args below meth c H locs ls cx hz hP hS hl)
theorem x_dup_x1 {pc' : Nat} {v w : Value} (hc : x_at me pc = some (.dup_x1, 1)) (hp : pc + 1 = pc') (hv : v.category = 1) (hw : w.category = 1) (k : X E R me QQ pc' lv (v :: w :: v :: st) z f cl sl) : X E R me QQ pc lv (v :: w :: st) z f cl sl := by
  subst hp
  intro p e s m args below meth c H locs ls cx hz hP hS hl
  exact lv_dup_x1 cx.1 cx.2.1 (x_dec_at cx.2.2.2.2.2.2.2.2.2.2.1 hc) (by rw [x_sh_cat]; exact hv) (by rw [x_sh_cat]; exact hw) (k p e s m args below meth c H locs ls cx hz hP hS hl)
theorem x_goto {off : Int} {tgt : Nat} (hc : x_at me pc = some (.goto off, 3)) (ht : (pc : Int) + off = (tgt : Int)) (k : X E R me QQ tgt lv st z f cl sl) : X E R me QQ pc lv st z f cl sl := by
  intro p e s m args below meth c H locs ls cx hz hP hS hl
  exact lv_goto cx.1 cx.2.1 (x_dec_at cx.2.2.2.2.2.2.2.2.2.2.1 hc) ht (k p e s m args below meth c H locs ls cx hz hP hS hl)
theorem x_lv_at {E : x_E} {lv : x_L} {ls : Array Slot} {nL i : Nat} {v : Value} (hl : lv_has ls nL (x_lv E lv)) (h : x_lk lv i = some v) : ls[i]? = some (.val (x_sh E v)) := by
  have h1 := x_lk_mem _ _ _ h
  have h2 : (i, x_sh E v) ∈ x_lv E lv := List.mem_map.mpr ⟨_, h1, rfl⟩
  exact hl.2.2 _ h2
theorem x_iload {pc' : Nat} {i : Nat} {x : Int32} (hc : x_at me pc = some (.iload i, 2)) (hp : pc + 2 = pc') (h : x_lk lv i = some (.int x)) (k : X E R me QQ pc' lv (.int x :: st) z f cl sl) : X E R me QQ pc lv st z f cl sl := by
  subst hp
  intro p e s m args below meth c H locs ls cx hz hP hS hl
  exact lv_iload cx.1 cx.2.1 (x_dec_at cx.2.2.2.2.2.2.2.2.2.2.1 hc) (x_lv_at hl h) (k p e s m args below meth c H locs ls cx hz hP hS hl)
theorem x_iload_n {pc' : Nat} {i : Fin 4} {x : Int32} (hc : x_at me pc = some (.iload_n i, 1)) (hp : pc + 1 = pc') (h : x_lk lv i.val = some (.int x)) (k : X E R me QQ pc' lv (.int x :: st) z f cl sl) : X E R me QQ pc lv st z f cl sl := by
  subst hp
  intro p e s m args below meth c H locs ls cx hz hP hS hl
  exact lv_iload_n cx.1 cx.2.1 (x_dec_at cx.2.2.2.2.2.2.2.2.2.2.1 hc) rfl (x_lv_at hl h) (k p e s m args below meth c H locs ls cx hz hP hS hl)
theorem x_lload {pc' : Nat} {i : Nat} {x : Int64} (hc : x_at me pc = some (.lload i, 2)) (hp : pc + 2 = pc') (h : x_lk lv i = some (.long x)) (k : X E R me QQ pc' lv (.long x :: st) z f cl sl) : X E R me QQ pc lv st z f cl sl := by
  subst hp
  intro p e s m args below meth c H locs ls cx hz hP hS hl
  exact lv_lload cx.1 cx.2.1 (x_dec_at cx.2.2.2.2.2.2.2.2.2.2.1 hc) (x_lv_at hl h) (k p e s m args below meth c H locs ls cx hz hP hS hl)
theorem x_lload_n {pc' : Nat} {i : Fin 4} {x : Int64} (hc : x_at me pc = some (.lload_n i, 1)) (hp : pc + 1 = pc') (h : x_lk lv i.val = some (.long x)) (k : X E R me QQ pc' lv (.long x :: st) z f cl sl) : X E R me QQ pc lv st z f cl sl := by
  subst hp
  intro p e s m args below meth c H locs ls cx hz hP hS hl
  exact lv_lload_n cx.1 cx.2.1 (x_dec_at cx.2.2.2.2.2.2.2.2.2.2.1 hc) rfl (x_lv_at hl h) (k p e s m args below meth c H locs ls cx hz hP hS hl)
theorem x_aload {pc' : Nat} {i x : Nat} (hc : x_at me pc = some (.aload i, 2)) (hp : pc + 2 = pc') (h : x_lk lv i = some (.ref x)) (k : X E R me QQ pc' lv (.ref x :: st) z f cl sl) : X E R me QQ pc lv st z f cl sl := by
  subst hp
  intro p e s m args below meth c H locs ls cx hz hP hS hl
  exact lv_aload cx.1 cx.2.1 (x_dec_at cx.2.2.2.2.2.2.2.2.2.2.1 hc) (x_lv_at hl h) (k p e s m args below meth c H locs ls cx hz hP hS hl)
theorem x_aload_n {pc' : Nat} {i : Fin 4} {x : Nat} (hc : x_at me pc = some (.aload_n i, 1)) (hp : pc + 1 = pc') (h : x_lk lv i.val = some (.ref x)) (k : X E R me QQ pc' lv (.ref x :: st) z f cl sl) : X E R me QQ pc lv st z f cl sl := by
  subst hp
  intro p e s m args below meth c H locs ls cx hz hP hS hl
  exact lv_aload_n cx.1 cx.2.1 (x_dec_at cx.2.2.2.2.2.2.2.2.2.2.1 hc) rfl (x_lv_at hl h) (k p e s m args below meth c H locs ls cx hz hP hS hl)
theorem x_aload_ns {pc' : Nat} {i : Fin 4} {x : Nat} (hc : x_at me pc = some (.aload_n i, 1)) (hp : pc + 1 = pc') (h : x_lk lv i.val = some (.retAddr x)) (k : X E R me QQ pc' lv (.retAddr x :: st) z f cl sl) : X E R me QQ pc lv st z f cl sl := by
  subst hp
  intro p e s m args below meth c H locs ls cx hz hP hS hl
  exact lv_aload_n cx.1 cx.2.1 (x_dec_at cx.2.2.2.2.2.2.2.2.2.2.1 hc) rfl (x_lv_at hl h) (k p e s m args below meth c H locs ls cx hz hP hS hl)
def x_ls1 (lv : x_L) (i : Nat) (v : Value) : x_L := (i, v) :: lv.filter (fun q => !(q.1 == i) && !(q.1 + 1 == i && q.2.category == 2))
def x_ls2 (lv : x_L) (i : Nat) (v : Value) : x_L := (i, v) :: lv.filter (fun q => !(q.1 == i) && (!(q.1 == i + 1) && !(q.1 + 1 == i && q.2.category == 2)))
theorem x_ls1_lv (E : x_E) (lv : x_L) (i : Nat) (v : Value) : (i, x_sh E v) :: (x_lv E lv).filter (fun q => !(q.1 == i) && !(q.1 + 1 == i && q.2.category == 2)) = x_lv E (x_ls1 lv i v) := by
  unfold x_ls1 x_lv
  rw [List.map_cons, List.filter_map]
  congr 2
  congr 1
  funext q
  simp [x_sh_cat]
theorem x_ls2_lv (E : x_E) (lv : x_L) (i : Nat) (v : Value) : (i, x_sh E v) :: (x_lv E lv).filter (fun q => !(q.1 == i) && (!(q.1 == i + 1) && !(q.1 + 1 == i && q.2.category == 2))) = x_lv E (x_ls2 lv i v) := by
  unfold x_ls2 x_lv
  rw [List.map_cons, List.filter_map]
  congr 2
  congr 1
  funext q
  simp [x_sh_cat]
theorem x_istore {pc' : Nat} {i : Nat} {x : Int32} {lv' : x_L} (hc : x_at me pc = some (.istore i, 2)) (hp : pc + 2 = pc') (hi : i < me.2.2.1) (hv : x_ls1 lv i (.int x) = lv') (k : X E R me QQ pc' lv' st z f cl sl) : X E R me QQ pc lv (.int x :: st) z f cl sl := by
  subst hp
  intro p e s m args below meth c H locs ls cx hz hP hS hl
  subst hv
  exact lv_istore cx.1 cx.2.1 (x_dec_at cx.2.2.2.2.2.2.2.2.2.2.1 hc)  hl hi (x_ls1_lv E lv i (.int x)) (fun ls' hl' => k p e s m args below meth c H locs ls' cx hz hP hS hl')
theorem x_istore_n {pc' : Nat} {i : Fin 4} {x : Int32} {lv' : x_L} (hc : x_at me pc = some (.istore_n i, 1)) (hp : pc + 1 = pc') (hi : i.val < me.2.2.1) (hv : x_ls1 lv i.val (.int x) = lv') (k : X E R me QQ pc' lv' st z f cl sl) : X E R me QQ pc lv (.int x :: st) z f cl sl := by
  subst hp
  intro p e s m args below meth c H locs ls cx hz hP hS hl
  subst hv
  exact lv_istore_n cx.1 cx.2.1 (x_dec_at cx.2.2.2.2.2.2.2.2.2.2.1 hc) rfl hl hi (x_ls1_lv E lv i.val (.int x)) (fun ls' hl' => k p e s m args below meth c H locs ls' cx hz hP hS hl')
theorem x_astore {pc' : Nat} {i : Nat} {x : Nat} {lv' : x_L} (hc : x_at me pc = some (.astore i, 2)) (hp : pc + 2 = pc') (hi : i < me.2.2.1) (hv : x_ls1 lv i (.ref x) = lv') (k : X E R me QQ pc' lv' st z f cl sl) : X E R me QQ pc lv (.ref x :: st) z f cl sl := by
  subst hp
  intro p e s m args below meth c H locs ls cx hz hP hS hl
  subst hv
  exact lv_astore cx.1 cx.2.1 (x_dec_at cx.2.2.2.2.2.2.2.2.2.2.1 hc)  hl hi (x_ls1_lv E lv i (.ref x)) (fun ls' hl' => k p e s m args below meth c H locs ls' cx hz hP hS hl')
theorem x_astore_n {pc' : Nat} {i : Fin 4} {x : Nat} {lv' : x_L} (hc : x_at me pc = some (.astore_n i, 1)) (hp : pc + 1 = pc') (hi : i.val < me.2.2.1) (hv : x_ls1 lv i.val (.ref x) = lv') (k : X E R me QQ pc' lv' st z f cl sl) : X E R me QQ pc lv (.ref x :: st) z f cl sl := by
  subst hp
  intro p e s m args below meth c H locs ls cx hz hP hS hl
  subst hv
  exact lv_astore_n cx.1 cx.2.1 (x_dec_at cx.2.2.2.2.2.2.2.2.2.2.1 hc) rfl hl hi (x_ls1_lv E lv i.val (.ref x)) (fun ls' hl' => k p e s m args below meth c H locs ls' cx hz hP hS hl')
theorem x_lstore {pc' : Nat} {i : Nat} {x : Int64} {lv' : x_L} (hc : x_at me pc = some (.lstore i, 2)) (hp : pc + 2 = pc') (hi : i + 1 < me.2.2.1) (hv : x_ls2 lv i (.long x) = lv') (k : X E R me QQ pc' lv' st z f cl sl) : X E R me QQ pc lv (.long x :: st) z f cl sl := by
  subst hp
  intro p e s m args below meth c H locs ls cx hz hP hS hl
  subst hv
  exact lv_lstore cx.1 cx.2.1 (x_dec_at cx.2.2.2.2.2.2.2.2.2.2.1 hc)  hl hi (x_ls2_lv E lv i (.long x)) (fun ls' hl' => k p e s m args below meth c H locs ls' cx hz hP hS hl')
theorem x_lstore_n {pc' : Nat} {i : Fin 4} {x : Int64} {lv' : x_L} (hc : x_at me pc = some (.lstore_n i, 1)) (hp : pc + 1 = pc') (hi : i.val + 1 < me.2.2.1) (hv : x_ls2 lv i.val (.long x) = lv') (k : X E R me QQ pc' lv' st z f cl sl) : X E R me QQ pc lv (.long x :: st) z f cl sl := by
  subst hp
  intro p e s m args below meth c H locs ls cx hz hP hS hl
  subst hv
  exact lv_lstore_n cx.1 cx.2.1 (x_dec_at cx.2.2.2.2.2.2.2.2.2.2.1 hc) rfl hl hi (x_ls2_lv E lv i.val (.long x)) (fun ls' hl' => k p e s m args below meth c H locs ls' cx hz hP hS hl')
theorem x_iinc {pc' : Nat} {i : Nat} {n : Int} {x v : Int32} {lv' : x_L} (hc : x_at me pc = some (.iinc i n, 3)) (hp : pc + 3 = pc') (hi : i < me.2.2.1) (h : x_lk lv i = some (.int x)) (he : x + Int32.ofInt n = v) (hv : x_ls1 lv i (.int v) = lv') (k : X E R me QQ pc' lv' st z f cl sl) : X E R me QQ pc lv st z f cl sl := by
  subst hp
  intro p e s m args below meth c H locs ls cx hz hP hS hl
  subst hv
  have h1 : (i, Value.int x) ∈ x_lv E lv := List.mem_map.mpr ⟨_, x_lk_mem _ _ _ h, rfl⟩
  obtain ⟨q, hq⟩ := List.getElem?_of_mem h1
  exact lv_iinc cx.1 cx.2.1 (x_dec_at cx.2.2.2.2.2.2.2.2.2.2.1 hc) hl hq he hi (x_ls1_lv E lv i (.int v)) (fun ls' hl' => k p e s m args below meth c H locs ls' cx hz hP hS hl')
/-- the top by another name -/
theorem x_eqi {x y : Int32} (e : x = y) (k : X E R me QQ pc lv (.int y :: st) z f cl sl) : X E R me QQ pc lv (.int x :: st) z f cl sl := by
  subst e
  exact k
theorem x_eql {x y : Int64} (e : x = y) (k : X E R me QQ pc lv (.long y :: st) z f cl sl) : X E R me QQ pc lv (.long x :: st) z f cl sl := by
  subst e
  exact k
theorem x_if_eq {pc' : Nat} {x : Int32} {off : Int} {tgt : Nat} (hc : x_at me pc = some (.ifCond .eq off, 3)) (hp : pc + 3 = pc') (ht : (pc : Int) + off = (tgt : Int)) (kt : x = 0 → X E R me QQ tgt lv st z f cl sl) (kf : ¬ x = 0 → X E R me QQ pc' lv st z f cl sl) : X E R me QQ pc lv (.int x :: st) z f cl sl := by
  subst hp
  intro p e s m args below meth c H locs ls cx hz hP hS hl
  exact lv_if_eq cx.1 cx.2.1 (x_dec_at cx.2.2.2.2.2.2.2.2.2.2.1 hc) ht (fun h => kt h p e s m args below meth c H locs ls cx hz hP hS hl) (fun h => kf h p e s m args below meth c H locs ls cx hz hP hS hl)
theorem x_icmp_eq {pc' : Nat} {x y : Int32} {off : Int} {tgt : Nat} (hc : x_at me pc = some (.if_icmp .eq off, 3)) (hp : pc + 3 = pc') (ht : (pc : Int) + off = (tgt : Int)) (kt : x = y → X E R me QQ tgt lv st z f cl sl) (kf : ¬ x = y → X E R me QQ pc' lv st z f cl sl) : X E R me QQ pc lv (.int y :: .int x :: st) z f cl sl := by
  subst hp
  intro p e s m args below meth c H locs ls cx hz hP hS hl
  exact lv_icmp_eq cx.1 cx.2.1 (x_dec_at cx.2.2.2.2.2.2.2.2.2.2.1 hc) ht (fun h => kt h p e s m args below meth c H locs ls cx hz hP hS hl) (fun h => kf h p e s m args below meth c H locs ls cx hz hP hS hl)
theorem x_if_ne {pc' : Nat} {x : Int32} {off : Int} {tgt : Nat} (hc : x_at me pc = some (.ifCond .ne off, 3)) (hp : pc + 3 = pc') (ht : (pc : Int) + off = (tgt : Int)) (kt : ¬ x = 0 → X E R me QQ tgt lv st z f cl sl) (kf : x = 0 → X E R me QQ pc' lv st z f cl sl) : X E R me QQ pc lv (.int x :: st) z f cl sl := by
  subst hp
  intro p e s m args below meth c H locs ls cx hz hP hS hl
  exact lv_if_ne cx.1 cx.2.1 (x_dec_at cx.2.2.2.2.2.2.2.2.2.2.1 hc) ht (fun h => kt h p e s m args below meth c H locs ls cx hz hP hS hl) (fun h => kf h p e s m args below meth c H locs ls cx hz hP hS hl)
theorem x_icmp_ne {pc' : Nat} {x y : Int32} {off : Int} {tgt : Nat} (hc : x_at me pc = some (.if_icmp .ne off, 3)) (hp : pc + 3 = pc') (ht : (pc : Int) + off = (tgt : Int)) (kt : ¬ x = y → X E R me QQ tgt lv st z f cl sl) (kf : x = y → X E R me QQ pc' lv st z f cl sl) : X E R me QQ pc lv (.int y :: .int x :: st) z f cl sl := by
  subst hp
  intro p e s m args below meth c H locs ls cx hz hP hS hl
  exact lv_icmp_ne cx.1 cx.2.1 (x_dec_at cx.2.2.2.2.2.2.2.2.2.2.1 hc) ht (fun h => kt h p e s m args below meth c H locs ls cx hz hP hS hl) (fun h => kf h p e s m args below meth c H locs ls cx hz hP hS hl)
theorem x_if_lt {pc' : Nat} {x : Int32} {off : Int} {tgt : Nat} (hc : x_at me pc = some (.ifCond .lt off, 3)) (hp : pc + 3 = pc') (ht : (pc : Int) + off = (tgt : Int)) (kt : x < 0 → X E R me QQ tgt lv st z f cl sl) (kf : ¬ x < 0 → X E R me QQ pc' lv st z f cl sl) : X E R me QQ pc lv (.int x :: st) z f cl sl := by
  subst hp
  intro p e s m args below meth c H locs ls cx hz hP hS hl
  exact lv_if_lt cx.1 cx.2.1 (x_dec_at cx.2.2.2.2.2.2.2.2.2.2.1 hc) ht (fun h => kt h p e s m args below meth c H locs ls cx hz hP hS hl) (fun h => kf h p e s m args below meth c H locs ls cx hz hP hS hl)
theorem x_icmp_lt {pc' : Nat} {x y : Int32} {off : Int} {tgt : Nat} (hc : x_at me pc = some (.if_icmp .lt off, 3)) (hp : pc + 3 = pc') (ht : (pc : Int) + off = (tgt : Int)) (kt : x < y → X E R me QQ tgt lv st z f cl sl) (kf : ¬ x < y → X E R me QQ pc' lv st z f cl sl) : X E R me QQ pc lv (.int y :: .int x :: st) z f cl sl := by
  subst hp
  intro p e s m args below meth c H locs ls cx hz hP hS hl
  exact lv_icmp_lt cx.1 cx.2.1 (x_dec_at cx.2.2.2.2.2.2.2.2.2.2.1 hc) ht (fun h => kt h p e s m args below meth c H locs ls cx hz hP hS hl) (fun h => kf h p e s m args below meth c H locs ls cx hz hP hS hl)
theorem x_if_ge {pc' : Nat} {x : Int32} {off : Int} {tgt : Nat} (hc : x_at me pc = some (.ifCond .ge off, 3)) (hp : pc + 3 = pc') (ht : (pc : Int) + off = (tgt : Int)) (kt : 0 ≤ x → X E R me QQ tgt lv st z f cl sl) (kf : ¬ 0 ≤ x → X E R me QQ pc' lv st z f cl sl) : X E R me QQ pc lv (.int x :: st) z f cl sl := by
  subst hp
  intro p e s m args below meth c H locs ls cx hz hP hS hl
  exact lv_if_ge cx.1 cx.2.1 (x_dec_at cx.2.2.2.2.2.2.2.2.2.2.1 hc) ht (fun h => kt h p e s m args below meth c H locs ls cx hz hP hS hl) (fun h => kf h p e s m args below meth c H locs ls cx hz hP hS hl)
theorem x_icmp_ge {pc' : Nat} {x y : Int32} {off : Int} {tgt : Nat} (hc : x_at me pc = some (.if_icmp .ge off, 3)) (hp : pc + 3 = pc') (ht : (pc : Int) + off = (tgt : Int)) (kt : y ≤ x → X E R me QQ tgt lv st z f cl sl) (kf : ¬ y ≤ x → X E R me QQ pc' lv st z f cl sl) : X E R me QQ pc lv (.int y :: .int x :: st) z f cl sl := by
  subst hp
  intro p e s m args below meth c H locs ls cx hz hP hS hl
  exact lv_icmp_ge cx.1 cx.2.1 (x_dec_at cx.2.2.2.2.2.2.2.2.2.2.1 hc) ht (fun h => kt h p e s m args below meth c H locs ls cx hz hP hS hl) (fun h => kf h p e s m args below meth c H locs ls cx hz hP hS hl)
theorem x_if_gt {pc' : Nat} {x : Int32} {off : Int} {tgt : Nat} (hc : x_at me pc = some (.ifCond .gt off, 3)) (hp : pc + 3 = pc') (ht : (pc : Int) + off = (tgt : Int)) (kt : 0 < x → X E R me QQ tgt lv st z f cl sl) (kf : ¬ 0 < x → X E R me QQ pc' lv st z f cl sl) : X E R me QQ pc lv (.int x :: st) z f cl sl := by
  subst hp
  intro p e s m args below meth c H locs ls cx hz hP hS hl
  exact lv_if_gt cx.1 cx.2.1 (x_dec_at cx.2.2.2.2.2.2.2.2.2.2.1 hc) ht (fun h => kt h p e s m args below meth c H locs ls cx hz hP hS hl) (fun h => kf h p e s m args below meth c H locs ls cx hz hP hS hl)
theorem x_icmp_gt {pc' : Nat} {x y : Int32} {off : Int} {tgt : Nat} (hc : x_at me pc = some (.if_icmp .gt off, 3)) (hp : pc + 3 = pc') (ht : (pc : Int) + off = (tgt : Int)) (kt : y < x → X E R me QQ tgt lv st z f cl sl) (kf : ¬ y < x → X E R me QQ pc' lv st z f cl sl) : X E R me QQ pc lv (.int y :: .int x :: st) z f cl sl := by
  subst hp
  intro p e s m args below meth c H locs ls cx hz hP hS hl
  exact lv_icmp_gt cx.1 cx.2.1 (x_dec_at cx.2.2.2.2.2.2.2.2.2.2.1 hc) ht (fun h => kt h p e s m args below meth c H locs ls cx hz hP hS hl) (fun h => kf h p e s m args below meth c H locs ls cx hz hP hS hl)
theorem x_if_le {pc' : Nat} {x : Int32} {off : Int} {tgt : Nat} (hc : x_at me pc = some (.ifCond .le off, 3)) (hp : pc + 3 = pc') (ht : (pc : Int) + off = (tgt : Int)) (kt : x ≤ 0 → X E R me QQ tgt lv st z f cl sl) (kf : ¬ x ≤ 0 → X E R me QQ pc' lv st z f cl sl) : X E R me QQ pc lv (.int x :: st) z f cl sl := by
  subst hp
  intro p e s m args below meth c H locs ls cx hz hP hS hl
  exact lv_if_le cx.1 cx.2.1 (x_dec_at cx.2.2.2.2.2.2.2.2.2.2.1 hc) ht (fun h => kt h p e s m args below meth c H locs ls cx hz hP hS hl) (fun h => kf h p e s m args below meth c H locs ls cx hz hP hS hl)
theorem x_icmp_le {pc' : Nat} {x y : Int32} {off : Int} {tgt : Nat} (hc : x_at me pc = some (.if_icmp .le off, 3)) (hp : pc + 3 = pc') (ht : (pc : Int) + off = (tgt : Int)) (kt : x ≤ y → X E R me QQ tgt lv st z f cl sl) (kf : ¬ x ≤ y → X E R me QQ pc' lv st z f cl sl) : X E R me QQ pc lv (.int y :: .int x :: st) z f cl sl := by
  subst hp
  intro p e s m args below meth c H locs ls cx hz hP hS hl
  exact lv_icmp_le cx.1 cx.2.1 (x_dec_at cx.2.2.2.2.2.2.2.2.2.2.1 hc) ht (fun h => kt h p e s m args below meth c H locs ls cx hz hP hS hl) (fun h => kf h p e s m args below meth c H locs ls cx hz hP hS hl)
theorem x_ifnonnull {x : Nat} {off : Int} {tgt : Nat} (hc : x_at me pc = some (.ifnonnull off, 3)) (ht : (pc : Int) + off = (tgt : Int)) (k : X E R me QQ tgt lv st z f cl sl) : X E R me QQ pc lv (.ref x :: st) z f cl sl := by
  intro p e s m args below meth c H locs ls cx hz hP hS hl
  exact lv_ifnonnull cx.1 cx.2.1 (x_dec_at cx.2.2.2.2.2.2.2.2.2.2.1 hc) ht (k p e s m args below meth c H locs ls cx hz hP hS hl)
theorem x_tableIn {dflt lo hi : Int} {offs : Array Int} {len : Nat} {x : Int32} {off : Int} {tgt : Nat} (hc : x_at me pc = some (.tableswitch dflt lo hi offs, len)) (h1 : ¬ x.toInt < lo) (h2 : ¬ hi < x.toInt) (ho : offs[(x.toInt - lo).toNat]? = some off) (ht : (pc : Int) + off = (tgt : Int)) (k : X E R me QQ tgt lv st z f cl sl) : X E R me QQ pc lv (.int x :: st) z f cl sl := by
  intro p e s m args below meth c H locs ls cx hz hP hS hl
  exact lv_tableIn cx.1 cx.2.1 (x_dec_at cx.2.2.2.2.2.2.2.2.2.2.1 hc) h1 h2 ho ht (k p e s m args below meth c H locs ls cx hz hP hS hl)
theorem x_tableOut {dflt lo hi : Int} {offs : Array Int} {len : Nat} {x : Int32} {tgt : Nat} (hc : x_at me pc = some (.tableswitch dflt lo hi offs, len)) (h : x.toInt < lo ∨ hi < x.toInt) (ht : (pc : Int) + dflt = (tgt : Int)) (k : X E R me QQ tgt lv st z f cl sl) : X E R me QQ pc lv (.int x :: st) z f cl sl := by
  intro p e s m args below meth c H locs ls cx hz hP hS hl
  exact lv_tableOut cx.1 cx.2.1 (x_dec_at cx.2.2.2.2.2.2.2.2.2.2.1 hc) h ht (k p e s m args below meth c H locs ls cx hz hP hS hl)
theorem x_lookup {dflt : Int} {ps : Array (Int × Int)} {len : Nat} {x : Int32} {off : Int} {tgt : Nat} (hc : x_at me pc = some (.lookupswitch dflt ps, len)) (hp : (ps.toList.zip (ps.toList.drop 1)).all (fun (a, next) => a.1 < next.1) = true) (ho : Op.lookupswitch.offset ps.toList dflt x.toInt = off) (ht : (pc : Int) + off = (tgt : Int)) (k : X E R me QQ tgt lv st z f cl sl) : X E R me QQ pc lv (.int x :: st) z f cl sl := by
  intro p e s m args below meth c H locs ls cx hz hP hS hl
  exact lv_lookup cx.1 cx.2.1 (x_dec_at cx.2.2.2.2.2.2.2.2.2.2.1 hc) hp ho ht (k p e s m args below meth c H locs ls cx hz hP hS hl)
theorem x_ldc {pc' : Nat} {i : Nat} {v : Int32} (hc : x_at me pc = some (.ldc i, 2)) (hp : pc + 2 = pc') (h : x_lk me.2.2.2.2.2.2.2.1 i = some v) (k : X E R me QQ pc' lv (.int v :: st) z f cl sl) : X E R me QQ pc lv st z f cl sl := by
  subst hp
  intro p e s m args below meth c H locs ls cx hz hP hS hl
  obtain ⟨hx, hb, hr, hml, hown, hts, hlk, hK, hbs, hin, hd, hI⟩ := id cx
  exact lv_ldc hx hb hown (hts _ (hI.2.1 _ (x_lk_mem _ _ _ h))) (x_dec_at hd hc) (k p e s m args below meth c H locs ls cx hz hP hS hl)
theorem x_ldc2 {pc' : Nat} {i : Nat} {v : Int64} (hc : x_at me pc = some (.ldc2_w i, 3)) (hp : pc + 3 = pc') (h : x_lk me.2.2.2.2.2.2.2.2.1 i = some v) (k : X E R me QQ pc' lv (.long v :: st) z f cl sl) : X E R me QQ pc lv st z f cl sl := by
  subst hp
  intro p e s m args below meth c H locs ls cx hz hP hS hl
  obtain ⟨hx, hb, hr, hml, hown, hts, hlk, hK, hbs, hin, hd, hI⟩ := id cx
  exact lv_ldc2 hx hb hown (hts _ (hI.2.2.1 _ (x_lk_mem _ _ _ h))) (x_dec_at hd hc) (k p e s m args below meth c H locs ls cx hz hP hS hl)
/-- an object, an array, in the abstract heap -/
def x_o (z : Nat) (f : x_H) (r ci : Nat) (fs : List Value) : Prop := r < z ∧ f r = .inr (ci, fs)
def x_a (z : Nat) (f : x_H) (r : Nat) (a : vp_A) : Prop := r < z ∧ f r = .inl a
theorem x_o_at {E : x_E} {z : Nat} {f : x_H} {r ci : Nat} {fs : List Value} (h : x_o z f r ci fs) : (x_w E z f)[r]? = some (E.2.2.2.1 + r, .inr (ci, fs.map (x_sh E))) := by
  rw [x_w_at h.1, h.2]
  rfl
theorem x_a_at {E : x_E} {z : Nat} {f : x_H} {r : Nat} {a : vp_A} (h : x_a z f r a) : (x_w E z f)[r]? = some (E.2.2.2.1 + r, .inl (E.2.2.1 (x_kd a), x_shA E a)) := by
  rw [x_w_at h.1, h.2]
  rfl
theorem x_get {pc' : Nat} {i r ci k0 : Nat} {nest : Bool} {fs : List Value} {v : Value} (hc : x_at me pc = some (.getfield i, 3)) (hp : pc + 3 = pc') (hL : x_lk me.2.2.2.2.2.2.1 i = some (ci, k0, nest)) (ho : x_o z f r ci fs) (hv : fs[k0]? = some v) (k : X E R me QQ pc' lv (v :: st) z f cl sl) : X E R me QQ pc lv (.ref r :: st) z f cl sl := by
  subst hp
  intro p e s m args below meth c H locs ls cx hz hP hS hl
  obtain ⟨hx, hb, hr, hml, hown, hts, hlk, hK, hbs, hin, hd, hI⟩ := id cx
  obtain ⟨q, hq, hk, h1, h2⟩ := hI.1 _ (x_lk_mem _ _ _ hL)
  dsimp only at hq hk h1 h2
  cases nest with
  | false => exact va_get hx hb hts (x_ws_in _ _ hq) hown hK.1 hP r (x_o_at ho) hq k0 hk (hts _ (h1 rfl)) (fun _ h => h) (v := x_sh E v) (by rw [List.getElem?_map, hv]; rfl) (x_dec_at hd hc) (k p e s m args below meth c H locs ls cx hz hP hS hl)
  | true => exact va_getN hx hb hts (x_ws_in _ _ hq) hown hK.1 hP r (x_o_at ho) hq k0 hk (va_Nw.use rfl (hK.2.1 _ (h2 rfl))) (fun _ h => h) (v := x_sh E v) (by rw [List.getElem?_map, hv]; rfl) (x_dec_at hd hc) (k p e s m args below meth c H locs ls cx hz hP hS hl)
theorem x_put {pc' : Nat} {i r ci k0 : Nat} {nest : Bool} {fs : List Value} {v : Value} {q : vw_C} (hc : x_at me pc = some (.putfield i, 3)) (hp : pc + 3 = pc') (hL : x_lk me.2.2.2.2.2.2.1 i = some (ci, k0, nest)) (ho : x_o z f r ci fs) (hl0 : k0 < fs.length) (hq : x_cl[ci]? = some q) (hfin : (q.2.1 k0).2.2.2 = false) (hn : narrow (x_ty ci k0) v = v) (hf : fits (x_ty ci k0) v = true) (k : ∀ f' : x_H, f' = x_up f r (.inr (ci, fs.set k0 v)) → X E R me QQ pc' lv st z f' cl sl) : X E R me QQ pc lv (v :: .ref r :: st) z f cl sl := by
  subst hp
  intro p e s m args below meth c H locs ls cx hz hP hS hl
  obtain ⟨hx, hb, hr, hml, hown, hts, hlk, hK, hbs, hin, hd, hI⟩ := id cx
  obtain ⟨q', hq', hk, h1, h2⟩ := hI.1 _ (x_lk_mem _ _ _ hL)
  dsimp only at hq' hk h1 h2
  cases hq.symm.trans hq'
  have hn' : narrow (x_ty ci k0) (x_sh E v) = x_sh E v := by
    cases v <;> first | exact hn | (unfold x_sh; cases x_ty ci k0 <;> rfl)
  have hf' : fits (x_ty ci k0) (x_sh E v) = true := by
    cases v <;> first | exact hf | (revert hf; unfold x_sh; cases x_ty ci k0 <;> intro h <;> first | rfl | cases h)
  have hw : (x_w E z f).set r (E.2.2.2.1 + r, .inr (ci, (fs.map (x_sh E)).set k0 (x_sh E v))) = x_w E z (x_up f r (.inr (ci, fs.set k0 v))) := by
    rw [← x_w_set]
    show _ = List.set _ _ (_, Sum.inr (ci, (fs.set k0 v).map (x_sh E)))
    rw [List.map_set]
  cases nest with
  | false =>
    refine va_put hx hb hts (x_ws_in _ _ hq) (x_ty ci) (x_ty_ok ci q hq).1 (x_ty_ok ci q hq).2 hown hK.1 hP (x_w_D E z f) hS r (x_o_at ho) hq k0 hk (hts _ (h1 rfl)) (fun _ h => h) hfin ((x_ty_ok ci q hq).1 k0 hk) hn' hf' (by rw [List.length_map]; exact hl0) (x_dec_at hd hc) (fun H1 locs1 hP1 _ hS1 => ?_)
    rw [hw] at hP1
    exact k _ rfl p e s m args below meth c H1 locs1 ls cx hz hP1 hS1 hl
  | true =>
    refine va_putN hx hb hts (x_ws_in _ _ hq) (x_ty ci) (x_ty_ok ci q hq).1 (x_ty_ok ci q hq).2 hown hK.1 hP (x_w_D E z f) hS r (x_o_at ho) hq k0 hk (va_Nw.use rfl (hK.2.1 _ (h2 rfl))) (fun _ h => h) hfin ((x_ty_ok ci q hq).1 k0 hk) hn' hf' (by rw [List.length_map]; exact hl0) (x_dec_at hd hc) (fun H1 locs1 hP1 _ hS1 => ?_)
    rw [hw] at hP1
    exact k _ rfl p e s m args below meth c H1 locs1 ls cx hz hP1 hS1 hl
theorem x_putF {pc' : Nat} {i r ci k0 : Nat} {fs : List Value} {v : Value} {q : vw_C} (hc : x_at me pc = some (.putfield i, 3)) (hp : pc + 3 = pc') (hL : x_lk me.2.2.2.2.2.2.1 i = some (ci, k0, false)) (ho : x_o z f r ci fs) (hl0 : k0 < fs.length) (hq : x_cl[ci]? = some q) (hfin : (q.2.1 k0).2.2.2 = true) (hin2 : me.1.name = "<init>") (hdecl : (q.2.1 k0).1 = me.2.2.2.2.2.1) (hn : narrow (x_ty ci k0) v = v) (hf : fits (x_ty ci k0) v = true) (k : ∀ f' : x_H, f' = x_up f r (.inr (ci, fs.set k0 v)) → X E R me QQ pc' lv st z f' cl sl) : X E R me QQ pc lv (v :: .ref r :: st) z f cl sl := by
  subst hp
  intro p e s m args below meth c H locs ls cx hz hP hS hl
  obtain ⟨hx, hb, hr, hml, hown, hts, hlk, hK, hbs, hin, hd, hI⟩ := id cx
  obtain ⟨q', hq', hk, h1, h2⟩ := hI.1 _ (x_lk_mem _ _ _ hL)
  dsimp only at hq' hk h1 h2
  cases hq.symm.trans hq'
  have hn' : narrow (x_ty ci k0) (x_sh E v) = x_sh E v := by
    cases v <;> first | exact hn | (unfold x_sh; cases x_ty ci k0 <;> rfl)
  have hf' : fits (x_ty ci k0) (x_sh E v) = true := by
    cases v <;> first | exact hf | (revert hf; unfold x_sh; cases x_ty ci k0 <;> intro h <;> first | rfl | cases h)
  have hw : (x_w E z f).set r (E.2.2.2.1 + r, .inr (ci, (fs.map (x_sh E)).set k0 (x_sh E v))) = x_w E z (x_up f r (.inr (ci, fs.set k0 v))) := by
    rw [← x_w_set]
    show _ = List.set _ _ (_, Sum.inr (ci, (fs.set k0 v).map (x_sh E)))
    rw [List.map_set]
  refine va_putF hx hb hts (x_ws_in _ _ hq) (x_ty ci) (x_ty_ok ci q hq).1 (x_ty_ok ci q hq).2 hown hK.1 hP (x_w_D E z f) hS r (x_o_at ho) hq k0 hk (hts _ (h1 rfl)) (fun _ h => h) hfin (hin hin2) hdecl ((x_ty_ok ci q hq).1 k0 hk) hn' hf' (by rw [List.length_map]; exact hl0) (x_dec_at hd hc) (fun H1 locs1 hP1 _ hS1 => ?_)
  rw [hw] at hP1
  exact k _ rfl p e s m args below meth c H1 locs1 ls cx hz hP1 hS1 hl
theorem x_iaload {pc' : Nat} {r n : Nat} {g : Nat → Int32} {i : Int32} (hc : x_at me pc = some (.iaload, 1)) (hp : pc + 1 = pc') (ha : x_a z f r (n, .inl g)) (hi : vp_in i n) (k : X E R me QQ pc' lv (.int (g i.toNatClampNeg) :: st) z f cl sl) : X E R me QQ pc lv (.int i :: .ref r :: st) z f cl sl := by
  subst hp
  intro p e s m args below meth c H locs ls cx hz hP hS hl
  exact va_iald cx.1 cx.2.1 cx.2.2.2.2.2.2.2.1.1 hP r 0 (x_a_at ha) rfl hi (x_dec_at cx.2.2.2.2.2.2.2.2.2.2.1 hc) (k p e s m args below meth c H locs ls cx hz hP hS hl)
theorem x_laload {pc' : Nat} {r n : Nat} {g : Nat → Int64} {i : Int32} (hc : x_at me pc = some (.laload, 1)) (hp : pc + 1 = pc') (ha : x_a z f r (n, .inr (.inl g))) (hi : vp_in i n) (k : X E R me QQ pc' lv (.long (g i.toNatClampNeg) :: st) z f cl sl) : X E R me QQ pc lv (.int i :: .ref r :: st) z f cl sl := by
  subst hp
  intro p e s m args below meth c H locs ls cx hz hP hS hl
  exact va_lald cx.1 cx.2.1 cx.2.2.2.2.2.2.2.1.1 hP r 1 (x_a_at ha) rfl hi (x_dec_at cx.2.2.2.2.2.2.2.2.2.2.1 hc) (k p e s m args below meth c H locs ls cx hz hP hS hl)
theorem x_aaload {pc' : Nat} {r n x : Nat} {g : Nat → Option Nat} {i : Int32} (hc : x_at me pc = some (.aaload, 1)) (hp : pc + 1 = pc') (ha : x_a z f r (n, .inr (.inr (.inr (.inr g))))) (hi : vp_in i n) (hx0 : g i.toNatClampNeg = some x) (k : X E R me QQ pc' lv (.ref x :: st) z f cl sl) : X E R me QQ pc lv (.int i :: .ref r :: st) z f cl sl := by
  subst hp
  intro p e s m args below meth c H locs ls cx hz hP hS hl
  refine va_aldq cx.1 cx.2.1 cx.2.2.2.2.2.2.2.1.1 hP r 2 (x_a_at ha) rfl hi (x_dec_at cx.2.2.2.2.2.2.2.2.2.2.1 hc) ?_
  rw [hx0]
  exact k p e s m args below meth c H locs ls cx hz hP hS hl
theorem x_alen {pc' : Nat} {r : Nat} {a : vp_A} (hc : x_at me pc = some (.arraylength, 1)) (hp : pc + 1 = pc') (ha : x_a z f r a) (k : X E R me QQ pc' lv (.int (Int32.ofNat a.1) :: st) z f cl sl) : X E R me QQ pc lv (.ref r :: st) z f cl sl := by
  subst hp
  intro p e s m args below meth c H locs ls cx hz hP hS hl
  obtain ⟨n, g | g | g | g | g⟩ := a
  · exact va_alen cx.1 cx.2.1 cx.2.2.2.2.2.2.2.1.1 hP r 0 (x_a_at ha) rfl rfl (x_dec_at cx.2.2.2.2.2.2.2.2.2.2.1 hc) (k p e s m args below meth c H locs ls cx hz hP hS hl)
  · exact va_alen cx.1 cx.2.1 cx.2.2.2.2.2.2.2.1.1 hP r 1 (x_a_at ha) rfl rfl (x_dec_at cx.2.2.2.2.2.2.2.2.2.2.1 hc) (k p e s m args below meth c H locs ls cx hz hP hS hl)
  · exact va_alen cx.1 cx.2.1 cx.2.2.2.2.2.2.2.1.1 hP r 2 (x_a_at ha) rfl rfl (x_dec_at cx.2.2.2.2.2.2.2.2.2.2.1 hc) (k p e s m args below meth c H locs ls cx hz hP hS hl)
  · exact va_alen cx.1 cx.2.1 cx.2.2.2.2.2.2.2.1.1 hP r 2 (x_a_at ha) rfl rfl (x_dec_at cx.2.2.2.2.2.2.2.2.2.2.1 hc) (k p e s m args below meth c H locs ls cx hz hP hS hl)
  · exact va_alen cx.1 cx.2.1 cx.2.2.2.2.2.2.2.1.1 hP r 2 (x_a_at ha) rfl rfl (x_dec_at cx.2.2.2.2.2.2.2.2.2.2.1 hc) (k p e s m args below meth c H locs ls cx hz hP hS hl)
theorem x_iastore {pc' : Nat} {r n : Nat} {g : Nat → Int32} {i : Int32} {x : Int32} (hc : x_at me pc = some (.iastore, 1)) (hp : pc + 1 = pc') (ha : x_a z f r (n, .inl g)) (hi : vp_in i n) (k : ∀ f' : x_H, f' = x_up f r (.inl (n, .inl (upd g i.toNatClampNeg x))) → X E R me QQ pc' lv st z f' cl sl) : X E R me QQ pc lv (.int x :: .int i :: .ref r :: st) z f cl sl := by
  subst hp
  intro p e s m args below meth c H locs ls cx hz hP hS hl
  refine va_iast cx.1 cx.2.1 cx.2.2.2.2.2.2.2.1.1 hP (x_w_D E z f) hS r 0 (x_a_at ha) rfl hi (x_dec_at cx.2.2.2.2.2.2.2.2.2.2.1 hc) (fun H1 locs1 hP1 _ hS1 => ?_)
  have hw : (x_w E z f).set r (E.2.2.2.1 + r, .inl (E.2.2.1 0, n, .inl (upd g i.toNatClampNeg x))) = x_w E z (x_up f r (.inl (n, .inl (upd g i.toNatClampNeg x)))) := by
    rw [← x_w_set]
    rfl
  have hP2 : va_P E.2.1 x_cl ((x_w E z f).set r (E.2.2.2.1 + r, .inl (E.2.2.1 0, n, .inl (upd g i.toNatClampNeg x)))) H1 := hP1
  rw [hw] at hP2
  exact k _ rfl p e s m args below meth c H1 locs1 ls cx hz hP2 hS1 hl
theorem x_lastore {pc' : Nat} {r n : Nat} {g : Nat → Int64} {i : Int32} {x : Int64} (hc : x_at me pc = some (.lastore, 1)) (hp : pc + 1 = pc') (ha : x_a z f r (n, .inr (.inl g))) (hi : vp_in i n) (k : ∀ f' : x_H, f' = x_up f r (.inl (n, .inr (.inl (vp_updL g i.toNatClampNeg x)))) → X E R me QQ pc' lv st z f' cl sl) : X E R me QQ pc lv (.long x :: .int i :: .ref r :: st) z f cl sl := by
  subst hp
  intro p e s m args below meth c H locs ls cx hz hP hS hl
  refine va_last cx.1 cx.2.1 cx.2.2.2.2.2.2.2.1.1 hP (x_w_D E z f) hS r 1 (x_a_at ha) rfl hi (x_dec_at cx.2.2.2.2.2.2.2.2.2.2.1 hc) (fun H1 locs1 hP1 _ hS1 => ?_)
  have hw : (x_w E z f).set r (E.2.2.2.1 + r, .inl (E.2.2.1 1, n, .inr (.inl (vp_updL g i.toNatClampNeg x)))) = x_w E z (x_up f r (.inl (n, .inr (.inl (vp_updL g i.toNatClampNeg x))))) := by
    rw [← x_w_set]
    rfl
  have hP2 : va_P E.2.1 x_cl ((x_w E z f).set r (E.2.2.2.1 + r, .inl (E.2.2.1 1, n, .inr (.inl (vp_updL g i.toNatClampNeg x))))) H1 := hP1
  rw [hw] at hP2
  exact k _ rfl p e s m args below meth c H1 locs1 ls cx hz hP2 hS1 hl
end STEPS
end
section
-- == 09.calls
section STEPS2
variable {E : x_E} {R : Room} {me : x_M} {QQ : List Frame → Array Value → State → State → Prop} {pc : Nat} {lv : x_L} {st : List Value} {z : Nat} {f : x_H} {cl sl : Nat}
theorem x_ireturn {mc ms : Nat} {post : Option Value → x_H → Prop} (hc : x_at me pc = some (.ireturn, 1)) {v : Int32} {ty : FieldType} (hret : me.2.2.2.1 = some ty) (hn : narrow ty (.int v) = .int v) (h1 : cl ≤ mc) (h2 : sl ≤ ms) (h : post (some (.int v)) f) : X E R me (x_QM E z mc ms post) pc lv [.int v] z f cl sl := by
  intro p e s m args below meth c H locs ls cx hz hP hS hl
  obtain ⟨hx, hb, hr, hml, hown, hts, hlk, hK, hbs, hin, hd, hI⟩ := id cx
  intro T hT hX
  have hsz := x_size hT hX hbs hz hP hS
  exact (W.widen h1 h2 (W.zret hx hb (hr.trans hret) hn (fun t ht hW => ⟨⟨some (.int v), f, rfl, h, by rw [ht]; exact hsz, by rw [ht]; exact hP, x_K.warm hW hK⟩, hS.F ht⟩) hS.2.2 (x_dec_at hd hc) hlk)) T hT hX
theorem x_lreturn {mc ms : Nat} {post : Option Value → x_H → Prop} (hc : x_at me pc = some (.lreturn, 1)) {v : Int64} (hret : me.2.2.2.1 = some .long) (h1 : cl ≤ mc) (h2 : sl ≤ ms) (h : post (some (.long v)) f) : X E R me (x_QM E z mc ms post) pc lv [.long v] z f cl sl := by
  intro p e s m args below meth c H locs ls cx hz hP hS hl
  obtain ⟨hx, hb, hr, hml, hown, hts, hlk, hK, hbs, hin, hd, hI⟩ := id cx
  intro T hT hX
  have hsz := x_size hT hX hbs hz hP hS
  exact (W.widen h1 h2 (W.lret hx hb (hr.trans hret) (fun t ht hW => ⟨⟨some (.long v), f, rfl, h, by rw [ht]; exact hsz, by rw [ht]; exact hP, x_K.warm hW hK⟩, hS.F ht⟩) hS.2.2 (x_dec_at hd hc) hlk)) T hT hX
theorem x_return {mc ms : Nat} {post : Option Value → x_H → Prop} (hc : x_at me pc = some (.return_, 1)) (hret : me.2.2.2.1 = none) (h1 : cl ≤ mc) (h2 : sl ≤ ms) (h : post none f) : X E R me (x_QM E z mc ms post) pc lv [] z f cl sl := by
  intro p e s m args below meth c H locs ls cx hz hP hS hl
  obtain ⟨hx, hb, hr, hml, hown, hts, hlk, hK, hbs, hin, hd, hI⟩ := id cx
  intro T hT hX
  have hsz := x_size hT hX hbs hz hP hS
  exact (W.widen h1 h2 (W.vret hx hb (hr.trans hret) (fun t ht hW => ⟨⟨none, f, rfl, h, by rw [ht]; exact hsz, by rw [ht]; exact hP, x_K.warm hW hK⟩, hS.F ht⟩) hS.2.2 (x_dec_at hd hc) hlk)) T hT hX
theorem x_ws_good {ce : x_M} (hg : x_good ce) : GoodIn x_tb (x_ws ce) := by
  intro w hw
  rcases List.mem_cons.mp hw with h | h
  · subst h
    exact ⟨hg.2.2.2.2.1, x_tb_good _ hg.2.2.2.2.1⟩
  · exact ⟨h, x_tb_good _ h⟩
theorem x_blind (E : x_E) (av : List Value) (z : Nat) (f : x_H) : FrameBlind (va_Pc av (x_in E z f)) := by
  intro a U g mk h
  obtain ⟨h1, h2, h3, h4⟩ := h
  exact ⟨h1, h2, h3, x_K.same (u := U) (U := U.calling g mk a) rfl h4⟩
/-- behind a call -/
theorem x_after {E : x_E} {R : Room} {me : x_M} {QQ : List Frame → Array Value → State → State → Prop} {pc : Nat} {lv : x_L} {st : List Value} {z : Nat} {cl sl mc ms : Nat} {p : Program} {e : Env} {s : State} {m : MethodId} {args : Array Value} {below : List Frame} {meth : Method} {c : Code} {H : Heap} {locs : List Loc} {ls : Array Slot} {st0 : List Value} {av : Array Value} {T : State}
    (cx : x_cx E me p s m args meth c) (hz : s.heap.size + cl = E.2.2.2.1 + z) (hS : va_S (x_A E) s.heap H locs) (hl : lv_has ls me.2.2.1 (x_lv E lv)) (hT : T.heap = H) (hX : Stand p E.1 e R s m args below meth c T locs cl sl)
    (hr : va_Run p E.1 e R s m args below meth c H locs cl sl mc ms (F0 m pc ls st0) (st.map (x_sh E)) (x_Q E (z + mc) (fun v f' => X E R me QQ (pc + 3) lv (v.toList ++ st) (z + mc) f' (cl + mc) (sl + ms)) av) (x_A E)) : ∃ t, Steps p.tables e below (T.setTop (F0 m pc ls st0)) t ∧ QQ below args s t := by
  obtain ⟨v, st₀, t, T', L, h0, X', hL, e1, e2, ⟨⟨r, f', hv, hpost, hin'⟩, hF⟩, hgo⟩ := hr T hT hX
  cases hv
  obtain ⟨g1, g2, g3⟩ := hin'
  have hbs := cx.2.2.2.2.2.2.2.2.1
  have hsz0 : H.size ≤ t.heap.size := by
    have := hF.1
    rw [h0] at this
    exact this
  have hSt : va_S (x_A E) s.heap t.heap (locs ++ L) := by
    refine ⟨Nat.le_trans hS.1 hsz0, fun q h1 h2 => ?_, fun q hq => ?_⟩
    · have h3 := hF.2 q (by rw [h0]; exact Nat.lt_of_lt_of_le h1 hS.1) h2
      rw [h3, h0]
      exact hS.2.1 q h1 h2
    · rcases List.mem_append.mp hq with h | h
      · exact hS.2.2 q h
      · exact hL q h
  obtain ⟨t2, a1, b1⟩ := hpost p e s m args below meth c t.heap (locs ++ L) ls cx (by omega) g2 hSt hl T' e1 X'
  refine ⟨t2, hgo t2 ?_, b1⟩
  cases r with
  | none => exact a1
  | some v => exact a1
theorem x_callV {pc' : Nat} {d mc ms i n ci r : Nat} {ce : x_M} {As : List Value} {fs : List Value} {stk : List Value} (hc : x_at me pc = some (.invokevirtual i, 3)) (hp : pc + 3 = pc') (hs : x_sV me.2.2.2.2.2.1 i ce n ci) (hg : x_good ce) (ho : x_o z f r ci fs)
    (hY : Y E d ce (.ref r :: As) z f mc ms (fun v f' => X E R me QQ pc' lv (v.toList ++ st) (z + mc) f' (cl + mc) (sl + ms)))
    (hn : As.length = n) (hstk : stk = As.reverse ++ .ref r :: st) (hR : d + 1 ≤ R.frames ∧ 8 + (ce.2.2.1 + 11) + 200 * d ≤ R.locals) (hw : (st.map fun v => v.category).sum ≤ 8) (hf : cl + mc ≤ R.cells ∧ sl + ms ≤ R.slots) : X E R me QQ pc lv stk z f cl sl := by
  subst hstk
  subst hp
  intro p e s m args below meth c H locs ls cx hz hP hS hl
  obtain ⟨hx, hb, hr, hml, hown, hts, hlk, hK, hbs, hin, hd, hI⟩ := id cx
  intro T hT hX
  have hsz := x_size hT hX hbs hz hP hS
  obtain ⟨s1, s2, s3, s4, q, hq, hqn⟩ := hs
  have hG : GoodIn x_tb (wsV me.2.2.2.2.2.1 i ce.1.cls ce.1 (x_ws ce)) := by
    intro w hw
    unfold wsV at hw
    rcases List.mem_append.mp hw with h | h
    · simp only [List.mem_cons, List.not_mem_nil, or_false] at h
      rcases h with h | h | h | h <;> subst h
      · exact ⟨s1, x_tb_good _ s1⟩
      · exact ⟨s2, x_tb_good _ s2⟩
      · exact ⟨s3, x_tb_good _ s3⟩
      · exact ⟨hg.2.2.2.2.2.1, x_tb_good _ hg.2.2.2.2.2.1⟩
    · exact x_ws_good hg w h
  have cw := cwV (rm := x_rm d mc ms) (mc := mc) (ms := ms) (R := R) n hts hG rfl rfl rfl ⟨rfl, hg.2.2.2.2.2.2.1, hg.2.2.2.2.2.2.2, s4⟩ hR
  have hrec := va_recv hK.1 hP hq (x_o_at ho)
  rw [hqn] at hrec
  have hr1 := va_runV (e := e) (below := below) (meth := meth) (locs := locs) (As := As.map (x_sh E)) (rest := st.map (x_sh E)) (g := F0 m pc ls ((As.reverse ++ .ref r :: st).map (x_sh E))) (b := E.2.2.2.1 + r) ⟨hx, hb, hml, hown, hts⟩ hY cw ⟨x_blind E _ z f, hrec, fun U hU hW => ⟨rfl, by rw [hU]; exact hsz, by rw [hU]; exact hP, x_K.warm hW hK⟩⟩ rfl (by rw [List.length_map]; exact hn) hl.1 (by simp [x_sh]) (lv_room (by rw [List.map_map]; simpa [Function.comp_def, x_sh_cat] using hw)) (by rw [← hb, hb]; exact x_dec_at hd hc) hf
  exact x_after cx hz hS hl hT hX hr1
theorem x_callS {pc' : Nat} {d mc ms i n : Nat} {ce : x_M} {As : List Value} {stk : List Value} (hc : x_at me pc = some (.invokestatic i, 3)) (hp : pc + 3 = pc') (hs : x_sS me.2.2.2.2.2.1 i ce n) (hg : x_good ce)
    (hY : Y E d ce As z f mc ms (fun v f' => X E R me QQ pc' lv (v.toList ++ st) (z + mc) f' (cl + mc) (sl + ms)))
    (hn : As.length = n) (hstk : stk = As.reverse ++ st) (hR : d + 1 ≤ R.frames ∧ 8 + (ce.2.2.1 + 11) + 200 * d ≤ R.locals) (hw : (st.map fun v => v.category).sum ≤ 8) (hf : cl + mc ≤ R.cells ∧ sl + ms ≤ R.slots) : X E R me QQ pc lv stk z f cl sl := by
  subst hstk
  subst hp
  intro p e s m args below meth c H locs ls cx hz hP hS hl
  obtain ⟨hx, hb, hr, hml, hown, hts, hlk, hK, hbs, hin, hd, hI⟩ := id cx
  intro T hT hX
  have hsz := x_size hT hX hbs hz hP hS
  obtain ⟨s1, s2, s4⟩ := hs
  have cw := callB_of (rm := x_rm d mc ms) (mc := mc) (ms := ms) (R := R) (own := me.2.2.2.2.2.1) (index := i) n hts (x_ws_good hg) rfl rfl rfl (hts _ hg.2.2.2.2.2.1) (hts _ s1) ⟨hg.2.2.2.2.2.2.1, hg.2.2.2.2.2.2.2, s4⟩ hR
  have hr1 := va_runS (e := e) (below := below) (meth := meth) (locs := locs) (As := As.map (x_sh E)) (rest := st.map (x_sh E)) (g := F0 m pc ls ((As.reverse ++ st).map (x_sh E))) ⟨hx, hb, hml, hown, hts⟩ hY ⟨cw, hts _ s2⟩ ⟨x_blind E _ z f, fun U hU hW => ⟨rfl, by rw [hU]; exact hsz, by rw [hU]; exact hP, x_K.warm hW hK⟩⟩ rfl (by rw [List.length_map]; exact hn) hl.1 (by simp) (lv_room (by rw [List.map_map]; simpa [Function.comp_def, x_sh_cat] using hw)) (by rw [← hb, hb]; exact x_dec_at hd hc) hf
  exact x_after cx hz hS hl hT hX hr1
theorem x_callI {pc' : Nat} {d mc ms i n r : Nat} {nest : Bool} {ce : x_M} {As : List Value} {stk : List Value} (hc : x_at me pc = some (.invokespecial i, 3)) (hp : pc + 3 = pc') (hs : x_sI me.2.2.2.2.2.1 i ce n nest) (hg : x_good ce)
    (hY : Y E d ce (.ref r :: As) z f mc ms (fun v f' => X E R me QQ pc' lv (v.toList ++ st) (z + mc) f' (cl + mc) (sl + ms)))
    (hn : As.length = n) (hstk : stk = As.reverse ++ .ref r :: st) (hR : d + 1 ≤ R.frames ∧ 8 + (ce.2.2.1 + 11) + 200 * d ≤ R.locals) (hw : (st.map fun v => v.category).sum ≤ 8) (hf : cl + mc ≤ R.cells ∧ sl + ms ≤ R.slots) : X E R me QQ pc lv stk z f cl sl := by
  subst hstk
  subst hp
  intro p e s m args below meth c H locs ls cx hz hP hS hl
  obtain ⟨hx, hb, hr, hml, hown, hts, hlk, hK, hbs, hin, hd, hI⟩ := id cx
  intro T hT hX
  have hsz := x_size hT hX hbs hz hP hS
  obtain ⟨s1, s1', s2, s3, s5, s4⟩ := hs
  have hws : x_ws ce = Cond.code ce.1 ce.2.1 ce.2.2.1 none :: x_tb := by rw [← s5]; rfl
  cases nest with
  | false =>
    have cw := cwI (rm := x_rm d mc ms) (mc := mc) (ms := ms) (R := R) (own := me.2.2.2.2.2.1) (index := i) n hts (x_ws_good hg) hws rfl rfl (hts _ hg.2.2.2.2.2.1) (hts _ (s1 rfl)) (hts _ s2) s3 ⟨hg.2.2.2.2.2.2.1, hg.2.2.2.2.2.2.2, s4⟩ hR
    have hr1 := va_runI (e := e) (below := below) (meth := meth) (locs := locs) (As := As.map (x_sh E)) (rest := st.map (x_sh E)) (g := F0 m pc ls ((As.reverse ++ .ref r :: st).map (x_sh E))) (b := E.2.2.2.1 + r) ⟨hx, hb, hml, hown, hts⟩ hY cw ⟨x_blind E _ z f, fun U hU hW => ⟨rfl, by rw [hU]; exact hsz, by rw [hU]; exact hP, x_K.warm hW hK⟩⟩ rfl (by rw [List.length_map]; exact hn) hl.1 (by simp [x_sh]) (lv_room (by rw [List.map_map]; simpa [Function.comp_def, x_sh_cat] using hw)) (by rw [← hb, hb]; exact x_dec_at hd hc) hf
    exact x_after cx hz hS hl hT hX hr1
  | true =>
    have cw := va_cnB (rm := x_rm d mc ms) (mc := mc) (ms := ms) (R := R) (own := me.2.2.2.2.2.1) (index := i) (host := RX5) n hts (x_ws_good hg) hws rfl rfl (hK.2.1 _ (s1' rfl)) (hts _ hg.2.2.2.2.2.1) ⟨hg.2.2.2.2.2.2.1, hg.2.2.2.2.2.2.2, s4⟩ hR
    have hr1 := va_runIN (e := e) (below := below) (meth := meth) (locs := locs) (As := As.map (x_sh E)) (rest := st.map (x_sh E)) (g := F0 m pc ls ((As.reverse ++ .ref r :: st).map (x_sh E))) (b := E.2.2.2.1 + r) ⟨hx, hb, hml, hown, hts⟩ hY ⟨cw, s3, hts _ s2⟩ ⟨x_blind E _ z f, fun U hU hW => ⟨rfl, by rw [hU]; exact hsz, by rw [hU]; exact hP, x_K.warm hW hK⟩⟩ rfl (by rw [List.length_map]; exact hn) hl.1 (by simp [x_sh]) (lv_room (by rw [List.map_map]; simpa [Function.comp_def, x_sh_cat] using hw)) (by rw [← hb, hb]; exact x_dec_at hd hc) hf
    exact x_after cx hz hS hl hT hX hr1
theorem x_obj {pc' : Nat} {i r : Nat} (hc : x_at me pc = some (.invokespecial i, 3)) (hp : pc + 3 = pc') (hs : Cond.methodLink me.2.2.2.2.2.1 i objectInit ∈ x_tb) (hR : 1 ≤ R.frames ∧ 20 ≤ R.locals) (hw : (st.map fun v => v.category).sum ≤ 8) (k : X E R me QQ pc' lv st z f cl sl) : X E R me QQ pc lv (.ref r :: st) z f cl sl := by
  subst hp
  intro p e s m args below meth c H locs ls cx hz hP hS hl
  obtain ⟨hx, hb, hr, hml, hown, hts, hlk, hK, hbs, hin, hd, hI⟩ := id cx
  exact W.objInit hx hb hown (hts _ hs) (hts _ x_obI) (hts _ x_obC) rfl (by rw [hml]; exact hl.1) rfl (x_dec_at hd hc) hR.1 (by have h2 := hR.2; have h3 : ((st.map (x_sh E)).map fun v => v.category).sum = (st.map fun v => v.category).sum := (by rw [List.map_map]; congr 2; funext v; exact x_sh_cat E v); show 2 * 0 + _ + 12 ≤ _; rw [h3]; omega) (k p e s m args below meth c H locs ls cx hz hP hS hl)
theorem x_new {pc' : Nat} {i ci : Nat} {q : vw_C} {fs : List Value} (hc : x_at me pc = some (.new i, 3)) (hp : pc + 3 = pc') (hL : x_lk me.2.2.2.2.2.2.2.2.2 i = some ci) (hq : x_cl[ci]? = some q) (hfs : ∀ j, j < q.2.2 → defaultValue (x_ty ci j) = vp_V fs j) (hsh : fs.map (x_sh E) = fs) (h1 : cl + 1 ≤ R.cells) (h2 : sl + q.2.2 ≤ R.slots) (k : ∀ f' : x_H, f' = x_up f z (.inr (ci, fs)) → X E R me QQ pc' lv (.ref z :: st) (z + 1) f' (cl + 1) (sl + q.2.2)) : X E R me QQ pc lv st z f cl sl := by
  subst hp
  intro p e s m args below meth c H locs ls cx hz hP hS hl
  obtain ⟨hx, hb, hr, hml, hown, hts, hlk, hK, hbs, hin, hd, hI⟩ := id cx
  intro T hT hX
  have hsz := x_size hT hX hbs hz hP hS
  obtain ⟨q', hq', hcl⟩ := hI.2.2.2 _ (x_lk_mem _ _ _ hL)
  cases hq.symm.trans hq'
  have hKn := hK.1.1 ci _ hq
  have hi := x_ini ci q hq
  refine (W.newcK hx hb hown (hts _ hcl) (hts _ hi.2) (hts _ hi.1) rfl (x_dec_at hd hc) h1 h2 hKn.2.1 hsz (fun H1 kC hkC e1 z1 o1 => ?_)) T hT hX
  have hk : ∀ (k : Nat) (x : Nat × va_E), (x_w E z f)[k]? = some x → H1[x.1]? = H[x.1]? := fun k x hx => o1 x.1 (by have h9 := (hP k x hx).lt; rw [hsz] at h9; exact h9)
  have hP1 : va_P E.2.1 x_cl (x_w E (z + 1) (x_up f z (.inr (ci, fs)))) H1 := by
    rw [← x_w_push]
    refine (hP.kept hk).app (fun k x hx => ?_)
    have hz : k < 1 := (List.getElem?_eq_some_iff.mp hx).1
    rw [show k = 0 by omega] at hx
    cases hx
    refine ⟨_, hq, (u_born (x_ty ci) hts (x_ws_in _ _ hq) hKn hkC e1 (x_ty_ok ci q hq).1).to ?_⟩
    dsimp only [x_ce]
    rw [hsh]
    exact hfs
  exact k _ rfl p e s m args below meth c H1 locs ls cx (by omega) hP1 ⟨by have := hS.1; omega, fun x g1 g2 => (o1 x (by have := hS.1; omega)).trans (hS.2.1 x g1 g2), hS.2.2⟩ hl
theorem x_newarrayI {pc' : Nat} {n : Int32} {N : Nat} (hc : x_at me pc = some (.newarray .int, 2)) (hp : pc + 2 = pc') (hn : ¬ n < 0) (hN : n.toNatClampNeg = N) (hby : N * 8 ≤ 536870912) (h1 : cl + 1 ≤ R.cells) (h2 : sl + N ≤ R.slots) (k : ∀ f' : x_H, f' = x_up f z (.inl (N, .inl (fun _ => 0))) → X E R me QQ pc' lv (.ref z :: st) (z + 1) f' (cl + 1) (sl + N)) : X E R me QQ pc lv (.int n :: st) z f cl sl := by
  subst hp
  intro p e s m args below meth c H locs ls cx hz hP hS hl
  obtain ⟨hx, hb, hr, hml, hown, hts, hlk, hK, hbs, hin, hd, hI⟩ := id cx
  intro T hT hX
  have hsz := x_size hT hX hbs hz hP hS
  refine (va_newaK (atype := .int) hx hb (hts _ x_acI) rfl (x_dec_at hd hc) rfl hn hN (by show N * componentBytes .int ≤ _; simp only [componentBytes]; omega) h1 h2 hsz (fun H1 cA e1 z1 o1 hAr hNm => ?_)) T hT hX
  have hcA : E.2.2.1 0 = cA := by
    have h9 := (hK.1.2 0 (E.2.2.1 0, .int) rfl).2
    exact Option.some.inj (h9.symm.trans hNm)
  have hk : ∀ (k : Nat) (x : Nat × va_E), (x_w E z f)[k]? = some x → H1[x.1]? = H[x.1]? := fun k x hx => o1 x.1 (by have h9 := (hP k x hx).lt; rw [hsz] at h9; exact h9)
  have hP1 : va_P E.2.1 x_cl (x_w E (z + 1) (x_up f z (.inl (N, .inl (fun _ => 0))))) H1 := by
    rw [← x_w_push]
    refine (hP.kept hk).app (fun k x hx => ?_)
    have hz : k < 1 := (List.getElem?_eq_some_iff.mp hx).1
    rw [show k = 0 by omega] at hx
    cases hx
    show H1[E.2.2.2.1 + z]? = some (vp_cell (E.2.2.1 0) (N, .inl (fun _ => 0)))
    rw [hcA]
    exact e1
  exact k _ rfl p e s m args below meth c H1 locs ls cx (by omega) hP1 ⟨by have := hS.1; omega, fun x g1 g2 => (o1 x (by have := hS.1; omega)).trans (hS.2.1 x g1 g2), hS.2.2⟩ hl
theorem x_newarrayL {pc' : Nat} {n : Int32} {N : Nat} (hc : x_at me pc = some (.newarray .long, 2)) (hp : pc + 2 = pc') (hn : ¬ n < 0) (hN : n.toNatClampNeg = N) (hby : N * 8 ≤ 536870912) (h1 : cl + 1 ≤ R.cells) (h2 : sl + N ≤ R.slots) (k : ∀ f' : x_H, f' = x_up f z (.inl (N, .inr (.inl (fun _ => 0)))) → X E R me QQ pc' lv (.ref z :: st) (z + 1) f' (cl + 1) (sl + N)) : X E R me QQ pc lv (.int n :: st) z f cl sl := by
  subst hp
  intro p e s m args below meth c H locs ls cx hz hP hS hl
  obtain ⟨hx, hb, hr, hml, hown, hts, hlk, hK, hbs, hin, hd, hI⟩ := id cx
  intro T hT hX
  have hsz := x_size hT hX hbs hz hP hS
  refine (va_newaK (atype := .long) hx hb (hts _ x_acJ) rfl (x_dec_at hd hc) rfl hn hN (by show N * componentBytes .long ≤ _; simp only [componentBytes]; omega) h1 h2 hsz (fun H1 cA e1 z1 o1 hAr hNm => ?_)) T hT hX
  have hcA : E.2.2.1 1 = cA := by
    have h9 := (hK.1.2 1 (E.2.2.1 1, .long) rfl).2
    exact Option.some.inj (h9.symm.trans hNm)
  have hk : ∀ (k : Nat) (x : Nat × va_E), (x_w E z f)[k]? = some x → H1[x.1]? = H[x.1]? := fun k x hx => o1 x.1 (by have h9 := (hP k x hx).lt; rw [hsz] at h9; exact h9)
  have hP1 : va_P E.2.1 x_cl (x_w E (z + 1) (x_up f z (.inl (N, .inr (.inl (fun _ => 0)))))) H1 := by
    rw [← x_w_push]
    refine (hP.kept hk).app (fun k x hx => ?_)
    have hz : k < 1 := (List.getElem?_eq_some_iff.mp hx).1
    rw [show k = 0 by omega] at hx
    cases hx
    show H1[E.2.2.2.1 + z]? = some (vp_cell (E.2.2.1 1) (N, .inr (.inl (fun _ => 0))))
    rw [hcA]
    exact e1
  exact k _ rfl p e s m args below meth c H1 locs ls cx (by omega) hP1 ⟨by have := hS.1; omega, fun x g1 g2 => (o1 x (by have := hS.1; omega)).trans (hS.2.1 x g1 g2), hS.2.2⟩ hl
theorem x_anew {pc' : Nat} {i : Nat} {n : Int32} {N : Nat} (hc : x_at me pc = some (.anewarray i, 3)) (hp : pc + 3 = pc') (hL : x_lk me.2.2.2.2.2.2.2.2.2 i = some 3) (hn : ¬ n < 0) (hN : n.toNatClampNeg = N) (hby : N * 4 ≤ 536870912) (h1 : cl + 1 ≤ R.cells) (h2 : sl + N ≤ R.slots) (k : ∀ f' : x_H, f' = x_up f z (.inl (N, .inr (.inr (.inr (.inr (fun _ => none)))))) → X E R me QQ pc' lv (.ref z :: st) (z + 1) f' (cl + 1) (sl + N)) : X E R me QQ pc lv (.int n :: st) z f cl sl := by
  subst hp
  intro p e s m args below meth c H locs ls cx hz hP hS hl
  obtain ⟨hx, hb, hr, hml, hown, hts, hlk, hK, hbs, hin, hd, hI⟩ := id cx
  subst hN
  intro T hT hX
  have hsz := x_size hT hX hbs hz hP hS
  obtain ⟨q', hq', hcl⟩ := hI.2.2.2 _ (x_lk_mem _ _ _ hL)
  cases hq'
  refine (W.anew hx hb hown (hts _ hcl) (va_AO.use hK.2.2) rfl (x_dec_at hd hc) rfl hn hby h1 h2 (fun cA kA comp f1 f2 f3 f4 => ?_)) T hT hX
  have hcA : E.2.2.1 2 = cA := by
    obtain ⟨kA', comp', g1, g2, g3, g4⟩ := (hK.1.2 2 (E.2.2.1 2, .object RX3) rfl).2
    exact Option.some.inj (g4.symm.trans f1)
  subst hcA
  generalize hH1 : H.push ({ cls := E.2.2.1 2, slots := Array.replicate n.toNatClampNeg .null, vm := .none } : Cell) = H1
  have z1 : H1.size = H.size + 1 := by rw [← hH1, Array.size_push]
  have e1 : H1[H.size]? = some (arrV (E.2.2.1 2) n.toNatClampNeg (fun _ => .null)) := by rw [← hH1, Array.getElem?_push_size, ← arrV_new]
  have o1 : ∀ q : Nat, q < H.size → H1[q]? = H[q]? := fun q hq => by rw [← hH1, Array.getElem?_push, if_neg (Nat.ne_of_lt hq)]
  have hk : ∀ (k : Nat) (x : Nat × va_E), (x_w E z f)[k]? = some x → H1[x.1]? = H[x.1]? := fun k x hx => o1 x.1 (hP k x hx).lt
  rw [hsz] at z1 e1 ⊢
  have hP1 : va_P E.2.1 x_cl (x_w E (z + 1) (x_up f z (.inl (n.toNatClampNeg, .inr (.inr (.inr (.inr (fun _ => none)))))))) H1 := by
    rw [← x_w_push]
    refine (hP.kept hk).app (fun k x hx => ?_)
    have hz : k < 1 := (List.getElem?_eq_some_iff.mp hx).1
    rw [show k = 0 by omega] at hx
    cases hx
    show H1[E.2.2.2.1 + z]? = some (vp_cell (E.2.2.1 2) _)
    exact e1
  exact k _ rfl p e s m args below meth c H1 locs ls cx (by omega) hP1 ⟨by have := hS.1; omega, fun x g1 g2 => (o1 x (by have := hS.1; omega)).trans (hS.2.1 x g1 g2), hS.2.2⟩ hl
theorem x_aastore {pc' : Nat} {r n x : Nat} {g : Nat → Option Nat} {i : Int32} {vs : List Value} (hc : x_at me pc = some (.aastore, 1)) (hp : pc + 1 = pc') (ha : x_a z f r (n, .inr (.inr (.inr (.inr g))))) (ho : x_o z f x 3 vs) (hi : vp_in i n) (k : ∀ f' : x_H, f' = x_up f r (.inl (n, .inr (.inr (.inr (.inr (va_up g i.toNatClampNeg (some x))))))) → X E R me QQ pc' lv st z f' cl sl) : X E R me QQ pc lv (.ref x :: .int i :: .ref r :: st) z f cl sl := by
  subst hp
  intro p e s m args below meth c H locs ls cx hz hP hS hl
  refine va_astq cx.1 cx.2.1 cx.2.2.2.2.2.2.2.1.1 hP (x_w_D E z f) hS r 2 x 3 (x_a_at ha) rfl (x_o_at ho) rfl hi (x_dec_at cx.2.2.2.2.2.2.2.2.2.2.1 hc) (fun H1 locs1 hP1 _ hS1 => ?_)
  have hg : ∀ j : Nat, va_up (fun j => (g j).map (fun k => E.2.2.2.1 + k)) i.toNatClampNeg (some (E.2.2.2.1 + x)) j = ((va_up g i.toNatClampNeg (some x)) j).map (fun k => E.2.2.2.1 + k) := by
    intro j
    by_cases h : j = i.toNatClampNeg
    · subst h
      simp [va_up]
    · simp [va_up, h]
  have hw : (x_w E z f).set r (E.2.2.2.1 + r, .inl (E.2.2.1 2, n, .inr (.inr (.inr (.inr (va_up (fun j => (g j).map (fun k => E.2.2.2.1 + k)) i.toNatClampNeg (some (E.2.2.2.1 + x)))))))) = x_w E z (x_up f r (.inl (n, .inr (.inr (.inr (.inr (va_up g i.toNatClampNeg (some x)))))))) := by
    rw [← x_w_set, funext hg]
    rfl
  have hP2 : va_P E.2.1 x_cl ((x_w E z f).set r (E.2.2.2.1 + r, .inl (E.2.2.1 2, n, .inr (.inr (.inr (.inr (va_up (fun j => (g j).map (fun k => E.2.2.2.1 + k)) i.toNatClampNeg (some (E.2.2.2.1 + x))))))))) H1 := hP1
  rw [hw] at hP2
  exact k _ rfl p e s m args below meth c H1 locs1 ls cx hz hP2 hS1 hl
theorem x_copy {pc' : Nat} {i r0 r1 n0 n1 : Nat} {g0 g1 : Nat → Int32} {sp dp n : Int32} (hc : x_at me pc = some (.invokestatic i, 3)) (hp : pc + 3 = pc') (hs : Cond.methodLink me.2.2.2.2.2.1 i arraycopyName ∈ x_tb) (ha0 : x_a z f r0 (n0, .inl g0)) (ha1 : x_a z f r1 (n1, .inl g1)) (h1 : ¬ sp < 0) (h2 : ¬ dp < 0) (h3 : ¬ n < 0) (h4 : sp.toNatClampNeg + n.toNatClampNeg ≤ n0) (h5 : dp.toNatClampNeg + n.toNatClampNeg ≤ n1)
    (hR : 1 ≤ R.frames ∧ 8 + (nativeFrameWords "java/lang/System" "arraycopy" 5 + 11) ≤ R.locals) (hw : (st.map fun v => v.category).sum ≤ 8) (k : ∀ f' : x_H, f' = x_up f r1 (.inl (n1, .inl (va_cpy g0 g1 sp.toNatClampNeg dp.toNatClampNeg n.toNatClampNeg))) → X E R me QQ pc' lv st z f' cl sl) : X E R me QQ pc lv (.int n :: .int dp :: .ref r1 :: .int sp :: .ref r0 :: st) z f cl sl := by
  subst hp
  intro p e s m args below meth c H locs ls cx hz hP hS hl
  obtain ⟨hx, hb, hr, hml, hown, hts, hlk, hK, hbs, hin, hd, hI⟩ := id cx
  have h9 : ((st.map (x_sh E)).map fun v => v.category).sum = (st.map fun v => v.category).sum := by rw [List.map_map]; congr 2; funext v; exact x_sh_cat E v
  refine va_copyi hx hb (by rw [hml]; exact hl.1.symm) hown (hts _ hs) (hts _ x_cpN) (hts _ x_cpS) (hts _ iniJ10) hK.1 hP (x_w_D E z f) hS r0 r1 0 0 (x_a_at ha0) (x_a_at ha1) rfl rfl rfl h1 h2 h3 h4 h5 (fun _ _ => rfl) hR.1 (by rw [h9]; have := hR.2; omega) (x_dec_at hd hc) (fun H1 locs1 hP1 _ hS1 => ?_)
  have hw : (x_w E z f).set r1 (E.2.2.2.1 + r1, .inl (E.2.2.1 0, n1, .inl (va_cpy g0 g1 sp.toNatClampNeg dp.toNatClampNeg n.toNatClampNeg))) = x_w E z (x_up f r1 (.inl (n1, .inl (va_cpy g0 g1 sp.toNatClampNeg dp.toNatClampNeg n.toNatClampNeg)))) := by
    rw [← x_w_set]
    rfl
  have hP2 : va_P E.2.1 x_cl ((x_w E z f).set r1 (E.2.2.2.1 + r1, .inl (E.2.2.1 0, n1, .inl (va_cpy g0 g1 sp.toNatClampNeg dp.toNatClampNeg n.toNatClampNeg)))) H1 := hP1
  rw [hw] at hP2
  exact k _ rfl p e s m args below meth c H1 locs1 ls cx hz hP2 hS1 hl
end STEPS2
end
section
-- == 10.wrap
section WRAP
variable {E : x_E} {R : Room} {me : x_M} {QQ : List Frame → Array Value → State → State → Prop} {pc : Nat} {lv : x_L} {st : List Value} {z : Nat} {f : x_H} {cl sl : Nat}
theorem Y.mono {E : x_E} {d : Nat} {me : x_M} {av : List Value} {z : Nat} {f : x_H} {mc ms : Nat} {P Q : Option Value → x_H → Prop} (h : Y E d me av z f mc ms P) (hPQ : ∀ v f', P v f' → Q v f') : Y E d me av z f mc ms Q := by
  intro p e ha hc hk s m args below hf happ hP hK
  obtain ⟨n, o, g1, g2, g3, ⟨⟨⟨r, f', h1, h2, h3⟩, h4⟩, h5⟩⟩ := h p e ha hc hk s m args below hf happ hP hK
  exact ⟨n, o, g1, g2, g3, ⟨⟨⟨r, f', h1, hPQ _ _ h2, h3⟩, h4⟩, h5⟩⟩
theorem x_cV0i {pc' : Nat} {d i ci r : Nat} {ce : x_M} {fs : List Value} (hc : x_at me pc = some (.invokevirtual i, 3)) (hp : pc + 3 = pc') (hs : x_sV me.2.2.2.2.2.1 i ce 0 ci) (hg : x_good ce) (ho : x_o z f r ci fs) (hR : d + 1 ≤ R.frames ∧ 8 + (ce.2.2.1 + 11) + 200 * d ≤ R.locals) (hw : (st.map fun v => v.category).sum ≤ 8) (hf : cl ≤ R.cells ∧ sl ≤ R.slots) (hY : Y E d ce [.ref r] z f 0 0 (fun v f' => ∃ r : Int32, v = some (.int r) ∧ X E R me QQ pc' lv (.int r :: st) z f' cl sl)) : X E R me QQ pc lv (.ref r :: st) z f cl sl := by
  refine x_callV (As := []) hc hp hs hg ho (Y.mono hY (fun v f' h => ?_)) rfl rfl hR hw hf
  obtain ⟨q, rfl, h⟩ := h
  exact h
theorem x_cV1i {pc' : Nat} {d i ci r : Nat} {ce : x_M} {fs : List Value} {a1 : Value} (hc : x_at me pc = some (.invokevirtual i, 3)) (hp : pc + 3 = pc') (hs : x_sV me.2.2.2.2.2.1 i ce 1 ci) (hg : x_good ce) (ho : x_o z f r ci fs) (hR : d + 1 ≤ R.frames ∧ 8 + (ce.2.2.1 + 11) + 200 * d ≤ R.locals) (hw : (st.map fun v => v.category).sum ≤ 8) (hf : cl ≤ R.cells ∧ sl ≤ R.slots) (hY : Y E d ce [.ref r, a1] z f 0 0 (fun v f' => ∃ r : Int32, v = some (.int r) ∧ X E R me QQ pc' lv (.int r :: st) z f' cl sl)) : X E R me QQ pc lv (a1 :: .ref r :: st) z f cl sl := by
  refine x_callV (As := [a1]) hc hp hs hg ho (Y.mono hY (fun v f' h => ?_)) rfl rfl hR hw hf
  obtain ⟨q, rfl, h⟩ := h
  exact h
theorem x_cV2i {pc' : Nat} {d i ci r : Nat} {ce : x_M} {fs : List Value} {a1 a2 : Value} (hc : x_at me pc = some (.invokevirtual i, 3)) (hp : pc + 3 = pc') (hs : x_sV me.2.2.2.2.2.1 i ce 2 ci) (hg : x_good ce) (ho : x_o z f r ci fs) (hR : d + 1 ≤ R.frames ∧ 8 + (ce.2.2.1 + 11) + 200 * d ≤ R.locals) (hw : (st.map fun v => v.category).sum ≤ 8) (hf : cl ≤ R.cells ∧ sl ≤ R.slots) (hY : Y E d ce [.ref r, a1, a2] z f 0 0 (fun v f' => ∃ r : Int32, v = some (.int r) ∧ X E R me QQ pc' lv (.int r :: st) z f' cl sl)) : X E R me QQ pc lv (a2 :: a1 :: .ref r :: st) z f cl sl := by
  refine x_callV (As := [a1, a2]) hc hp hs hg ho (Y.mono hY (fun v f' h => ?_)) rfl rfl hR hw hf
  obtain ⟨q, rfl, h⟩ := h
  exact h
theorem x_cV3i {pc' : Nat} {d i ci r : Nat} {ce : x_M} {fs : List Value} {a1 a2 a3 : Value} (hc : x_at me pc = some (.invokevirtual i, 3)) (hp : pc + 3 = pc') (hs : x_sV me.2.2.2.2.2.1 i ce 3 ci) (hg : x_good ce) (ho : x_o z f r ci fs) (hR : d + 1 ≤ R.frames ∧ 8 + (ce.2.2.1 + 11) + 200 * d ≤ R.locals) (hw : (st.map fun v => v.category).sum ≤ 8) (hf : cl ≤ R.cells ∧ sl ≤ R.slots) (hY : Y E d ce [.ref r, a1, a2, a3] z f 0 0 (fun v f' => ∃ r : Int32, v = some (.int r) ∧ X E R me QQ pc' lv (.int r :: st) z f' cl sl)) : X E R me QQ pc lv (a3 :: a2 :: a1 :: .ref r :: st) z f cl sl := by
  refine x_callV (As := [a1, a2, a3]) hc hp hs hg ho (Y.mono hY (fun v f' h => ?_)) rfl rfl hR hw hf
  obtain ⟨q, rfl, h⟩ := h
  exact h
theorem x_cS1i {pc' : Nat} {d i : Nat} {ce : x_M} {a1 : Value} (hc : x_at me pc = some (.invokestatic i, 3)) (hp : pc + 3 = pc') (hs : x_sS me.2.2.2.2.2.1 i ce 1) (hg : x_good ce) (hR : d + 1 ≤ R.frames ∧ 8 + (ce.2.2.1 + 11) + 200 * d ≤ R.locals) (hw : (st.map fun v => v.category).sum ≤ 8) (hf : cl ≤ R.cells ∧ sl ≤ R.slots) (hY : Y E d ce [a1] z f 0 0 (fun v f' => ∃ r : Int32, v = some (.int r) ∧ X E R me QQ pc' lv (.int r :: st) z f' cl sl)) : X E R me QQ pc lv (a1 :: st) z f cl sl := by
  refine x_callS (As := [a1]) hc hp hs hg (Y.mono hY (fun v f' h => ?_)) rfl rfl hR hw hf
  obtain ⟨q, rfl, h⟩ := h
  exact h
theorem x_cS2i {pc' : Nat} {d i : Nat} {ce : x_M} {a1 a2 : Value} (hc : x_at me pc = some (.invokestatic i, 3)) (hp : pc + 3 = pc') (hs : x_sS me.2.2.2.2.2.1 i ce 2) (hg : x_good ce) (hR : d + 1 ≤ R.frames ∧ 8 + (ce.2.2.1 + 11) + 200 * d ≤ R.locals) (hw : (st.map fun v => v.category).sum ≤ 8) (hf : cl ≤ R.cells ∧ sl ≤ R.slots) (hY : Y E d ce [a1, a2] z f 0 0 (fun v f' => ∃ r : Int32, v = some (.int r) ∧ X E R me QQ pc' lv (.int r :: st) z f' cl sl)) : X E R me QQ pc lv (a2 :: a1 :: st) z f cl sl := by
  refine x_callS (As := [a1, a2]) hc hp hs hg (Y.mono hY (fun v f' h => ?_)) rfl rfl hR hw hf
  obtain ⟨q, rfl, h⟩ := h
  exact h
theorem x_cS3i {pc' : Nat} {d i : Nat} {ce : x_M} {a1 a2 a3 : Value} (hc : x_at me pc = some (.invokestatic i, 3)) (hp : pc + 3 = pc') (hs : x_sS me.2.2.2.2.2.1 i ce 3) (hg : x_good ce) (hR : d + 1 ≤ R.frames ∧ 8 + (ce.2.2.1 + 11) + 200 * d ≤ R.locals) (hw : (st.map fun v => v.category).sum ≤ 8) (hf : cl ≤ R.cells ∧ sl ≤ R.slots) (hY : Y E d ce [a1, a2, a3] z f 0 0 (fun v f' => ∃ r : Int32, v = some (.int r) ∧ X E R me QQ pc' lv (.int r :: st) z f' cl sl)) : X E R me QQ pc lv (a3 :: a2 :: a1 :: st) z f cl sl := by
  refine x_callS (As := [a1, a2, a3]) hc hp hs hg (Y.mono hY (fun v f' h => ?_)) rfl rfl hR hw hf
  obtain ⟨q, rfl, h⟩ := h
  exact h
theorem x_cS5i {pc' : Nat} {d i : Nat} {ce : x_M} {a1 a2 a3 a4 a5 : Value} (hc : x_at me pc = some (.invokestatic i, 3)) (hp : pc + 3 = pc') (hs : x_sS me.2.2.2.2.2.1 i ce 5) (hg : x_good ce) (hR : d + 1 ≤ R.frames ∧ 8 + (ce.2.2.1 + 11) + 200 * d ≤ R.locals) (hw : (st.map fun v => v.category).sum ≤ 8) (hf : cl ≤ R.cells ∧ sl ≤ R.slots) (hY : Y E d ce [a1, a2, a3, a4, a5] z f 0 0 (fun v f' => ∃ r : Int32, v = some (.int r) ∧ X E R me QQ pc' lv (.int r :: st) z f' cl sl)) : X E R me QQ pc lv (a5 :: a4 :: a3 :: a2 :: a1 :: st) z f cl sl := by
  refine x_callS (As := [a1, a2, a3, a4, a5]) hc hp hs hg (Y.mono hY (fun v f' h => ?_)) rfl rfl hR hw hf
  obtain ⟨q, rfl, h⟩ := h
  exact h
theorem x_cS6i {pc' : Nat} {d i : Nat} {ce : x_M} {a1 a2 a3 a4 a5 a6 : Value} (hc : x_at me pc = some (.invokestatic i, 3)) (hp : pc + 3 = pc') (hs : x_sS me.2.2.2.2.2.1 i ce 6) (hg : x_good ce) (hR : d + 1 ≤ R.frames ∧ 8 + (ce.2.2.1 + 11) + 200 * d ≤ R.locals) (hw : (st.map fun v => v.category).sum ≤ 8) (hf : cl ≤ R.cells ∧ sl ≤ R.slots) (hY : Y E d ce [a1, a2, a3, a4, a5, a6] z f 0 0 (fun v f' => ∃ r : Int32, v = some (.int r) ∧ X E R me QQ pc' lv (.int r :: st) z f' cl sl)) : X E R me QQ pc lv (a6 :: a5 :: a4 :: a3 :: a2 :: a1 :: st) z f cl sl := by
  refine x_callS (As := [a1, a2, a3, a4, a5, a6]) hc hp hs hg (Y.mono hY (fun v f' h => ?_)) rfl rfl hR hw hf
  obtain ⟨q, rfl, h⟩ := h
  exact h
theorem x_cV0l {pc' : Nat} {d i ci r : Nat} {ce : x_M} {fs : List Value} (hc : x_at me pc = some (.invokevirtual i, 3)) (hp : pc + 3 = pc') (hs : x_sV me.2.2.2.2.2.1 i ce 0 ci) (hg : x_good ce) (ho : x_o z f r ci fs) (hR : d + 1 ≤ R.frames ∧ 8 + (ce.2.2.1 + 11) + 200 * d ≤ R.locals) (hw : (st.map fun v => v.category).sum ≤ 8) (hf : cl ≤ R.cells ∧ sl ≤ R.slots) (hY : Y E d ce [.ref r] z f 0 0 (fun v f' => ∃ r : Int64, v = some (.long r) ∧ X E R me QQ pc' lv (.long r :: st) z f' cl sl)) : X E R me QQ pc lv (.ref r :: st) z f cl sl := by
  refine x_callV (As := []) hc hp hs hg ho (Y.mono hY (fun v f' h => ?_)) rfl rfl hR hw hf
  obtain ⟨q, rfl, h⟩ := h
  exact h
theorem x_cV1l {pc' : Nat} {d i ci r : Nat} {ce : x_M} {fs : List Value} {a1 : Value} (hc : x_at me pc = some (.invokevirtual i, 3)) (hp : pc + 3 = pc') (hs : x_sV me.2.2.2.2.2.1 i ce 1 ci) (hg : x_good ce) (ho : x_o z f r ci fs) (hR : d + 1 ≤ R.frames ∧ 8 + (ce.2.2.1 + 11) + 200 * d ≤ R.locals) (hw : (st.map fun v => v.category).sum ≤ 8) (hf : cl ≤ R.cells ∧ sl ≤ R.slots) (hY : Y E d ce [.ref r, a1] z f 0 0 (fun v f' => ∃ r : Int64, v = some (.long r) ∧ X E R me QQ pc' lv (.long r :: st) z f' cl sl)) : X E R me QQ pc lv (a1 :: .ref r :: st) z f cl sl := by
  refine x_callV (As := [a1]) hc hp hs hg ho (Y.mono hY (fun v f' h => ?_)) rfl rfl hR hw hf
  obtain ⟨q, rfl, h⟩ := h
  exact h
theorem x_cV2l {pc' : Nat} {d i ci r : Nat} {ce : x_M} {fs : List Value} {a1 a2 : Value} (hc : x_at me pc = some (.invokevirtual i, 3)) (hp : pc + 3 = pc') (hs : x_sV me.2.2.2.2.2.1 i ce 2 ci) (hg : x_good ce) (ho : x_o z f r ci fs) (hR : d + 1 ≤ R.frames ∧ 8 + (ce.2.2.1 + 11) + 200 * d ≤ R.locals) (hw : (st.map fun v => v.category).sum ≤ 8) (hf : cl ≤ R.cells ∧ sl ≤ R.slots) (hY : Y E d ce [.ref r, a1, a2] z f 0 0 (fun v f' => ∃ r : Int64, v = some (.long r) ∧ X E R me QQ pc' lv (.long r :: st) z f' cl sl)) : X E R me QQ pc lv (a2 :: a1 :: .ref r :: st) z f cl sl := by
  refine x_callV (As := [a1, a2]) hc hp hs hg ho (Y.mono hY (fun v f' h => ?_)) rfl rfl hR hw hf
  obtain ⟨q, rfl, h⟩ := h
  exact h
theorem x_cV3l {pc' : Nat} {d i ci r : Nat} {ce : x_M} {fs : List Value} {a1 a2 a3 : Value} (hc : x_at me pc = some (.invokevirtual i, 3)) (hp : pc + 3 = pc') (hs : x_sV me.2.2.2.2.2.1 i ce 3 ci) (hg : x_good ce) (ho : x_o z f r ci fs) (hR : d + 1 ≤ R.frames ∧ 8 + (ce.2.2.1 + 11) + 200 * d ≤ R.locals) (hw : (st.map fun v => v.category).sum ≤ 8) (hf : cl ≤ R.cells ∧ sl ≤ R.slots) (hY : Y E d ce [.ref r, a1, a2, a3] z f 0 0 (fun v f' => ∃ r : Int64, v = some (.long r) ∧ X E R me QQ pc' lv (.long r :: st) z f' cl sl)) : X E R me QQ pc lv (a3 :: a2 :: a1 :: .ref r :: st) z f cl sl := by
  refine x_callV (As := [a1, a2, a3]) hc hp hs hg ho (Y.mono hY (fun v f' h => ?_)) rfl rfl hR hw hf
  obtain ⟨q, rfl, h⟩ := h
  exact h
theorem x_cS1l {pc' : Nat} {d i : Nat} {ce : x_M} {a1 : Value} (hc : x_at me pc = some (.invokestatic i, 3)) (hp : pc + 3 = pc') (hs : x_sS me.2.2.2.2.2.1 i ce 1) (hg : x_good ce) (hR : d + 1 ≤ R.frames ∧ 8 + (ce.2.2.1 + 11) + 200 * d ≤ R.locals) (hw : (st.map fun v => v.category).sum ≤ 8) (hf : cl ≤ R.cells ∧ sl ≤ R.slots) (hY : Y E d ce [a1] z f 0 0 (fun v f' => ∃ r : Int64, v = some (.long r) ∧ X E R me QQ pc' lv (.long r :: st) z f' cl sl)) : X E R me QQ pc lv (a1 :: st) z f cl sl := by
  refine x_callS (As := [a1]) hc hp hs hg (Y.mono hY (fun v f' h => ?_)) rfl rfl hR hw hf
  obtain ⟨q, rfl, h⟩ := h
  exact h
theorem x_cS2l {pc' : Nat} {d i : Nat} {ce : x_M} {a1 a2 : Value} (hc : x_at me pc = some (.invokestatic i, 3)) (hp : pc + 3 = pc') (hs : x_sS me.2.2.2.2.2.1 i ce 2) (hg : x_good ce) (hR : d + 1 ≤ R.frames ∧ 8 + (ce.2.2.1 + 11) + 200 * d ≤ R.locals) (hw : (st.map fun v => v.category).sum ≤ 8) (hf : cl ≤ R.cells ∧ sl ≤ R.slots) (hY : Y E d ce [a1, a2] z f 0 0 (fun v f' => ∃ r : Int64, v = some (.long r) ∧ X E R me QQ pc' lv (.long r :: st) z f' cl sl)) : X E R me QQ pc lv (a2 :: a1 :: st) z f cl sl := by
  refine x_callS (As := [a1, a2]) hc hp hs hg (Y.mono hY (fun v f' h => ?_)) rfl rfl hR hw hf
  obtain ⟨q, rfl, h⟩ := h
  exact h
theorem x_cS3l {pc' : Nat} {d i : Nat} {ce : x_M} {a1 a2 a3 : Value} (hc : x_at me pc = some (.invokestatic i, 3)) (hp : pc + 3 = pc') (hs : x_sS me.2.2.2.2.2.1 i ce 3) (hg : x_good ce) (hR : d + 1 ≤ R.frames ∧ 8 + (ce.2.2.1 + 11) + 200 * d ≤ R.locals) (hw : (st.map fun v => v.category).sum ≤ 8) (hf : cl ≤ R.cells ∧ sl ≤ R.slots) (hY : Y E d ce [a1, a2, a3] z f 0 0 (fun v f' => ∃ r : Int64, v = some (.long r) ∧ X E R me QQ pc' lv (.long r :: st) z f' cl sl)) : X E R me QQ pc lv (a3 :: a2 :: a1 :: st) z f cl sl := by
  refine x_callS (As := [a1, a2, a3]) hc hp hs hg (Y.mono hY (fun v f' h => ?_)) rfl rfl hR hw hf
  obtain ⟨q, rfl, h⟩ := h
  exact h
theorem x_cS5l {pc' : Nat} {d i : Nat} {ce : x_M} {a1 a2 a3 a4 a5 : Value} (hc : x_at me pc = some (.invokestatic i, 3)) (hp : pc + 3 = pc') (hs : x_sS me.2.2.2.2.2.1 i ce 5) (hg : x_good ce) (hR : d + 1 ≤ R.frames ∧ 8 + (ce.2.2.1 + 11) + 200 * d ≤ R.locals) (hw : (st.map fun v => v.category).sum ≤ 8) (hf : cl ≤ R.cells ∧ sl ≤ R.slots) (hY : Y E d ce [a1, a2, a3, a4, a5] z f 0 0 (fun v f' => ∃ r : Int64, v = some (.long r) ∧ X E R me QQ pc' lv (.long r :: st) z f' cl sl)) : X E R me QQ pc lv (a5 :: a4 :: a3 :: a2 :: a1 :: st) z f cl sl := by
  refine x_callS (As := [a1, a2, a3, a4, a5]) hc hp hs hg (Y.mono hY (fun v f' h => ?_)) rfl rfl hR hw hf
  obtain ⟨q, rfl, h⟩ := h
  exact h
theorem x_cS6l {pc' : Nat} {d i : Nat} {ce : x_M} {a1 a2 a3 a4 a5 a6 : Value} (hc : x_at me pc = some (.invokestatic i, 3)) (hp : pc + 3 = pc') (hs : x_sS me.2.2.2.2.2.1 i ce 6) (hg : x_good ce) (hR : d + 1 ≤ R.frames ∧ 8 + (ce.2.2.1 + 11) + 200 * d ≤ R.locals) (hw : (st.map fun v => v.category).sum ≤ 8) (hf : cl ≤ R.cells ∧ sl ≤ R.slots) (hY : Y E d ce [a1, a2, a3, a4, a5, a6] z f 0 0 (fun v f' => ∃ r : Int64, v = some (.long r) ∧ X E R me QQ pc' lv (.long r :: st) z f' cl sl)) : X E R me QQ pc lv (a6 :: a5 :: a4 :: a3 :: a2 :: a1 :: st) z f cl sl := by
  refine x_callS (As := [a1, a2, a3, a4, a5, a6]) hc hp hs hg (Y.mono hY (fun v f' h => ?_)) rfl rfl hR hw hf
  obtain ⟨q, rfl, h⟩ := h
  exact h
theorem x_cV0v {pc' : Nat} {d i ci r : Nat} {ce : x_M} {fs : List Value} (hc : x_at me pc = some (.invokevirtual i, 3)) (hp : pc + 3 = pc') (hs : x_sV me.2.2.2.2.2.1 i ce 0 ci) (hg : x_good ce) (ho : x_o z f r ci fs) (hR : d + 1 ≤ R.frames ∧ 8 + (ce.2.2.1 + 11) + 200 * d ≤ R.locals) (hw : (st.map fun v => v.category).sum ≤ 8) (hf : cl ≤ R.cells ∧ sl ≤ R.slots) (hY : Y E d ce [.ref r] z f 0 0 (fun v f' => v = none ∧ X E R me QQ pc' lv st z f' cl sl)) : X E R me QQ pc lv (.ref r :: st) z f cl sl := by
  refine x_callV (As := []) hc hp hs hg ho (Y.mono hY (fun v f' h => ?_)) rfl rfl hR hw hf
  obtain ⟨rfl, h⟩ := h
  exact h
theorem x_cV1v {pc' : Nat} {d i ci r : Nat} {ce : x_M} {fs : List Value} {a1 : Value} (hc : x_at me pc = some (.invokevirtual i, 3)) (hp : pc + 3 = pc') (hs : x_sV me.2.2.2.2.2.1 i ce 1 ci) (hg : x_good ce) (ho : x_o z f r ci fs) (hR : d + 1 ≤ R.frames ∧ 8 + (ce.2.2.1 + 11) + 200 * d ≤ R.locals) (hw : (st.map fun v => v.category).sum ≤ 8) (hf : cl ≤ R.cells ∧ sl ≤ R.slots) (hY : Y E d ce [.ref r, a1] z f 0 0 (fun v f' => v = none ∧ X E R me QQ pc' lv st z f' cl sl)) : X E R me QQ pc lv (a1 :: .ref r :: st) z f cl sl := by
  refine x_callV (As := [a1]) hc hp hs hg ho (Y.mono hY (fun v f' h => ?_)) rfl rfl hR hw hf
  obtain ⟨rfl, h⟩ := h
  exact h
theorem x_cV2v {pc' : Nat} {d i ci r : Nat} {ce : x_M} {fs : List Value} {a1 a2 : Value} (hc : x_at me pc = some (.invokevirtual i, 3)) (hp : pc + 3 = pc') (hs : x_sV me.2.2.2.2.2.1 i ce 2 ci) (hg : x_good ce) (ho : x_o z f r ci fs) (hR : d + 1 ≤ R.frames ∧ 8 + (ce.2.2.1 + 11) + 200 * d ≤ R.locals) (hw : (st.map fun v => v.category).sum ≤ 8) (hf : cl ≤ R.cells ∧ sl ≤ R.slots) (hY : Y E d ce [.ref r, a1, a2] z f 0 0 (fun v f' => v = none ∧ X E R me QQ pc' lv st z f' cl sl)) : X E R me QQ pc lv (a2 :: a1 :: .ref r :: st) z f cl sl := by
  refine x_callV (As := [a1, a2]) hc hp hs hg ho (Y.mono hY (fun v f' h => ?_)) rfl rfl hR hw hf
  obtain ⟨rfl, h⟩ := h
  exact h
theorem x_cV3v {pc' : Nat} {d i ci r : Nat} {ce : x_M} {fs : List Value} {a1 a2 a3 : Value} (hc : x_at me pc = some (.invokevirtual i, 3)) (hp : pc + 3 = pc') (hs : x_sV me.2.2.2.2.2.1 i ce 3 ci) (hg : x_good ce) (ho : x_o z f r ci fs) (hR : d + 1 ≤ R.frames ∧ 8 + (ce.2.2.1 + 11) + 200 * d ≤ R.locals) (hw : (st.map fun v => v.category).sum ≤ 8) (hf : cl ≤ R.cells ∧ sl ≤ R.slots) (hY : Y E d ce [.ref r, a1, a2, a3] z f 0 0 (fun v f' => v = none ∧ X E R me QQ pc' lv st z f' cl sl)) : X E R me QQ pc lv (a3 :: a2 :: a1 :: .ref r :: st) z f cl sl := by
  refine x_callV (As := [a1, a2, a3]) hc hp hs hg ho (Y.mono hY (fun v f' h => ?_)) rfl rfl hR hw hf
  obtain ⟨rfl, h⟩ := h
  exact h
theorem x_cS1v {pc' : Nat} {d i : Nat} {ce : x_M} {a1 : Value} (hc : x_at me pc = some (.invokestatic i, 3)) (hp : pc + 3 = pc') (hs : x_sS me.2.2.2.2.2.1 i ce 1) (hg : x_good ce) (hR : d + 1 ≤ R.frames ∧ 8 + (ce.2.2.1 + 11) + 200 * d ≤ R.locals) (hw : (st.map fun v => v.category).sum ≤ 8) (hf : cl ≤ R.cells ∧ sl ≤ R.slots) (hY : Y E d ce [a1] z f 0 0 (fun v f' => v = none ∧ X E R me QQ pc' lv st z f' cl sl)) : X E R me QQ pc lv (a1 :: st) z f cl sl := by
  refine x_callS (As := [a1]) hc hp hs hg (Y.mono hY (fun v f' h => ?_)) rfl rfl hR hw hf
  obtain ⟨rfl, h⟩ := h
  exact h
theorem x_cS2v {pc' : Nat} {d i : Nat} {ce : x_M} {a1 a2 : Value} (hc : x_at me pc = some (.invokestatic i, 3)) (hp : pc + 3 = pc') (hs : x_sS me.2.2.2.2.2.1 i ce 2) (hg : x_good ce) (hR : d + 1 ≤ R.frames ∧ 8 + (ce.2.2.1 + 11) + 200 * d ≤ R.locals) (hw : (st.map fun v => v.category).sum ≤ 8) (hf : cl ≤ R.cells ∧ sl ≤ R.slots) (hY : Y E d ce [a1, a2] z f 0 0 (fun v f' => v = none ∧ X E R me QQ pc' lv st z f' cl sl)) : X E R me QQ pc lv (a2 :: a1 :: st) z f cl sl := by
  refine x_callS (As := [a1, a2]) hc hp hs hg (Y.mono hY (fun v f' h => ?_)) rfl rfl hR hw hf
  obtain ⟨rfl, h⟩ := h
  exact h
theorem x_cS3v {pc' : Nat} {d i : Nat} {ce : x_M} {a1 a2 a3 : Value} (hc : x_at me pc = some (.invokestatic i, 3)) (hp : pc + 3 = pc') (hs : x_sS me.2.2.2.2.2.1 i ce 3) (hg : x_good ce) (hR : d + 1 ≤ R.frames ∧ 8 + (ce.2.2.1 + 11) + 200 * d ≤ R.locals) (hw : (st.map fun v => v.category).sum ≤ 8) (hf : cl ≤ R.cells ∧ sl ≤ R.slots) (hY : Y E d ce [a1, a2, a3] z f 0 0 (fun v f' => v = none ∧ X E R me QQ pc' lv st z f' cl sl)) : X E R me QQ pc lv (a3 :: a2 :: a1 :: st) z f cl sl := by
  refine x_callS (As := [a1, a2, a3]) hc hp hs hg (Y.mono hY (fun v f' h => ?_)) rfl rfl hR hw hf
  obtain ⟨rfl, h⟩ := h
  exact h
theorem x_cS5v {pc' : Nat} {d i : Nat} {ce : x_M} {a1 a2 a3 a4 a5 : Value} (hc : x_at me pc = some (.invokestatic i, 3)) (hp : pc + 3 = pc') (hs : x_sS me.2.2.2.2.2.1 i ce 5) (hg : x_good ce) (hR : d + 1 ≤ R.frames ∧ 8 + (ce.2.2.1 + 11) + 200 * d ≤ R.locals) (hw : (st.map fun v => v.category).sum ≤ 8) (hf : cl ≤ R.cells ∧ sl ≤ R.slots) (hY : Y E d ce [a1, a2, a3, a4, a5] z f 0 0 (fun v f' => v = none ∧ X E R me QQ pc' lv st z f' cl sl)) : X E R me QQ pc lv (a5 :: a4 :: a3 :: a2 :: a1 :: st) z f cl sl := by
  refine x_callS (As := [a1, a2, a3, a4, a5]) hc hp hs hg (Y.mono hY (fun v f' h => ?_)) rfl rfl hR hw hf
  obtain ⟨rfl, h⟩ := h
  exact h
theorem x_cS6v {pc' : Nat} {d i : Nat} {ce : x_M} {a1 a2 a3 a4 a5 a6 : Value} (hc : x_at me pc = some (.invokestatic i, 3)) (hp : pc + 3 = pc') (hs : x_sS me.2.2.2.2.2.1 i ce 6) (hg : x_good ce) (hR : d + 1 ≤ R.frames ∧ 8 + (ce.2.2.1 + 11) + 200 * d ≤ R.locals) (hw : (st.map fun v => v.category).sum ≤ 8) (hf : cl ≤ R.cells ∧ sl ≤ R.slots) (hY : Y E d ce [a1, a2, a3, a4, a5, a6] z f 0 0 (fun v f' => v = none ∧ X E R me QQ pc' lv st z f' cl sl)) : X E R me QQ pc lv (a6 :: a5 :: a4 :: a3 :: a2 :: a1 :: st) z f cl sl := by
  refine x_callS (As := [a1, a2, a3, a4, a5, a6]) hc hp hs hg (Y.mono hY (fun v f' h => ?_)) rfl rfl hR hw hf
  obtain ⟨rfl, h⟩ := h
  exact h
theorem x_cI {pc' : Nat} {d i r mc ms : Nat} {nest : Bool} {ce : x_M} (hc : x_at me pc = some (.invokespecial i, 3)) (hp : pc + 3 = pc') (hs : x_sI me.2.2.2.2.2.1 i ce 0 nest) (hg : x_good ce) (hR : d + 1 ≤ R.frames ∧ 8 + (ce.2.2.1 + 11) + 200 * d ≤ R.locals) (hw : (st.map fun v => v.category).sum ≤ 8) (hf : cl + mc ≤ R.cells ∧ sl + ms ≤ R.slots) (hY : Y E d ce [.ref r] z f mc ms (fun v f' => v = none ∧ X E R me QQ pc' lv st (z + mc) f' (cl + mc) (sl + ms))) : X E R me QQ pc lv (.ref r :: st) z f cl sl := by
  refine x_callI (As := []) hc hp hs hg (Y.mono hY (fun v f' h => ?_)) rfl rfl hR hw hf
  obtain ⟨rfl, h⟩ := h
  exact h
end WRAP
theorem bipush_m9 : (Int8.ofInt (-9)).toInt32 = (-9) := by decide +kernel
theorem bipush_m6 : (Int8.ofInt (-6)).toInt32 = (-6) := by decide +kernel
theorem bipush_m4 : (Int8.ofInt (-4)).toInt32 = (-4) := by decide +kernel
theorem bipush_m3 : (Int8.ofInt (-3)).toInt32 = (-3) := by decide +kernel
theorem bipush_m2 : (Int8.ofInt (-2)).toInt32 = (-2) := by decide +kernel
theorem bipush_6 : (Int8.ofInt 6).toInt32 = 6 := by decide +kernel
theorem bipush_7 : (Int8.ofInt 7).toInt32 = 7 := by decide +kernel
theorem bipush_8 : (Int8.ofInt 8).toInt32 = 8 := by decide +kernel
theorem bipush_9 : (Int8.ofInt 9).toInt32 = 9 := by decide +kernel
theorem bipush_10 : (Int8.ofInt 10).toInt32 = 10 := by decide +kernel
theorem bipush_11 : (Int8.ofInt 11).toInt32 = 11 := by decide +kernel
theorem bipush_12 : (Int8.ofInt 12).toInt32 = 12 := by decide +kernel
theorem bipush_16 : (Int8.ofInt 16).toInt32 = 16 := by decide +kernel
theorem bipush_20 : (Int8.ofInt 20).toInt32 = 20 := by decide +kernel
theorem bipush_21 : (Int8.ofInt 21).toInt32 = 21 := by decide +kernel
theorem bipush_31 : (Int8.ofInt 31).toInt32 = 31 := by decide +kernel
theorem bipush_40 : (Int8.ofInt 40).toInt32 = 40 := by decide +kernel
theorem bipush_41 : (Int8.ofInt 41).toInt32 = 41 := by decide +kernel
theorem bipush_48 : (Int8.ofInt 48).toInt32 = 48 := by decide +kernel
theorem bipush_50 : (Int8.ofInt 50).toInt32 = 50 := by decide +kernel
theorem bipush_57 : (Int8.ofInt 57).toInt32 = 57 := by decide +kernel
theorem bipush_59 : (Int8.ofInt 59).toInt32 = 59 := by decide +kernel
theorem bipush_60 : (Int8.ofInt 60).toInt32 = 60 := by decide +kernel
theorem bipush_96 : (Int8.ofInt 96).toInt32 = 96 := by decide +kernel
theorem bipush_98 : (Int8.ofInt 98).toInt32 = 98 := by decide +kernel
theorem bipush_99 : (Int8.ofInt 99).toInt32 = 99 := by decide +kernel
theorem bipush_100 : (Int8.ofInt 100).toInt32 = 100 := by decide +kernel
theorem bipush_102 : (Int8.ofInt 102).toInt32 = 102 := by decide +kernel
theorem bipush_104 : (Int8.ofInt 104).toInt32 = 104 := by decide +kernel
theorem bipush_108 : (Int8.ofInt 108).toInt32 = 108 := by decide +kernel
theorem bipush_110 : (Int8.ofInt 110).toInt32 = 110 := by decide +kernel
theorem bipush_111 : (Int8.ofInt 111).toInt32 = 111 := by decide +kernel
theorem bipush_113 : (Int8.ofInt 113).toInt32 = 113 := by decide +kernel
theorem bipush_115 : (Int8.ofInt 115).toInt32 = 115 := by decide +kernel
theorem bipush_116 : (Int8.ofInt 116).toInt32 = 116 := by decide +kernel
theorem bipush_119 : (Int8.ofInt 119).toInt32 = 119 := by decide +kernel
theorem iconst_m1 : Int32.ofInt (-1) = (-1) := by decide +kernel
theorem iconst_0 : Int32.ofInt 0 = 0 := by decide +kernel
theorem iconst_1 : Int32.ofInt 1 = 1 := by decide +kernel
theorem iconst_2 : Int32.ofInt 2 = 2 := by decide +kernel
theorem iconst_3 : Int32.ofInt 3 = 3 := by decide +kernel
theorem iconst_4 : Int32.ofInt 4 = 4 := by decide +kernel
theorem iconst_5 : Int32.ofInt 5 = 5 := by decide +kernel
theorem sipush_m2000 : (Int16.ofInt (-2000)).toInt32 = (-2000) := by decide +kernel
theorem sipush_m1000 : (Int16.ofInt (-1000)).toInt32 = (-1000) := by decide +kernel
theorem sipush_200 : (Int16.ofInt 200).toInt32 = 200 := by decide +kernel
theorem sipush_255 : (Int16.ofInt 255).toInt32 = 255 := by decide +kernel
theorem sipush_256 : (Int16.ofInt 256).toInt32 = 256 := by decide +kernel
theorem sipush_999 : (Int16.ofInt 999).toInt32 = 999 := by decide +kernel
theorem sipush_1000 : (Int16.ofInt 1000).toInt32 = 1000 := by decide +kernel
theorem sipush_1809 : (Int16.ofInt 1809).toInt32 = 1809 := by decide +kernel
theorem sipush_7381 : (Int16.ofInt 7381).toInt32 = 7381 := by decide +kernel
theorem sipush_16383 : (Int16.ofInt 16383).toInt32 = 16383 := by decide +kernel
theorem sipush_16384 : (Int16.ofInt 16384).toInt32 = 16384 := by decide +kernel
theorem lconst_0 : Int64.ofNat ((0 : Fin 2) : Nat) = 0 := by decide +kernel
theorem lconst_1 : Int64.ofNat ((1 : Fin 2) : Nat) = 1 := by decide +kernel
end
section
-- == 11.heap
/-! Small facts on abstract heaps. -/
def x_fr (P : Nat → Prop) (f f' : x_H) : Prop := ∀ q, P q → f' q = f q
theorem x_fr.rf {P : Nat → Prop} {f : x_H} : x_fr P f f := fun _ _ => rfl
theorem x_fr.up {P : Nat → Prop} {f f1 f' : x_H} {k : Nat} {c : x_C} (h : x_fr P f f1) (e : f' = x_up f1 k c) (hk : ¬ P k) : x_fr P f f' := fun q hq => by
  subst e
  have hn : q ≠ k := fun e => hk (by rw [← e]; exact hq)
  exact (x_up_n f1 c hn).trans (h q hq)
theorem x_fr.trans {P : Nat → Prop} {f f1 f2 : x_H} (h1 : x_fr P f f1) (h2 : x_fr P f1 f2) : x_fr P f f2 := fun q hq => (h2 q hq).trans (h1 q hq)
theorem x_fr.mono {P Q : Nat → Prop} {f f1 : x_H} (h : x_fr P f f1) (hq : ∀ q, Q q → P q) : x_fr Q f f1 := fun q h1 => h q (hq q h1)
theorem x_o.fr {z : Nat} {f f' : x_H} {P : Nat → Prop} {r ci : Nat} {fs : List Value} (h : x_o z f r ci fs) (hf : x_fr P f f') (hr : P r) : x_o z f' r ci fs := ⟨h.1, (hf r hr).trans h.2⟩
theorem x_a.fr {z : Nat} {f f' : x_H} {P : Nat → Prop} {r : Nat} {a : vp_A} (h : x_a z f r a) (hf : x_fr P f f') (hr : P r) : x_a z f' r a := ⟨h.1, (hf r hr).trans h.2⟩
theorem x_o.s {z : Nat} {f f' : x_H} {r ci : Nat} {fs : List Value} (e : f' = x_up f r (.inr (ci, fs))) (h : r < z) : x_o z f' r ci fs := by
  subst e
  exact ⟨h, x_up_s _ _ _⟩
theorem x_a.s {z : Nat} {f f' : x_H} {r : Nat} {a : vp_A} (e : f' = x_up f r (.inl a)) (h : r < z) : x_a z f' r a := by
  subst e
  exact ⟨h, x_up_s _ _ _⟩
theorem x_o.n {z : Nat} {f f' : x_H} {r ci k : Nat} {fs : List Value} {c : x_C} (h : x_o z f r ci fs) (e : f' = x_up f k c) (hk : r ≠ k) : x_o z f' r ci fs := by
  subst e
  exact ⟨h.1, (x_up_n f c hk).trans h.2⟩
theorem x_a.n {z : Nat} {f f' : x_H} {r k : Nat} {a : vp_A} {c : x_C} (h : x_a z f r a) (e : f' = x_up f k c) (hk : r ≠ k) : x_a z f' r a := by
  subst e
  exact ⟨h.1, (x_up_n f c hk).trans h.2⟩
theorem x_o.zz {z z' : Nat} {f : x_H} {r ci : Nat} {fs : List Value} (h : x_o z f r ci fs) (hz : z ≤ z') : x_o z' f r ci fs := ⟨Nat.lt_of_lt_of_le h.1 hz, h.2⟩
theorem x_a.zz {z z' : Nat} {f : x_H} {r : Nat} {a : vp_A} (h : x_a z f r a) (hz : z ≤ z') : x_a z' f r a := ⟨Nat.lt_of_lt_of_le h.1 hz, h.2⟩
/-- an array's contents count below its length alone -/
theorem x_eqA {E : x_E} {R : Room} {me : x_M} {QQ : List Frame → Array Value → State → State → Prop} {pc : Nat} {lv : x_L} {st : List Value} {z : Nat} {f : x_H} {cl sl r n : Nat} {g g' : Nat → Int32} (ha : x_a z f r (n, .inl g)) (hg : ∀ j, j < n → g j = g' j) (k : ∀ f' : x_H, f' = x_up f r (.inl (n, .inl g')) → X E R me QQ pc lv st z f' cl sl) : X E R me QQ pc lv st z f cl sl := by
  intro p e s m args below meth c H locs ls cx hz hP hS hl
  refine k _ rfl p e s m args below meth c H locs ls cx hz ?_ hS hl
  have hcell : vp_cell (E.2.2.1 0) (n, .inl g) = vp_cell (E.2.2.1 0) (n, .inl g') := by
    rw [vp_cell_i, vp_cell_i]
    unfold arrV
    congr 1
    apply Array.ext
    · simp
    · intro i h1 h2
      simp only [Array.getElem_ofFn]
      rw [hg i (by simpa using h1)]
  intro i q hq
  have hi : i < z := by
    have := (List.getElem?_eq_some_iff.mp hq).1
    rw [x_w_len] at this
    exact this
  rw [x_w_at hi] at hq
  have hq' := Option.some.inj hq
  subst hq'
  by_cases hir : i = r
  · subst hir
    have h1 := hP i _ (x_w_at hi)
    rw [ha.2] at h1
    rw [x_up_s]
    have h2 : H[E.2.2.2.1 + i]? = some (vp_cell (E.2.2.1 0) (n, .inl g)) := h1
    show H[E.2.2.2.1 + i]? = some (vp_cell (E.2.2.1 0) (n, .inl g'))
    rw [← hcell]
    exact h2
  · rw [x_up_n f _ hir]
    exact hP i _ (x_w_at hi)
theorem x_eqL {E : x_E} {R : Room} {me : x_M} {QQ : List Frame → Array Value → State → State → Prop} {pc : Nat} {lv : x_L} {st : List Value} {z : Nat} {f : x_H} {cl sl r n : Nat} {g g' : Nat → Int64} (ha : x_a z f r (n, .inr (.inl g))) (hg : ∀ j, j < n → g j = g' j) (k : ∀ f' : x_H, f' = x_up f r (.inl (n, .inr (.inl g'))) → X E R me QQ pc lv st z f' cl sl) : X E R me QQ pc lv st z f cl sl := by
  intro p e s m args below meth c H locs ls cx hz hP hS hl
  refine k _ rfl p e s m args below meth c H locs ls cx hz ?_ hS hl
  have hcell : vp_cell (E.2.2.1 1) (n, .inr (.inl g)) = vp_cell (E.2.2.1 1) (n, .inr (.inl g')) := by
    rw [vp_cell_l, vp_cell_l]
    unfold arrV
    congr 1
    apply Array.ext
    · simp
    · intro i h1 h2
      simp only [Array.getElem_ofFn]
      rw [hg i (by simpa using h1)]
  intro i q hq
  have hi : i < z := by
    have := (List.getElem?_eq_some_iff.mp hq).1
    rw [x_w_len] at this
    exact this
  rw [x_w_at hi] at hq
  have hq' := Option.some.inj hq
  subst hq'
  by_cases hir : i = r
  · subst hir
    have h1 := hP i _ (x_w_at hi)
    rw [ha.2] at h1
    rw [x_up_s]
    have h2 : H[E.2.2.2.1 + i]? = some (vp_cell (E.2.2.1 1) (n, .inr (.inl g))) := h1
    show H[E.2.2.2.1 + i]? = some (vp_cell (E.2.2.1 1) (n, .inr (.inl g')))
    rw [← hcell]
    exact h2
  · rw [x_up_n f _ hir]
    exact hP i _ (x_w_at hi)
theorem x_up_up (f : x_H) (k : Nat) (c d : x_C) : x_up (x_up f k c) k d = x_up f k d := by
  funext j
  by_cases h : j = k <;> simp [x_up, h]
/-- a whole array into another -/
theorem x_copyW {E : x_E} {R : Room} {me : x_M} {QQ : List Frame → Array Value → State → State → Prop} {pc pc' : Nat} {lv : x_L} {st : List Value} {z : Nat} {f : x_H} {cl sl i r0 r1 n : Nat} {g0 g1 : Nat → Int32} {N : Int32} (hc : x_at me pc = some (.invokestatic i, 3)) (hp : pc + 3 = pc') (hs : Cond.methodLink me.2.2.2.2.2.1 i arraycopyName ∈ x_tb) (ha0 : x_a z f r0 (n, .inl g0)) (ha1 : x_a z f r1 (n, .inl g1)) (h3 : ¬ N < 0) (hN : N.toNatClampNeg = n)
    (hR : 1 ≤ R.frames ∧ 8 + (nativeFrameWords "java/lang/System" "arraycopy" 5 + 11) ≤ R.locals) (hw : (st.map fun v => v.category).sum ≤ 8) (k : ∀ f' : x_H, f' = x_up f r1 (.inl (n, .inl g0)) → X E R me QQ pc' lv st z f' cl sl) : X E R me QQ pc lv (.int N :: .int 0 :: .ref r1 :: .int 0 :: .ref r0 :: st) z f cl sl := by
  have h0 : (0 : Int32).toNatClampNeg = 0 := by decide
  refine x_copy hc hp hs ha0 ha1 (by decide) (by decide) h3 (by rw [h0, hN]; omega) (by rw [h0, hN]; omega) hR hw (fun f' e => ?_)
  refine x_eqA (g' := g0) (x_a.s e ha1.1) (fun j hj => ?_) (fun f2 e2 => ?_)
  · rw [h0, hN]
    rw [pk_cpy_in (by omega) (by omega)]
    congr 1
    omega
  · refine k f2 ?_
    rw [e2, e, x_up_up]
theorem x_tab_out {x : Int32} {lo hi : Int} (h : ∀ k : Int, lo ≤ k → k ≤ hi → x ≠ Int32.ofInt k) : x.toInt < lo ∨ hi < x.toInt := by
  by_cases h1 : x.toInt < lo
  · exact Or.inl h1
  · by_cases h2 : hi < x.toInt
    · exact Or.inr h2
    · exact absurd (Int32.ofInt_toInt x).symm (h x.toInt (by omega) (by omega))
theorem i32_ne (x : Int32) {a b : Int} (h : ∀ k : Int, a ≤ k → k ≤ b → x ≠ Int32.ofInt k) : x.toInt < a ∨ b < x.toInt := x_tab_out h
/-- the variables in another order, or fewer -/
theorem x_lvp {E : x_E} {R : Room} {me : x_M} {QQ : List Frame → Array Value → State → State → Prop} {pc : Nat} {lv lv' : x_L} {st : List Value} {z : Nat} {f : x_H} {cl sl : Nat} (ks : List Nat) (h : lv_pick lv ks = lv') (k : X E R me QQ pc lv' st z f cl sl) : X E R me QQ pc lv st z f cl sl := by
  intro p e s m args below meth c H locs ls cx hz hP hS hl
  refine k p e s m args below meth c H locs ls cx hz hP hS ⟨hl.1, hl.2.1, fun q hq => hl.2.2 q ?_⟩
  subst h
  obtain ⟨a, ha, rfl⟩ := List.mem_map.mp hq
  obtain ⟨i, -, hi⟩ := List.mem_filterMap.mp ha
  exact List.mem_map.mpr ⟨a, List.mem_of_getElem? hi, rfl⟩
end
section
-- == 12.table
/-! The class's Table: its cells, its methods. -/
/-- kinds, beans, purses, numbers (0 held, 1 fullness, 2 lent, 3 turn, 4 moves, 5 hands, 6 last, 7 sown, 8 taken) -/
abbrev x_T : Type := (Nat → Int32) × (Nat → Int32) × (Nat → Int32) × (Nat → Int32)
def x_tF (t : Nat) (s : Nat → Int32) : List Value := [.ref (t + 1), .ref (t + 2), .ref (t + 3), .int (s 0), .int (s 1), .int (s 2), .int (s 3), .int (s 4), .int (s 5), .int (s 6), .int (s 7), .int (s 8)]
def x_t (z : Nat) (f : x_H) (t : Nat) (T : x_T) : Prop := x_o z f t 3 (x_tF t T.2.2.2) ∧ x_a z f (t + 1) (9, .inl T.1) ∧ x_a z f (t + 2) (9, .inl T.2.1) ∧ x_a z f (t + 3) (2, .inl T.2.2.1)
abbrev t_has (T : x_T) (b : Int32) : Prop := ¬ b < 0 ∧ b < T.2.2.2 0 ∧ b < 9
theorem vp_in_9 {b : Int32} (h0 : ¬ b < 0) (h9 : b < 9) : vp_in b 9 := by
  have h1 : (9 : Int32).toInt = 9 := by decide
  have h2 : (0 : Int32).toInt = 0 := by decide
  rw [vp_in_iff]
  rw [Int32.lt_iff_toInt_lt] at h0 h9
  omega
theorem x_t.fr {z : Nat} {f f' : x_H} {t : Nat} {T : x_T} {P : Nat → Prop} (h : x_t z f t T) (hf : x_fr P f f') (hp : ∀ i, i < 4 → P (t + i)) : x_t z f' t T := ⟨h.1.fr hf (hp 0 (by decide)), h.2.1.fr hf (hp 1 (by decide)), h.2.2.1.fr hf (hp 2 (by decide)), h.2.2.2.fr hf (hp 3 (by decide))⟩
theorem x_t.zz {z z' : Nat} {f : x_H} {t : Nat} {T : x_T} (h : x_t z f t T) (hz : z ≤ z') : x_t z' f t T := ⟨h.1.zz hz, h.2.1.zz hz, h.2.2.1.zz hz, h.2.2.2.zz hz⟩
theorem x_t.n {z : Nat} {f f' : x_H} {t k : Nat} {T : x_T} {c : x_C} (h : x_t z f t T) (e : f' = x_up f k c) (hk : k < t ∨ t + 4 ≤ k) : x_t z f' t T := ⟨h.1.n e (by omega), h.2.1.n e (by omega), h.2.2.1.n e (by omega), h.2.2.2.n e (by omega)⟩
/-- outside a table -/
abbrev x_ot (t : Nat) : Nat → Prop := fun q => q < t ∨ t + 4 ≤ q
def x_T0 : x_T := (fun _ => 0, fun _ => 0, fun _ => 0, fun i => if i = 1 then 4 else if i = 6 then (-9) else 0)
def x_cp (T U : x_T) : x_T := (U.1, U.2.1, U.2.2.1, fun i => if i < 5 then U.2.2.2 i else T.2.2.2 i)
section TABLE
variable {E : x_E} {z : Nat} {f : x_H} {t : Nat} {T : x_T} {post : Option Value → x_H → Prop}
theorem w_has {b : Int32} (hT : x_t z f t T) (h1 : t_has T b → post (some (.int 1)) f) (h0 : ¬ t_has T b → post (some (.int 0)) f) : Y E 1 mX3_has [.ref t, .int b] z f 0 0 post := by
  refine Y.intro gX3_has (lv := [(0, .ref t), (1, .int b)]) rfl (Nat.le_of_ble_eq_true rfl) ?_
  obtain ⟨hO, hk, hb, hp⟩ := hT
  refine x_iload_n (pc' := 1) rfl rfl rfl ?_
  refine x_if_lt (tgt := 22) (pc' := 4) rfl rfl rfl (fun c1 => ?_) (fun c1 => ?_)
  · refine x_iconst (pc' := 23) rfl rfl iconst_0 ?_
    exact x_ireturn rfl rfl rfl (Nat.le_of_ble_eq_true rfl) (Nat.le_of_ble_eq_true rfl) (h0 (fun q => q.1 c1))
  · refine x_iload_n (pc' := 5) rfl rfl rfl ?_
    refine x_aload_n (pc' := 6) rfl rfl rfl ?_
    refine x_get (pc' := 9) rfl rfl rfl (hO) rfl ?_
    refine x_icmp_ge (tgt := 22) (pc' := 12) rfl rfl rfl (fun c9 => ?_) (fun c9 => ?_)
    · refine x_iconst (pc' := 23) rfl rfl iconst_0 ?_
      exact x_ireturn rfl rfl rfl (Nat.le_of_ble_eq_true rfl) (Nat.le_of_ble_eq_true rfl) (h0 (fun q => Int32.not_lt.mpr c9 q.2.1))
    · refine x_iload_n (pc' := 13) rfl rfl rfl ?_
      refine x_bipush (pc' := 15) rfl rfl bipush_9 ?_
      refine x_icmp_ge (tgt := 22) (pc' := 18) rfl rfl rfl (fun c15 => ?_) (fun c15 => ?_)
      · refine x_iconst (pc' := 23) rfl rfl iconst_0 ?_
        exact x_ireturn rfl rfl rfl (Nat.le_of_ble_eq_true rfl) (Nat.le_of_ble_eq_true rfl) (h0 (fun q => Int32.not_lt.mpr c15 q.2.2))
      · refine x_iconst (pc' := 19) rfl rfl iconst_1 ?_
        refine x_goto (tgt := 23) rfl rfl ?_
        exact x_ireturn rfl rfl rfl (Nat.le_of_ble_eq_true rfl) (Nat.le_of_ble_eq_true rfl) (h1 ⟨c1, Int32.not_le.mp c9, Int32.not_le.mp c15⟩)
theorem w_canMove {b : Int32} (hT : x_t z f t T) (h1 : (2 : Int32) ≤ T.2.2.2 0 ∧ t_has T b ∧ 0 < T.2.1 b.toNatClampNeg → post (some (.int 1)) f) (h0 : ¬ ((2 : Int32) ≤ T.2.2.2 0 ∧ t_has T b ∧ 0 < T.2.1 b.toNatClampNeg) → post (some (.int 0)) f) : Y E 2 mX3_canMove [.ref t, .int b] z f 0 0 post := by
  refine Y.intro gX3_canMove (lv := [(0, .ref t), (1, .int b)]) rfl (Nat.le_of_ble_eq_true rfl) ?_
  obtain ⟨hO, hk, hb, hp⟩ := id hT
  refine x_aload_n (pc' := 1) rfl rfl rfl ?_
  refine x_get (pc' := 4) rfl rfl rfl (hO) rfl ?_
  refine x_iconst (pc' := 5) rfl rfl iconst_2 ?_
  refine x_icmp_lt (tgt := 29) (pc' := 8) rfl rfl rfl (fun c5 => ?_) (fun c5 => ?_)
  · refine x_iconst (pc' := 30) rfl rfl iconst_0 ?_
    exact x_ireturn rfl rfl rfl (Nat.le_of_ble_eq_true rfl) (Nat.le_of_ble_eq_true rfl) (h0 (fun q => Int32.not_le.mpr c5 q.1))
  · refine x_aload_n (pc' := 9) rfl rfl rfl ?_
    refine x_iload_n (pc' := 10) rfl rfl rfl ?_
    refine x_cV1i (d := 1) (pc' := 13) rfl rfl sX3_55 gX3_has (hO) ⟨Nat.le_of_ble_eq_true rfl, Nat.le_of_ble_eq_true rfl⟩ (Nat.le_of_ble_eq_true rfl) ⟨Nat.le_of_ble_eq_true rfl, Nat.le_of_ble_eq_true rfl⟩ ?_
    refine w_has hT (fun g => ⟨_, rfl, ?_⟩) (fun g => ⟨_, rfl, ?_⟩)
    · refine x_if_eq (tgt := 29) (pc' := 16) rfl rfl rfl (fun c13 => absurd c13 (by decide)) (fun _ => ?_)
      refine x_aload_n (pc' := 17) rfl rfl rfl ?_
      refine x_get (pc' := 20) rfl rfl rfl (hO) rfl ?_
      refine x_iload_n (pc' := 21) rfl rfl rfl ?_
      refine x_iaload (pc' := 22) rfl rfl (hb) (vp_in_9 g.1 g.2.2) ?_
      refine x_if_le (tgt := 29) (pc' := 25) rfl rfl rfl (fun c22 => ?_) (fun c22 => ?_)
      · refine x_iconst (pc' := 30) rfl rfl iconst_0 ?_
        exact x_ireturn rfl rfl rfl (Nat.le_of_ble_eq_true rfl) (Nat.le_of_ble_eq_true rfl) (h0 (fun q => Int32.not_lt.mpr c22 q.2.2))
      · refine x_iconst (pc' := 26) rfl rfl iconst_1 ?_
        refine x_goto (tgt := 30) rfl rfl ?_
        exact x_ireturn rfl rfl rfl (Nat.le_of_ble_eq_true rfl) (Nat.le_of_ble_eq_true rfl) (h1 ⟨Int32.not_lt.mp c5, g, Int32.not_le.mp c22⟩)
    · refine x_if_eq (tgt := 29) (pc' := 16) rfl rfl rfl (fun _ => ?_) (fun c13 => absurd (by decide) c13)
      refine x_iconst (pc' := 30) rfl rfl iconst_0 ?_
      exact x_ireturn rfl rfl rfl (Nat.le_of_ble_eq_true rfl) (Nat.le_of_ble_eq_true rfl) (h0 (fun q => g q.2.1))
theorem w_tInit (hO : x_o (t + 1) f t 3 [.null, .null, .null, .int 0, .int 0, .int 0, .int 0, .int 0, .int 0, .int 0, .int 0, .int 0]) (h : ∀ f' : x_H, x_t (t + 4) f' t x_T0 → x_fr (fun q => q < t) f f' → post none f') : Y E 1 mX3_init [.ref t] (t + 1) f 3 20 post := by
  refine Y.intro gX3_init (lv := [(0, .ref t)]) rfl (Nat.le_of_ble_eq_true rfl) ?_
  have hF : x_fr (fun q => q < t) f f := x_fr.rf
  refine x_aload_n (pc' := 1) rfl rfl rfl ?_
  refine x_obj (pc' := 4) rfl rfl sX3_3 ⟨Nat.le_of_ble_eq_true rfl, Nat.le_of_ble_eq_true rfl⟩ (Nat.le_of_ble_eq_true rfl) ?_
  refine x_aload_n (pc' := 5) rfl rfl rfl ?_
  refine x_bipush (pc' := 7) rfl rfl bipush_9 ?_
  refine x_newarrayI (pc' := 9) (N := 9) rfl rfl (by decide) (by decide) (by decide) (Nat.le_of_ble_eq_true rfl) (Nat.le_of_ble_eq_true rfl) (fun f1 e1 => ?_)
  have hO := (hO.zz (Nat.le_succ _)).n e1 (by omega)
  have hF := hF.up e1 (Nat.not_lt.mpr (by omega))
  have hk := x_a.s e1 (Nat.lt_succ_self _)
  clear e1
  refine x_putF (pc' := 12) rfl rfl rfl (hO) (Nat.le_of_ble_eq_true rfl) rfl rfl rfl rfl rfl rfl (fun f2 e2 => ?_)
  have hO := x_o.s e2 hO.1
  have hF := hF.up e2 (Nat.lt_irrefl _)
  have hk := hk.n e2 (by omega)
  clear e2
  refine x_aload_n (pc' := 13) rfl rfl rfl ?_
  refine x_bipush (pc' := 15) rfl rfl bipush_9 ?_
  refine x_newarrayI (pc' := 17) (N := 9) rfl rfl (by decide) (by decide) (by decide) (Nat.le_of_ble_eq_true rfl) (Nat.le_of_ble_eq_true rfl) (fun f3 e3 => ?_)
  have hO := (hO.zz (Nat.le_succ _)).n e3 (by omega)
  have hF := hF.up e3 (Nat.not_lt.mpr (by omega))
  have hk := (hk.zz (Nat.le_succ _)).n e3 (by omega)
  have hb := x_a.s e3 (Nat.lt_succ_self _)
  clear e3
  refine x_putF (pc' := 20) rfl rfl rfl (hO) (Nat.le_of_ble_eq_true rfl) rfl rfl rfl rfl rfl rfl (fun f4 e4 => ?_)
  have hO := x_o.s e4 hO.1
  have hF := hF.up e4 (Nat.lt_irrefl _)
  have hk := hk.n e4 (by omega)
  have hb := hb.n e4 (by omega)
  clear e4
  refine x_aload_n (pc' := 21) rfl rfl rfl ?_
  refine x_iconst (pc' := 22) rfl rfl iconst_2 ?_
  refine x_newarrayI (pc' := 24) (N := 2) rfl rfl (by decide) (by decide) (by decide) (Nat.le_of_ble_eq_true rfl) (Nat.le_of_ble_eq_true rfl) (fun f5 e5 => ?_)
  have hO := (hO.zz (Nat.le_succ _)).n e5 (by omega)
  have hF := hF.up e5 (Nat.not_lt.mpr (by omega))
  have hk := (hk.zz (Nat.le_succ _)).n e5 (by omega)
  have hb := (hb.zz (Nat.le_succ _)).n e5 (by omega)
  have hp := x_a.s e5 (Nat.lt_succ_self _)
  clear e5
  refine x_putF (pc' := 27) rfl rfl rfl (hO) (Nat.le_of_ble_eq_true rfl) rfl rfl rfl rfl rfl rfl (fun f6 e6 => ?_)
  have hO := x_o.s e6 hO.1
  have hF := hF.up e6 (Nat.lt_irrefl _)
  have hk := hk.n e6 (by omega)
  have hb := hb.n e6 (by omega)
  have hp := hp.n e6 (by omega)
  clear e6
  refine x_aload_n (pc' := 28) rfl rfl rfl ?_
  refine x_iconst (pc' := 29) rfl rfl iconst_0 ?_
  refine x_put (pc' := 32) rfl rfl rfl (hO) (Nat.le_of_ble_eq_true rfl) rfl rfl rfl rfl (fun f7 e7 => ?_)
  have hO := x_o.s e7 hO.1
  have hF := hF.up e7 (Nat.lt_irrefl _)
  have hk := hk.n e7 (by omega)
  have hb := hb.n e7 (by omega)
  have hp := hp.n e7 (by omega)
  clear e7
  refine x_aload_n (pc' := 33) rfl rfl rfl ?_
  refine x_iconst (pc' := 34) rfl rfl iconst_4 ?_
  refine x_put (pc' := 37) rfl rfl rfl (hO) (Nat.le_of_ble_eq_true rfl) rfl rfl rfl rfl (fun f8 e8 => ?_)
  have hO := x_o.s e8 hO.1
  have hF := hF.up e8 (Nat.lt_irrefl _)
  have hk := hk.n e8 (by omega)
  have hb := hb.n e8 (by omega)
  have hp := hp.n e8 (by omega)
  clear e8
  refine x_aload_n (pc' := 38) rfl rfl rfl ?_
  refine x_iconst (pc' := 39) rfl rfl iconst_0 ?_
  refine x_put (pc' := 42) rfl rfl rfl (hO) (Nat.le_of_ble_eq_true rfl) rfl rfl rfl rfl (fun f9 e9 => ?_)
  have hO := x_o.s e9 hO.1
  have hF := hF.up e9 (Nat.lt_irrefl _)
  have hk := hk.n e9 (by omega)
  have hb := hb.n e9 (by omega)
  have hp := hp.n e9 (by omega)
  clear e9
  refine x_aload_n (pc' := 43) rfl rfl rfl ?_
  refine x_iconst (pc' := 44) rfl rfl iconst_0 ?_
  refine x_put (pc' := 47) rfl rfl rfl (hO) (Nat.le_of_ble_eq_true rfl) rfl rfl rfl rfl (fun f10 e10 => ?_)
  have hO := x_o.s e10 hO.1
  have hF := hF.up e10 (Nat.lt_irrefl _)
  have hk := hk.n e10 (by omega)
  have hb := hb.n e10 (by omega)
  have hp := hp.n e10 (by omega)
  clear e10
  refine x_aload_n (pc' := 48) rfl rfl rfl ?_
  refine x_iconst (pc' := 49) rfl rfl iconst_0 ?_
  refine x_put (pc' := 52) rfl rfl rfl (hO) (Nat.le_of_ble_eq_true rfl) rfl rfl rfl rfl (fun f11 e11 => ?_)
  have hO := x_o.s e11 hO.1
  have hF := hF.up e11 (Nat.lt_irrefl _)
  have hk := hk.n e11 (by omega)
  have hb := hb.n e11 (by omega)
  have hp := hp.n e11 (by omega)
  clear e11
  refine x_aload_n (pc' := 53) rfl rfl rfl ?_
  refine x_iconst (pc' := 54) rfl rfl iconst_0 ?_
  refine x_put (pc' := 57) rfl rfl rfl (hO) (Nat.le_of_ble_eq_true rfl) rfl rfl rfl rfl (fun f12 e12 => ?_)
  have hO := x_o.s e12 hO.1
  have hF := hF.up e12 (Nat.lt_irrefl _)
  have hk := hk.n e12 (by omega)
  have hb := hb.n e12 (by omega)
  have hp := hp.n e12 (by omega)
  clear e12
  refine x_aload_n (pc' := 58) rfl rfl rfl ?_
  refine x_bipush (pc' := 60) rfl rfl bipush_m9 ?_
  refine x_put (pc' := 63) rfl rfl rfl (hO) (Nat.le_of_ble_eq_true rfl) rfl rfl rfl rfl (fun f13 e13 => ?_)
  have hO := x_o.s e13 hO.1
  have hF := hF.up e13 (Nat.lt_irrefl _)
  have hk := hk.n e13 (by omega)
  have hb := hb.n e13 (by omega)
  have hp := hp.n e13 (by omega)
  clear e13
  refine x_aload_n (pc' := 64) rfl rfl rfl ?_
  refine x_iconst (pc' := 65) rfl rfl iconst_0 ?_
  refine x_put (pc' := 68) rfl rfl rfl (hO) (Nat.le_of_ble_eq_true rfl) rfl rfl rfl rfl (fun f14 e14 => ?_)
  have hO := x_o.s e14 hO.1
  have hF := hF.up e14 (Nat.lt_irrefl _)
  have hk := hk.n e14 (by omega)
  have hb := hb.n e14 (by omega)
  have hp := hp.n e14 (by omega)
  clear e14
  refine x_aload_n (pc' := 69) rfl rfl rfl ?_
  refine x_iconst (pc' := 70) rfl rfl iconst_0 ?_
  refine x_put (pc' := 73) rfl rfl rfl (hO) (Nat.le_of_ble_eq_true rfl) rfl rfl rfl rfl (fun f15 e15 => ?_)
  have hO := x_o.s e15 hO.1
  have hF := hF.up e15 (Nat.lt_irrefl _)
  have hk := hk.n e15 (by omega)
  have hb := hb.n e15 (by omega)
  have hp := hp.n e15 (by omega)
  clear e15
  exact x_return rfl rfl (Nat.le_of_ble_eq_true rfl) (Nat.le_of_ble_eq_true rfl) (h _ ⟨hO, hk, hb, hp⟩ hF)
theorem w_copyFrom {u : Nat} {U : x_T} (hT : x_t z f t T) (hU : x_t z f u U) (hd : t + 4 ≤ u ∨ u + 4 ≤ t) (h : ∀ f' : x_H, x_t z f' t (x_cp T U) → x_fr (x_ot t) f f' → post none f') : Y E 1 mX3_copyFrom [.ref t, .ref u] z f 0 0 post := by
  refine Y.intro gX3_copyFrom (lv := [(0, .ref t), (1, .ref u)]) rfl (Nat.le_of_ble_eq_true rfl) ?_
  obtain ⟨hO, hk, hb, hp⟩ := hT
  have hF : x_fr (x_ot t) f f := x_fr.rf
  have gU := hU
  refine x_aload_n (pc' := 1) rfl rfl rfl ?_
  refine x_ifnonnull (tgt := 5) rfl rfl ?_
  refine x_aload_n (pc' := 6) rfl rfl rfl ?_
  refine x_get (pc' := 9) rfl rfl rfl (gU.1) rfl ?_
  refine x_iconst (pc' := 10) rfl rfl iconst_0 ?_
  refine x_aload_n (pc' := 11) rfl rfl rfl ?_
  refine x_get (pc' := 14) rfl rfl rfl (hO) rfl ?_
  refine x_iconst (pc' := 15) rfl rfl iconst_0 ?_
  refine x_bipush (pc' := 17) rfl rfl bipush_9 ?_
  refine x_copyW (pc' := 20) rfl rfl sX3_49 (gU.2.1) (hk) (by decide) (by decide) ⟨Nat.le_of_ble_eq_true rfl, Nat.le_of_ble_eq_true rfl⟩ (Nat.le_of_ble_eq_true rfl) (fun f1 e1 => ?_)
  have hO := hO.n e1 (by omega)
  have hb := hb.n e1 (by omega)
  have hp := hp.n e1 (by omega)
  have hk := x_a.s e1 hk.1
  have gU := gU.n e1 (by omega)
  have hF := hF.up e1 (by unfold x_ot; omega)
  clear e1
  refine x_aload_n (pc' := 21) rfl rfl rfl ?_
  refine x_get (pc' := 24) rfl rfl rfl (gU.1) rfl ?_
  refine x_iconst (pc' := 25) rfl rfl iconst_0 ?_
  refine x_aload_n (pc' := 26) rfl rfl rfl ?_
  refine x_get (pc' := 29) rfl rfl rfl (hO) rfl ?_
  refine x_iconst (pc' := 30) rfl rfl iconst_0 ?_
  refine x_bipush (pc' := 32) rfl rfl bipush_9 ?_
  refine x_copyW (pc' := 35) rfl rfl sX3_49 (gU.2.2.1) (hb) (by decide) (by decide) ⟨Nat.le_of_ble_eq_true rfl, Nat.le_of_ble_eq_true rfl⟩ (Nat.le_of_ble_eq_true rfl) (fun f2 e2 => ?_)
  have hO := hO.n e2 (by omega)
  have hb := x_a.s e2 hb.1
  have hp := hp.n e2 (by omega)
  have hk := hk.n e2 (by omega)
  have gU := gU.n e2 (by omega)
  have hF := hF.up e2 (by unfold x_ot; omega)
  clear e2
  refine x_aload_n (pc' := 36) rfl rfl rfl ?_
  refine x_get (pc' := 39) rfl rfl rfl (gU.1) rfl ?_
  refine x_iconst (pc' := 40) rfl rfl iconst_0 ?_
  refine x_aload_n (pc' := 41) rfl rfl rfl ?_
  refine x_get (pc' := 44) rfl rfl rfl (hO) rfl ?_
  refine x_iconst (pc' := 45) rfl rfl iconst_0 ?_
  refine x_iconst (pc' := 46) rfl rfl iconst_2 ?_
  refine x_copyW (pc' := 49) rfl rfl sX3_49 (gU.2.2.2) (hp) (by decide) (by decide) ⟨Nat.le_of_ble_eq_true rfl, Nat.le_of_ble_eq_true rfl⟩ (Nat.le_of_ble_eq_true rfl) (fun f3 e3 => ?_)
  have hO := hO.n e3 (by omega)
  have hb := hb.n e3 (by omega)
  have hp := x_a.s e3 hp.1
  have hk := hk.n e3 (by omega)
  have gU := gU.n e3 (by omega)
  have hF := hF.up e3 (by unfold x_ot; omega)
  clear e3
  refine x_aload_n (pc' := 50) rfl rfl rfl ?_
  refine x_aload_n (pc' := 51) rfl rfl rfl ?_
  refine x_get (pc' := 54) rfl rfl rfl (gU.1) rfl ?_
  refine x_put (pc' := 57) rfl rfl rfl (hO) (Nat.le_of_ble_eq_true rfl) rfl rfl rfl rfl (fun f4 e4 => ?_)
  have hO := x_o.s e4 hO.1
  have hF := hF.up e4 (by unfold x_ot; omega)
  have hk := hk.n e4 (by omega)
  have hb := hb.n e4 (by omega)
  have hp := hp.n e4 (by omega)
  have gU := gU.n e4 (by omega)
  clear e4
  refine x_aload_n (pc' := 58) rfl rfl rfl ?_
  refine x_aload_n (pc' := 59) rfl rfl rfl ?_
  refine x_get (pc' := 62) rfl rfl rfl (gU.1) rfl ?_
  refine x_put (pc' := 65) rfl rfl rfl (hO) (Nat.le_of_ble_eq_true rfl) rfl rfl rfl rfl (fun f5 e5 => ?_)
  have hO := x_o.s e5 hO.1
  have hF := hF.up e5 (by unfold x_ot; omega)
  have hk := hk.n e5 (by omega)
  have hb := hb.n e5 (by omega)
  have hp := hp.n e5 (by omega)
  have gU := gU.n e5 (by omega)
  clear e5
  refine x_aload_n (pc' := 66) rfl rfl rfl ?_
  refine x_aload_n (pc' := 67) rfl rfl rfl ?_
  refine x_get (pc' := 70) rfl rfl rfl (gU.1) rfl ?_
  refine x_put (pc' := 73) rfl rfl rfl (hO) (Nat.le_of_ble_eq_true rfl) rfl rfl rfl rfl (fun f6 e6 => ?_)
  have hO := x_o.s e6 hO.1
  have hF := hF.up e6 (by unfold x_ot; omega)
  have hk := hk.n e6 (by omega)
  have hb := hb.n e6 (by omega)
  have hp := hp.n e6 (by omega)
  have gU := gU.n e6 (by omega)
  clear e6
  refine x_aload_n (pc' := 74) rfl rfl rfl ?_
  refine x_aload_n (pc' := 75) rfl rfl rfl ?_
  refine x_get (pc' := 78) rfl rfl rfl (gU.1) rfl ?_
  refine x_put (pc' := 81) rfl rfl rfl (hO) (Nat.le_of_ble_eq_true rfl) rfl rfl rfl rfl (fun f7 e7 => ?_)
  have hO := x_o.s e7 hO.1
  have hF := hF.up e7 (by unfold x_ot; omega)
  have hk := hk.n e7 (by omega)
  have hb := hb.n e7 (by omega)
  have hp := hp.n e7 (by omega)
  have gU := gU.n e7 (by omega)
  clear e7
  refine x_aload_n (pc' := 82) rfl rfl rfl ?_
  refine x_aload_n (pc' := 83) rfl rfl rfl ?_
  refine x_get (pc' := 86) rfl rfl rfl (gU.1) rfl ?_
  refine x_put (pc' := 89) rfl rfl rfl (hO) (Nat.le_of_ble_eq_true rfl) rfl rfl rfl rfl (fun f8 e8 => ?_)
  have hO := x_o.s e8 hO.1
  have hF := hF.up e8 (by unfold x_ot; omega)
  have hk := hk.n e8 (by omega)
  have hb := hb.n e8 (by omega)
  have hp := hp.n e8 (by omega)
  have gU := gU.n e8 (by omega)
  clear e8
  exact x_return rfl rfl (Nat.le_of_ble_eq_true rfl) (Nat.le_of_ble_eq_true rfl) (h _ ⟨hO, hk, hb, hp⟩ hF)
end TABLE
end
