section STEPS
variable {E : x_E} {R : Room} {me : x_M} {QQ : List Frame → Array Value → State → State → Prop} {pc : Nat} {lv : x_L} {st : List Value} {z : Nat} {f : x_H} {cl sl : Nat}
theorem x_iconst {pc' : Nat} {n : Int} {v : Int32} (hc : x_at me pc = some (.iconst n, 1)) (hp : pc + 1 = pc') (hv : Int32.ofInt n = v) (k : X E R me QQ pc' lv (.int v :: st) z f cl sl) : X E R me QQ pc lv st z f cl sl := by
  subst hp
  intro p e s m args below meth c H locs ls cx hz hP hS hl
  exact lv_iconst cx.1 cx.2.1 (x_dec_at cx.2.2.2.2.2.2.2.2.2.2.1 hc) hv (k p e s m args below meth c H locs ls cx hz hP hS hl)
theorem x_bipush {pc' : Nat} {n : Int} {v : Int32} (hc : x_at me pc = some (.bipush n, 2)) (hp : pc + 2 = pc') (hv : (Int8.ofInt n).toInt32 = v) (k : X E R me QQ pc' lv (.int v :: st) z f cl sl) : X E R me QQ pc lv st z f cl sl := by
  subst hp
  intro p e s m args below meth c H locs ls cx hz hP hS hl
  exact lv_bipush cx.1 cx.2.1 (x_dec_at cx.2.2.2.2.2.2.2.2.2.2.1 hc) hv (k p e s m args below meth c H locs ls cx hz hP hS hl)
theorem x_sipush {pc' : Nat} {n : Int} {v : Int32} (hc : x_at me pc = some (.sipush n, 3)) (hp : pc + 3 = pc') (hv : (Int16.ofInt n).toInt32 = v) (k : X E R me QQ pc' lv (.int v :: st) z f cl sl) : X E R me QQ pc lv st z f cl sl := by
  subst hp
  intro p e s m args below meth c H locs ls cx hz hP hS hl
  exact lv_sipush cx.1 cx.2.1 (x_dec_at cx.2.2.2.2.2.2.2.2.2.2.1 hc) hv (k p e s m args below meth c H locs ls cx hz hP hS hl)
theorem x_lconst {pc' : Nat} {n : Fin 2} {v : Int64} (hc : x_at me pc = some (.lconst n, 1)) (hp : pc + 1 = pc') (hv : Int64.ofNat (n : Nat) = v) (k : X E R me QQ pc' lv (.long v :: st) z f cl sl) : X E R me QQ pc lv st z f cl sl := by
  subst hp
  intro p e s m args below meth c H locs ls cx hz hP hS hl
  exact lv_lconst cx.1 cx.2.1 (x_dec_at cx.2.2.2.2.2.2.2.2.2.2.1 hc) hv (k p e s m args below meth c H locs ls cx hz hP hS hl)
theorem x_iadd {pc' : Nat} {x y : Int32} (hc : x_at me pc = some (.iadd, 1)) (hp : pc + 1 = pc')  (k : X E R me QQ pc' lv (.int (x + y) :: st) z f cl sl) : X E R me QQ pc lv (.int y :: .int x :: st) z f cl sl := by
  subst hp
  intro p e s m args below meth c H locs ls cx hz hP hS hl
  exact lv_iadd cx.1 cx.2.1 (x_dec_at cx.2.2.2.2.2.2.2.2.2.2.1 hc)  (k p e s m args below meth c H locs ls cx hz hP hS hl)
theorem x_isub {pc' : Nat} {x y : Int32} (hc : x_at me pc = some (.isub, 1)) (hp : pc + 1 = pc')  (k : X E R me QQ pc' lv (.int (x - y) :: st) z f cl sl) : X E R me QQ pc lv (.int y :: .int x :: st) z f cl sl := by
  subst hp
  intro p e s m args below meth c H locs ls cx hz hP hS hl
  exact lv_isub cx.1 cx.2.1 (x_dec_at cx.2.2.2.2.2.2.2.2.2.2.1 hc)  (k p e s m args below meth c H locs ls cx hz hP hS hl)
theorem x_imul {pc' : Nat} {x y : Int32} (hc : x_at me pc = some (.imul, 1)) (hp : pc + 1 = pc')  (k : X E R me QQ pc' lv (.int (x * y) :: st) z f cl sl) : X E R me QQ pc lv (.int y :: .int x :: st) z f cl sl := by
  subst hp
  intro p e s m args below meth c H locs ls cx hz hP hS hl
  exact lv_imul cx.1 cx.2.1 (x_dec_at cx.2.2.2.2.2.2.2.2.2.2.1 hc)  (k p e s m args below meth c H locs ls cx hz hP hS hl)
theorem x_iand {pc' : Nat} {x y : Int32} (hc : x_at me pc = some (.iand, 1)) (hp : pc + 1 = pc')  (k : X E R me QQ pc' lv (.int (x &&& y) :: st) z f cl sl) : X E R me QQ pc lv (.int y :: .int x :: st) z f cl sl := by
  subst hp
  intro p e s m args below meth c H locs ls cx hz hP hS hl
  exact lv_iand cx.1 cx.2.1 (x_dec_at cx.2.2.2.2.2.2.2.2.2.2.1 hc)  (k p e s m args below meth c H locs ls cx hz hP hS hl)
theorem x_ior {pc' : Nat} {x y : Int32} (hc : x_at me pc = some (.ior, 1)) (hp : pc + 1 = pc')  (k : X E R me QQ pc' lv (.int (x ||| y) :: st) z f cl sl) : X E R me QQ pc lv (.int y :: .int x :: st) z f cl sl := by
  subst hp
  intro p e s m args below meth c H locs ls cx hz hP hS hl
  exact lv_ior cx.1 cx.2.1 (x_dec_at cx.2.2.2.2.2.2.2.2.2.2.1 hc)  (k p e s m args below meth c H locs ls cx hz hP hS hl)
theorem x_ishl {pc' : Nat} {x y : Int32} (hc : x_at me pc = some (.ishl, 1)) (hp : pc + 1 = pc')  (k : X E R me QQ pc' lv (.int (x <<< (y &&& 31)) :: st) z f cl sl) : X E R me QQ pc lv (.int y :: .int x :: st) z f cl sl := by
  subst hp
  intro p e s m args below meth c H locs ls cx hz hP hS hl
  exact lv_ishl cx.1 cx.2.1 (x_dec_at cx.2.2.2.2.2.2.2.2.2.2.1 hc)  (k p e s m args below meth c H locs ls cx hz hP hS hl)
theorem x_ishr {pc' : Nat} {x y : Int32} (hc : x_at me pc = some (.ishr, 1)) (hp : pc + 1 = pc')  (k : X E R me QQ pc' lv (.int (x >>> (y &&& 31)) :: st) z f cl sl) : X E R me QQ pc lv (.int y :: .int x :: st) z f cl sl := by
  subst hp
  intro p e s m args below meth c H locs ls cx hz hP hS hl
  exact lv_ishr cx.1 cx.2.1 (x_dec_at cx.2.2.2.2.2.2.2.2.2.2.1 hc)  (k p e s m args below meth c H locs ls cx hz hP hS hl)
theorem x_idiv {pc' : Nat} {x y : Int32} (hc : x_at me pc = some (.idiv, 1)) (hp : pc + 1 = pc') (hne : ¬ y = 0) (k : X E R me QQ pc' lv (.int (x / y) :: st) z f cl sl) : X E R me QQ pc lv (.int y :: .int x :: st) z f cl sl := by
  subst hp
  intro p e s m args below meth c H locs ls cx hz hP hS hl
  exact lv_idiv cx.1 cx.2.1 (x_dec_at cx.2.2.2.2.2.2.2.2.2.2.1 hc) hne (k p e s m args below meth c H locs ls cx hz hP hS hl)
theorem x_irem {pc' : Nat} {x y : Int32} (hc : x_at me pc = some (.irem, 1)) (hp : pc + 1 = pc') (hne : ¬ y = 0) (k : X E R me QQ pc' lv (.int (x - x / y * y) :: st) z f cl sl) : X E R me QQ pc lv (.int y :: .int x :: st) z f cl sl := by
  subst hp
  intro p e s m args below meth c H locs ls cx hz hP hS hl
  exact lv_irem cx.1 cx.2.1 (x_dec_at cx.2.2.2.2.2.2.2.2.2.2.1 hc) hne (k p e s m args below meth c H locs ls cx hz hP hS hl)
theorem x_ineg {pc' : Nat} {x : Int32} (hc : x_at me pc = some (.ineg, 1)) (hp : pc + 1 = pc')  (k : X E R me QQ pc' lv (.int (-x) :: st) z f cl sl) : X E R me QQ pc lv (.int x :: st) z f cl sl := by
  subst hp
  intro p e s m args below meth c H locs ls cx hz hP hS hl
  exact lv_ineg cx.1 cx.2.1 (x_dec_at cx.2.2.2.2.2.2.2.2.2.2.1 hc)  (k p e s m args below meth c H locs ls cx hz hP hS hl)
theorem x_ladd {pc' : Nat} {x y : Int64} (hc : x_at me pc = some (.ladd, 1)) (hp : pc + 1 = pc')  (k : X E R me QQ pc' lv (.long (x + y) :: st) z f cl sl) : X E R me QQ pc lv (.long y :: .long x :: st) z f cl sl := by
  subst hp
  intro p e s m args below meth c H locs ls cx hz hP hS hl
  exact lv_ladd cx.1 cx.2.1 (x_dec_at cx.2.2.2.2.2.2.2.2.2.2.1 hc)  (k p e s m args below meth c H locs ls cx hz hP hS hl)
theorem x_lsub {pc' : Nat} {x y : Int64} (hc : x_at me pc = some (.lsub, 1)) (hp : pc + 1 = pc')  (k : X E R me QQ pc' lv (.long (x - y) :: st) z f cl sl) : X E R me QQ pc lv (.long y :: .long x :: st) z f cl sl := by
  subst hp
  intro p e s m args below meth c H locs ls cx hz hP hS hl
  exact lv_lsub cx.1 cx.2.1 (x_dec_at cx.2.2.2.2.2.2.2.2.2.2.1 hc)  (k p e s m args below meth c H locs ls cx hz hP hS hl)
theorem x_lmul {pc' : Nat} {x y : Int64} (hc : x_at me pc = some (.lmul, 1)) (hp : pc + 1 = pc')  (k : X E R me QQ pc' lv (.long (x * y) :: st) z f cl sl) : X E R me QQ pc lv (.long y :: .long x :: st) z f cl sl := by
  subst hp
  intro p e s m args below meth c H locs ls cx hz hP hS hl
  exact lv_lmul cx.1 cx.2.1 (x_dec_at cx.2.2.2.2.2.2.2.2.2.2.1 hc)  (k p e s m args below meth c H locs ls cx hz hP hS hl)
theorem x_land {pc' : Nat} {x y : Int64} (hc : x_at me pc = some (.land, 1)) (hp : pc + 1 = pc')  (k : X E R me QQ pc' lv (.long (x &&& y) :: st) z f cl sl) : X E R me QQ pc lv (.long y :: .long x :: st) z f cl sl := by
  subst hp
  intro p e s m args below meth c H locs ls cx hz hP hS hl
  exact lv_land cx.1 cx.2.1 (x_dec_at cx.2.2.2.2.2.2.2.2.2.2.1 hc)  (k p e s m args below meth c H locs ls cx hz hP hS hl)
theorem x_lor {pc' : Nat} {x y : Int64} (hc : x_at me pc = some (.lor, 1)) (hp : pc + 1 = pc')  (k : X E R me QQ pc' lv (.long (x ||| y) :: st) z f cl sl) : X E R me QQ pc lv (.long y :: .long x :: st) z f cl sl := by
  subst hp
  intro p e s m args below meth c H locs ls cx hz hP hS hl
  exact lv_lor cx.1 cx.2.1 (x_dec_at cx.2.2.2.2.2.2.2.2.2.2.1 hc)  (k p e s m args below meth c H locs ls cx hz hP hS hl)
theorem x_lshl {pc' : Nat} {x : Int64} {y : Int32} (hc : x_at me pc = some (.lshl, 1)) (hp : pc + 1 = pc')  (k : X E R me QQ pc' lv (.long (x <<< (y.toInt64 &&& 63)) :: st) z f cl sl) : X E R me QQ pc lv (.int y :: .long x :: st) z f cl sl := by
  subst hp
  intro p e s m args below meth c H locs ls cx hz hP hS hl
  exact lv_lshl cx.1 cx.2.1 (x_dec_at cx.2.2.2.2.2.2.2.2.2.2.1 hc) rfl (k p e s m args below meth c H locs ls cx hz hP hS hl)
theorem x_lushr {pc' : Nat} {x : Int64} {y : Int32} (hc : x_at me pc = some (.lushr, 1)) (hp : pc + 1 = pc')  (k : X E R me QQ pc' lv (.long (x.toUInt64 >>> (y.toInt64.toUInt64 &&& Int64.toUInt64 63)).toInt64 :: st) z f cl sl) : X E R me QQ pc lv (.int y :: .long x :: st) z f cl sl := by
  subst hp
  intro p e s m args below meth c H locs ls cx hz hP hS hl
  exact lv_lushr cx.1 cx.2.1 (x_dec_at cx.2.2.2.2.2.2.2.2.2.2.1 hc) rfl (k p e s m args below meth c H locs ls cx hz hP hS hl)
theorem x_i2l {pc' : Nat} {x : Int32} (hc : x_at me pc = some (.i2l, 1)) (hp : pc + 1 = pc')  (k : X E R me QQ pc' lv (.long x.toInt64 :: st) z f cl sl) : X E R me QQ pc lv (.int x :: st) z f cl sl := by
  subst hp
  intro p e s m args below meth c H locs ls cx hz hP hS hl
  exact lv_i2l cx.1 cx.2.1 (x_dec_at cx.2.2.2.2.2.2.2.2.2.2.1 hc) rfl (k p e s m args below meth c H locs ls cx hz hP hS hl)
theorem x_l2i {pc' : Nat} {x : Int64} (hc : x_at me pc = some (.l2i, 1)) (hp : pc + 1 = pc')  (k : X E R me QQ pc' lv (.int x.toInt32 :: st) z f cl sl) : X E R me QQ pc lv (.long x :: st) z f cl sl := by
  subst hp
  intro p e s m args below meth c H locs ls cx hz hP hS hl
  exact lv_l2i cx.1 cx.2.1 (x_dec_at cx.2.2.2.2.2.2.2.2.2.2.1 hc) rfl (k p e s m args below meth c H locs ls cx hz hP hS hl)
theorem x_lcmp {pc' : Nat} {x y : Int64} (hc : x_at me pc = some (.lcmp, 1)) (hp : pc + 1 = pc') (k : X E R me QQ pc' lv (.int (lg_cmp x y) :: st) z f cl sl) : X E R me QQ pc lv (.long y :: .long x :: st) z f cl sl := by
  subst hp
  intro p e s m args below meth c H locs ls cx hz hP hS hl
  exact W.lcmp cx.1 cx.2.1 (x_dec_at cx.2.2.2.2.2.2.2.2.2.2.1 hc) (k p e s m args below meth c H locs ls cx hz hP hS hl)
theorem x_dup {pc' : Nat} {v : Value} (hc : x_at me pc = some (.dup, 1)) (hp : pc + 1 = pc') (hv : v.category = 1) (k : X E R me QQ pc' lv (v :: v :: st) z f cl sl) : X E R me QQ pc lv (v :: st) z f cl sl := by
  subst hp
  intro p e s m args below meth c H locs ls cx hz hP hS hl
  exact lv_dup cx.1 cx.2.1 (x_dec_at cx.2.2.2.2.2.2.2.2.2.2.1 hc) (by rw [x_sh_cat]; exact hv) (k p e s m args below meth c H locs ls cx hz hP hS hl)
theorem x_pop {pc' : Nat} {v : Value} (hc : x_at me pc = some (.pop, 1)) (hp : pc + 1 = pc') (hv : v.category = 1) (k : X E R me QQ pc' lv st z f cl sl) : X E R me QQ pc lv (v :: st) z f cl sl := by
  subst hp
  intro p e s m args below meth c H locs ls cx hz hP hS hl
  exact lv_pop cx.1 cx.2.1 (x_dec_at cx.2.2.2.2.2.2.2.2.2.2.1 hc) (by rw [x_sh_cat]; exact hv) (k p e s m args below meth c H locs ls cx hz hP hS hl)
theorem x_dup2 {pc' : Nat} {v w : Value} (hc : x_at me pc = some (.dup2, 1)) (hp : pc + 1 = pc') (hv : v.category = 1) (hw : w.category = 1) (k : X E R me QQ pc' lv (v :: w :: v :: w :: st) z f cl sl) : X E R me QQ pc lv (v :: w :: st) z f cl sl := by
  subst hp
  intro p e s m args below meth c H locs ls cx hz hP hS hl
  exact lv_dup2_11 cx.1 cx.2.1 (x_dec_at cx.2.2.2.2.2.2.2.2.2.2.1 hc) (by rw [x_sh_cat]; exact hv) (by rw [x_sh_cat]; exact hw) (k p e s m args below meth c H locs ls cx hz hP hS hl)
theorem x_dup2l {pc' : Nat} {v : Value} (hc : x_at me pc = some (.dup2, 1)) (hp : pc + 1 = pc') (hv : v.category = 2) (k : X E R me QQ pc' lv (v :: v :: st) z f cl sl) : X E R me QQ pc lv (v :: st) z f cl sl := by
  subst hp
  intro p e s m args below meth c H locs ls cx hz hP hS hl
  exact lv_dup2_2 cx.1 cx.2.1 (x_dec_at cx.2.2.2.2.2.2.2.2.2.2.1 hc) (by rw [x_sh_cat]; exact hv) (k p e s m args below meth c H locs ls cx hz hP hS hl)
theorem x_dup_x1 {pc' : Nat} {v w : Value} (hc : x_at me pc = some (.dup_x1, 1)) (hp : pc + 1 = pc') (hv : v.category = 1) (hw : w.category = 1) (k : X E R me QQ pc' lv (v :: w :: v :: st) z f cl sl) : X E R me QQ pc lv (v :: w :: st) z f cl sl := by
  subst hp
  intro p e s m args below meth c H locs ls cx hz hP hS hl
  exact lv_dup_x1 cx.1 cx.2.1 (x_dec_at cx.2.2.2.2.2.2.2.2.2.2.1 hc) (by rw [x_sh_cat]; exact hv) (by rw [x_sh_cat]; exact hw) (k p e s m args below meth c H locs ls cx hz hP hS hl)
theorem x_goto {off : Int} {tgt : Nat} (hc : x_at me pc = some (.goto off, 3)) (ht : (pc : Int) + off = (tgt : Int)) (k : X E R me QQ tgt lv st z f cl sl) : X E R me QQ pc lv st z f cl sl := by
  intro p e s m args below meth c H locs ls cx hz hP hS hl
  exact lv_goto cx.1 cx.2.1 (x_dec_at cx.2.2.2.2.2.2.2.2.2.2.1 hc) ht (k p e s m args below meth c H locs ls cx hz hP hS hl)
theorem x_lv_at {E : x_E} {lv : x_L} {ls : Array Slot} {nL i : Nat} {v : Value} (hl : lv_has ls nL (x_lv E lv)) (h : x_lk lv i = some v) : ls[i]? = some (.val (x_sh E v)) := by
  have h1 := x_lk_mem _ _ _ h
  have h2 : (i, x_sh E v) ∈ x_lv E lv := List.mem_map.mpr ⟨_, h1, rfl⟩
  exact hl.2.2 _ h2
theorem x_iload {pc' : Nat} {i : Nat} {x : Int32} (hc : x_at me pc = some (.iload i, 2)) (hp : pc + 2 = pc') (h : x_lk lv i = some (.int x)) (k : X E R me QQ pc' lv (.int x :: st) z f cl sl) : X E R me QQ pc lv st z f cl sl := by
  subst hp
  intro p e s m args below meth c H locs ls cx hz hP hS hl
  exact lv_iload cx.1 cx.2.1 (x_dec_at cx.2.2.2.2.2.2.2.2.2.2.1 hc) (x_lv_at hl h) (k p e s m args below meth c H locs ls cx hz hP hS hl)
theorem x_iload_n {pc' : Nat} {i : Fin 4} {x : Int32} (hc : x_at me pc = some (.iload_n i, 1)) (hp : pc + 1 = pc') (h : x_lk lv i.val = some (.int x)) (k : X E R me QQ pc' lv (.int x :: st) z f cl sl) : X E R me QQ pc lv st z f cl sl := by
  subst hp
  intro p e s m args below meth c H locs ls cx hz hP hS hl
  exact lv_iload_n cx.1 cx.2.1 (x_dec_at cx.2.2.2.2.2.2.2.2.2.2.1 hc) rfl (x_lv_at hl h) (k p e s m args below meth c H locs ls cx hz hP hS hl)
theorem x_lload {pc' : Nat} {i : Nat} {x : Int64} (hc : x_at me pc = some (.lload i, 2)) (hp : pc + 2 = pc') (h : x_lk lv i = some (.long x)) (k : X E R me QQ pc' lv (.long x :: st) z f cl sl) : X E R me QQ pc lv st z f cl sl := by
  subst hp
  intro p e s m args below meth c H locs ls cx hz hP hS hl
  exact lv_lload cx.1 cx.2.1 (x_dec_at cx.2.2.2.2.2.2.2.2.2.2.1 hc) (x_lv_at hl h) (k p e s m args below meth c H locs ls cx hz hP hS hl)
theorem x_lload_n {pc' : Nat} {i : Fin 4} {x : Int64} (hc : x_at me pc = some (.lload_n i, 1)) (hp : pc + 1 = pc') (h : x_lk lv i.val = some (.long x)) (k : X E R me QQ pc' lv (.long x :: st) z f cl sl) : X E R me QQ pc lv st z f cl sl := by
  subst hp
  intro p e s m args below meth c H locs ls cx hz hP hS hl
  exact lv_lload_n cx.1 cx.2.1 (x_dec_at cx.2.2.2.2.2.2.2.2.2.2.1 hc) rfl (x_lv_at hl h) (k p e s m args below meth c H locs ls cx hz hP hS hl)
theorem x_aload {pc' : Nat} {i x : Nat} (hc : x_at me pc = some (.aload i, 2)) (hp : pc + 2 = pc') (h : x_lk lv i = some (.ref x)) (k : X E R me QQ pc' lv (.ref x :: st) z f cl sl) : X E R me QQ pc lv st z f cl sl := by
  subst hp
  intro p e s m args below meth c H locs ls cx hz hP hS hl
  exact lv_aload cx.1 cx.2.1 (x_dec_at cx.2.2.2.2.2.2.2.2.2.2.1 hc) (x_lv_at hl h) (k p e s m args below meth c H locs ls cx hz hP hS hl)
theorem x_aload_n {pc' : Nat} {i : Fin 4} {x : Nat} (hc : x_at me pc = some (.aload_n i, 1)) (hp : pc + 1 = pc') (h : x_lk lv i.val = some (.ref x)) (k : X E R me QQ pc' lv (.ref x :: st) z f cl sl) : X E R me QQ pc lv st z f cl sl := by
  subst hp
  intro p e s m args below meth c H locs ls cx hz hP hS hl
  exact lv_aload_n cx.1 cx.2.1 (x_dec_at cx.2.2.2.2.2.2.2.2.2.2.1 hc) rfl (x_lv_at hl h) (k p e s m args below meth c H locs ls cx hz hP hS hl)
theorem x_aload_ns {pc' : Nat} {i : Fin 4} {x : Nat} (hc : x_at me pc = some (.aload_n i, 1)) (hp : pc + 1 = pc') (h : x_lk lv i.val = some (.retAddr x)) (k : X E R me QQ pc' lv (.retAddr x :: st) z f cl sl) : X E R me QQ pc lv st z f cl sl := by
  subst hp
  intro p e s m args below meth c H locs ls cx hz hP hS hl
  exact lv_aload_n cx.1 cx.2.1 (x_dec_at cx.2.2.2.2.2.2.2.2.2.2.1 hc) rfl (x_lv_at hl h) (k p e s m args below meth c H locs ls cx hz hP hS hl)
def x_ls1 (lv : x_L) (i : Nat) (v : Value) : x_L := (i, v) :: lv.filter (fun q => !(q.1 == i) && !(q.1 + 1 == i && q.2.category == 2))
def x_ls2 (lv : x_L) (i : Nat) (v : Value) : x_L := (i, v) :: lv.filter (fun q => !(q.1 == i) && (!(q.1 == i + 1) && !(q.1 + 1 == i && q.2.category == 2)))
theorem x_ls1_lv (E : x_E) (lv : x_L) (i : Nat) (v : Value) : (i, x_sh E v) :: (x_lv E lv).filter (fun q => !(q.1 == i) && !(q.1 + 1 == i && q.2.category == 2)) = x_lv E (x_ls1 lv i v) := by
  unfold x_ls1 x_lv
  rw [List.map_cons, List.filter_map]
  congr 2
  congr 1
  funext q
  simp [x_sh_cat]
theorem x_ls2_lv (E : x_E) (lv : x_L) (i : Nat) (v : Value) : (i, x_sh E v) :: (x_lv E lv).filter (fun q => !(q.1 == i) && (!(q.1 == i + 1) && !(q.1 + 1 == i && q.2.category == 2))) = x_lv E (x_ls2 lv i v) := by
  unfold x_ls2 x_lv
  rw [List.map_cons, List.filter_map]
  congr 2
  congr 1
  funext q
  simp [x_sh_cat]
theorem x_istore {pc' : Nat} {i : Nat} {x : Int32} {lv' : x_L} (hc : x_at me pc = some (.istore i, 2)) (hp : pc + 2 = pc') (hi : i < me.2.2.1) (hv : x_ls1 lv i (.int x) = lv') (k : X E R me QQ pc' lv' st z f cl sl) : X E R me QQ pc lv (.int x :: st) z f cl sl := by
  subst hp
  intro p e s m args below meth c H locs ls cx hz hP hS hl
  subst hv
  exact lv_istore cx.1 cx.2.1 (x_dec_at cx.2.2.2.2.2.2.2.2.2.2.1 hc)  hl hi (x_ls1_lv E lv i (.int x)) (fun ls' hl' => k p e s m args below meth c H locs ls' cx hz hP hS hl')
theorem x_istore_n {pc' : Nat} {i : Fin 4} {x : Int32} {lv' : x_L} (hc : x_at me pc = some (.istore_n i, 1)) (hp : pc + 1 = pc') (hi : i.val < me.2.2.1) (hv : x_ls1 lv i.val (.int x) = lv') (k : X E R me QQ pc' lv' st z f cl sl) : X E R me QQ pc lv (.int x :: st) z f cl sl := by
  subst hp
  intro p e s m args below meth c H locs ls cx hz hP hS hl
  subst hv
  exact lv_istore_n cx.1 cx.2.1 (x_dec_at cx.2.2.2.2.2.2.2.2.2.2.1 hc) rfl hl hi (x_ls1_lv E lv i.val (.int x)) (fun ls' hl' => k p e s m args below meth c H locs ls' cx hz hP hS hl')
theorem x_astore {pc' : Nat} {i : Nat} {x : Nat} {lv' : x_L} (hc : x_at me pc = some (.astore i, 2)) (hp : pc + 2 = pc') (hi : i < me.2.2.1) (hv : x_ls1 lv i (.ref x) = lv') (k : X E R me QQ pc' lv' st z f cl sl) : X E R me QQ pc lv (.ref x :: st) z f cl sl := by
  subst hp
  intro p e s m args below meth c H locs ls cx hz hP hS hl
  subst hv
  exact lv_astore cx.1 cx.2.1 (x_dec_at cx.2.2.2.2.2.2.2.2.2.2.1 hc)  hl hi (x_ls1_lv E lv i (.ref x)) (fun ls' hl' => k p e s m args below meth c H locs ls' cx hz hP hS hl')
theorem x_astore_n {pc' : Nat} {i : Fin 4} {x : Nat} {lv' : x_L} (hc : x_at me pc = some (.astore_n i, 1)) (hp : pc + 1 = pc') (hi : i.val < me.2.2.1) (hv : x_ls1 lv i.val (.ref x) = lv') (k : X E R me QQ pc' lv' st z f cl sl) : X E R me QQ pc lv (.ref x :: st) z f cl sl := by
  subst hp
  intro p e s m args below meth c H locs ls cx hz hP hS hl
  subst hv
  exact lv_astore_n cx.1 cx.2.1 (x_dec_at cx.2.2.2.2.2.2.2.2.2.2.1 hc) rfl hl hi (x_ls1_lv E lv i.val (.ref x)) (fun ls' hl' => k p e s m args below meth c H locs ls' cx hz hP hS hl')
theorem x_lstore {pc' : Nat} {i : Nat} {x : Int64} {lv' : x_L} (hc : x_at me pc = some (.lstore i, 2)) (hp : pc + 2 = pc') (hi : i + 1 < me.2.2.1) (hv : x_ls2 lv i (.long x) = lv') (k : X E R me QQ pc' lv' st z f cl sl) : X E R me QQ pc lv (.long x :: st) z f cl sl := by
  subst hp
  intro p e s m args below meth c H locs ls cx hz hP hS hl
  subst hv
  exact lv_lstore cx.1 cx.2.1 (x_dec_at cx.2.2.2.2.2.2.2.2.2.2.1 hc)  hl hi (x_ls2_lv E lv i (.long x)) (fun ls' hl' => k p e s m args below meth c H locs ls' cx hz hP hS hl')
theorem x_lstore_n {pc' : Nat} {i : Fin 4} {x : Int64} {lv' : x_L} (hc : x_at me pc = some (.lstore_n i, 1)) (hp : pc + 1 = pc') (hi : i.val + 1 < me.2.2.1) (hv : x_ls2 lv i.val (.long x) = lv') (k : X E R me QQ pc' lv' st z f cl sl) : X E R me QQ pc lv (.long x :: st) z f cl sl := by
  subst hp
  intro p e s m args below meth c H locs ls cx hz hP hS hl
  subst hv
  exact lv_lstore_n cx.1 cx.2.1 (x_dec_at cx.2.2.2.2.2.2.2.2.2.2.1 hc) rfl hl hi (x_ls2_lv E lv i.val (.long x)) (fun ls' hl' => k p e s m args below meth c H locs ls' cx hz hP hS hl')
theorem x_iinc {pc' : Nat} {i : Nat} {n : Int} {x v : Int32} {lv' : x_L} (hc : x_at me pc = some (.iinc i n, 3)) (hp : pc + 3 = pc') (hi : i < me.2.2.1) (h : x_lk lv i = some (.int x)) (he : x + Int32.ofInt n = v) (hv : x_ls1 lv i (.int v) = lv') (k : X E R me QQ pc' lv' st z f cl sl) : X E R me QQ pc lv st z f cl sl := by
  subst hp
  intro p e s m args below meth c H locs ls cx hz hP hS hl
  subst hv
  have h1 : (i, Value.int x) ∈ x_lv E lv := List.mem_map.mpr ⟨_, x_lk_mem _ _ _ h, rfl⟩
  obtain ⟨q, hq⟩ := List.getElem?_of_mem h1
  exact lv_iinc cx.1 cx.2.1 (x_dec_at cx.2.2.2.2.2.2.2.2.2.2.1 hc) hl hq he hi (x_ls1_lv E lv i (.int v)) (fun ls' hl' => k p e s m args below meth c H locs ls' cx hz hP hS hl')
/-- the top by another name -/
theorem x_eqi {x y : Int32} (e : x = y) (k : X E R me QQ pc lv (.int y :: st) z f cl sl) : X E R me QQ pc lv (.int x :: st) z f cl sl := by
  subst e
  exact k
theorem x_eql {x y : Int64} (e : x = y) (k : X E R me QQ pc lv (.long y :: st) z f cl sl) : X E R me QQ pc lv (.long x :: st) z f cl sl := by
  subst e
  exact k
theorem x_if_eq {pc' : Nat} {x : Int32} {off : Int} {tgt : Nat} (hc : x_at me pc = some (.ifCond .eq off, 3)) (hp : pc + 3 = pc') (ht : (pc : Int) + off = (tgt : Int)) (kt : x = 0 → X E R me QQ tgt lv st z f cl sl) (kf : ¬ x = 0 → X E R me QQ pc' lv st z f cl sl) : X E R me QQ pc lv (.int x :: st) z f cl sl := by
  subst hp
  intro p e s m args below meth c H locs ls cx hz hP hS hl
  exact lv_if_eq cx.1 cx.2.1 (x_dec_at cx.2.2.2.2.2.2.2.2.2.2.1 hc) ht (fun h => kt h p e s m args below meth c H locs ls cx hz hP hS hl) (fun h => kf h p e s m args below meth c H locs ls cx hz hP hS hl)
theorem x_icmp_eq {pc' : Nat} {x y : Int32} {off : Int} {tgt : Nat} (hc : x_at me pc = some (.if_icmp .eq off, 3)) (hp : pc + 3 = pc') (ht : (pc : Int) + off = (tgt : Int)) (kt : x = y → X E R me QQ tgt lv st z f cl sl) (kf : ¬ x = y → X E R me QQ pc' lv st z f cl sl) : X E R me QQ pc lv (.int y :: .int x :: st) z f cl sl := by
  subst hp
  intro p e s m args below meth c H locs ls cx hz hP hS hl
  exact lv_icmp_eq cx.1 cx.2.1 (x_dec_at cx.2.2.2.2.2.2.2.2.2.2.1 hc) ht (fun h => kt h p e s m args below meth c H locs ls cx hz hP hS hl) (fun h => kf h p e s m args below meth c H locs ls cx hz hP hS hl)
theorem x_if_ne {pc' : Nat} {x : Int32} {off : Int} {tgt : Nat} (hc : x_at me pc = some (.ifCond .ne off, 3)) (hp : pc + 3 = pc') (ht : (pc : Int) + off = (tgt : Int)) (kt : ¬ x = 0 → X E R me QQ tgt lv st z f cl sl) (kf : x = 0 → X E R me QQ pc' lv st z f cl sl) : X E R me QQ pc lv (.int x :: st) z f cl sl := by
  subst hp
  intro p e s m args below meth c H locs ls cx hz hP hS hl
  exact lv_if_ne cx.1 cx.2.1 (x_dec_at cx.2.2.2.2.2.2.2.2.2.2.1 hc) ht (fun h => kt h p e s m args below meth c H locs ls cx hz hP hS hl) (fun h => kf h p e s m args below meth c H locs ls cx hz hP hS hl)
theorem x_icmp_ne {pc' : Nat} {x y : Int32} {off : Int} {tgt : Nat} (hc : x_at me pc = some (.if_icmp .ne off, 3)) (hp : pc + 3 = pc') (ht : (pc : Int) + off = (tgt : Int)) (kt : ¬ x = y → X E R me QQ tgt lv st z f cl sl) (kf : x = y → X E R me QQ pc' lv st z f cl sl) : X E R me QQ pc lv (.int y :: .int x :: st) z f cl sl := by
  subst hp
  intro p e s m args below meth c H locs ls cx hz hP hS hl
  exact lv_icmp_ne cx.1 cx.2.1 (x_dec_at cx.2.2.2.2.2.2.2.2.2.2.1 hc) ht (fun h => kt h p e s m args below meth c H locs ls cx hz hP hS hl) (fun h => kf h p e s m args below meth c H locs ls cx hz hP hS hl)
theorem x_if_lt {pc' : Nat} {x : Int32} {off : Int} {tgt : Nat} (hc : x_at me pc = some (.ifCond .lt off, 3)) (hp : pc + 3 = pc') (ht : (pc : Int) + off = (tgt : Int)) (kt : x < 0 → X E R me QQ tgt lv st z f cl sl) (kf : ¬ x < 0 → X E R me QQ pc' lv st z f cl sl) : X E R me QQ pc lv (.int x :: st) z f cl sl := by
  subst hp
  intro p e s m args below meth c H locs ls cx hz hP hS hl
  exact lv_if_lt cx.1 cx.2.1 (x_dec_at cx.2.2.2.2.2.2.2.2.2.2.1 hc) ht (fun h => kt h p e s m args below meth c H locs ls cx hz hP hS hl) (fun h => kf h p e s m args below meth c H locs ls cx hz hP hS hl)
theorem x_icmp_lt {pc' : Nat} {x y : Int32} {off : Int} {tgt : Nat} (hc : x_at me pc = some (.if_icmp .lt off, 3)) (hp : pc + 3 = pc') (ht : (pc : Int) + off = (tgt : Int)) (kt : x < y → X E R me QQ tgt lv st z f cl sl) (kf : ¬ x < y → X E R me QQ pc' lv st z f cl sl) : X E R me QQ pc lv (.int y :: .int x :: st) z f cl sl := by
  subst hp
  intro p e s m args below meth c H locs ls cx hz hP hS hl
  exact lv_icmp_lt cx.1 cx.2.1 (x_dec_at cx.2.2.2.2.2.2.2.2.2.2.1 hc) ht (fun h => kt h p e s m args below meth c H locs ls cx hz hP hS hl) (fun h => kf h p e s m args below meth c H locs ls cx hz hP hS hl)
theorem x_if_ge {pc' : Nat} {x : Int32} {off : Int} {tgt : Nat} (hc : x_at me pc = some (.ifCond .ge off, 3)) (hp : pc + 3 = pc') (ht : (pc : Int) + off = (tgt : Int)) (kt : 0 ≤ x → X E R me QQ tgt lv st z f cl sl) (kf : ¬ 0 ≤ x → X E R me QQ pc' lv st z f cl sl) : X E R me QQ pc lv (.int x :: st) z f cl sl := by
  subst hp
  intro p e s m args below meth c H locs ls cx hz hP hS hl
  exact lv_if_ge cx.1 cx.2.1 (x_dec_at cx.2.2.2.2.2.2.2.2.2.2.1 hc) ht (fun h => kt h p e s m args below meth c H locs ls cx hz hP hS hl) (fun h => kf h p e s m args below meth c H locs ls cx hz hP hS hl)
theorem x_icmp_ge {pc' : Nat} {x y : Int32} {off : Int} {tgt : Nat} (hc : x_at me pc = some (.if_icmp .ge off, 3)) (hp : pc + 3 = pc') (ht : (pc : Int) + off = (tgt : Int)) (kt : y ≤ x → X E R me QQ tgt lv st z f cl sl) (kf : ¬ y ≤ x → X E R me QQ pc' lv st z f cl sl) : X E R me QQ pc lv (.int y :: .int x :: st) z f cl sl := by
  subst hp
  intro p e s m args below meth c H locs ls cx hz hP hS hl
  exact lv_icmp_ge cx.1 cx.2.1 (x_dec_at cx.2.2.2.2.2.2.2.2.2.2.1 hc) ht (fun h => kt h p e s m args below meth c H locs ls cx hz hP hS hl) (fun h => kf h p e s m args below meth c H locs ls cx hz hP hS hl)
theorem x_if_gt {pc' : Nat} {x : Int32} {off : Int} {tgt : Nat} (hc : x_at me pc = some (.ifCond .gt off, 3)) (hp : pc + 3 = pc') (ht : (pc : Int) + off = (tgt : Int)) (kt : 0 < x → X E R me QQ tgt lv st z f cl sl) (kf : ¬ 0 < x → X E R me QQ pc' lv st z f cl sl) : X E R me QQ pc lv (.int x :: st) z f cl sl := by
  subst hp
  intro p e s m args below meth c H locs ls cx hz hP hS hl
  exact lv_if_gt cx.1 cx.2.1 (x_dec_at cx.2.2.2.2.2.2.2.2.2.2.1 hc) ht (fun h => kt h p e s m args below meth c H locs ls cx hz hP hS hl) (fun h => kf h p e s m args below meth c H locs ls cx hz hP hS hl)
theorem x_icmp_gt {pc' : Nat} {x y : Int32} {off : Int} {tgt : Nat} (hc : x_at me pc = some (.if_icmp .gt off, 3)) (hp : pc + 3 = pc') (ht : (pc : Int) + off = (tgt : Int)) (kt : y < x → X E R me QQ tgt lv st z f cl sl) (kf : ¬ y < x → X E R me QQ pc' lv st z f cl sl) : X E R me QQ pc lv (.int y :: .int x :: st) z f cl sl := by
  subst hp
  intro p e s m args below meth c H locs ls cx hz hP hS hl
  exact lv_icmp_gt cx.1 cx.2.1 (x_dec_at cx.2.2.2.2.2.2.2.2.2.2.1 hc) ht (fun h => kt h p e s m args below meth c H locs ls cx hz hP hS hl) (fun h => kf h p e s m args below meth c H locs ls cx hz hP hS hl)
theorem x_if_le {pc' : Nat} {x : Int32} {off : Int} {tgt : Nat} (hc : x_at me pc = some (.ifCond .le off, 3)) (hp : pc + 3 = pc') (ht : (pc : Int) + off = (tgt : Int)) (kt : x ≤ 0 → X E R me QQ tgt lv st z f cl sl) (kf : ¬ x ≤ 0 → X E R me QQ pc' lv st z f cl sl) : X E R me QQ pc lv (.int x :: st) z f cl sl := by
  subst hp
  intro p e s m args below meth c H locs ls cx hz hP hS hl
  exact lv_if_le cx.1 cx.2.1 (x_dec_at cx.2.2.2.2.2.2.2.2.2.2.1 hc) ht (fun h => kt h p e s m args below meth c H locs ls cx hz hP hS hl) (fun h => kf h p e s m args below meth c H locs ls cx hz hP hS hl)
theorem x_icmp_le {pc' : Nat} {x y : Int32} {off : Int} {tgt : Nat} (hc : x_at me pc = some (.if_icmp .le off, 3)) (hp : pc + 3 = pc') (ht : (pc : Int) + off = (tgt : Int)) (kt : x ≤ y → X E R me QQ tgt lv st z f cl sl) (kf : ¬ x ≤ y → X E R me QQ pc' lv st z f cl sl) : X E R me QQ pc lv (.int y :: .int x :: st) z f cl sl := by
  subst hp
  intro p e s m args below meth c H locs ls cx hz hP hS hl
  exact lv_icmp_le cx.1 cx.2.1 (x_dec_at cx.2.2.2.2.2.2.2.2.2.2.1 hc) ht (fun h => kt h p e s m args below meth c H locs ls cx hz hP hS hl) (fun h => kf h p e s m args below meth c H locs ls cx hz hP hS hl)
theorem x_ifnonnull {x : Nat} {off : Int} {tgt : Nat} (hc : x_at me pc = some (.ifnonnull off, 3)) (ht : (pc : Int) + off = (tgt : Int)) (k : X E R me QQ tgt lv st z f cl sl) : X E R me QQ pc lv (.ref x :: st) z f cl sl := by
  intro p e s m args below meth c H locs ls cx hz hP hS hl
  exact lv_ifnonnull cx.1 cx.2.1 (x_dec_at cx.2.2.2.2.2.2.2.2.2.2.1 hc) ht (k p e s m args below meth c H locs ls cx hz hP hS hl)
theorem x_tableIn {dflt lo hi : Int} {offs : Array Int} {len : Nat} {x : Int32} {off : Int} {tgt : Nat} (hc : x_at me pc = some (.tableswitch dflt lo hi offs, len)) (h1 : ¬ x.toInt < lo) (h2 : ¬ hi < x.toInt) (ho : offs[(x.toInt - lo).toNat]? = some off) (ht : (pc : Int) + off = (tgt : Int)) (k : X E R me QQ tgt lv st z f cl sl) : X E R me QQ pc lv (.int x :: st) z f cl sl := by
  intro p e s m args below meth c H locs ls cx hz hP hS hl
  exact lv_tableIn cx.1 cx.2.1 (x_dec_at cx.2.2.2.2.2.2.2.2.2.2.1 hc) h1 h2 ho ht (k p e s m args below meth c H locs ls cx hz hP hS hl)
theorem x_tableOut {dflt lo hi : Int} {offs : Array Int} {len : Nat} {x : Int32} {tgt : Nat} (hc : x_at me pc = some (.tableswitch dflt lo hi offs, len)) (h : x.toInt < lo ∨ hi < x.toInt) (ht : (pc : Int) + dflt = (tgt : Int)) (k : X E R me QQ tgt lv st z f cl sl) : X E R me QQ pc lv (.int x :: st) z f cl sl := by
  intro p e s m args below meth c H locs ls cx hz hP hS hl
  exact lv_tableOut cx.1 cx.2.1 (x_dec_at cx.2.2.2.2.2.2.2.2.2.2.1 hc) h ht (k p e s m args below meth c H locs ls cx hz hP hS hl)
theorem x_lookup {dflt : Int} {ps : Array (Int × Int)} {len : Nat} {x : Int32} {off : Int} {tgt : Nat} (hc : x_at me pc = some (.lookupswitch dflt ps, len)) (hp : (ps.toList.zip (ps.toList.drop 1)).all (fun (a, next) => a.1 < next.1) = true) (ho : Op.lookupswitch.offset ps.toList dflt x.toInt = off) (ht : (pc : Int) + off = (tgt : Int)) (k : X E R me QQ tgt lv st z f cl sl) : X E R me QQ pc lv (.int x :: st) z f cl sl := by
  intro p e s m args below meth c H locs ls cx hz hP hS hl
  exact lv_lookup cx.1 cx.2.1 (x_dec_at cx.2.2.2.2.2.2.2.2.2.2.1 hc) hp ho ht (k p e s m args below meth c H locs ls cx hz hP hS hl)
theorem x_ldc {pc' : Nat} {i : Nat} {v : Int32} (hc : x_at me pc = some (.ldc i, 2)) (hp : pc + 2 = pc') (h : x_lk me.2.2.2.2.2.2.2.1 i = some v) (k : X E R me QQ pc' lv (.int v :: st) z f cl sl) : X E R me QQ pc lv st z f cl sl := by
  subst hp
  intro p e s m args below meth c H locs ls cx hz hP hS hl
  obtain ⟨hx, hb, hr, hml, hown, hts, hlk, hK, hbs, hin, hd, hI⟩ := id cx
  exact lv_ldc hx hb hown (hts _ (hI.2.1 _ (x_lk_mem _ _ _ h))) (x_dec_at hd hc) (k p e s m args below meth c H locs ls cx hz hP hS hl)
theorem x_ldc2 {pc' : Nat} {i : Nat} {v : Int64} (hc : x_at me pc = some (.ldc2_w i, 3)) (hp : pc + 3 = pc') (h : x_lk me.2.2.2.2.2.2.2.2.1 i = some v) (k : X E R me QQ pc' lv (.long v :: st) z f cl sl) : X E R me QQ pc lv st z f cl sl := by
  subst hp
  intro p e s m args below meth c H locs ls cx hz hP hS hl
  obtain ⟨hx, hb, hr, hml, hown, hts, hlk, hK, hbs, hin, hd, hI⟩ := id cx
  exact lv_ldc2 hx hb hown (hts _ (hI.2.2.1 _ (x_lk_mem _ _ _ h))) (x_dec_at hd hc) (k p e s m args below meth c H locs ls cx hz hP hS hl)
/-- an object, an array, in the abstract heap -/
def x_o (z : Nat) (f : x_H) (r ci : Nat) (fs : List Value) : Prop := r < z ∧ f r = .inr (ci, fs)
def x_a (z : Nat) (f : x_H) (r : Nat) (a : vp_A) : Prop := r < z ∧ f r = .inl a
theorem x_o_at {E : x_E} {z : Nat} {f : x_H} {r ci : Nat} {fs : List Value} (h : x_o z f r ci fs) : (x_w E z f)[r]? = some (E.2.2.2.1 + r, .inr (ci, fs.map (x_sh E))) := by
  rw [x_w_at h.1, h.2]
  rfl
theorem x_a_at {E : x_E} {z : Nat} {f : x_H} {r : Nat} {a : vp_A} (h : x_a z f r a) : (x_w E z f)[r]? = some (E.2.2.2.1 + r, .inl (E.2.2.1 (x_kd a), x_shA E a)) := by
  rw [x_w_at h.1, h.2]
  rfl
theorem x_get {pc' : Nat} {i r ci k0 : Nat} {nest : Bool} {fs : List Value} {v : Value} (hc : x_at me pc = some (.getfield i, 3)) (hp : pc + 3 = pc') (hL : x_lk me.2.2.2.2.2.2.1 i = some (ci, k0, nest)) (ho : x_o z f r ci fs) (hv : fs[k0]? = some v) (k : X E R me QQ pc' lv (v :: st) z f cl sl) : X E R me QQ pc lv (.ref r :: st) z f cl sl := by
  subst hp
  intro p e s m args below meth c H locs ls cx hz hP hS hl
  obtain ⟨hx, hb, hr, hml, hown, hts, hlk, hK, hbs, hin, hd, hI⟩ := id cx
  obtain ⟨q, hq, hk, h1, h2⟩ := hI.1 _ (x_lk_mem _ _ _ hL)
  dsimp only at hq hk h1 h2
  cases nest with
  | false => exact va_get hx hb hts (x_ws_in _ _ hq) hown hK.1 hP r (x_o_at ho) hq k0 hk (hts _ (h1 rfl)) (fun _ h => h) (v := x_sh E v) (by rw [List.getElem?_map, hv]; rfl) (x_dec_at hd hc) (k p e s m args below meth c H locs ls cx hz hP hS hl)
  | true => exact va_getN hx hb hts (x_ws_in _ _ hq) hown hK.1 hP r (x_o_at ho) hq k0 hk (va_Nw.use rfl (hK.2.1 _ (h2 rfl))) (fun _ h => h) (v := x_sh E v) (by rw [List.getElem?_map, hv]; rfl) (x_dec_at hd hc) (k p e s m args below meth c H locs ls cx hz hP hS hl)
theorem x_put {pc' : Nat} {i r ci k0 : Nat} {nest : Bool} {fs : List Value} {v : Value} {q : vw_C} (hc : x_at me pc = some (.putfield i, 3)) (hp : pc + 3 = pc') (hL : x_lk me.2.2.2.2.2.2.1 i = some (ci, k0, nest)) (ho : x_o z f r ci fs) (hl0 : k0 < fs.length) (hq : x_cl[ci]? = some q) (hfin : (q.2.1 k0).2.2.2 = false) (hn : narrow (x_ty ci k0) v = v) (hf : fits (x_ty ci k0) v = true) (k : ∀ f' : x_H, f' = x_up f r (.inr (ci, fs.set k0 v)) → X E R me QQ pc' lv st z f' cl sl) : X E R me QQ pc lv (v :: .ref r :: st) z f cl sl := by
  subst hp
  intro p e s m args below meth c H locs ls cx hz hP hS hl
  obtain ⟨hx, hb, hr, hml, hown, hts, hlk, hK, hbs, hin, hd, hI⟩ := id cx
  obtain ⟨q', hq', hk, h1, h2⟩ := hI.1 _ (x_lk_mem _ _ _ hL)
  dsimp only at hq' hk h1 h2
  cases hq.symm.trans hq'
  have hn' : narrow (x_ty ci k0) (x_sh E v) = x_sh E v := by
    cases v <;> first | exact hn | (unfold x_sh; cases x_ty ci k0 <;> rfl)
  have hf' : fits (x_ty ci k0) (x_sh E v) = true := by
    cases v <;> first | exact hf | (revert hf; unfold x_sh; cases x_ty ci k0 <;> intro h <;> first | rfl | cases h)
  have hw : (x_w E z f).set r (E.2.2.2.1 + r, .inr (ci, (fs.map (x_sh E)).set k0 (x_sh E v))) = x_w E z (x_up f r (.inr (ci, fs.set k0 v))) := by
    rw [← x_w_set]
    show _ = List.set _ _ (_, Sum.inr (ci, (fs.set k0 v).map (x_sh E)))
    rw [List.map_set]
  cases nest with
  | false =>
    refine va_put hx hb hts (x_ws_in _ _ hq) (x_ty ci) (x_ty_ok ci q hq).1 (x_ty_ok ci q hq).2 hown hK.1 hP (x_w_D E z f) hS r (x_o_at ho) hq k0 hk (hts _ (h1 rfl)) (fun _ h => h) hfin ((x_ty_ok ci q hq).1 k0 hk) hn' hf' (by rw [List.length_map]; exact hl0) (x_dec_at hd hc) (fun H1 locs1 hP1 _ hS1 => ?_)
    rw [hw] at hP1
    exact k _ rfl p e s m args below meth c H1 locs1 ls cx hz hP1 hS1 hl
  | true =>
    refine va_putN hx hb hts (x_ws_in _ _ hq) (x_ty ci) (x_ty_ok ci q hq).1 (x_ty_ok ci q hq).2 hown hK.1 hP (x_w_D E z f) hS r (x_o_at ho) hq k0 hk (va_Nw.use rfl (hK.2.1 _ (h2 rfl))) (fun _ h => h) hfin ((x_ty_ok ci q hq).1 k0 hk) hn' hf' (by rw [List.length_map]; exact hl0) (x_dec_at hd hc) (fun H1 locs1 hP1 _ hS1 => ?_)
    rw [hw] at hP1
    exact k _ rfl p e s m args below meth c H1 locs1 ls cx hz hP1 hS1 hl
theorem x_putF {pc' : Nat} {i r ci k0 : Nat} {fs : List Value} {v : Value} {q : vw_C} (hc : x_at me pc = some (.putfield i, 3)) (hp : pc + 3 = pc') (hL : x_lk me.2.2.2.2.2.2.1 i = some (ci, k0, false)) (ho : x_o z f r ci fs) (hl0 : k0 < fs.length) (hq : x_cl[ci]? = some q) (hfin : (q.2.1 k0).2.2.2 = true) (hin2 : me.1.name = "<init>") (hdecl : (q.2.1 k0).1 = me.2.2.2.2.2.1) (hn : narrow (x_ty ci k0) v = v) (hf : fits (x_ty ci k0) v = true) (k : ∀ f' : x_H, f' = x_up f r (.inr (ci, fs.set k0 v)) → X E R me QQ pc' lv st z f' cl sl) : X E R me QQ pc lv (v :: .ref r :: st) z f cl sl := by
  subst hp
  intro p e s m args below meth c H locs ls cx hz hP hS hl
  obtain ⟨hx, hb, hr, hml, hown, hts, hlk, hK, hbs, hin, hd, hI⟩ := id cx
  obtain ⟨q', hq', hk, h1, h2⟩ := hI.1 _ (x_lk_mem _ _ _ hL)
  dsimp only at hq' hk h1 h2
  cases hq.symm.trans hq'
  have hn' : narrow (x_ty ci k0) (x_sh E v) = x_sh E v := by
    cases v <;> first | exact hn | (unfold x_sh; cases x_ty ci k0 <;> rfl)
  have hf' : fits (x_ty ci k0) (x_sh E v) = true := by
    cases v <;> first | exact hf | (revert hf; unfold x_sh; cases x_ty ci k0 <;> intro h <;> first | rfl | cases h)
  have hw : (x_w E z f).set r (E.2.2.2.1 + r, .inr (ci, (fs.map (x_sh E)).set k0 (x_sh E v))) = x_w E z (x_up f r (.inr (ci, fs.set k0 v))) := by
    rw [← x_w_set]
    show _ = List.set _ _ (_, Sum.inr (ci, (fs.set k0 v).map (x_sh E)))
    rw [List.map_set]
  refine va_putF hx hb hts (x_ws_in _ _ hq) (x_ty ci) (x_ty_ok ci q hq).1 (x_ty_ok ci q hq).2 hown hK.1 hP (x_w_D E z f) hS r (x_o_at ho) hq k0 hk (hts _ (h1 rfl)) (fun _ h => h) hfin (hin hin2) hdecl ((x_ty_ok ci q hq).1 k0 hk) hn' hf' (by rw [List.length_map]; exact hl0) (x_dec_at hd hc) (fun H1 locs1 hP1 _ hS1 => ?_)
  rw [hw] at hP1
  exact k _ rfl p e s m args below meth c H1 locs1 ls cx hz hP1 hS1 hl
theorem x_iaload {pc' : Nat} {r n : Nat} {g : Nat → Int32} {i : Int32} (hc : x_at me pc = some (.iaload, 1)) (hp : pc + 1 = pc') (ha : x_a z f r (n, .inl g)) (hi : vp_in i n) (k : X E R me QQ pc' lv (.int (g i.toNatClampNeg) :: st) z f cl sl) : X E R me QQ pc lv (.int i :: .ref r :: st) z f cl sl := by
  subst hp
  intro p e s m args below meth c H locs ls cx hz hP hS hl
  exact va_iald cx.1 cx.2.1 cx.2.2.2.2.2.2.2.1.1 hP r 0 (x_a_at ha) rfl hi (x_dec_at cx.2.2.2.2.2.2.2.2.2.2.1 hc) (k p e s m args below meth c H locs ls cx hz hP hS hl)
theorem x_laload {pc' : Nat} {r n : Nat} {g : Nat → Int64} {i : Int32} (hc : x_at me pc = some (.laload, 1)) (hp : pc + 1 = pc') (ha : x_a z f r (n, .inr (.inl g))) (hi : vp_in i n) (k : X E R me QQ pc' lv (.long (g i.toNatClampNeg) :: st) z f cl sl) : X E R me QQ pc lv (.int i :: .ref r :: st) z f cl sl := by
  subst hp
  intro p e s m args below meth c H locs ls cx hz hP hS hl
  exact va_lald cx.1 cx.2.1 cx.2.2.2.2.2.2.2.1.1 hP r 1 (x_a_at ha) rfl hi (x_dec_at cx.2.2.2.2.2.2.2.2.2.2.1 hc) (k p e s m args below meth c H locs ls cx hz hP hS hl)
theorem x_aaload {pc' : Nat} {r n x : Nat} {g : Nat → Option Nat} {i : Int32} (hc : x_at me pc = some (.aaload, 1)) (hp : pc + 1 = pc') (ha : x_a z f r (n, .inr (.inr (.inr (.inr g))))) (hi : vp_in i n) (hx0 : g i.toNatClampNeg = some x) (k : X E R me QQ pc' lv (.ref x :: st) z f cl sl) : X E R me QQ pc lv (.int i :: .ref r :: st) z f cl sl := by
  subst hp
  intro p e s m args below meth c H locs ls cx hz hP hS hl
  refine va_aldq cx.1 cx.2.1 cx.2.2.2.2.2.2.2.1.1 hP r 2 (x_a_at ha) rfl hi (x_dec_at cx.2.2.2.2.2.2.2.2.2.2.1 hc) ?_
  rw [hx0]
  exact k p e s m args below meth c H locs ls cx hz hP hS hl
theorem x_alen {pc' : Nat} {r : Nat} {a : vp_A} (hc : x_at me pc = some (.arraylength, 1)) (hp : pc + 1 = pc') (ha : x_a z f r a) (k : X E R me QQ pc' lv (.int (Int32.ofNat a.1) :: st) z f cl sl) : X E R me QQ pc lv (.ref r :: st) z f cl sl := by
  subst hp
  intro p e s m args below meth c H locs ls cx hz hP hS hl
  obtain ⟨n, g | g | g | g | g⟩ := a
  · exact va_alen cx.1 cx.2.1 cx.2.2.2.2.2.2.2.1.1 hP r 0 (x_a_at ha) rfl rfl (x_dec_at cx.2.2.2.2.2.2.2.2.2.2.1 hc) (k p e s m args below meth c H locs ls cx hz hP hS hl)
  · exact va_alen cx.1 cx.2.1 cx.2.2.2.2.2.2.2.1.1 hP r 1 (x_a_at ha) rfl rfl (x_dec_at cx.2.2.2.2.2.2.2.2.2.2.1 hc) (k p e s m args below meth c H locs ls cx hz hP hS hl)
  · exact va_alen cx.1 cx.2.1 cx.2.2.2.2.2.2.2.1.1 hP r 2 (x_a_at ha) rfl rfl (x_dec_at cx.2.2.2.2.2.2.2.2.2.2.1 hc) (k p e s m args below meth c H locs ls cx hz hP hS hl)
  · exact va_alen cx.1 cx.2.1 cx.2.2.2.2.2.2.2.1.1 hP r 2 (x_a_at ha) rfl rfl (x_dec_at cx.2.2.2.2.2.2.2.2.2.2.1 hc) (k p e s m args below meth c H locs ls cx hz hP hS hl)
  · exact va_alen cx.1 cx.2.1 cx.2.2.2.2.2.2.2.1.1 hP r 2 (x_a_at ha) rfl rfl (x_dec_at cx.2.2.2.2.2.2.2.2.2.2.1 hc) (k p e s m args below meth c H locs ls cx hz hP hS hl)
theorem x_iastore {pc' : Nat} {r n : Nat} {g : Nat → Int32} {i : Int32} {x : Int32} (hc : x_at me pc = some (.iastore, 1)) (hp : pc + 1 = pc') (ha : x_a z f r (n, .inl g)) (hi : vp_in i n) (k : ∀ f' : x_H, f' = x_up f r (.inl (n, .inl (upd g i.toNatClampNeg x))) → X E R me QQ pc' lv st z f' cl sl) : X E R me QQ pc lv (.int x :: .int i :: .ref r :: st) z f cl sl := by
  subst hp
  intro p e s m args below meth c H locs ls cx hz hP hS hl
  refine va_iast cx.1 cx.2.1 cx.2.2.2.2.2.2.2.1.1 hP (x_w_D E z f) hS r 0 (x_a_at ha) rfl hi (x_dec_at cx.2.2.2.2.2.2.2.2.2.2.1 hc) (fun H1 locs1 hP1 _ hS1 => ?_)
  have hw : (x_w E z f).set r (E.2.2.2.1 + r, .inl (E.2.2.1 0, n, .inl (upd g i.toNatClampNeg x))) = x_w E z (x_up f r (.inl (n, .inl (upd g i.toNatClampNeg x)))) := by
    rw [← x_w_set]
    rfl
  have hP2 : va_P E.2.1 x_cl ((x_w E z f).set r (E.2.2.2.1 + r, .inl (E.2.2.1 0, n, .inl (upd g i.toNatClampNeg x)))) H1 := hP1
  rw [hw] at hP2
  exact k _ rfl p e s m args below meth c H1 locs1 ls cx hz hP2 hS1 hl
theorem x_lastore {pc' : Nat} {r n : Nat} {g : Nat → Int64} {i : Int32} {x : Int64} (hc : x_at me pc = some (.lastore, 1)) (hp : pc + 1 = pc') (ha : x_a z f r (n, .inr (.inl g))) (hi : vp_in i n) (k : ∀ f' : x_H, f' = x_up f r (.inl (n, .inr (.inl (vp_updL g i.toNatClampNeg x)))) → X E R me QQ pc' lv st z f' cl sl) : X E R me QQ pc lv (.long x :: .int i :: .ref r :: st) z f cl sl := by
  subst hp
  intro p e s m args below meth c H locs ls cx hz hP hS hl
  refine va_last cx.1 cx.2.1 cx.2.2.2.2.2.2.2.1.1 hP (x_w_D E z f) hS r 1 (x_a_at ha) rfl hi (x_dec_at cx.2.2.2.2.2.2.2.2.2.2.1 hc) (fun H1 locs1 hP1 _ hS1 => ?_)
  have hw : (x_w E z f).set r (E.2.2.2.1 + r, .inl (E.2.2.1 1, n, .inr (.inl (vp_updL g i.toNatClampNeg x)))) = x_w E z (x_up f r (.inl (n, .inr (.inl (vp_updL g i.toNatClampNeg x))))) := by
    rw [← x_w_set]
    rfl
  have hP2 : va_P E.2.1 x_cl ((x_w E z f).set r (E.2.2.2.1 + r, .inl (E.2.2.1 1, n, .inr (.inl (vp_updL g i.toNatClampNeg x))))) H1 := hP1
  rw [hw] at hP2
  exact k _ rfl p e s m args below meth c H1 locs1 ls cx hz hP2 hS1 hl
end STEPS
