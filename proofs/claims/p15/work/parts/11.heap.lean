/-! Small facts on abstract heaps. -/
def x_fr (P : Nat → Prop) (f f' : x_H) : Prop := ∀ q, P q → f' q = f q
theorem x_fr.rf {P : Nat → Prop} {f : x_H} : x_fr P f f := fun _ _ => rfl
theorem x_fr.up {P : Nat → Prop} {f f1 f' : x_H} {k : Nat} {c : x_C} (h : x_fr P f f1) (e : f' = x_up f1 k c) (hk : ¬ P k) : x_fr P f f' := fun q hq => by
  subst e
  have hn : q ≠ k := fun e => hk (by rw [← e]; exact hq)
  exact (x_up_n f1 c hn).trans (h q hq)
theorem x_fr.trans {P : Nat → Prop} {f f1 f2 : x_H} (h1 : x_fr P f f1) (h2 : x_fr P f1 f2) : x_fr P f f2 := fun q hq => (h2 q hq).trans (h1 q hq)
theorem x_fr.mono {P Q : Nat → Prop} {f f1 : x_H} (h : x_fr P f f1) (hq : ∀ q, Q q → P q) : x_fr Q f f1 := fun q h1 => h q (hq q h1)
theorem x_o.fr {z : Nat} {f f' : x_H} {P : Nat → Prop} {r ci : Nat} {fs : List Value} (h : x_o z f r ci fs) (hf : x_fr P f f') (hr : P r) : x_o z f' r ci fs := ⟨h.1, (hf r hr).trans h.2⟩
theorem x_a.fr {z : Nat} {f f' : x_H} {P : Nat → Prop} {r : Nat} {a : vp_A} (h : x_a z f r a) (hf : x_fr P f f') (hr : P r) : x_a z f' r a := ⟨h.1, (hf r hr).trans h.2⟩
theorem x_o.s {z : Nat} {f f' : x_H} {r ci : Nat} {fs : List Value} (e : f' = x_up f r (.inr (ci, fs))) (h : r < z) : x_o z f' r ci fs := by
  subst e
  exact ⟨h, x_up_s _ _ _⟩
theorem x_a.s {z : Nat} {f f' : x_H} {r : Nat} {a : vp_A} (e : f' = x_up f r (.inl a)) (h : r < z) : x_a z f' r a := by
  subst e
  exact ⟨h, x_up_s _ _ _⟩
theorem x_o.n {z : Nat} {f f' : x_H} {r ci k : Nat} {fs : List Value} {c : x_C} (h : x_o z f r ci fs) (e : f' = x_up f k c) (hk : r ≠ k) : x_o z f' r ci fs := by
  subst e
  exact ⟨h.1, (x_up_n f c hk).trans h.2⟩
theorem x_a.n {z : Nat} {f f' : x_H} {r k : Nat} {a : vp_A} {c : x_C} (h : x_a z f r a) (e : f' = x_up f k c) (hk : r ≠ k) : x_a z f' r a := by
  subst e
  exact ⟨h.1, (x_up_n f c hk).trans h.2⟩
theorem x_o.zz {z z' : Nat} {f : x_H} {r ci : Nat} {fs : List Value} (h : x_o z f r ci fs) (hz : z ≤ z') : x_o z' f r ci fs := ⟨Nat.lt_of_lt_of_le h.1 hz, h.2⟩
theorem x_a.zz {z z' : Nat} {f : x_H} {r : Nat} {a : vp_A} (h : x_a z f r a) (hz : z ≤ z') : x_a z' f r a := ⟨Nat.lt_of_lt_of_le h.1 hz, h.2⟩
/-- an array's contents count below its length alone -/
theorem x_eqA {E : x_E} {R : Room} {me : x_M} {QQ : List Frame → Array Value → State → State → Prop} {pc : Nat} {lv : x_L} {st : List Value} {z : Nat} {f : x_H} {cl sl r n : Nat} {g g' : Nat → Int32} (ha : x_a z f r (n, .inl g)) (hg : ∀ j, j < n → g j = g' j) (k : ∀ f' : x_H, f' = x_up f r (.inl (n, .inl g')) → X E R me QQ pc lv st z f' cl sl) : X E R me QQ pc lv st z f cl sl := by
  intro p e s m args below meth c H locs ls cx hz hP hS hl
  refine k _ rfl p e s m args below meth c H locs ls cx hz ?_ hS hl
  have hcell : vp_cell (E.2.2.1 0) (n, .inl g) = vp_cell (E.2.2.1 0) (n, .inl g') := by
    rw [vp_cell_i, vp_cell_i]
    unfold arrV
    congr 1
    apply Array.ext
    · simp
    · intro i h1 h2
      simp only [Array.getElem_ofFn]
      rw [hg i (by simpa using h1)]
  intro i q hq
  have hi : i < z := by
    have := (List.getElem?_eq_some_iff.mp hq).1
    rw [x_w_len] at this
    exact this
  rw [x_w_at hi] at hq
  have hq' := Option.some.inj hq
  subst hq'
  by_cases hir : i = r
  · subst hir
    have h1 := hP i _ (x_w_at hi)
    rw [ha.2] at h1
    rw [x_up_s]
    have h2 : H[E.2.2.2.1 + i]? = some (vp_cell (E.2.2.1 0) (n, .inl g)) := h1
    show H[E.2.2.2.1 + i]? = some (vp_cell (E.2.2.1 0) (n, .inl g'))
    rw [← hcell]
    exact h2
  · rw [x_up_n f _ hir]
    exact hP i _ (x_w_at hi)
theorem x_eqL {E : x_E} {R : Room} {me : x_M} {QQ : List Frame → Array Value → State → State → Prop} {pc : Nat} {lv : x_L} {st : List Value} {z : Nat} {f : x_H} {cl sl r n : Nat} {g g' : Nat → Int64} (ha : x_a z f r (n, .inr (.inl g))) (hg : ∀ j, j < n → g j = g' j) (k : ∀ f' : x_H, f' = x_up f r (.inl (n, .inr (.inl g'))) → X E R me QQ pc lv st z f' cl sl) : X E R me QQ pc lv st z f cl sl := by
  intro p e s m args below meth c H locs ls cx hz hP hS hl
  refine k _ rfl p e s m args below meth c H locs ls cx hz ?_ hS hl
  have hcell : vp_cell (E.2.2.1 1) (n, .inr (.inl g)) = vp_cell (E.2.2.1 1) (n, .inr (.inl g')) := by
    rw [vp_cell_l, vp_cell_l]
    unfold arrV
    congr 1
    apply Array.ext
    · simp
    · intro i h1 h2
      simp only [Array.getElem_ofFn]
      rw [hg i (by simpa using h1)]
  intro i q hq
  have hi : i < z := by
    have := (List.getElem?_eq_some_iff.mp hq).1
    rw [x_w_len] at this
    exact this
  rw [x_w_at hi] at hq
  have hq' := Option.some.inj hq
  subst hq'
  by_cases hir : i = r
  · subst hir
    have h1 := hP i _ (x_w_at hi)
    rw [ha.2] at h1
    rw [x_up_s]
    have h2 : H[E.2.2.2.1 + i]? = some (vp_cell (E.2.2.1 1) (n, .inr (.inl g))) := h1
    show H[E.2.2.2.1 + i]? = some (vp_cell (E.2.2.1 1) (n, .inr (.inl g')))
    rw [← hcell]
    exact h2
  · rw [x_up_n f _ hir]
    exact hP i _ (x_w_at hi)
theorem x_up_up (f : x_H) (k : Nat) (c d : x_C) : x_up (x_up f k c) k d = x_up f k d := by
  funext j
  by_cases h : j = k <;> simp [x_up, h]
/-- a whole array into another -/
theorem x_copyW {E : x_E} {R : Room} {me : x_M} {QQ : List Frame → Array Value → State → State → Prop} {pc pc' : Nat} {lv : x_L} {st : List Value} {z : Nat} {f : x_H} {cl sl i r0 r1 n : Nat} {g0 g1 : Nat → Int32} {N : Int32} (hc : x_at me pc = some (.invokestatic i, 3)) (hp : pc + 3 = pc') (hs : Cond.methodLink me.2.2.2.2.2.1 i arraycopyName ∈ x_tb) (ha0 : x_a z f r0 (n, .inl g0)) (ha1 : x_a z f r1 (n, .inl g1)) (h3 : ¬ N < 0) (hN : N.toNatClampNeg = n)
    (hR : 1 ≤ R.frames ∧ 8 + (nativeFrameWords "java/lang/System" "arraycopy" 5 + 11) ≤ R.locals) (hw : (st.map fun v => v.category).sum ≤ 8) (k : ∀ f' : x_H, f' = x_up f r1 (.inl (n, .inl g0)) → X E R me QQ pc' lv st z f' cl sl) : X E R me QQ pc lv (.int N :: .int 0 :: .ref r1 :: .int 0 :: .ref r0 :: st) z f cl sl := by
  have h0 : (0 : Int32).toNatClampNeg = 0 := by decide
  refine x_copy hc hp hs ha0 ha1 (by decide) (by decide) h3 (by rw [h0, hN]; omega) (by rw [h0, hN]; omega) hR hw (fun f' e => ?_)
  refine x_eqA (g' := g0) (x_a.s e ha1.1) (fun j hj => ?_) (fun f2 e2 => ?_)
  · rw [h0, hN]
    rw [pk_cpy_in (by omega) (by omega)]
    congr 1
    omega
  · refine k f2 ?_
    rw [e2, e, x_up_up]
theorem x_tab_out {x : Int32} {lo hi : Int} (h : ∀ k : Int, lo ≤ k → k ≤ hi → x ≠ Int32.ofInt k) : x.toInt < lo ∨ hi < x.toInt := by
  by_cases h1 : x.toInt < lo
  · exact Or.inl h1
  · by_cases h2 : hi < x.toInt
    · exact Or.inr h2
    · exact absurd (Int32.ofInt_toInt x).symm (h x.toInt (by omega) (by omega))
theorem i32_ne (x : Int32) {a b : Int} (h : ∀ k : Int, a ≤ k → k ≤ b → x ≠ Int32.ofInt k) : x.toInt < a ∨ b < x.toInt := x_tab_out h
/-- the variables in another order, or fewer -/
theorem x_lvp {E : x_E} {R : Room} {me : x_M} {QQ : List Frame → Array Value → State → State → Prop} {pc : Nat} {lv lv' : x_L} {st : List Value} {z : Nat} {f : x_H} {cl sl : Nat} (ks : List Nat) (h : lv_pick lv ks = lv') (k : X E R me QQ pc lv' st z f cl sl) : X E R me QQ pc lv st z f cl sl := by
  intro p e s m args below meth c H locs ls cx hz hP hS hl
  refine k p e s m args below meth c H locs ls cx hz hP hS ⟨hl.1, hl.2.1, fun q hq => hl.2.2 q ?_⟩
  subst h
  obtain ⟨a, ha, rfl⟩ := List.mem_map.mp hq
  obtain ⟨i, -, hi⟩ := List.mem_filterMap.mp ha
  exact List.mem_map.mpr ⟨a, List.mem_of_getElem? hi, rfl⟩
