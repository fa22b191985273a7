/-! The class's Table: its cells, its methods. -/
/-- kinds, beans, purses, numbers (0 held, 1 fullness, 2 lent, 3 turn, 4 moves, 5 hands, 6 last, 7 sown, 8 taken) -/
abbrev x_T : Type := (Nat → Int32) × (Nat → Int32) × (Nat → Int32) × (Nat → Int32)
def x_tF (t : Nat) (s : Nat → Int32) : List Value := [.ref (t + 1), .ref (t + 2), .ref (t + 3), .int (s 0), .int (s 1), .int (s 2), .int (s 3), .int (s 4), .int (s 5), .int (s 6), .int (s 7), .int (s 8)]
def x_t (z : Nat) (f : x_H) (t : Nat) (T : x_T) : Prop := x_o z f t 3 (x_tF t T.2.2.2) ∧ x_a z f (t + 1) (9, .inl T.1) ∧ x_a z f (t + 2) (9, .inl T.2.1) ∧ x_a z f (t + 3) (2, .inl T.2.2.1)
abbrev t_has (T : x_T) (b : Int32) : Prop := ¬ b < 0 ∧ b < T.2.2.2 0 ∧ b < 9
theorem vp_in_9 {b : Int32} (h0 : ¬ b < 0) (h9 : b < 9) : vp_in b 9 := by
  have h1 : (9 : Int32).toInt = 9 := by decide
  have h2 : (0 : Int32).toInt = 0 := by decide
  rw [vp_in_iff]
  rw [Int32.lt_iff_toInt_lt] at h0 h9
  omega
theorem x_t.fr {z : Nat} {f f' : x_H} {t : Nat} {T : x_T} {P : Nat → Prop} (h : x_t z f t T) (hf : x_fr P f f') (hp : ∀ i, i < 4 → P (t + i)) : x_t z f' t T := ⟨h.1.fr hf (hp 0 (by decide)), h.2.1.fr hf (hp 1 (by decide)), h.2.2.1.fr hf (hp 2 (by decide)), h.2.2.2.fr hf (hp 3 (by decide))⟩
theorem x_t.zz {z z' : Nat} {f : x_H} {t : Nat} {T : x_T} (h : x_t z f t T) (hz : z ≤ z') : x_t z' f t T := ⟨h.1.zz hz, h.2.1.zz hz, h.2.2.1.zz hz, h.2.2.2.zz hz⟩
theorem x_t.n {z : Nat} {f f' : x_H} {t k : Nat} {T : x_T} {c : x_C} (h : x_t z f t T) (e : f' = x_up f k c) (hk : k < t ∨ t + 4 ≤ k) : x_t z f' t T := ⟨h.1.n e (by omega), h.2.1.n e (by omega), h.2.2.1.n e (by omega), h.2.2.2.n e (by omega)⟩
/-- outside a table -/
abbrev x_ot (t : Nat) : Nat → Prop := fun q => q < t ∨ t + 4 ≤ q
def x_T0 : x_T := (fun _ => 0, fun _ => 0, fun _ => 0, fun i => if i = 1 then 4 else if i = 6 then (-9) else 0)
def x_cp (T U : x_T) : x_T := (U.1, U.2.1, U.2.2.1, fun i => if i < 5 then U.2.2.2 i else T.2.2.2 i)
section TABLE
variable {E : x_E} {z : Nat} {f : x_H} {t : Nat} {T : x_T} {post : Option Value → x_H → Prop}
theorem w_has {b : Int32} (hT : x_t z f t T) (h1 : t_has T b → post (some (.int 1)) f) (h0 : ¬ t_has T b → post (some (.int 0)) f) : Y E 1 mX3_has [.ref t, .int b] z f 0 0 post := by
  refine Y.intro gX3_has (lv := [(0, .ref t), (1, .int b)]) rfl (Nat.le_of_ble_eq_true rfl) ?_
  obtain ⟨hO, hk, hb, hp⟩ := hT
  refine x_iload_n (pc' := 1) rfl rfl rfl ?_
  refine x_if_lt (tgt := 22) (pc' := 4) rfl rfl rfl (fun c1 => ?_) (fun c1 => ?_)
  · refine x_iconst (pc' := 23) rfl rfl iconst_0 ?_
    exact x_ireturn rfl rfl rfl (Nat.le_of_ble_eq_true rfl) (Nat.le_of_ble_eq_true rfl) (h0 (fun q => q.1 c1))
  · refine x_iload_n (pc' := 5) rfl rfl rfl ?_
    refine x_aload_n (pc' := 6) rfl rfl rfl ?_
    refine x_get (pc' := 9) rfl rfl rfl (hO) rfl ?_
    refine x_icmp_ge (tgt := 22) (pc' := 12) rfl rfl rfl (fun c9 => ?_) (fun c9 => ?_)
    · refine x_iconst (pc' := 23) rfl rfl iconst_0 ?_
      exact x_ireturn rfl rfl rfl (Nat.le_of_ble_eq_true rfl) (Nat.le_of_ble_eq_true rfl) (h0 (fun q => Int32.not_lt.mpr c9 q.2.1))
    · refine x_iload_n (pc' := 13) rfl rfl rfl ?_
      refine x_bipush (pc' := 15) rfl rfl bipush_9 ?_
      refine x_icmp_ge (tgt := 22) (pc' := 18) rfl rfl rfl (fun c15 => ?_) (fun c15 => ?_)
      · refine x_iconst (pc' := 23) rfl rfl iconst_0 ?_
        exact x_ireturn rfl rfl rfl (Nat.le_of_ble_eq_true rfl) (Nat.le_of_ble_eq_true rfl) (h0 (fun q => Int32.not_lt.mpr c15 q.2.2))
      · refine x_iconst (pc' := 19) rfl rfl iconst_1 ?_
        refine x_goto (tgt := 23) rfl rfl ?_
        exact x_ireturn rfl rfl rfl (Nat.le_of_ble_eq_true rfl) (Nat.le_of_ble_eq_true rfl) (h1 ⟨c1, Int32.not_le.mp c9, Int32.not_le.mp c15⟩)
theorem w_canMove {b : Int32} (hT : x_t z f t T) (h1 : (2 : Int32) ≤ T.2.2.2 0 ∧ t_has T b ∧ 0 < T.2.1 b.toNatClampNeg → post (some (.int 1)) f) (h0 : ¬ ((2 : Int32) ≤ T.2.2.2 0 ∧ t_has T b ∧ 0 < T.2.1 b.toNatClampNeg) → post (some (.int 0)) f) : Y E 2 mX3_canMove [.ref t, .int b] z f 0 0 post := by
  refine Y.intro gX3_canMove (lv := [(0, .ref t), (1, .int b)]) rfl (Nat.le_of_ble_eq_true rfl) ?_
  obtain ⟨hO, hk, hb, hp⟩ := id hT
  refine x_aload_n (pc' := 1) rfl rfl rfl ?_
  refine x_get (pc' := 4) rfl rfl rfl (hO) rfl ?_
  refine x_iconst (pc' := 5) rfl rfl iconst_2 ?_
  refine x_icmp_lt (tgt := 29) (pc' := 8) rfl rfl rfl (fun c5 => ?_) (fun c5 => ?_)
  · refine x_iconst (pc' := 30) rfl rfl iconst_0 ?_
    exact x_ireturn rfl rfl rfl (Nat.le_of_ble_eq_true rfl) (Nat.le_of_ble_eq_true rfl) (h0 (fun q => Int32.not_le.mpr c5 q.1))
  · refine x_aload_n (pc' := 9) rfl rfl rfl ?_
    refine x_iload_n (pc' := 10) rfl rfl rfl ?_
    refine x_cV1i (d := 1) (pc' := 13) rfl rfl sX3_55 gX3_has (hO) ⟨Nat.le_of_ble_eq_true rfl, Nat.le_of_ble_eq_true rfl⟩ (Nat.le_of_ble_eq_true rfl) ⟨Nat.le_of_ble_eq_true rfl, Nat.le_of_ble_eq_true rfl⟩ ?_
    refine w_has hT (fun g => ⟨_, rfl, ?_⟩) (fun g => ⟨_, rfl, ?_⟩)
    · refine x_if_eq (tgt := 29) (pc' := 16) rfl rfl rfl (fun c13 => absurd c13 (by decide)) (fun _ => ?_)
      refine x_aload_n (pc' := 17) rfl rfl rfl ?_
      refine x_get (pc' := 20) rfl rfl rfl (hO) rfl ?_
      refine x_iload_n (pc' := 21) rfl rfl rfl ?_
      refine x_iaload (pc' := 22) rfl rfl (hb) (vp_in_9 g.1 g.2.2) ?_
      refine x_if_le (tgt := 29) (pc' := 25) rfl rfl rfl (fun c22 => ?_) (fun c22 => ?_)
      · refine x_iconst (pc' := 30) rfl rfl iconst_0 ?_
        exact x_ireturn rfl rfl rfl (Nat.le_of_ble_eq_true rfl) (Nat.le_of_ble_eq_true rfl) (h0 (fun q => Int32.not_lt.mpr c22 q.2.2))
      · refine x_iconst (pc' := 26) rfl rfl iconst_1 ?_
        refine x_goto (tgt := 30) rfl rfl ?_
        exact x_ireturn rfl rfl rfl (Nat.le_of_ble_eq_true rfl) (Nat.le_of_ble_eq_true rfl) (h1 ⟨Int32.not_lt.mp c5, g, Int32.not_le.mp c22⟩)
    · refine x_if_eq (tgt := 29) (pc' := 16) rfl rfl rfl (fun _ => ?_) (fun c13 => absurd (by decide) c13)
      refine x_iconst (pc' := 30) rfl rfl iconst_0 ?_
      exact x_ireturn rfl rfl rfl (Nat.le_of_ble_eq_true rfl) (Nat.le_of_ble_eq_true rfl) (h0 (fun q => g q.2.1))
theorem w_tInit (hO : x_o (t + 1) f t 3 [.null, .null, .null, .int 0, .int 0, .int 0, .int 0, .int 0, .int 0, .int 0, .int 0, .int 0]) (h : ∀ f' : x_H, x_t (t + 4) f' t x_T0 → x_fr (fun q => q < t) f f' → post none f') : Y E 1 mX3_init [.ref t] (t + 1) f 3 20 post := by
  refine Y.intro gX3_init (lv := [(0, .ref t)]) rfl (Nat.le_of_ble_eq_true rfl) ?_
  have hF : x_fr (fun q => q < t) f f := x_fr.rf
  refine x_aload_n (pc' := 1) rfl rfl rfl ?_
  refine x_obj (pc' := 4) rfl rfl sX3_3 ⟨Nat.le_of_ble_eq_true rfl, Nat.le_of_ble_eq_true rfl⟩ (Nat.le_of_ble_eq_true rfl) ?_
  refine x_aload_n (pc' := 5) rfl rfl rfl ?_
  refine x_bipush (pc' := 7) rfl rfl bipush_9 ?_
  refine x_newarrayI (pc' := 9) (N := 9) rfl rfl (by decide) (by decide) (by decide) (Nat.le_of_ble_eq_true rfl) (Nat.le_of_ble_eq_true rfl) (fun f1 e1 => ?_)
  have hO := (hO.zz (Nat.le_succ _)).n e1 (by omega)
  have hF := hF.up e1 (Nat.not_lt.mpr (by omega))
  have hk := x_a.s e1 (Nat.lt_succ_self _)
  clear e1
  refine x_putF (pc' := 12) rfl rfl rfl (hO) (Nat.le_of_ble_eq_true rfl) rfl rfl rfl rfl rfl rfl (fun f2 e2 => ?_)
  have hO := x_o.s e2 hO.1
  have hF := hF.up e2 (Nat.lt_irrefl _)
  have hk := hk.n e2 (by omega)
  clear e2
  refine x_aload_n (pc' := 13) rfl rfl rfl ?_
  refine x_bipush (pc' := 15) rfl rfl bipush_9 ?_
  refine x_newarrayI (pc' := 17) (N := 9) rfl rfl (by decide) (by decide) (by decide) (Nat.le_of_ble_eq_true rfl) (Nat.le_of_ble_eq_true rfl) (fun f3 e3 => ?_)
  have hO := (hO.zz (Nat.le_succ _)).n e3 (by omega)
  have hF := hF.up e3 (Nat.not_lt.mpr (by omega))
  have hk := (hk.zz (Nat.le_succ _)).n e3 (by omega)
  have hb := x_a.s e3 (Nat.lt_succ_self _)
  clear e3
  refine x_putF (pc' := 20) rfl rfl rfl (hO) (Nat.le_of_ble_eq_true rfl) rfl rfl rfl rfl rfl rfl (fun f4 e4 => ?_)
  have hO := x_o.s e4 hO.1
  have hF := hF.up e4 (Nat.lt_irrefl _)
  have hk := hk.n e4 (by omega)
  have hb := hb.n e4 (by omega)
  clear e4
  refine x_aload_n (pc' := 21) rfl rfl rfl ?_
  refine x_iconst (pc' := 22) rfl rfl iconst_2 ?_
  refine x_newarrayI (pc' := 24) (N := 2) rfl rfl (by decide) (by decide) (by decide) (Nat.le_of_ble_eq_true rfl) (Nat.le_of_ble_eq_true rfl) (fun f5 e5 => ?_)
  have hO := (hO.zz (Nat.le_succ _)).n e5 (by omega)
  have hF := hF.up e5 (Nat.not_lt.mpr (by omega))
  have hk := (hk.zz (Nat.le_succ _)).n e5 (by omega)
  have hb := (hb.zz (Nat.le_succ _)).n e5 (by omega)
  have hp := x_a.s e5 (Nat.lt_succ_self _)
  clear e5
  refine x_putF (pc' := 27) rfl rfl rfl (hO) (Nat.le_of_ble_eq_true rfl) rfl rfl rfl rfl rfl rfl (fun f6 e6 => ?_)
  have hO := x_o.s e6 hO.1
  have hF := hF.up e6 (Nat.lt_irrefl _)
  have hk := hk.n e6 (by omega)
  have hb := hb.n e6 (by omega)
  have hp := hp.n e6 (by omega)
  clear e6
  refine x_aload_n (pc' := 28) rfl rfl rfl ?_
  refine x_iconst (pc' := 29) rfl rfl iconst_0 ?_
  refine x_put (pc' := 32) rfl rfl rfl (hO) (Nat.le_of_ble_eq_true rfl) rfl rfl rfl rfl (fun f7 e7 => ?_)
  have hO := x_o.s e7 hO.1
  have hF := hF.up e7 (Nat.lt_irrefl _)
  have hk := hk.n e7 (by omega)
  have hb := hb.n e7 (by omega)
  have hp := hp.n e7 (by omega)
  clear e7
  refine x_aload_n (pc' := 33) rfl rfl rfl ?_
  refine x_iconst (pc' := 34) rfl rfl iconst_4 ?_
  refine x_put (pc' := 37) rfl rfl rfl (hO) (Nat.le_of_ble_eq_true rfl) rfl rfl rfl rfl (fun f8 e8 => ?_)
  have hO := x_o.s e8 hO.1
  have hF := hF.up e8 (Nat.lt_irrefl _)
  have hk := hk.n e8 (by omega)
  have hb := hb.n e8 (by omega)
  have hp := hp.n e8 (by omega)
  clear e8
  refine x_aload_n (pc' := 38) rfl rfl rfl ?_
  refine x_iconst (pc' := 39) rfl rfl iconst_0 ?_
  refine x_put (pc' := 42) rfl rfl rfl (hO) (Nat.le_of_ble_eq_true rfl) rfl rfl rfl rfl (fun f9 e9 => ?_)
  have hO := x_o.s e9 hO.1
  have hF := hF.up e9 (Nat.lt_irrefl _)
  have hk := hk.n e9 (by omega)
  have hb := hb.n e9 (by omega)
  have hp := hp.n e9 (by omega)
  clear e9
  refine x_aload_n (pc' := 43) rfl rfl rfl ?_
  refine x_iconst (pc' := 44) rfl rfl iconst_0 ?_
  refine x_put (pc' := 47) rfl rfl rfl (hO) (Nat.le_of_ble_eq_true rfl) rfl rfl rfl rfl (fun f10 e10 => ?_)
  have hO := x_o.s e10 hO.1
  have hF := hF.up e10 (Nat.lt_irrefl _)
  have hk := hk.n e10 (by omega)
  have hb := hb.n e10 (by omega)
  have hp := hp.n e10 (by omega)
  clear e10
  refine x_aload_n (pc' := 48) rfl rfl rfl ?_
  refine x_iconst (pc' := 49) rfl rfl iconst_0 ?_
  refine x_put (pc' := 52) rfl rfl rfl (hO) (Nat.le_of_ble_eq_true rfl) rfl rfl rfl rfl (fun f11 e11 => ?_)
  have hO := x_o.s e11 hO.1
  have hF := hF.up e11 (Nat.lt_irrefl _)
  have hk := hk.n e11 (by omega)
  have hb := hb.n e11 (by omega)
  have hp := hp.n e11 (by omega)
  clear e11
  refine x_aload_n (pc' := 53) rfl rfl rfl ?_
  refine x_iconst (pc' := 54) rfl rfl iconst_0 ?_
  refine x_put (pc' := 57) rfl rfl rfl (hO) (Nat.le_of_ble_eq_true rfl) rfl rfl rfl rfl (fun f12 e12 => ?_)
  have hO := x_o.s e12 hO.1
  have hF := hF.up e12 (Nat.lt_irrefl _)
  have hk := hk.n e12 (by omega)
  have hb := hb.n e12 (by omega)
  have hp := hp.n e12 (by omega)
  clear e12
  refine x_aload_n (pc' := 58) rfl rfl rfl ?_
  refine x_bipush (pc' := 60) rfl rfl bipush_m9 ?_
  refine x_put (pc' := 63) rfl rfl rfl (hO) (Nat.le_of_ble_eq_true rfl) rfl rfl rfl rfl (fun f13 e13 => ?_)
  have hO := x_o.s e13 hO.1
  have hF := hF.up e13 (Nat.lt_irrefl _)
  have hk := hk.n e13 (by omega)
  have hb := hb.n e13 (by omega)
  have hp := hp.n e13 (by omega)
  clear e13
  refine x_aload_n (pc' := 64) rfl rfl rfl ?_
  refine x_iconst (pc' := 65) rfl rfl iconst_0 ?_
  refine x_put (pc' := 68) rfl rfl rfl (hO) (Nat.le_of_ble_eq_true rfl) rfl rfl rfl rfl (fun f14 e14 => ?_)
  have hO := x_o.s e14 hO.1
  have hF := hF.up e14 (Nat.lt_irrefl _)
  have hk := hk.n e14 (by omega)
  have hb := hb.n e14 (by omega)
  have hp := hp.n e14 (by omega)
  clear e14
  refine x_aload_n (pc' := 69) rfl rfl rfl ?_
  refine x_iconst (pc' := 70) rfl rfl iconst_0 ?_
  refine x_put (pc' := 73) rfl rfl rfl (hO) (Nat.le_of_ble_eq_true rfl) rfl rfl rfl rfl (fun f15 e15 => ?_)
  have hO := x_o.s e15 hO.1
  have hF := hF.up e15 (Nat.lt_irrefl _)
  have hk := hk.n e15 (by omega)
  have hb := hb.n e15 (by omega)
  have hp := hp.n e15 (by omega)
  clear e15
  exact x_return rfl rfl (Nat.le_of_ble_eq_true rfl) (Nat.le_of_ble_eq_true rfl) (h _ ⟨hO, hk, hb, hp⟩ hF)
theorem w_copyFrom {u : Nat} {U : x_T} (hT : x_t z f t T) (hU : x_t z f u U) (hd : t + 4 ≤ u ∨ u + 4 ≤ t) (h : ∀ f' : x_H, x_t z f' t (x_cp T U) → x_fr (x_ot t) f f' → post none f') : Y E 1 mX3_copyFrom [.ref t, .ref u] z f 0 0 post := by
  refine Y.intro gX3_copyFrom (lv := [(0, .ref t), (1, .ref u)]) rfl (Nat.le_of_ble_eq_true rfl) ?_
  obtain ⟨hO, hk, hb, hp⟩ := hT
  have hF : x_fr (x_ot t) f f := x_fr.rf
  have gU := hU
  refine x_aload_n (pc' := 1) rfl rfl rfl ?_
  refine x_ifnonnull (tgt := 5) rfl rfl ?_
  refine x_aload_n (pc' := 6) rfl rfl rfl ?_
  refine x_get (pc' := 9) rfl rfl rfl (gU.1) rfl ?_
  refine x_iconst (pc' := 10) rfl rfl iconst_0 ?_
  refine x_aload_n (pc' := 11) rfl rfl rfl ?_
  refine x_get (pc' := 14) rfl rfl rfl (hO) rfl ?_
  refine x_iconst (pc' := 15) rfl rfl iconst_0 ?_
  refine x_bipush (pc' := 17) rfl rfl bipush_9 ?_
  refine x_copyW (pc' := 20) rfl rfl sX3_49 (gU.2.1) (hk) (by decide) (by decide) ⟨Nat.le_of_ble_eq_true rfl, Nat.le_of_ble_eq_true rfl⟩ (Nat.le_of_ble_eq_true rfl) (fun f1 e1 => ?_)
  have hO := hO.n e1 (by omega)
  have hb := hb.n e1 (by omega)
  have hp := hp.n e1 (by omega)
  have hk := x_a.s e1 hk.1
  have gU := gU.n e1 (by omega)
  have hF := hF.up e1 (by unfold x_ot; omega)
  clear e1
  refine x_aload_n (pc' := 21) rfl rfl rfl ?_
  refine x_get (pc' := 24) rfl rfl rfl (gU.1) rfl ?_
  refine x_iconst (pc' := 25) rfl rfl iconst_0 ?_
  refine x_aload_n (pc' := 26) rfl rfl rfl ?_
  refine x_get (pc' := 29) rfl rfl rfl (hO) rfl ?_
  refine x_iconst (pc' := 30) rfl rfl iconst_0 ?_
  refine x_bipush (pc' := 32) rfl rfl bipush_9 ?_
  refine x_copyW (pc' := 35) rfl rfl sX3_49 (gU.2.2.1) (hb) (by decide) (by decide) ⟨Nat.le_of_ble_eq_true rfl, Nat.le_of_ble_eq_true rfl⟩ (Nat.le_of_ble_eq_true rfl) (fun f2 e2 => ?_)
  have hO := hO.n e2 (by omega)
  have hb := x_a.s e2 hb.1
  have hp := hp.n e2 (by omega)
  have hk := hk.n e2 (by omega)
  have gU := gU.n e2 (by omega)
  have hF := hF.up e2 (by unfold x_ot; omega)
  clear e2
  refine x_aload_n (pc' := 36) rfl rfl rfl ?_
  refine x_get (pc' := 39) rfl rfl rfl (gU.1) rfl ?_
  refine x_iconst (pc' := 40) rfl rfl iconst_0 ?_
  refine x_aload_n (pc' := 41) rfl rfl rfl ?_
  refine x_get (pc' := 44) rfl rfl rfl (hO) rfl ?_
  refine x_iconst (pc' := 45) rfl rfl iconst_0 ?_
  refine x_iconst (pc' := 46) rfl rfl iconst_2 ?_
  refine x_copyW (pc' := 49) rfl rfl sX3_49 (gU.2.2.2) (hp) (by decide) (by decide) ⟨Nat.le_of_ble_eq_true rfl, Nat.le_of_ble_eq_true rfl⟩ (Nat.le_of_ble_eq_true rfl) (fun f3 e3 => ?_)
  have hO := hO.n e3 (by omega)
  have hb := hb.n e3 (by omega)
  have hp := x_a.s e3 hp.1
  have hk := hk.n e3 (by omega)
  have gU := gU.n e3 (by omega)
  have hF := hF.up e3 (by unfold x_ot; omega)
  clear e3
  refine x_aload_n (pc' := 50) rfl rfl rfl ?_
  refine x_aload_n (pc' := 51) rfl rfl rfl ?_
  refine x_get (pc' := 54) rfl rfl rfl (gU.1) rfl ?_
  refine x_put (pc' := 57) rfl rfl rfl (hO) (Nat.le_of_ble_eq_true rfl) rfl rfl rfl rfl (fun f4 e4 => ?_)
  have hO := x_o.s e4 hO.1
  have hF := hF.up e4 (by unfold x_ot; omega)
  have hk := hk.n e4 (by omega)
  have hb := hb.n e4 (by omega)
  have hp := hp.n e4 (by omega)
  have gU := gU.n e4 (by omega)
  clear e4
  refine x_aload_n (pc' := 58) rfl rfl rfl ?_
  refine x_aload_n (pc' := 59) rfl rfl rfl ?_
  refine x_get (pc' := 62) rfl rfl rfl (gU.1) rfl ?_
  refine x_put (pc' := 65) rfl rfl rfl (hO) (Nat.le_of_ble_eq_true rfl) rfl rfl rfl rfl (fun f5 e5 => ?_)
  have hO := x_o.s e5 hO.1
  have hF := hF.up e5 (by unfold x_ot; omega)
  have hk := hk.n e5 (by omega)
  have hb := hb.n e5 (by omega)
  have hp := hp.n e5 (by omega)
  have gU := gU.n e5 (by omega)
  clear e5
  refine x_aload_n (pc' := 66) rfl rfl rfl ?_
  refine x_aload_n (pc' := 67) rfl rfl rfl ?_
  refine x_get (pc' := 70) rfl rfl rfl (gU.1) rfl ?_
  refine x_put (pc' := 73) rfl rfl rfl (hO) (Nat.le_of_ble_eq_true rfl) rfl rfl rfl rfl (fun f6 e6 => ?_)
  have hO := x_o.s e6 hO.1
  have hF := hF.up e6 (by unfold x_ot; omega)
  have hk := hk.n e6 (by omega)
  have hb := hb.n e6 (by omega)
  have hp := hp.n e6 (by omega)
  have gU := gU.n e6 (by omega)
  clear e6
  refine x_aload_n (pc' := 74) rfl rfl rfl ?_
  refine x_aload_n (pc' := 75) rfl rfl rfl ?_
  refine x_get (pc' := 78) rfl rfl rfl (gU.1) rfl ?_
  refine x_put (pc' := 81) rfl rfl rfl (hO) (Nat.le_of_ble_eq_true rfl) rfl rfl rfl rfl (fun f7 e7 => ?_)
  have hO := x_o.s e7 hO.1
  have hF := hF.up e7 (by unfold x_ot; omega)
  have hk := hk.n e7 (by omega)
  have hb := hb.n e7 (by omega)
  have hp := hp.n e7 (by omega)
  have gU := gU.n e7 (by omega)
  clear e7
  refine x_aload_n (pc' := 82) rfl rfl rfl ?_
  refine x_aload_n (pc' := 83) rfl rfl rfl ?_
  refine x_get (pc' := 86) rfl rfl rfl (gU.1) rfl ?_
  refine x_put (pc' := 89) rfl rfl rfl (hO) (Nat.le_of_ble_eq_true rfl) rfl rfl rfl rfl (fun f8 e8 => ?_)
  have hO := x_o.s e8 hO.1
  have hF := hF.up e8 (by unfold x_ot; omega)
  have hk := hk.n e8 (by omega)
  have hb := hb.n e8 (by omega)
  have hp := hp.n e8 (by omega)
  have gU := gU.n e8 (by omega)
  clear e8
  exact x_return rfl rfl (Nat.le_of_ble_eq_true rfl) (Nat.le_of_ble_eq_true rfl) (h _ ⟨hO, hk, hb, hp⟩ hF)
end TABLE
