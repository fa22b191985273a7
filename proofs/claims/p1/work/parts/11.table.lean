/-! The class's Table: its cells, its methods. -/
/-- kinds, beans, purses, numbers (0 held, 1 fullness, 2 lent, 3 turn, 4 moves, 5 hands, 6 last, 7 sown, 8 taken) -/
abbrev x_T : Type := (Nat → Int32) × (Nat → Int32) × (Nat → Int32) × (Nat → Int32)
def x_tF (t : Nat) (s : Nat → Int32) : List Value := [.ref (t + 1), .ref (t + 2), .ref (t + 3), .int (s 0), .int (s 1), .int (s 2), .int (s 3), .int (s 4), .int (s 5), .int (s 6), .int (s 7), .int (s 8)]
def x_t (z : Nat) (f : x_H) (t : Nat) (T : x_T) : Prop := x_o z f t 3 (x_tF t T.2.2.2) ∧ x_a z f (t + 1) (9, .inl T.1) ∧ x_a z f (t + 2) (9, .inl T.2.1) ∧ x_a z f (t + 3) (2, .inl T.2.2.1)
abbrev t_has (T : x_T) (b : Int32) : Prop := ¬ b < 0 ∧ b < T.2.2.2 0 ∧ b < 9
theorem vp_in_9 {b : Int32} (h0 : ¬ b < 0) (h9 : b < 9) : vp_in b 9 := by
  have h1 : (9 : Int32).toInt = 9 := by decide
  have h2 : (0 : Int32).toInt = 0 := by decide
  rw [vp_in_iff]
  rw [Int32.lt_iff_toInt_lt] at h0 h9
  omega
section TABLE
variable {E : x_E} {z : Nat} {f : x_H} {t : Nat} {T : x_T} {post : Option Value → x_H → Prop}
theorem w_has {b : Int32} (hT : x_t z f t T) (h1 : t_has T b → post (some (.int 1)) f) (h0 : ¬ t_has T b → post (some (.int 0)) f) : Y E 1 mX3_has [.ref t, .int b] z f 0 0 post := by
  refine Y.intro gX3_has (lv := [(0, .ref t), (1, .int b)]) rfl (Nat.le_of_ble_eq_true rfl) ?_
  obtain ⟨hO, hk, hb, hp⟩ := hT
  refine x_iload_n (pc' := 1) rfl rfl rfl ?_
  refine x_if_lt (tgt := 22) (pc' := 4) rfl rfl rfl (fun c1 => ?_) (fun c1 => ?_)
  · refine x_iconst (pc' := 23) rfl rfl iconst_0 ?_
    exact x_ireturn rfl rfl rfl (Nat.le_of_ble_eq_true rfl) (Nat.le_of_ble_eq_true rfl) (h0 (fun q => q.1 c1))
  · refine x_iload_n (pc' := 5) rfl rfl rfl ?_
    refine x_aload_n (pc' := 6) rfl rfl rfl ?_
    refine x_get (pc' := 9) rfl rfl rfl (hO) rfl ?_
    refine x_icmp_ge (tgt := 22) (pc' := 12) rfl rfl rfl (fun c9 => ?_) (fun c9 => ?_)
    · refine x_iconst (pc' := 23) rfl rfl iconst_0 ?_
      exact x_ireturn rfl rfl rfl (Nat.le_of_ble_eq_true rfl) (Nat.le_of_ble_eq_true rfl) (h0 (fun q => Int32.not_lt.mpr c9 q.2.1))
    · refine x_iload_n (pc' := 13) rfl rfl rfl ?_
      refine x_bipush (pc' := 15) rfl rfl bipush_9 ?_
      refine x_icmp_ge (tgt := 22) (pc' := 18) rfl rfl rfl (fun c15 => ?_) (fun c15 => ?_)
      · refine x_iconst (pc' := 23) rfl rfl iconst_0 ?_
        exact x_ireturn rfl rfl rfl (Nat.le_of_ble_eq_true rfl) (Nat.le_of_ble_eq_true rfl) (h0 (fun q => Int32.not_lt.mpr c15 q.2.2))
      · refine x_iconst (pc' := 19) rfl rfl iconst_1 ?_
        refine x_goto (tgt := 23) rfl rfl ?_
        exact x_ireturn rfl rfl rfl (Nat.le_of_ble_eq_true rfl) (Nat.le_of_ble_eq_true rfl) (h1 ⟨c1, Int32.not_le.mp c9, Int32.not_le.mp c15⟩)
theorem w_canMove {b : Int32} (hT : x_t z f t T) (h1 : (2 : Int32) ≤ T.2.2.2 0 ∧ t_has T b ∧ 0 < T.2.1 b.toNatClampNeg → post (some (.int 1)) f) (h0 : ¬ ((2 : Int32) ≤ T.2.2.2 0 ∧ t_has T b ∧ 0 < T.2.1 b.toNatClampNeg) → post (some (.int 0)) f) : Y E 2 mX3_canMove [.ref t, .int b] z f 0 0 post := by
  refine Y.intro gX3_canMove (lv := [(0, .ref t), (1, .int b)]) rfl (Nat.le_of_ble_eq_true rfl) ?_
  obtain ⟨hO, hk, hb, hp⟩ := id hT
  refine x_aload_n (pc' := 1) rfl rfl rfl ?_
  refine x_get (pc' := 4) rfl rfl rfl (hO) rfl ?_
  refine x_iconst (pc' := 5) rfl rfl iconst_2 ?_
  refine x_icmp_lt (tgt := 29) (pc' := 8) rfl rfl rfl (fun c5 => ?_) (fun c5 => ?_)
  · refine x_iconst (pc' := 30) rfl rfl iconst_0 ?_
    exact x_ireturn rfl rfl rfl (Nat.le_of_ble_eq_true rfl) (Nat.le_of_ble_eq_true rfl) (h0 (fun q => Int32.not_le.mpr c5 q.1))
  · refine x_aload_n (pc' := 9) rfl rfl rfl ?_
    refine x_iload_n (pc' := 10) rfl rfl rfl ?_
    refine x_cV1i (d := 1) (pc' := 13) rfl rfl sX3_55 gX3_has (hO) ⟨Nat.le_of_ble_eq_true rfl, Nat.le_of_ble_eq_true rfl⟩ (Nat.le_of_ble_eq_true rfl) ⟨Nat.le_of_ble_eq_true rfl, Nat.le_of_ble_eq_true rfl⟩ ?_
    refine w_has hT (fun g => ⟨_, rfl, ?_⟩) (fun g => ⟨_, rfl, ?_⟩)
    · refine x_if_eq (tgt := 29) (pc' := 16) rfl rfl rfl (fun c13 => absurd c13 (by decide)) (fun _ => ?_)
      refine x_aload_n (pc' := 17) rfl rfl rfl ?_
      refine x_get (pc' := 20) rfl rfl rfl (hO) rfl ?_
      refine x_iload_n (pc' := 21) rfl rfl rfl ?_
      refine x_iaload (pc' := 22) rfl rfl (hb) (vp_in_9 g.1 g.2.2) ?_
      refine x_if_le (tgt := 29) (pc' := 25) rfl rfl rfl (fun c22 => ?_) (fun c22 => ?_)
      · refine x_iconst (pc' := 30) rfl rfl iconst_0 ?_
        exact x_ireturn rfl rfl rfl (Nat.le_of_ble_eq_true rfl) (Nat.le_of_ble_eq_true rfl) (h0 (fun q => Int32.not_lt.mpr c22 q.2.2))
      · refine x_iconst (pc' := 26) rfl rfl iconst_1 ?_
        refine x_goto (tgt := 30) rfl rfl ?_
        exact x_ireturn rfl rfl rfl (Nat.le_of_ble_eq_true rfl) (Nat.le_of_ble_eq_true rfl) (h1 ⟨Int32.not_lt.mp c5, g, Int32.not_le.mp c22⟩)
    · refine x_if_eq (tgt := 29) (pc' := 16) rfl rfl rfl (fun _ => ?_) (fun c13 => absurd (by decide) c13)
      refine x_iconst (pc' := 30) rfl rfl iconst_0 ?_
      exact x_ireturn rfl rfl rfl (Nat.le_of_ble_eq_true rfl) (Nat.le_of_ble_eq_true rfl) (h0 (fun q => g q.2.1))
end TABLE
