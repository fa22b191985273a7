/-! The system's cells, the reference's cells; constructors. -/
/-- numbers (0 hasPicture, 1 toldHeld, 2 letters held, 3 rings held, 4 moves, 5 first), tables (0 now, 1 pictured, 2 trial, 3 second, 4 from, 5 to, 6 .. 10 line), int arrays (0 letters, 1 chosen, 2 firsts, 3 slots, 4 asked, 5 told, 6 refused), long arrays (0 rings, 1 ways) -/
abbrev x_S : Type := (Nat → Int32) × (Nat → x_T) × (Nat → Nat → Int32) × (Nat → Nat → Int64)
def x_tp (i : Nat) : Nat := [1, 5, 9, 13, 46, 50, 22, 26, 30, 34, 38].getD i 0
def x_ap (i : Nat) : Nat := [18, 21, 44, 45, 56, 57, 58].getD i 0
def x_an (i : Nat) : Nat := [96, 5, 7381, 16384, 12, 12, 7].getD i 0
def x_lp (i : Nat) : Nat := [43, 55].getD i 0
def x_ln (i : Nat) : Nat := [7381, 41].getD i 0
def x_line : Nat → Option Nat := fun i => if i < 5 then some (22 + 4 * i) else none
def x_oF (n : Nat → Int32) : List Value := [.ref 1, .ref 5, .int (n 0), .ref 9, .ref 13, .ref 17, .ref 19, .ref 42, .ref 54, .ref 57, .int (n 1), .ref 58]
def x_eF (n : Nat → Int32) : List Value := [.ref 43, .ref 44, .ref 45, .ref 46, .ref 50, .int (n 3), .int (n 4), .int (n 5)]
def x_Sys (z : Nat) (f : x_H) (S : x_S) : Prop :=
  x_o z f 0 5 (x_oF S.1) ∧ (∀ i, i < 11 → x_t z f (x_tp i) (S.2.1 i)) ∧ (∀ i, i < 7 → x_a z f (x_ap i) (x_an i, .inl (S.2.2.1 i))) ∧ (∀ i, i < 2 → x_a z f (x_lp i) (x_ln i, .inr (.inl (S.2.2.2 i)))) ∧
  x_o z f 17 2 [.ref 18, .int (S.1 2)] ∧ x_o z f 19 0 [.ref 20, .ref 21] ∧ x_a z f 20 (5, .inr (.inr (.inr (.inr x_line)))) ∧ x_o z f 42 1 (x_eF S.1) ∧ x_o z f 54 4 [.ref 55, .ref 56]
def x_S0 : x_S := (fun i => if i = 4 then (-9) else if i = 5 then (-9) else 0, fun _ => x_T0, fun _ _ => 0, fun _ _ => 0)
/-- the reference: numbers by slot, int arrays (0 kinds, 1 beans, 2 purses, 3 refused, 4 letters, 5 rowNow, 6 frames, 7 kindsAside, 8 been, 9 framesKept, 10 kindsKept), long arrays (0 ways, 1 waysThen) -/
abbrev x_N : Type := (Nat → Int32) × (Nat → Nat → Int32) × (Nat → Nat → Int64)
def x_mp (i : Nat) : Nat := [60, 61, 62, 63, 64, 65, 66, 67, 68, 71, 72].getD i 0
def x_mn (i : Nat) : Nat := [9, 9, 2, 6, 96, 12, 96, 9, 1809, 12, 9].getD i 0
def x_mF (n : Nat → Int32) : List Value := [.int (n 0), .ref 60, .ref 61, .int (n 3), .int (n 4), .int (n 5), .ref 62, .int (n 7), .int (n 8), .ref 63, .ref 64, .int (n 11), .ref 65, .int (n 13), .int (n 14), .int (n 15), .int (n 16), .int (n 17), .int (n 18), .ref 66, .int (n 20), .ref 67, .int (n 22), .ref 68, .ref 69, .ref 70, .ref 71, .ref 72, .int (n 28), .int (n 29), .int (n 30), .int (n 31)]
def x_Mdl (z : Nat) (f : x_H) (M : x_N) : Prop := x_o z f 59 6 (x_mF M.1) ∧ (∀ i, i < 11 → x_a z f (x_mp i) (x_mn i, .inl (M.2.1 i))) ∧ (∀ i, i < 2 → x_a z f (69 + i) (41, .inr (.inl (M.2.2 i))))
def x_M0 : x_N := (fun i => if i = 4 then 4 else if i = 28 then (-1) else 0, fun _ _ => 0, fun _ _ => 0)
theorem dfX3 : ∀ j, j < 12 → defaultValue (x_ty 3 j) = vp_V [.null, .null, .null, .int 0, .int 0, .int 0, .int 0, .int 0, .int 0, .int 0, .int 0, .int 0] j := by
  intro j hj
  rcases (show j = 0 ∨ j = 1 ∨ j = 2 ∨ j = 3 ∨ j = 4 ∨ j = 5 ∨ j = 6 ∨ j = 7 ∨ j = 8 ∨ j = 9 ∨ j = 10 ∨ j = 11 by omega) with rfl | rfl | rfl | rfl | rfl | rfl | rfl | rfl | rfl | rfl | rfl | rfl <;> rfl
theorem dfX1 : ∀ j, j < 8 → defaultValue (x_ty 1 j) = vp_V [.null, .null, .null, .null, .null, .int 0, .int 0, .int 0] j := by
  intro j hj
  rcases (show j = 0 ∨ j = 1 ∨ j = 2 ∨ j = 3 ∨ j = 4 ∨ j = 5 ∨ j = 6 ∨ j = 7 by omega) with rfl | rfl | rfl | rfl | rfl | rfl | rfl | rfl <;> rfl
theorem dfX2 : ∀ j, j < 2 → defaultValue (x_ty 2 j) = vp_V [.null, .int 0] j := by
  intro j hj
  rcases (show j = 0 ∨ j = 1 by omega) with rfl | rfl <;> rfl
theorem dfX0 : ∀ j, j < 2 → defaultValue (x_ty 0 j) = vp_V [.null, .null] j := by
  intro j hj
  rcases (show j = 0 ∨ j = 1 by omega) with rfl | rfl <;> rfl
theorem dfX4 : ∀ j, j < 2 → defaultValue (x_ty 4 j) = vp_V [.null, .null] j := by
  intro j hj
  rcases (show j = 0 ∨ j = 1 by omega) with rfl | rfl <;> rfl
theorem dfX5 : ∀ j, j < 12 → defaultValue (x_ty 5 j) = vp_V [.null, .null, .int 0, .null, .null, .null, .null, .null, .null, .null, .int 0, .null] j := by
  intro j hj
  rcases (show j = 0 ∨ j = 1 ∨ j = 2 ∨ j = 3 ∨ j = 4 ∨ j = 5 ∨ j = 6 ∨ j = 7 ∨ j = 8 ∨ j = 9 ∨ j = 10 ∨ j = 11 by omega) with rfl | rfl | rfl | rfl | rfl | rfl | rfl | rfl | rfl | rfl | rfl | rfl <;> rfl
theorem dfX6 : ∀ j, j < 32 → defaultValue (x_ty 6 j) = vp_V [.int 0, .null, .null, .int 0, .int 0, .int 0, .null, .int 0, .int 0, .null, .null, .int 0, .null, .int 0, .int 0, .int 0, .int 0, .int 0, .int 0, .null, .int 0, .null, .int 0, .null, .null, .null, .null, .null, .int 0, .int 0, .int 0, .int 0] j := by
  intro j hj
  rcases (show j = 0 ∨ j = 1 ∨ j = 2 ∨ j = 3 ∨ j = 4 ∨ j = 5 ∨ j = 6 ∨ j = 7 ∨ j = 8 ∨ j = 9 ∨ j = 10 ∨ j = 11 ∨ j = 12 ∨ j = 13 ∨ j = 14 ∨ j = 15 ∨ j = 16 ∨ j = 17 ∨ j = 18 ∨ j = 19 ∨ j = 20 ∨ j = 21 ∨ j = 22 ∨ j = 23 ∨ j = 24 ∨ j = 25 ∨ j = 26 ∨ j = 27 ∨ j = 28 ∨ j = 29 ∨ j = 30 ∨ j = 31 by omega) with rfl | rfl | rfl | rfl | rfl | rfl | rfl | rfl | rfl | rfl | rfl | rfl | rfl | rfl | rfl | rfl | rfl | rfl | rfl | rfl | rfl | rfl | rfl | rfl | rfl | rfl | rfl | rfl | rfl | rfl | rfl | rfl <;> rfl
theorem x_line_eq : (va_up (va_up (va_up (va_up (va_up (fun _ => none) (Int32.toNatClampNeg 0) (some 22)) (Int32.toNatClampNeg (0 + Int32.ofInt 1)) (some 26)) (Int32.toNatClampNeg (0 + Int32.ofInt 1 + Int32.ofInt 1)) (some 30)) (Int32.toNatClampNeg (0 + Int32.ofInt 1 + Int32.ofInt 1 + Int32.ofInt 1)) (some 34)) (Int32.toNatClampNeg (0 + Int32.ofInt 1 + Int32.ofInt 1 + Int32.ofInt 1 + Int32.ofInt 1)) (some 38)) = x_line := by
  have e0 : Int32.toNatClampNeg 0 = 0 := by decide
  have e1 : Int32.toNatClampNeg (0 + Int32.ofInt 1) = 1 := by decide
  have e2 : Int32.toNatClampNeg (0 + Int32.ofInt 1 + Int32.ofInt 1) = 2 := by decide
  have e3 : Int32.toNatClampNeg (0 + Int32.ofInt 1 + Int32.ofInt 1 + Int32.ofInt 1) = 3 := by decide
  have e4 : Int32.toNatClampNeg (0 + Int32.ofInt 1 + Int32.ofInt 1 + Int32.ofInt 1 + Int32.ofInt 1) = 4 := by decide
  rw [e0, e1, e2, e3, e4]
  funext i
  match i with
  | 0 => rfl
  | 1 => rfl
  | 2 => rfl
  | 3 => rfl
  | 4 => rfl
  | n + 5 => simp [va_up, x_line]
section INIT
variable {E : x_E} {f : x_H} {post : Option Value → x_H → Prop}
theorem w_lettersInit (hO : x_o 18 f 17 2 [.null, .int 0]) (h : ∀ f' : x_H, x_o 19 f' 17 2 [.ref 18, .int 0] → x_a 19 f' 18 (96, .inl (fun _ => 0)) → x_fr (fun q => q < 17) f f' → post none f') : Y E 1 mX2_init [.ref 17] 18 f 1 96 post := by
  refine Y.intro gX2_init (lv := [(0, .ref 17)]) rfl (Nat.le_of_ble_eq_true rfl) ?_
  have hF : x_fr (fun q => q < 17) f f := x_fr.rf
  refine x_aload_n (pc' := 1) rfl rfl rfl ?_
  refine x_obj (pc' := 4) rfl rfl sX2_3 ⟨Nat.le_of_ble_eq_true rfl, Nat.le_of_ble_eq_true rfl⟩ (Nat.le_of_ble_eq_true rfl) ?_
  refine x_aload_n (pc' := 5) rfl rfl rfl ?_
  refine x_bipush (pc' := 7) rfl rfl bipush_96 ?_
  refine x_newarrayI (pc' := 9) (N := 96) rfl rfl (by decide) (by decide) (by decide) (Nat.le_of_ble_eq_true rfl) (Nat.le_of_ble_eq_true rfl) (fun f1 e1 => ?_)
  have hO := (hO.zz (Nat.le_succ _)).n e1 (by decide)
  have hF := hF.up e1 (Nat.not_lt.mpr (by decide))
  have ha := x_a.s e1 (Nat.lt_succ_self _)
  clear e1
  refine x_putF (pc' := 12) rfl rfl rfl (hO) (Nat.le_of_ble_eq_true rfl) rfl rfl rfl rfl rfl rfl (fun f2 e2 => ?_)
  have hO := x_o.s e2 hO.1
  have ha := ha.n e2 (by decide)
  have hF := hF.up e2 (Nat.not_lt.mpr (by decide))
  clear e2
  refine x_aload_n (pc' := 13) rfl rfl rfl ?_
  refine x_iconst (pc' := 14) rfl rfl iconst_0 ?_
  refine x_put (pc' := 17) rfl rfl rfl (hO) (Nat.le_of_ble_eq_true rfl) rfl rfl rfl rfl (fun f3 e3 => ?_)
  have hO := x_o.s e3 hO.1
  have ha := ha.n e3 (by decide)
  have hF := hF.up e3 (Nat.not_lt.mpr (by decide))
  clear e3
  exact x_return rfl rfl (Nat.le_of_ble_eq_true rfl) (Nat.le_of_ble_eq_true rfl) (h _ hO ha hF)
theorem w_waysInit (hO : x_o 55 f 54 4 [.null, .null]) (h : ∀ f' : x_H, x_o 57 f' 54 4 [.ref 55, .ref 56] → x_a 57 f' 55 (41, .inr (.inl (fun _ => 0))) → x_a 57 f' 56 (12, .inl (fun _ => 0)) → x_fr (fun q => q < 54) f f' → post none f') : Y E 1 mX4_init [.ref 54] 55 f 2 53 post := by
  refine Y.intro gX4_init (lv := [(0, .ref 54)]) rfl (Nat.le_of_ble_eq_true rfl) ?_
  have hF : x_fr (fun q => q < 54) f f := x_fr.rf
  refine x_aload_n (pc' := 1) rfl rfl rfl ?_
  refine x_obj (pc' := 4) rfl rfl sX4_3 ⟨Nat.le_of_ble_eq_true rfl, Nat.le_of_ble_eq_true rfl⟩ (Nat.le_of_ble_eq_true rfl) ?_
  refine x_aload_n (pc' := 5) rfl rfl rfl ?_
  refine x_bipush (pc' := 7) rfl rfl bipush_41 ?_
  refine x_newarrayL (pc' := 9) (N := 41) rfl rfl (by decide) (by decide) (by decide) (Nat.le_of_ble_eq_true rfl) (Nat.le_of_ble_eq_true rfl) (fun f1 e1 => ?_)
  have hO := (hO.zz (Nat.le_succ _)).n e1 (by decide)
  have hF := hF.up e1 (Nat.not_lt.mpr (by decide))
  have ha := x_a.s e1 (Nat.lt_succ_self _)
  clear e1
  refine x_putF (pc' := 12) rfl rfl rfl (hO) (Nat.le_of_ble_eq_true rfl) rfl rfl rfl rfl rfl rfl (fun f2 e2 => ?_)
  have hO := x_o.s e2 hO.1
  have ha := ha.n e2 (by decide)
  have hF := hF.up e2 (Nat.not_lt.mpr (by decide))
  clear e2
  refine x_aload_n (pc' := 13) rfl rfl rfl ?_
  refine x_bipush (pc' := 15) rfl rfl bipush_12 ?_
  refine x_newarrayI (pc' := 17) (N := 12) rfl rfl (by decide) (by decide) (by decide) (Nat.le_of_ble_eq_true rfl) (Nat.le_of_ble_eq_true rfl) (fun f3 e3 => ?_)
  have hO := (hO.zz (Nat.le_succ _)).n e3 (by decide)
  have ha := (ha.zz (Nat.le_succ _)).n e3 (by decide)
  have hF := hF.up e3 (Nat.not_lt.mpr (by decide))
  have hb := x_a.s e3 (Nat.lt_succ_self _)
  clear e3
  refine x_putF (pc' := 20) rfl rfl rfl (hO) (Nat.le_of_ble_eq_true rfl) rfl rfl rfl rfl rfl rfl (fun f4 e4 => ?_)
  have hO := x_o.s e4 hO.1
  have ha := ha.n e4 (by decide)
  have hb := hb.n e4 (by decide)
  have hF := hF.up e4 (Nat.not_lt.mpr (by decide))
  clear e4
  exact x_return rfl rfl (Nat.le_of_ble_eq_true rfl) (Nat.le_of_ble_eq_true rfl) (h _ hO ha hb hF)
theorem w_emptyingInit (hO : x_o 43 f 42 1 [.null, .null, .null, .null, .null, .int 0, .int 0, .int 0]) (h : ∀ f' : x_H, x_o 54 f' 42 1 [.ref 43, .ref 44, .ref 45, .ref 46, .ref 50, .int 0, .int (-9), .int (-9)] → x_a 54 f' 43 (7381, .inr (.inl (fun _ => 0))) → x_a 54 f' 44 (7381, .inl (fun _ => 0)) → x_a 54 f' 45 (16384, .inl (fun _ => 0)) → x_t 54 f' 46 x_T0 → x_t 54 f' 50 x_T0 → x_fr (fun q => q < 42) f f' → post none f') : Y E 2 mX1_init [.ref 42] 43 f 11 31210 post := by
  refine Y.intro gX1_init (lv := [(0, .ref 42)]) rfl (Nat.le_of_ble_eq_true rfl) ?_
  have hF : x_fr (fun q => q < 42) f f := x_fr.rf
  refine x_aload_n (pc' := 1) rfl rfl rfl ?_
  refine x_obj (pc' := 4) rfl rfl sX1_5 ⟨Nat.le_of_ble_eq_true rfl, Nat.le_of_ble_eq_true rfl⟩ (Nat.le_of_ble_eq_true rfl) ?_
  refine x_aload_n (pc' := 5) rfl rfl rfl ?_
  refine x_sipush (pc' := 8) rfl rfl sipush_7381 ?_
  refine x_newarrayL (pc' := 10) (N := 7381) rfl rfl (by decide) (by decide) (by decide) (Nat.le_of_ble_eq_true rfl) (Nat.le_of_ble_eq_true rfl) (fun f1 e1 => ?_)
  have hO := (hO.zz (Nat.le_succ _)).n e1 (by decide)
  have hF := hF.up e1 (Nat.not_lt.mpr (by decide))
  have ha := x_a.s e1 (Nat.lt_succ_self _)
  clear e1
  refine x_putF (pc' := 13) rfl rfl rfl (hO) (Nat.le_of_ble_eq_true rfl) rfl rfl rfl rfl rfl rfl (fun f2 e2 => ?_)
  have hO := x_o.s e2 hO.1
  have ha := ha.n e2 (by decide)
  have hF := hF.up e2 (Nat.not_lt.mpr (by decide))
  clear e2
  refine x_aload_n (pc' := 14) rfl rfl rfl ?_
  refine x_sipush (pc' := 17) rfl rfl sipush_7381 ?_
  refine x_newarrayI (pc' := 19) (N := 7381) rfl rfl (by decide) (by decide) (by decide) (Nat.le_of_ble_eq_true rfl) (Nat.le_of_ble_eq_true rfl) (fun f3 e3 => ?_)
  have hO := (hO.zz (Nat.le_succ _)).n e3 (by decide)
  have ha := (ha.zz (Nat.le_succ _)).n e3 (by decide)
  have hF := hF.up e3 (Nat.not_lt.mpr (by decide))
  have hb := x_a.s e3 (Nat.lt_succ_self _)
  clear e3
  refine x_putF (pc' := 22) rfl rfl rfl (hO) (Nat.le_of_ble_eq_true rfl) rfl rfl rfl rfl rfl rfl (fun f4 e4 => ?_)
  have hO := x_o.s e4 hO.1
  have ha := ha.n e4 (by decide)
  have hb := hb.n e4 (by decide)
  have hF := hF.up e4 (Nat.not_lt.mpr (by decide))
  clear e4
  refine x_aload_n (pc' := 23) rfl rfl rfl ?_
  refine x_sipush (pc' := 26) rfl rfl sipush_16384 ?_
  refine x_newarrayI (pc' := 28) (N := 16384) rfl rfl (by decide) (by decide) (by decide) (Nat.le_of_ble_eq_true rfl) (Nat.le_of_ble_eq_true rfl) (fun f5 e5 => ?_)
  have hO := (hO.zz (Nat.le_succ _)).n e5 (by decide)
  have ha := (ha.zz (Nat.le_succ _)).n e5 (by decide)
  have hb := (hb.zz (Nat.le_succ _)).n e5 (by decide)
  have hF := hF.up e5 (Nat.not_lt.mpr (by decide))
  have hc := x_a.s e5 (Nat.lt_succ_self _)
  clear e5
  refine x_putF (pc' := 31) rfl rfl rfl (hO) (Nat.le_of_ble_eq_true rfl) rfl rfl rfl rfl rfl rfl (fun f6 e6 => ?_)
  have hO := x_o.s e6 hO.1
  have ha := ha.n e6 (by decide)
  have hb := hb.n e6 (by decide)
  have hc := hc.n e6 (by decide)
  have hF := hF.up e6 (Nat.not_lt.mpr (by decide))
  clear e6
  refine x_aload_n (pc' := 32) rfl rfl rfl ?_
  refine x_new (fs := [.null, .null, .null, .int 0, .int 0, .int 0, .int 0, .int 0, .int 0, .int 0, .int 0, .int 0]) (pc' := 35) rfl rfl rfl rfl (dfX3) rfl (Nat.le_of_ble_eq_true rfl) (Nat.le_of_ble_eq_true rfl) (fun f7 e7 => ?_)
  have hO := (hO.zz (Nat.le_succ _)).n e7 (by decide)
  have ha := (ha.zz (Nat.le_succ _)).n e7 (by decide)
  have hb := (hb.zz (Nat.le_succ _)).n e7 (by decide)
  have hc := (hc.zz (Nat.le_succ _)).n e7 (by decide)
  have hF := hF.up e7 (Nat.not_lt.mpr (by decide))
  have tA := x_o.s e7 (Nat.lt_succ_self _)
  clear e7
  refine x_dup (pc' := 36) rfl rfl rfl ?_
  refine x_cI (d := 1) (mc := 3) (ms := 20) (pc' := 39) rfl rfl sX1_24 gX3_init ⟨Nat.le_of_ble_eq_true rfl, Nat.le_of_ble_eq_true rfl⟩ (Nat.le_of_ble_eq_true rfl) ⟨Nat.le_of_ble_eq_true rfl, Nat.le_of_ble_eq_true rfl⟩ ?_
  refine w_tInit tA (fun g1 hA hG1 => ⟨rfl, ?_⟩)
  have hO := (hO.zz (Nat.le_add_right _ 3)).fr hG1 (by show _ < _; decide)
  have ha := (ha.zz (Nat.le_add_right _ 3)).fr hG1 (by show _ < _; decide)
  have hb := (hb.zz (Nat.le_add_right _ 3)).fr hG1 (by show _ < _; decide)
  have hc := (hc.zz (Nat.le_add_right _ 3)).fr hG1 (by show _ < _; decide)
  have hF := hF.trans (hG1.mono (fun q hq => Nat.lt_of_lt_of_le hq (by decide)))
  refine x_putF (pc' := 42) rfl rfl rfl (hO) (Nat.le_of_ble_eq_true rfl) rfl rfl rfl rfl rfl rfl (fun f8 e8 => ?_)
  have hO := x_o.s e8 hO.1
  have ha := ha.n e8 (by decide)
  have hb := hb.n e8 (by decide)
  have hc := hc.n e8 (by decide)
  have hA := hA.n e8 (by decide)
  have hF := hF.up e8 (Nat.not_lt.mpr (by decide))
  clear e8
  refine x_aload_n (pc' := 43) rfl rfl rfl ?_
  refine x_new (fs := [.null, .null, .null, .int 0, .int 0, .int 0, .int 0, .int 0, .int 0, .int 0, .int 0, .int 0]) (pc' := 46) rfl rfl rfl rfl (dfX3) rfl (Nat.le_of_ble_eq_true rfl) (Nat.le_of_ble_eq_true rfl) (fun f9 e9 => ?_)
  have hO := (hO.zz (Nat.le_succ _)).n e9 (by decide)
  have ha := (ha.zz (Nat.le_succ _)).n e9 (by decide)
  have hb := (hb.zz (Nat.le_succ _)).n e9 (by decide)
  have hc := (hc.zz (Nat.le_succ _)).n e9 (by decide)
  have hA := (hA.zz (Nat.le_succ _)).n e9 (by decide)
  have hF := hF.up e9 (Nat.not_lt.mpr (by decide))
  have tB := x_o.s e9 (Nat.lt_succ_self _)
  clear e9
  refine x_dup (pc' := 47) rfl rfl rfl ?_
  refine x_cI (d := 1) (mc := 3) (ms := 20) (pc' := 50) rfl rfl sX1_24 gX3_init ⟨Nat.le_of_ble_eq_true rfl, Nat.le_of_ble_eq_true rfl⟩ (Nat.le_of_ble_eq_true rfl) ⟨Nat.le_of_ble_eq_true rfl, Nat.le_of_ble_eq_true rfl⟩ ?_
  refine w_tInit tB (fun g2 hB hG2 => ⟨rfl, ?_⟩)
  have hO := (hO.zz (Nat.le_add_right _ 3)).fr hG2 (by show _ < _; decide)
  have ha := (ha.zz (Nat.le_add_right _ 3)).fr hG2 (by show _ < _; decide)
  have hb := (hb.zz (Nat.le_add_right _ 3)).fr hG2 (by show _ < _; decide)
  have hc := (hc.zz (Nat.le_add_right _ 3)).fr hG2 (by show _ < _; decide)
  have hA := (hA.zz (Nat.le_add_right _ 3)).fr hG2 (fun i hi => by show _ + i < _; omega)
  have hF := hF.trans (hG2.mono (fun q hq => Nat.lt_of_lt_of_le hq (by decide)))
  refine x_putF (pc' := 53) rfl rfl rfl (hO) (Nat.le_of_ble_eq_true rfl) rfl rfl rfl rfl rfl rfl (fun f10 e10 => ?_)
  have hO := x_o.s e10 hO.1
  have ha := ha.n e10 (by decide)
  have hb := hb.n e10 (by decide)
  have hc := hc.n e10 (by decide)
  have hA := hA.n e10 (by decide)
  have hB := hB.n e10 (by decide)
  have hF := hF.up e10 (Nat.not_lt.mpr (by decide))
  clear e10
  refine x_aload_n (pc' := 54) rfl rfl rfl ?_
  refine x_iconst (pc' := 55) rfl rfl iconst_0 ?_
  refine x_put (pc' := 58) rfl rfl rfl (hO) (Nat.le_of_ble_eq_true rfl) rfl rfl rfl rfl (fun f11 e11 => ?_)
  have hO := x_o.s e11 hO.1
  have ha := ha.n e11 (by decide)
  have hb := hb.n e11 (by decide)
  have hc := hc.n e11 (by decide)
  have hA := hA.n e11 (by decide)
  have hB := hB.n e11 (by decide)
  have hF := hF.up e11 (Nat.not_lt.mpr (by decide))
  clear e11
  refine x_aload_n (pc' := 59) rfl rfl rfl ?_
  refine x_bipush (pc' := 61) rfl rfl bipush_m9 ?_
  refine x_put (pc' := 64) rfl rfl rfl (hO) (Nat.le_of_ble_eq_true rfl) rfl rfl rfl rfl (fun f12 e12 => ?_)
  have hO := x_o.s e12 hO.1
  have ha := ha.n e12 (by decide)
  have hb := hb.n e12 (by decide)
  have hc := hc.n e12 (by decide)
  have hA := hA.n e12 (by decide)
  have hB := hB.n e12 (by decide)
  have hF := hF.up e12 (Nat.not_lt.mpr (by decide))
  clear e12
  refine x_aload_n (pc' := 65) rfl rfl rfl ?_
  refine x_bipush (pc' := 67) rfl rfl bipush_m9 ?_
  refine x_put (pc' := 70) rfl rfl rfl (hO) (Nat.le_of_ble_eq_true rfl) rfl rfl rfl rfl (fun f13 e13 => ?_)
  have hO := x_o.s e13 hO.1
  have ha := ha.n e13 (by decide)
  have hb := hb.n e13 (by decide)
  have hc := hc.n e13 (by decide)
  have hA := hA.n e13 (by decide)
  have hB := hB.n e13 (by decide)
  have hF := hF.up e13 (Nat.not_lt.mpr (by decide))
  clear e13
  exact x_return rfl rfl (Nat.le_of_ble_eq_true rfl) (Nat.le_of_ble_eq_true rfl) (h _ hO ha hb hc hA hB hF)
theorem w_aheadInit (hO : x_o 20 f 19 0 [.null, .null]) (h : ∀ f' : x_H, x_o 42 f' 19 0 [.ref 20, .ref 21] → x_a 42 f' 20 (5, .inr (.inr (.inr (.inr x_line)))) → x_a 42 f' 21 (5, .inl (fun _ => 0)) → x_t 42 f' 22 x_T0 → x_t 42 f' 26 x_T0 → x_t 42 f' 30 x_T0 → x_t 42 f' 34 x_T0 → x_t 42 f' 38 x_T0 → x_fr (fun q => q < 19) f f' → post none f') : Y E 2 mX0_init [.ref 19] 20 f 22 170 post := by
  refine Y.intro gX0_init (lv := [(0, .ref 19)]) rfl (Nat.le_of_ble_eq_true rfl) ?_
  have hF : x_fr (fun q => q < 19) f f := x_fr.rf
  refine x_aload_n (pc' := 1) rfl rfl rfl ?_
  refine x_obj (pc' := 4) rfl rfl sX0_3 ⟨Nat.le_of_ble_eq_true rfl, Nat.le_of_ble_eq_true rfl⟩ (Nat.le_of_ble_eq_true rfl) ?_
  refine x_aload_n (pc' := 5) rfl rfl rfl ?_
  refine x_iconst (pc' := 6) rfl rfl iconst_5 ?_
  refine x_anew (pc' := 9) (N := 5) rfl rfl rfl (by decide) (by decide) (by decide) (Nat.le_of_ble_eq_true rfl) (Nat.le_of_ble_eq_true rfl) (fun f1 e1 => ?_)
  have hO := (hO.zz (Nat.le_succ _)).n e1 (by decide)
  have hF := hF.up e1 (Nat.not_lt.mpr (by decide))
  have ha := x_a.s e1 (Nat.lt_succ_self _)
  clear e1
  refine x_putF (pc' := 12) rfl rfl rfl (hO) (Nat.le_of_ble_eq_true rfl) rfl rfl rfl rfl rfl rfl (fun f2 e2 => ?_)
  have hO := x_o.s e2 hO.1
  have ha := ha.n e2 (by decide)
  have hF := hF.up e2 (Nat.not_lt.mpr (by decide))
  clear e2
  refine x_aload_n (pc' := 13) rfl rfl rfl ?_
  refine x_iconst (pc' := 14) rfl rfl iconst_5 ?_
  refine x_newarrayI (pc' := 16) (N := 5) rfl rfl (by decide) (by decide) (by decide) (Nat.le_of_ble_eq_true rfl) (Nat.le_of_ble_eq_true rfl) (fun f3 e3 => ?_)
  have hO := (hO.zz (Nat.le_succ _)).n e3 (by decide)
  have ha := (ha.zz (Nat.le_succ _)).n e3 (by decide)
  have hF := hF.up e3 (Nat.not_lt.mpr (by decide))
  have hb := x_a.s e3 (Nat.lt_succ_self _)
  clear e3
  refine x_putF (pc' := 19) rfl rfl rfl (hO) (Nat.le_of_ble_eq_true rfl) rfl rfl rfl rfl rfl rfl (fun f4 e4 => ?_)
  have hO := x_o.s e4 hO.1
  have ha := ha.n e4 (by decide)
  have hb := hb.n e4 (by decide)
  have hF := hF.up e4 (Nat.not_lt.mpr (by decide))
  clear e4
  refine x_iconst (pc' := 20) rfl rfl iconst_0 ?_
  refine x_istore_n (pc' := 21) (lv' := [(1, _), (0, _)]) rfl rfl (Nat.le_of_ble_eq_true rfl) rfl ?_
  refine x_iload_n (pc' := 22) rfl rfl rfl ?_
  refine x_aload_n (pc' := 23) rfl rfl rfl ?_
  refine x_get (pc' := 26) rfl rfl rfl (hO) rfl ?_
  refine x_alen (pc' := 27) rfl rfl (ha) ?_
  refine x_icmp_ge (tgt := 49) (pc' := 30) rfl rfl rfl (fun c27 => absurd c27 (by decide)) (fun _ => ?_)
  refine x_aload_n (pc' := 31) rfl rfl rfl ?_
  refine x_get (pc' := 34) rfl rfl rfl (hO) rfl ?_
  refine x_iload_n (pc' := 35) rfl rfl rfl ?_
  refine x_new (fs := [.null, .null, .null, .int 0, .int 0, .int 0, .int 0, .int 0, .int 0, .int 0, .int 0, .int 0]) (pc' := 38) rfl rfl rfl rfl (dfX3) rfl (Nat.le_of_ble_eq_true rfl) (Nat.le_of_ble_eq_true rfl) (fun f5 e5 => ?_)
  have hO := (hO.zz (Nat.le_succ _)).n e5 (by decide)
  have ha := (ha.zz (Nat.le_succ _)).n e5 (by decide)
  have hb := (hb.zz (Nat.le_succ _)).n e5 (by decide)
  have hF := hF.up e5 (Nat.not_lt.mpr (by decide))
  have t0 := x_o.s e5 (Nat.lt_succ_self _)
  clear e5
  refine x_dup (pc' := 39) rfl rfl rfl ?_
  refine x_cI (d := 1) (mc := 3) (ms := 20) (pc' := 42) rfl rfl sX0_21 gX3_init ⟨Nat.le_of_ble_eq_true rfl, Nat.le_of_ble_eq_true rfl⟩ (Nat.le_of_ble_eq_true rfl) ⟨Nat.le_of_ble_eq_true rfl, Nat.le_of_ble_eq_true rfl⟩ ?_
  refine w_tInit t0 (fun g1 ht0 hG1 => ⟨rfl, ?_⟩)
  have hO := (hO.zz (Nat.le_add_right _ 3)).fr hG1 (by show _ < _; decide)
  have ha := (ha.zz (Nat.le_add_right _ 3)).fr hG1 (by show _ < _; decide)
  have hb := (hb.zz (Nat.le_add_right _ 3)).fr hG1 (by show _ < _; decide)
  have hF := hF.trans (hG1.mono (fun q hq => Nat.lt_of_lt_of_le hq (by decide)))
  refine x_aastore (pc' := 43) rfl rfl (ha) (ht0.1) (vp_in_nI (n := 0) (N := 5) (by decide) (by decide)) (fun f6 e6 => ?_)
  have ha := x_a.s e6 ha.1
  have hO := hO.n e6 (by decide)
  have hb := hb.n e6 (by decide)
  have ht0 := ht0.n e6 (by decide)
  have hF := hF.up e6 (Nat.not_lt.mpr (by decide))
  clear e6
  refine x_iinc (pc' := 46) (lv' := [(1, _), (0, _)]) rfl rfl (Nat.le_of_ble_eq_true rfl) rfl (rfl) rfl ?_
  refine x_goto (tgt := 21) rfl rfl ?_
  refine x_iload_n (pc' := 22) rfl rfl rfl ?_
  refine x_aload_n (pc' := 23) rfl rfl rfl ?_
  refine x_get (pc' := 26) rfl rfl rfl (hO) rfl ?_
  refine x_alen (pc' := 27) rfl rfl (ha) ?_
  refine x_icmp_ge (tgt := 49) (pc' := 30) rfl rfl rfl (fun c27 => absurd c27 (by decide)) (fun _ => ?_)
  refine x_aload_n (pc' := 31) rfl rfl rfl ?_
  refine x_get (pc' := 34) rfl rfl rfl (hO) rfl ?_
  refine x_iload_n (pc' := 35) rfl rfl rfl ?_
  refine x_new (fs := [.null, .null, .null, .int 0, .int 0, .int 0, .int 0, .int 0, .int 0, .int 0, .int 0, .int 0]) (pc' := 38) rfl rfl rfl rfl (dfX3) rfl (Nat.le_of_ble_eq_true rfl) (Nat.le_of_ble_eq_true rfl) (fun f7 e7 => ?_)
  have hO := (hO.zz (Nat.le_succ _)).n e7 (by decide)
  have ha := (ha.zz (Nat.le_succ _)).n e7 (by decide)
  have hb := (hb.zz (Nat.le_succ _)).n e7 (by decide)
  have ht0 := (ht0.zz (Nat.le_succ _)).n e7 (by decide)
  have hF := hF.up e7 (Nat.not_lt.mpr (by decide))
  have t1 := x_o.s e7 (Nat.lt_succ_self _)
  clear e7
  refine x_dup (pc' := 39) rfl rfl rfl ?_
  refine x_cI (d := 1) (mc := 3) (ms := 20) (pc' := 42) rfl rfl sX0_21 gX3_init ⟨Nat.le_of_ble_eq_true rfl, Nat.le_of_ble_eq_true rfl⟩ (Nat.le_of_ble_eq_true rfl) ⟨Nat.le_of_ble_eq_true rfl, Nat.le_of_ble_eq_true rfl⟩ ?_
  refine w_tInit t1 (fun g2 ht1 hG2 => ⟨rfl, ?_⟩)
  have hO := (hO.zz (Nat.le_add_right _ 3)).fr hG2 (by show _ < _; decide)
  have ha := (ha.zz (Nat.le_add_right _ 3)).fr hG2 (by show _ < _; decide)
  have hb := (hb.zz (Nat.le_add_right _ 3)).fr hG2 (by show _ < _; decide)
  have ht0 := (ht0.zz (Nat.le_add_right _ 3)).fr hG2 (fun i hi => by show _ + i < _; omega)
  have hF := hF.trans (hG2.mono (fun q hq => Nat.lt_of_lt_of_le hq (by decide)))
  refine x_aastore (pc' := 43) rfl rfl (ha) (ht1.1) (vp_in_nI (n := 1) (N := 5) (by decide) (by decide)) (fun f8 e8 => ?_)
  have ha := x_a.s e8 ha.1
  have hO := hO.n e8 (by decide)
  have hb := hb.n e8 (by decide)
  have ht0 := ht0.n e8 (by decide)
  have ht1 := ht1.n e8 (by decide)
  have hF := hF.up e8 (Nat.not_lt.mpr (by decide))
  clear e8
  refine x_iinc (pc' := 46) (lv' := [(1, _), (0, _)]) rfl rfl (Nat.le_of_ble_eq_true rfl) rfl (rfl) rfl ?_
  refine x_goto (tgt := 21) rfl rfl ?_
  refine x_iload_n (pc' := 22) rfl rfl rfl ?_
  refine x_aload_n (pc' := 23) rfl rfl rfl ?_
  refine x_get (pc' := 26) rfl rfl rfl (hO) rfl ?_
  refine x_alen (pc' := 27) rfl rfl (ha) ?_
  refine x_icmp_ge (tgt := 49) (pc' := 30) rfl rfl rfl (fun c27 => absurd c27 (by decide)) (fun _ => ?_)
  refine x_aload_n (pc' := 31) rfl rfl rfl ?_
  refine x_get (pc' := 34) rfl rfl rfl (hO) rfl ?_
  refine x_iload_n (pc' := 35) rfl rfl rfl ?_
  refine x_new (fs := [.null, .null, .null, .int 0, .int 0, .int 0, .int 0, .int 0, .int 0, .int 0, .int 0, .int 0]) (pc' := 38) rfl rfl rfl rfl (dfX3) rfl (Nat.le_of_ble_eq_true rfl) (Nat.le_of_ble_eq_true rfl) (fun f9 e9 => ?_)
  have hO := (hO.zz (Nat.le_succ _)).n e9 (by decide)
  have ha := (ha.zz (Nat.le_succ _)).n e9 (by decide)
  have hb := (hb.zz (Nat.le_succ _)).n e9 (by decide)
  have ht0 := (ht0.zz (Nat.le_succ _)).n e9 (by decide)
  have ht1 := (ht1.zz (Nat.le_succ _)).n e9 (by decide)
  have hF := hF.up e9 (Nat.not_lt.mpr (by decide))
  have t2 := x_o.s e9 (Nat.lt_succ_self _)
  clear e9
  refine x_dup (pc' := 39) rfl rfl rfl ?_
  refine x_cI (d := 1) (mc := 3) (ms := 20) (pc' := 42) rfl rfl sX0_21 gX3_init ⟨Nat.le_of_ble_eq_true rfl, Nat.le_of_ble_eq_true rfl⟩ (Nat.le_of_ble_eq_true rfl) ⟨Nat.le_of_ble_eq_true rfl, Nat.le_of_ble_eq_true rfl⟩ ?_
  refine w_tInit t2 (fun g3 ht2 hG3 => ⟨rfl, ?_⟩)
  have hO := (hO.zz (Nat.le_add_right _ 3)).fr hG3 (by show _ < _; decide)
  have ha := (ha.zz (Nat.le_add_right _ 3)).fr hG3 (by show _ < _; decide)
  have hb := (hb.zz (Nat.le_add_right _ 3)).fr hG3 (by show _ < _; decide)
  have ht0 := (ht0.zz (Nat.le_add_right _ 3)).fr hG3 (fun i hi => by show _ + i < _; omega)
  have ht1 := (ht1.zz (Nat.le_add_right _ 3)).fr hG3 (fun i hi => by show _ + i < _; omega)
  have hF := hF.trans (hG3.mono (fun q hq => Nat.lt_of_lt_of_le hq (by decide)))
  refine x_aastore (pc' := 43) rfl rfl (ha) (ht2.1) (vp_in_nI (n := 2) (N := 5) (by decide) (by decide)) (fun f10 e10 => ?_)
  have ha := x_a.s e10 ha.1
  have hO := hO.n e10 (by decide)
  have hb := hb.n e10 (by decide)
  have ht0 := ht0.n e10 (by decide)
  have ht1 := ht1.n e10 (by decide)
  have ht2 := ht2.n e10 (by decide)
  have hF := hF.up e10 (Nat.not_lt.mpr (by decide))
  clear e10
  refine x_iinc (pc' := 46) (lv' := [(1, _), (0, _)]) rfl rfl (Nat.le_of_ble_eq_true rfl) rfl (rfl) rfl ?_
  refine x_goto (tgt := 21) rfl rfl ?_
  refine x_iload_n (pc' := 22) rfl rfl rfl ?_
  refine x_aload_n (pc' := 23) rfl rfl rfl ?_
  refine x_get (pc' := 26) rfl rfl rfl (hO) rfl ?_
  refine x_alen (pc' := 27) rfl rfl (ha) ?_
  refine x_icmp_ge (tgt := 49) (pc' := 30) rfl rfl rfl (fun c27 => absurd c27 (by decide)) (fun _ => ?_)
  refine x_aload_n (pc' := 31) rfl rfl rfl ?_
  refine x_get (pc' := 34) rfl rfl rfl (hO) rfl ?_
  refine x_iload_n (pc' := 35) rfl rfl rfl ?_
  refine x_new (fs := [.null, .null, .null, .int 0, .int 0, .int 0, .int 0, .int 0, .int 0, .int 0, .int 0, .int 0]) (pc' := 38) rfl rfl rfl rfl (dfX3) rfl (Nat.le_of_ble_eq_true rfl) (Nat.le_of_ble_eq_true rfl) (fun f11 e11 => ?_)
  have hO := (hO.zz (Nat.le_succ _)).n e11 (by decide)
  have ha := (ha.zz (Nat.le_succ _)).n e11 (by decide)
  have hb := (hb.zz (Nat.le_succ _)).n e11 (by decide)
  have ht0 := (ht0.zz (Nat.le_succ _)).n e11 (by decide)
  have ht1 := (ht1.zz (Nat.le_succ _)).n e11 (by decide)
  have ht2 := (ht2.zz (Nat.le_succ _)).n e11 (by decide)
  have hF := hF.up e11 (Nat.not_lt.mpr (by decide))
  have t3 := x_o.s e11 (Nat.lt_succ_self _)
  clear e11
  refine x_dup (pc' := 39) rfl rfl rfl ?_
  refine x_cI (d := 1) (mc := 3) (ms := 20) (pc' := 42) rfl rfl sX0_21 gX3_init ⟨Nat.le_of_ble_eq_true rfl, Nat.le_of_ble_eq_true rfl⟩ (Nat.le_of_ble_eq_true rfl) ⟨Nat.le_of_ble_eq_true rfl, Nat.le_of_ble_eq_true rfl⟩ ?_
  refine w_tInit t3 (fun g4 ht3 hG4 => ⟨rfl, ?_⟩)
  have hO := (hO.zz (Nat.le_add_right _ 3)).fr hG4 (by show _ < _; decide)
  have ha := (ha.zz (Nat.le_add_right _ 3)).fr hG4 (by show _ < _; decide)
  have hb := (hb.zz (Nat.le_add_right _ 3)).fr hG4 (by show _ < _; decide)
  have ht0 := (ht0.zz (Nat.le_add_right _ 3)).fr hG4 (fun i hi => by show _ + i < _; omega)
  have ht1 := (ht1.zz (Nat.le_add_right _ 3)).fr hG4 (fun i hi => by show _ + i < _; omega)
  have ht2 := (ht2.zz (Nat.le_add_right _ 3)).fr hG4 (fun i hi => by show _ + i < _; omega)
  have hF := hF.trans (hG4.mono (fun q hq => Nat.lt_of_lt_of_le hq (by decide)))
  refine x_aastore (pc' := 43) rfl rfl (ha) (ht3.1) (vp_in_nI (n := 3) (N := 5) (by decide) (by decide)) (fun f12 e12 => ?_)
  have ha := x_a.s e12 ha.1
  have hO := hO.n e12 (by decide)
  have hb := hb.n e12 (by decide)
  have ht0 := ht0.n e12 (by decide)
  have ht1 := ht1.n e12 (by decide)
  have ht2 := ht2.n e12 (by decide)
  have ht3 := ht3.n e12 (by decide)
  have hF := hF.up e12 (Nat.not_lt.mpr (by decide))
  clear e12
  refine x_iinc (pc' := 46) (lv' := [(1, _), (0, _)]) rfl rfl (Nat.le_of_ble_eq_true rfl) rfl (rfl) rfl ?_
  refine x_goto (tgt := 21) rfl rfl ?_
  refine x_iload_n (pc' := 22) rfl rfl rfl ?_
  refine x_aload_n (pc' := 23) rfl rfl rfl ?_
  refine x_get (pc' := 26) rfl rfl rfl (hO) rfl ?_
  refine x_alen (pc' := 27) rfl rfl (ha) ?_
  refine x_icmp_ge (tgt := 49) (pc' := 30) rfl rfl rfl (fun c27 => absurd c27 (by decide)) (fun _ => ?_)
  refine x_aload_n (pc' := 31) rfl rfl rfl ?_
  refine x_get (pc' := 34) rfl rfl rfl (hO) rfl ?_
  refine x_iload_n (pc' := 35) rfl rfl rfl ?_
  refine x_new (fs := [.null, .null, .null, .int 0, .int 0, .int 0, .int 0, .int 0, .int 0, .int 0, .int 0, .int 0]) (pc' := 38) rfl rfl rfl rfl (dfX3) rfl (Nat.le_of_ble_eq_true rfl) (Nat.le_of_ble_eq_true rfl) (fun f13 e13 => ?_)
  have hO := (hO.zz (Nat.le_succ _)).n e13 (by decide)
  have ha := (ha.zz (Nat.le_succ _)).n e13 (by decide)
  have hb := (hb.zz (Nat.le_succ _)).n e13 (by decide)
  have ht0 := (ht0.zz (Nat.le_succ _)).n e13 (by decide)
  have ht1 := (ht1.zz (Nat.le_succ _)).n e13 (by decide)
  have ht2 := (ht2.zz (Nat.le_succ _)).n e13 (by decide)
  have ht3 := (ht3.zz (Nat.le_succ _)).n e13 (by decide)
  have hF := hF.up e13 (Nat.not_lt.mpr (by decide))
  have t4 := x_o.s e13 (Nat.lt_succ_self _)
  clear e13
  refine x_dup (pc' := 39) rfl rfl rfl ?_
  refine x_cI (d := 1) (mc := 3) (ms := 20) (pc' := 42) rfl rfl sX0_21 gX3_init ⟨Nat.le_of_ble_eq_true rfl, Nat.le_of_ble_eq_true rfl⟩ (Nat.le_of_ble_eq_true rfl) ⟨Nat.le_of_ble_eq_true rfl, Nat.le_of_ble_eq_true rfl⟩ ?_
  refine w_tInit t4 (fun g5 ht4 hG5 => ⟨rfl, ?_⟩)
  have hO := (hO.zz (Nat.le_add_right _ 3)).fr hG5 (by show _ < _; decide)
  have ha := (ha.zz (Nat.le_add_right _ 3)).fr hG5 (by show _ < _; decide)
  have hb := (hb.zz (Nat.le_add_right _ 3)).fr hG5 (by show _ < _; decide)
  have ht0 := (ht0.zz (Nat.le_add_right _ 3)).fr hG5 (fun i hi => by show _ + i < _; omega)
  have ht1 := (ht1.zz (Nat.le_add_right _ 3)).fr hG5 (fun i hi => by show _ + i < _; omega)
  have ht2 := (ht2.zz (Nat.le_add_right _ 3)).fr hG5 (fun i hi => by show _ + i < _; omega)
  have ht3 := (ht3.zz (Nat.le_add_right _ 3)).fr hG5 (fun i hi => by show _ + i < _; omega)
  have hF := hF.trans (hG5.mono (fun q hq => Nat.lt_of_lt_of_le hq (by decide)))
  refine x_aastore (pc' := 43) rfl rfl (ha) (ht4.1) (vp_in_nI (n := 4) (N := 5) (by decide) (by decide)) (fun f14 e14 => ?_)
  have ha := x_a.s e14 ha.1
  have hO := hO.n e14 (by decide)
  have hb := hb.n e14 (by decide)
  have ht0 := ht0.n e14 (by decide)
  have ht1 := ht1.n e14 (by decide)
  have ht2 := ht2.n e14 (by decide)
  have ht3 := ht3.n e14 (by decide)
  have ht4 := ht4.n e14 (by decide)
  have hF := hF.up e14 (Nat.not_lt.mpr (by decide))
  clear e14
  refine x_iinc (pc' := 46) (lv' := [(1, _), (0, _)]) rfl rfl (Nat.le_of_ble_eq_true rfl) rfl (rfl) rfl ?_
  refine x_goto (tgt := 21) rfl rfl ?_
  refine x_iload_n (pc' := 22) rfl rfl rfl ?_
  refine x_aload_n (pc' := 23) rfl rfl rfl ?_
  refine x_get (pc' := 26) rfl rfl rfl (hO) rfl ?_
  refine x_alen (pc' := 27) rfl rfl (ha) ?_
  refine x_icmp_ge (tgt := 49) (pc' := 30) rfl rfl rfl (fun _ => ?_) (fun c27 => absurd (by decide) c27)
  exact x_return rfl rfl (Nat.le_of_ble_eq_true rfl) (Nat.le_of_ble_eq_true rfl) (h _ hO (by have e : (va_up (va_up (va_up (va_up (va_up (fun _ => none) (Int32.toNatClampNeg 0) (some 22)) (Int32.toNatClampNeg (0 + Int32.ofInt 1)) (some 26)) (Int32.toNatClampNeg (0 + Int32.ofInt 1 + Int32.ofInt 1)) (some 30)) (Int32.toNatClampNeg (0 + Int32.ofInt 1 + Int32.ofInt 1 + Int32.ofInt 1)) (some 34)) (Int32.toNatClampNeg (0 + Int32.ofInt 1 + Int32.ofInt 1 + Int32.ofInt 1 + Int32.ofInt 1)) (some 38)) = x_line := x_line_eq; rw [← e]; exact ha) hb ht0 ht1 ht2 ht3 ht4 hF)

theorem w_sysInit (hO : x_o 1 f 0 5 [.null, .null, .int 0, .null, .null, .null, .null, .null, .null, .null, .int 0, .null]) (h : ∀ f' : x_H, x_Sys 59 f' x_S0 → x_fr (fun q => q < 0) f f' → post none f') : Y E 3 mX5_init [.ref 0] 1 f 58 31720 post := by
  refine Y.intro gX5_init (lv := [(0, .ref 0)]) rfl (Nat.le_of_ble_eq_true rfl) ?_
  have hF : x_fr (fun q => q < 0) f f := x_fr.rf
  refine x_aload_n (pc' := 1) rfl rfl rfl ?_
  refine x_obj (pc' := 4) rfl rfl sX5_1 ⟨Nat.le_of_ble_eq_true rfl, Nat.le_of_ble_eq_true rfl⟩ (Nat.le_of_ble_eq_true rfl) ?_
  refine x_aload_n (pc' := 5) rfl rfl rfl ?_
  refine x_new (fs := [.null, .null, .null, .int 0, .int 0, .int 0, .int 0, .int 0, .int 0, .int 0, .int 0, .int 0]) (pc' := 8) rfl rfl rfl rfl (dfX3) rfl (Nat.le_of_ble_eq_true rfl) (Nat.le_of_ble_eq_true rfl) (fun f1 e1 => ?_)
  have hO := (hO.zz (Nat.le_succ _)).n e1 (by decide)
  have hF := hF.up e1 (Nat.not_lt.mpr (by decide))
  have otN := x_o.s e1 (Nat.lt_succ_self _)
  clear e1
  refine x_dup (pc' := 9) rfl rfl rfl ?_
  refine x_cI (d := 1) (mc := 3) (ms := 20) (pc' := 12) rfl rfl sX5_9 gX3_init ⟨Nat.le_of_ble_eq_true rfl, Nat.le_of_ble_eq_true rfl⟩ (Nat.le_of_ble_eq_true rfl) ⟨Nat.le_of_ble_eq_true rfl, Nat.le_of_ble_eq_true rfl⟩ ?_
  refine w_tInit otN (fun g1 tN hG1 => ⟨rfl, ?_⟩)
  have hO := (hO.zz (Nat.le_add_right _ 3)).fr hG1 (by show _ < _; decide)
  have hF := hF.trans (hG1.mono (fun q hq => Nat.lt_of_lt_of_le hq (by decide)))
  refine x_putF (pc' := 15) rfl rfl rfl (hO) (Nat.le_of_ble_eq_true rfl) rfl rfl rfl rfl rfl rfl (fun f2 e2 => ?_)
  have hO := x_o.s e2 hO.1
  have tN := tN.n e2 (by decide)
  have hF := hF.up e2 (Nat.not_lt.mpr (by decide))
  clear e2
  refine x_aload_n (pc' := 16) rfl rfl rfl ?_
  refine x_new (fs := [.null, .null, .null, .int 0, .int 0, .int 0, .int 0, .int 0, .int 0, .int 0, .int 0, .int 0]) (pc' := 19) rfl rfl rfl rfl (dfX3) rfl (Nat.le_of_ble_eq_true rfl) (Nat.le_of_ble_eq_true rfl) (fun f3 e3 => ?_)
  have hO := (hO.zz (Nat.le_succ _)).n e3 (by decide)
  have tN := (tN.zz (Nat.le_succ _)).n e3 (by decide)
  have hF := hF.up e3 (Nat.not_lt.mpr (by decide))
  have otP := x_o.s e3 (Nat.lt_succ_self _)
  clear e3
  refine x_dup (pc' := 20) rfl rfl rfl ?_
  refine x_cI (d := 1) (mc := 3) (ms := 20) (pc' := 23) rfl rfl sX5_9 gX3_init ⟨Nat.le_of_ble_eq_true rfl, Nat.le_of_ble_eq_true rfl⟩ (Nat.le_of_ble_eq_true rfl) ⟨Nat.le_of_ble_eq_true rfl, Nat.le_of_ble_eq_true rfl⟩ ?_
  refine w_tInit otP (fun g2 tP hG2 => ⟨rfl, ?_⟩)
  have hO := (hO.zz (Nat.le_add_right _ 3)).fr hG2 (by show _ < _; decide)
  have tN := (tN.zz (Nat.le_add_right _ 3)).fr hG2 (fun i hi => by show _ + i < _; omega)
  have hF := hF.trans (hG2.mono (fun q hq => Nat.lt_of_lt_of_le hq (by decide)))
  refine x_putF (pc' := 26) rfl rfl rfl (hO) (Nat.le_of_ble_eq_true rfl) rfl rfl rfl rfl rfl rfl (fun f4 e4 => ?_)
  have hO := x_o.s e4 hO.1
  have tN := tN.n e4 (by decide)
  have tP := tP.n e4 (by decide)
  have hF := hF.up e4 (Nat.not_lt.mpr (by decide))
  clear e4
  refine x_aload_n (pc' := 27) rfl rfl rfl ?_
  refine x_iconst (pc' := 28) rfl rfl iconst_0 ?_
  refine x_put (pc' := 31) rfl rfl rfl (hO) (Nat.le_of_ble_eq_true rfl) rfl rfl rfl rfl (fun f5 e5 => ?_)
  have hO := x_o.s e5 hO.1
  have tN := tN.n e5 (by decide)
  have tP := tP.n e5 (by decide)
  have hF := hF.up e5 (Nat.not_lt.mpr (by decide))
  clear e5
  refine x_aload_n (pc' := 32) rfl rfl rfl ?_
  refine x_new (fs := [.null, .null, .null, .int 0, .int 0, .int 0, .int 0, .int 0, .int 0, .int 0, .int 0, .int 0]) (pc' := 35) rfl rfl rfl rfl (dfX3) rfl (Nat.le_of_ble_eq_true rfl) (Nat.le_of_ble_eq_true rfl) (fun f6 e6 => ?_)
  have hO := (hO.zz (Nat.le_succ _)).n e6 (by decide)
  have tN := (tN.zz (Nat.le_succ _)).n e6 (by decide)
  have tP := (tP.zz (Nat.le_succ _)).n e6 (by decide)
  have hF := hF.up e6 (Nat.not_lt.mpr (by decide))
  have otT := x_o.s e6 (Nat.lt_succ_self _)
  clear e6
  refine x_dup (pc' := 36) rfl rfl rfl ?_
  refine x_cI (d := 1) (mc := 3) (ms := 20) (pc' := 39) rfl rfl sX5_9 gX3_init ⟨Nat.le_of_ble_eq_true rfl, Nat.le_of_ble_eq_true rfl⟩ (Nat.le_of_ble_eq_true rfl) ⟨Nat.le_of_ble_eq_true rfl, Nat.le_of_ble_eq_true rfl⟩ ?_
  refine w_tInit otT (fun g3 tT hG3 => ⟨rfl, ?_⟩)
  have hO := (hO.zz (Nat.le_add_right _ 3)).fr hG3 (by show _ < _; decide)
  have tN := (tN.zz (Nat.le_add_right _ 3)).fr hG3 (fun i hi => by show _ + i < _; omega)
  have tP := (tP.zz (Nat.le_add_right _ 3)).fr hG3 (fun i hi => by show _ + i < _; omega)
  have hF := hF.trans (hG3.mono (fun q hq => Nat.lt_of_lt_of_le hq (by decide)))
  refine x_putF (pc' := 42) rfl rfl rfl (hO) (Nat.le_of_ble_eq_true rfl) rfl rfl rfl rfl rfl rfl (fun f7 e7 => ?_)
  have hO := x_o.s e7 hO.1
  have tN := tN.n e7 (by decide)
  have tP := tP.n e7 (by decide)
  have tT := tT.n e7 (by decide)
  have hF := hF.up e7 (Nat.not_lt.mpr (by decide))
  clear e7
  refine x_aload_n (pc' := 43) rfl rfl rfl ?_
  refine x_new (fs := [.null, .null, .null, .int 0, .int 0, .int 0, .int 0, .int 0, .int 0, .int 0, .int 0, .int 0]) (pc' := 46) rfl rfl rfl rfl (dfX3) rfl (Nat.le_of_ble_eq_true rfl) (Nat.le_of_ble_eq_true rfl) (fun f8 e8 => ?_)
  have hO := (hO.zz (Nat.le_succ _)).n e8 (by decide)
  have tN := (tN.zz (Nat.le_succ _)).n e8 (by decide)
  have tP := (tP.zz (Nat.le_succ _)).n e8 (by decide)
  have tT := (tT.zz (Nat.le_succ _)).n e8 (by decide)
  have hF := hF.up e8 (Nat.not_lt.mpr (by decide))
  have otS := x_o.s e8 (Nat.lt_succ_self _)
  clear e8
  refine x_dup (pc' := 47) rfl rfl rfl ?_
  refine x_cI (d := 1) (mc := 3) (ms := 20) (pc' := 50) rfl rfl sX5_9 gX3_init ⟨Nat.le_of_ble_eq_true rfl, Nat.le_of_ble_eq_true rfl⟩ (Nat.le_of_ble_eq_true rfl) ⟨Nat.le_of_ble_eq_true rfl, Nat.le_of_ble_eq_true rfl⟩ ?_
  refine w_tInit otS (fun g4 tS hG4 => ⟨rfl, ?_⟩)
  have hO := (hO.zz (Nat.le_add_right _ 3)).fr hG4 (by show _ < _; decide)
  have tN := (tN.zz (Nat.le_add_right _ 3)).fr hG4 (fun i hi => by show _ + i < _; omega)
  have tP := (tP.zz (Nat.le_add_right _ 3)).fr hG4 (fun i hi => by show _ + i < _; omega)
  have tT := (tT.zz (Nat.le_add_right _ 3)).fr hG4 (fun i hi => by show _ + i < _; omega)
  have hF := hF.trans (hG4.mono (fun q hq => Nat.lt_of_lt_of_le hq (by decide)))
  refine x_putF (pc' := 53) rfl rfl rfl (hO) (Nat.le_of_ble_eq_true rfl) rfl rfl rfl rfl rfl rfl (fun f9 e9 => ?_)
  have hO := x_o.s e9 hO.1
  have tN := tN.n e9 (by decide)
  have tP := tP.n e9 (by decide)
  have tT := tT.n e9 (by decide)
  have tS := tS.n e9 (by decide)
  have hF := hF.up e9 (Nat.not_lt.mpr (by decide))
  clear e9
  refine x_aload_n (pc' := 54) rfl rfl rfl ?_
  refine x_new (fs := [.null, .int 0]) (pc' := 57) rfl rfl rfl rfl (dfX2) rfl (Nat.le_of_ble_eq_true rfl) (Nat.le_of_ble_eq_true rfl) (fun f10 e10 => ?_)
  have hO := (hO.zz (Nat.le_succ _)).n e10 (by decide)
  have tN := (tN.zz (Nat.le_succ _)).n e10 (by decide)
  have tP := (tP.zz (Nat.le_succ _)).n e10 (by decide)
  have tT := (tT.zz (Nat.le_succ _)).n e10 (by decide)
  have tS := (tS.zz (Nat.le_succ _)).n e10 (by decide)
  have hF := hF.up e10 (Nat.not_lt.mpr (by decide))
  have oL := x_o.s e10 (Nat.lt_succ_self _)
  clear e10
  refine x_dup (pc' := 58) rfl rfl rfl ?_
  refine x_cI (d := 1) (mc := 1) (ms := 96) (pc' := 61) rfl rfl sX5_31 gX2_init ⟨Nat.le_of_ble_eq_true rfl, Nat.le_of_ble_eq_true rfl⟩ (Nat.le_of_ble_eq_true rfl) ⟨Nat.le_of_ble_eq_true rfl, Nat.le_of_ble_eq_true rfl⟩ ?_
  refine w_lettersInit oL (fun g5 hL aL hG5 => ⟨rfl, ?_⟩)
  have hO := (hO.zz (Nat.le_add_right _ 1)).fr hG5 (by show _ < _; decide)
  have tN := (tN.zz (Nat.le_add_right _ 1)).fr hG5 (fun i hi => by show _ + i < _; omega)
  have tP := (tP.zz (Nat.le_add_right _ 1)).fr hG5 (fun i hi => by show _ + i < _; omega)
  have tT := (tT.zz (Nat.le_add_right _ 1)).fr hG5 (fun i hi => by show _ + i < _; omega)
  have tS := (tS.zz (Nat.le_add_right _ 1)).fr hG5 (fun i hi => by show _ + i < _; omega)
  have hF := hF.trans (hG5.mono (fun q hq => Nat.lt_of_lt_of_le hq (by decide)))
  refine x_putF (pc' := 64) rfl rfl rfl (hO) (Nat.le_of_ble_eq_true rfl) rfl rfl rfl rfl rfl rfl (fun f11 e11 => ?_)
  have hO := x_o.s e11 hO.1
  have tN := tN.n e11 (by decide)
  have tP := tP.n e11 (by decide)
  have tT := tT.n e11 (by decide)
  have tS := tS.n e11 (by decide)
  have hL := hL.n e11 (by decide)
  have aL := aL.n e11 (by decide)
  have hF := hF.up e11 (Nat.not_lt.mpr (by decide))
  clear e11
  refine x_aload_n (pc' := 65) rfl rfl rfl ?_
  refine x_new (fs := [.null, .null]) (pc' := 68) rfl rfl rfl rfl (dfX0) rfl (Nat.le_of_ble_eq_true rfl) (Nat.le_of_ble_eq_true rfl) (fun f12 e12 => ?_)
  have hO := (hO.zz (Nat.le_succ _)).n e12 (by decide)
  have tN := (tN.zz (Nat.le_succ _)).n e12 (by decide)
  have tP := (tP.zz (Nat.le_succ _)).n e12 (by decide)
  have tT := (tT.zz (Nat.le_succ _)).n e12 (by decide)
  have tS := (tS.zz (Nat.le_succ _)).n e12 (by decide)
  have hL := (hL.zz (Nat.le_succ _)).n e12 (by decide)
  have aL := (aL.zz (Nat.le_succ _)).n e12 (by decide)
  have hF := hF.up e12 (Nat.not_lt.mpr (by decide))
  have oA := x_o.s e12 (Nat.lt_succ_self _)
  clear e12
  refine x_dup (pc' := 69) rfl rfl rfl ?_
  refine x_cI (d := 2) (mc := 22) (ms := 170) (pc' := 72) rfl rfl sX5_38 gX0_init ⟨Nat.le_of_ble_eq_true rfl, Nat.le_of_ble_eq_true rfl⟩ (Nat.le_of_ble_eq_true rfl) ⟨Nat.le_of_ble_eq_true rfl, Nat.le_of_ble_eq_true rfl⟩ ?_
  refine w_aheadInit oA (fun g6 hA aLine aCh t0 t1 t2 t3 t4 hG6 => ⟨rfl, ?_⟩)
  have hO := (hO.zz (Nat.le_add_right _ 22)).fr hG6 (by show _ < _; decide)
  have tN := (tN.zz (Nat.le_add_right _ 22)).fr hG6 (fun i hi => by show _ + i < _; omega)
  have tP := (tP.zz (Nat.le_add_right _ 22)).fr hG6 (fun i hi => by show _ + i < _; omega)
  have tT := (tT.zz (Nat.le_add_right _ 22)).fr hG6 (fun i hi => by show _ + i < _; omega)
  have tS := (tS.zz (Nat.le_add_right _ 22)).fr hG6 (fun i hi => by show _ + i < _; omega)
  have hL := (hL.zz (Nat.le_add_right _ 22)).fr hG6 (by show _ < _; decide)
  have aL := (aL.zz (Nat.le_add_right _ 22)).fr hG6 (by show _ < _; decide)
  have hF := hF.trans (hG6.mono (fun q hq => Nat.lt_of_lt_of_le hq (by decide)))
  refine x_putF (pc' := 75) rfl rfl rfl (hO) (Nat.le_of_ble_eq_true rfl) rfl rfl rfl rfl rfl rfl (fun f13 e13 => ?_)
  have hO := x_o.s e13 hO.1
  have tN := tN.n e13 (by decide)
  have tP := tP.n e13 (by decide)
  have tT := tT.n e13 (by decide)
  have tS := tS.n e13 (by decide)
  have hL := hL.n e13 (by decide)
  have aL := aL.n e13 (by decide)
  have hA := hA.n e13 (by decide)
  have aLine := aLine.n e13 (by decide)
  have aCh := aCh.n e13 (by decide)
  have t0 := t0.n e13 (by decide)
  have t1 := t1.n e13 (by decide)
  have t2 := t2.n e13 (by decide)
  have t3 := t3.n e13 (by decide)
  have t4 := t4.n e13 (by decide)
  have hF := hF.up e13 (Nat.not_lt.mpr (by decide))
  clear e13
  refine x_aload_n (pc' := 76) rfl rfl rfl ?_
  refine x_new (fs := [.null, .null, .null, .null, .null, .int 0, .int 0, .int 0]) (pc' := 79) rfl rfl rfl rfl (dfX1) rfl (Nat.le_of_ble_eq_true rfl) (Nat.le_of_ble_eq_true rfl) (fun f14 e14 => ?_)
  have hO := (hO.zz (Nat.le_succ _)).n e14 (by decide)
  have tN := (tN.zz (Nat.le_succ _)).n e14 (by decide)
  have tP := (tP.zz (Nat.le_succ _)).n e14 (by decide)
  have tT := (tT.zz (Nat.le_succ _)).n e14 (by decide)
  have tS := (tS.zz (Nat.le_succ _)).n e14 (by decide)
  have hL := (hL.zz (Nat.le_succ _)).n e14 (by decide)
  have aL := (aL.zz (Nat.le_succ _)).n e14 (by decide)
  have hA := (hA.zz (Nat.le_succ _)).n e14 (by decide)
  have aLine := (aLine.zz (Nat.le_succ _)).n e14 (by decide)
  have aCh := (aCh.zz (Nat.le_succ _)).n e14 (by decide)
  have t0 := (t0.zz (Nat.le_succ _)).n e14 (by decide)
  have t1 := (t1.zz (Nat.le_succ _)).n e14 (by decide)
  have t2 := (t2.zz (Nat.le_succ _)).n e14 (by decide)
  have t3 := (t3.zz (Nat.le_succ _)).n e14 (by decide)
  have t4 := (t4.zz (Nat.le_succ _)).n e14 (by decide)
  have hF := hF.up e14 (Nat.not_lt.mpr (by decide))
  have oE := x_o.s e14 (Nat.lt_succ_self _)
  clear e14
  refine x_dup (pc' := 80) rfl rfl rfl ?_
  refine x_cI (d := 2) (mc := 11) (ms := 31210) (pc' := 83) rfl rfl sX5_45 gX1_init ⟨Nat.le_of_ble_eq_true rfl, Nat.le_of_ble_eq_true rfl⟩ (Nat.le_of_ble_eq_true rfl) ⟨Nat.le_of_ble_eq_true rfl, Nat.le_of_ble_eq_true rfl⟩ ?_
  refine w_emptyingInit oE (fun g7 hE aR aFi aSl tF tO hG7 => ⟨rfl, ?_⟩)
  have hO := (hO.zz (Nat.le_add_right _ 11)).fr hG7 (by show _ < _; decide)
  have tN := (tN.zz (Nat.le_add_right _ 11)).fr hG7 (fun i hi => by show _ + i < _; omega)
  have tP := (tP.zz (Nat.le_add_right _ 11)).fr hG7 (fun i hi => by show _ + i < _; omega)
  have tT := (tT.zz (Nat.le_add_right _ 11)).fr hG7 (fun i hi => by show _ + i < _; omega)
  have tS := (tS.zz (Nat.le_add_right _ 11)).fr hG7 (fun i hi => by show _ + i < _; omega)
  have hL := (hL.zz (Nat.le_add_right _ 11)).fr hG7 (by show _ < _; decide)
  have aL := (aL.zz (Nat.le_add_right _ 11)).fr hG7 (by show _ < _; decide)
  have hA := (hA.zz (Nat.le_add_right _ 11)).fr hG7 (by show _ < _; decide)
  have aLine := (aLine.zz (Nat.le_add_right _ 11)).fr hG7 (by show _ < _; decide)
  have aCh := (aCh.zz (Nat.le_add_right _ 11)).fr hG7 (by show _ < _; decide)
  have t0 := (t0.zz (Nat.le_add_right _ 11)).fr hG7 (fun i hi => by show _ + i < _; omega)
  have t1 := (t1.zz (Nat.le_add_right _ 11)).fr hG7 (fun i hi => by show _ + i < _; omega)
  have t2 := (t2.zz (Nat.le_add_right _ 11)).fr hG7 (fun i hi => by show _ + i < _; omega)
  have t3 := (t3.zz (Nat.le_add_right _ 11)).fr hG7 (fun i hi => by show _ + i < _; omega)
  have t4 := (t4.zz (Nat.le_add_right _ 11)).fr hG7 (fun i hi => by show _ + i < _; omega)
  have hF := hF.trans (hG7.mono (fun q hq => Nat.lt_of_lt_of_le hq (by decide)))
  refine x_putF (pc' := 86) rfl rfl rfl (hO) (Nat.le_of_ble_eq_true rfl) rfl rfl rfl rfl rfl rfl (fun f15 e15 => ?_)
  have hO := x_o.s e15 hO.1
  have tN := tN.n e15 (by decide)
  have tP := tP.n e15 (by decide)
  have tT := tT.n e15 (by decide)
  have tS := tS.n e15 (by decide)
  have hL := hL.n e15 (by decide)
  have aL := aL.n e15 (by decide)
  have hA := hA.n e15 (by decide)
  have aLine := aLine.n e15 (by decide)
  have aCh := aCh.n e15 (by decide)
  have t0 := t0.n e15 (by decide)
  have t1 := t1.n e15 (by decide)
  have t2 := t2.n e15 (by decide)
  have t3 := t3.n e15 (by decide)
  have t4 := t4.n e15 (by decide)
  have hE := hE.n e15 (by decide)
  have aR := aR.n e15 (by decide)
  have aFi := aFi.n e15 (by decide)
  have aSl := aSl.n e15 (by decide)
  have tF := tF.n e15 (by decide)
  have tO := tO.n e15 (by decide)
  have hF := hF.up e15 (Nat.not_lt.mpr (by decide))
  clear e15
  refine x_aload_n (pc' := 87) rfl rfl rfl ?_
  refine x_new (fs := [.null, .null]) (pc' := 90) rfl rfl rfl rfl (dfX4) rfl (Nat.le_of_ble_eq_true rfl) (Nat.le_of_ble_eq_true rfl) (fun f16 e16 => ?_)
  have hO := (hO.zz (Nat.le_succ _)).n e16 (by decide)
  have tN := (tN.zz (Nat.le_succ _)).n e16 (by decide)
  have tP := (tP.zz (Nat.le_succ _)).n e16 (by decide)
  have tT := (tT.zz (Nat.le_succ _)).n e16 (by decide)
  have tS := (tS.zz (Nat.le_succ _)).n e16 (by decide)
  have hL := (hL.zz (Nat.le_succ _)).n e16 (by decide)
  have aL := (aL.zz (Nat.le_succ _)).n e16 (by decide)
  have hA := (hA.zz (Nat.le_succ _)).n e16 (by decide)
  have aLine := (aLine.zz (Nat.le_succ _)).n e16 (by decide)
  have aCh := (aCh.zz (Nat.le_succ _)).n e16 (by decide)
  have t0 := (t0.zz (Nat.le_succ _)).n e16 (by decide)
  have t1 := (t1.zz (Nat.le_succ _)).n e16 (by decide)
  have t2 := (t2.zz (Nat.le_succ _)).n e16 (by decide)
  have t3 := (t3.zz (Nat.le_succ _)).n e16 (by decide)
  have t4 := (t4.zz (Nat.le_succ _)).n e16 (by decide)
  have hE := (hE.zz (Nat.le_succ _)).n e16 (by decide)
  have aR := (aR.zz (Nat.le_succ _)).n e16 (by decide)
  have aFi := (aFi.zz (Nat.le_succ _)).n e16 (by decide)
  have aSl := (aSl.zz (Nat.le_succ _)).n e16 (by decide)
  have tF := (tF.zz (Nat.le_succ _)).n e16 (by decide)
  have tO := (tO.zz (Nat.le_succ _)).n e16 (by decide)
  have hF := hF.up e16 (Nat.not_lt.mpr (by decide))
  have oW := x_o.s e16 (Nat.lt_succ_self _)
  clear e16
  refine x_dup (pc' := 91) rfl rfl rfl ?_
  refine x_cI (d := 1) (mc := 2) (ms := 53) (pc' := 94) rfl rfl sX5_52 gX4_init ⟨Nat.le_of_ble_eq_true rfl, Nat.le_of_ble_eq_true rfl⟩ (Nat.le_of_ble_eq_true rfl) ⟨Nat.le_of_ble_eq_true rfl, Nat.le_of_ble_eq_true rfl⟩ ?_
  refine w_waysInit oW (fun g8 hW aW aAs hG8 => ⟨rfl, ?_⟩)
  have hO := (hO.zz (Nat.le_add_right _ 2)).fr hG8 (by show _ < _; decide)
  have tN := (tN.zz (Nat.le_add_right _ 2)).fr hG8 (fun i hi => by show _ + i < _; omega)
  have tP := (tP.zz (Nat.le_add_right _ 2)).fr hG8 (fun i hi => by show _ + i < _; omega)
  have tT := (tT.zz (Nat.le_add_right _ 2)).fr hG8 (fun i hi => by show _ + i < _; omega)
  have tS := (tS.zz (Nat.le_add_right _ 2)).fr hG8 (fun i hi => by show _ + i < _; omega)
  have hL := (hL.zz (Nat.le_add_right _ 2)).fr hG8 (by show _ < _; decide)
  have aL := (aL.zz (Nat.le_add_right _ 2)).fr hG8 (by show _ < _; decide)
  have hA := (hA.zz (Nat.le_add_right _ 2)).fr hG8 (by show _ < _; decide)
  have aLine := (aLine.zz (Nat.le_add_right _ 2)).fr hG8 (by show _ < _; decide)
  have aCh := (aCh.zz (Nat.le_add_right _ 2)).fr hG8 (by show _ < _; decide)
  have t0 := (t0.zz (Nat.le_add_right _ 2)).fr hG8 (fun i hi => by show _ + i < _; omega)
  have t1 := (t1.zz (Nat.le_add_right _ 2)).fr hG8 (fun i hi => by show _ + i < _; omega)
  have t2 := (t2.zz (Nat.le_add_right _ 2)).fr hG8 (fun i hi => by show _ + i < _; omega)
  have t3 := (t3.zz (Nat.le_add_right _ 2)).fr hG8 (fun i hi => by show _ + i < _; omega)
  have t4 := (t4.zz (Nat.le_add_right _ 2)).fr hG8 (fun i hi => by show _ + i < _; omega)
  have hE := (hE.zz (Nat.le_add_right _ 2)).fr hG8 (by show _ < _; decide)
  have aR := (aR.zz (Nat.le_add_right _ 2)).fr hG8 (by show _ < _; decide)
  have aFi := (aFi.zz (Nat.le_add_right _ 2)).fr hG8 (by show _ < _; decide)
  have aSl := (aSl.zz (Nat.le_add_right _ 2)).fr hG8 (by show _ < _; decide)
  have tF := (tF.zz (Nat.le_add_right _ 2)).fr hG8 (fun i hi => by show _ + i < _; omega)
  have tO := (tO.zz (Nat.le_add_right _ 2)).fr hG8 (fun i hi => by show _ + i < _; omega)
  have hF := hF.trans (hG8.mono (fun q hq => Nat.lt_of_lt_of_le hq (by decide)))
  refine x_putF (pc' := 97) rfl rfl rfl (hO) (Nat.le_of_ble_eq_true rfl) rfl rfl rfl rfl rfl rfl (fun f17 e17 => ?_)
  have hO := x_o.s e17 hO.1
  have tN := tN.n e17 (by decide)
  have tP := tP.n e17 (by decide)
  have tT := tT.n e17 (by decide)
  have tS := tS.n e17 (by decide)
  have hL := hL.n e17 (by decide)
  have aL := aL.n e17 (by decide)
  have hA := hA.n e17 (by decide)
  have aLine := aLine.n e17 (by decide)
  have aCh := aCh.n e17 (by decide)
  have t0 := t0.n e17 (by decide)
  have t1 := t1.n e17 (by decide)
  have t2 := t2.n e17 (by decide)
  have t3 := t3.n e17 (by decide)
  have t4 := t4.n e17 (by decide)
  have hE := hE.n e17 (by decide)
  have aR := aR.n e17 (by decide)
  have aFi := aFi.n e17 (by decide)
  have aSl := aSl.n e17 (by decide)
  have tF := tF.n e17 (by decide)
  have tO := tO.n e17 (by decide)
  have hW := hW.n e17 (by decide)
  have aW := aW.n e17 (by decide)
  have aAs := aAs.n e17 (by decide)
  have hF := hF.up e17 (Nat.not_lt.mpr (by decide))
  clear e17
  refine x_aload_n (pc' := 98) rfl rfl rfl ?_
  refine x_bipush (pc' := 100) rfl rfl bipush_12 ?_
  refine x_newarrayI (pc' := 102) (N := 12) rfl rfl (by decide) (by decide) (by decide) (Nat.le_of_ble_eq_true rfl) (Nat.le_of_ble_eq_true rfl) (fun f18 e18 => ?_)
  have hO := (hO.zz (Nat.le_succ _)).n e18 (by decide)
  have tN := (tN.zz (Nat.le_succ _)).n e18 (by decide)
  have tP := (tP.zz (Nat.le_succ _)).n e18 (by decide)
  have tT := (tT.zz (Nat.le_succ _)).n e18 (by decide)
  have tS := (tS.zz (Nat.le_succ _)).n e18 (by decide)
  have hL := (hL.zz (Nat.le_succ _)).n e18 (by decide)
  have aL := (aL.zz (Nat.le_succ _)).n e18 (by decide)
  have hA := (hA.zz (Nat.le_succ _)).n e18 (by decide)
  have aLine := (aLine.zz (Nat.le_succ _)).n e18 (by decide)
  have aCh := (aCh.zz (Nat.le_succ _)).n e18 (by decide)
  have t0 := (t0.zz (Nat.le_succ _)).n e18 (by decide)
  have t1 := (t1.zz (Nat.le_succ _)).n e18 (by decide)
  have t2 := (t2.zz (Nat.le_succ _)).n e18 (by decide)
  have t3 := (t3.zz (Nat.le_succ _)).n e18 (by decide)
  have t4 := (t4.zz (Nat.le_succ _)).n e18 (by decide)
  have hE := (hE.zz (Nat.le_succ _)).n e18 (by decide)
  have aR := (aR.zz (Nat.le_succ _)).n e18 (by decide)
  have aFi := (aFi.zz (Nat.le_succ _)).n e18 (by decide)
  have aSl := (aSl.zz (Nat.le_succ _)).n e18 (by decide)
  have tF := (tF.zz (Nat.le_succ _)).n e18 (by decide)
  have tO := (tO.zz (Nat.le_succ _)).n e18 (by decide)
  have hW := (hW.zz (Nat.le_succ _)).n e18 (by decide)
  have aW := (aW.zz (Nat.le_succ _)).n e18 (by decide)
  have aAs := (aAs.zz (Nat.le_succ _)).n e18 (by decide)
  have hF := hF.up e18 (Nat.not_lt.mpr (by decide))
  have aTo := x_a.s e18 (Nat.lt_succ_self _)
  clear e18
  refine x_putF (pc' := 105) rfl rfl rfl (hO) (Nat.le_of_ble_eq_true rfl) rfl rfl rfl rfl rfl rfl (fun f19 e19 => ?_)
  have hO := x_o.s e19 hO.1
  have tN := tN.n e19 (by decide)
  have tP := tP.n e19 (by decide)
  have tT := tT.n e19 (by decide)
  have tS := tS.n e19 (by decide)
  have hL := hL.n e19 (by decide)
  have aL := aL.n e19 (by decide)
  have hA := hA.n e19 (by decide)
  have aLine := aLine.n e19 (by decide)
  have aCh := aCh.n e19 (by decide)
  have t0 := t0.n e19 (by decide)
  have t1 := t1.n e19 (by decide)
  have t2 := t2.n e19 (by decide)
  have t3 := t3.n e19 (by decide)
  have t4 := t4.n e19 (by decide)
  have hE := hE.n e19 (by decide)
  have aR := aR.n e19 (by decide)
  have aFi := aFi.n e19 (by decide)
  have aSl := aSl.n e19 (by decide)
  have tF := tF.n e19 (by decide)
  have tO := tO.n e19 (by decide)
  have hW := hW.n e19 (by decide)
  have aW := aW.n e19 (by decide)
  have aAs := aAs.n e19 (by decide)
  have aTo := aTo.n e19 (by decide)
  have hF := hF.up e19 (Nat.not_lt.mpr (by decide))
  clear e19
  refine x_aload_n (pc' := 106) rfl rfl rfl ?_
  refine x_iconst (pc' := 107) rfl rfl iconst_0 ?_
  refine x_put (pc' := 110) rfl rfl rfl (hO) (Nat.le_of_ble_eq_true rfl) rfl rfl rfl rfl (fun f20 e20 => ?_)
  have hO := x_o.s e20 hO.1
  have tN := tN.n e20 (by decide)
  have tP := tP.n e20 (by decide)
  have tT := tT.n e20 (by decide)
  have tS := tS.n e20 (by decide)
  have hL := hL.n e20 (by decide)
  have aL := aL.n e20 (by decide)
  have hA := hA.n e20 (by decide)
  have aLine := aLine.n e20 (by decide)
  have aCh := aCh.n e20 (by decide)
  have t0 := t0.n e20 (by decide)
  have t1 := t1.n e20 (by decide)
  have t2 := t2.n e20 (by decide)
  have t3 := t3.n e20 (by decide)
  have t4 := t4.n e20 (by decide)
  have hE := hE.n e20 (by decide)
  have aR := aR.n e20 (by decide)
  have aFi := aFi.n e20 (by decide)
  have aSl := aSl.n e20 (by decide)
  have tF := tF.n e20 (by decide)
  have tO := tO.n e20 (by decide)
  have hW := hW.n e20 (by decide)
  have aW := aW.n e20 (by decide)
  have aAs := aAs.n e20 (by decide)
  have aTo := aTo.n e20 (by decide)
  have hF := hF.up e20 (Nat.not_lt.mpr (by decide))
  clear e20
  refine x_aload_n (pc' := 111) rfl rfl rfl ?_
  refine x_bipush (pc' := 113) rfl rfl bipush_7 ?_
  refine x_newarrayI (pc' := 115) (N := 7) rfl rfl (by decide) (by decide) (by decide) (Nat.le_of_ble_eq_true rfl) (Nat.le_of_ble_eq_true rfl) (fun f21 e21 => ?_)
  have hO := (hO.zz (Nat.le_succ _)).n e21 (by decide)
  have tN := (tN.zz (Nat.le_succ _)).n e21 (by decide)
  have tP := (tP.zz (Nat.le_succ _)).n e21 (by decide)
  have tT := (tT.zz (Nat.le_succ _)).n e21 (by decide)
  have tS := (tS.zz (Nat.le_succ _)).n e21 (by decide)
  have hL := (hL.zz (Nat.le_succ _)).n e21 (by decide)
  have aL := (aL.zz (Nat.le_succ _)).n e21 (by decide)
  have hA := (hA.zz (Nat.le_succ _)).n e21 (by decide)
  have aLine := (aLine.zz (Nat.le_succ _)).n e21 (by decide)
  have aCh := (aCh.zz (Nat.le_succ _)).n e21 (by decide)
  have t0 := (t0.zz (Nat.le_succ _)).n e21 (by decide)
  have t1 := (t1.zz (Nat.le_succ _)).n e21 (by decide)
  have t2 := (t2.zz (Nat.le_succ _)).n e21 (by decide)
  have t3 := (t3.zz (Nat.le_succ _)).n e21 (by decide)
  have t4 := (t4.zz (Nat.le_succ _)).n e21 (by decide)
  have hE := (hE.zz (Nat.le_succ _)).n e21 (by decide)
  have aR := (aR.zz (Nat.le_succ _)).n e21 (by decide)
  have aFi := (aFi.zz (Nat.le_succ _)).n e21 (by decide)
  have aSl := (aSl.zz (Nat.le_succ _)).n e21 (by decide)
  have tF := (tF.zz (Nat.le_succ _)).n e21 (by decide)
  have tO := (tO.zz (Nat.le_succ _)).n e21 (by decide)
  have hW := (hW.zz (Nat.le_succ _)).n e21 (by decide)
  have aW := (aW.zz (Nat.le_succ _)).n e21 (by decide)
  have aAs := (aAs.zz (Nat.le_succ _)).n e21 (by decide)
  have aTo := (aTo.zz (Nat.le_succ _)).n e21 (by decide)
  have hF := hF.up e21 (Nat.not_lt.mpr (by decide))
  have aRe := x_a.s e21 (Nat.lt_succ_self _)
  clear e21
  refine x_putF (pc' := 118) rfl rfl rfl (hO) (Nat.le_of_ble_eq_true rfl) rfl rfl rfl rfl rfl rfl (fun f22 e22 => ?_)
  have hO := x_o.s e22 hO.1
  have tN := tN.n e22 (by decide)
  have tP := tP.n e22 (by decide)
  have tT := tT.n e22 (by decide)
  have tS := tS.n e22 (by decide)
  have hL := hL.n e22 (by decide)
  have aL := aL.n e22 (by decide)
  have hA := hA.n e22 (by decide)
  have aLine := aLine.n e22 (by decide)
  have aCh := aCh.n e22 (by decide)
  have t0 := t0.n e22 (by decide)
  have t1 := t1.n e22 (by decide)
  have t2 := t2.n e22 (by decide)
  have t3 := t3.n e22 (by decide)
  have t4 := t4.n e22 (by decide)
  have hE := hE.n e22 (by decide)
  have aR := aR.n e22 (by decide)
  have aFi := aFi.n e22 (by decide)
  have aSl := aSl.n e22 (by decide)
  have tF := tF.n e22 (by decide)
  have tO := tO.n e22 (by decide)
  have hW := hW.n e22 (by decide)
  have aW := aW.n e22 (by decide)
  have aAs := aAs.n e22 (by decide)
  have aTo := aTo.n e22 (by decide)
  have aRe := aRe.n e22 (by decide)
  have hF := hF.up e22 (Nat.not_lt.mpr (by decide))
  clear e22
  refine x_return rfl rfl (Nat.le_of_ble_eq_true rfl) (Nat.le_of_ble_eq_true rfl) (h _ ?_ hF)
  refine ⟨hO, ?_, ?_, ?_, hL, hA, aLine, hE, hW⟩
  · intro i hi
    match i, hi with
    | 0, _ => exact tN
    | 1, _ => exact tP
    | 2, _ => exact tT
    | 3, _ => exact tS
    | 4, _ => exact tF
    | 5, _ => exact tO
    | 6, _ => exact t0
    | 7, _ => exact t1
    | 8, _ => exact t2
    | 9, _ => exact t3
    | 10, _ => exact t4
    | n + 11, h => exact absurd h (by omega)
  · intro i hi
    match i, hi with
    | 0, _ => exact aL
    | 1, _ => exact aCh
    | 2, _ => exact aFi
    | 3, _ => exact aSl
    | 4, _ => exact aAs
    | 5, _ => exact aTo
    | 6, _ => exact aRe
    | n + 7, h => exact absurd h (by omega)
  · intro i hi
    match i, hi with
    | 0, _ => exact aR
    | 1, _ => exact aW
    | n + 2, h => exact absurd h (by omega)
theorem w_mdlInit (hO : x_o 60 f 59 6 [.int 0, .null, .null, .int 0, .int 0, .int 0, .null, .int 0, .int 0, .null, .null, .int 0, .null, .int 0, .int 0, .int 0, .int 0, .int 0, .int 0, .null, .int 0, .null, .int 0, .null, .null, .null, .null, .null, .int 0, .int 0, .int 0, .int 0]) (h : ∀ f' : x_H, x_Mdl 73 f' x_M0 → x_fr (fun q => q < 59) f f' → post none f') : Y E 1 mX6_init [.ref 59] 60 f 13 2351 post := by
  refine Y.intro gX6_init (lv := [(0, .ref 59)]) rfl (Nat.le_of_ble_eq_true rfl) ?_
  have hF : x_fr (fun q => q < 59) f f := x_fr.rf
  refine x_aload_n (pc' := 1) rfl rfl rfl ?_
  refine x_obj (pc' := 4) rfl rfl sX6_7 ⟨Nat.le_of_ble_eq_true rfl, Nat.le_of_ble_eq_true rfl⟩ (Nat.le_of_ble_eq_true rfl) ?_
  refine x_aload_n (pc' := 5) rfl rfl rfl ?_
  refine x_bipush (pc' := 7) rfl rfl bipush_9 ?_
  refine x_newarrayI (pc' := 9) (N := 9) rfl rfl (by decide) (by decide) (by decide) (Nat.le_of_ble_eq_true rfl) (Nat.le_of_ble_eq_true rfl) (fun f1 e1 => ?_)
  have hO := (hO.zz (Nat.le_succ _)).n e1 (by decide)
  have hF := hF.up e1 (Nat.not_lt.mpr (by decide))
  have a0 := x_a.s e1 (Nat.lt_succ_self _)
  clear e1
  refine x_putF (pc' := 12) rfl rfl rfl (hO) (Nat.le_of_ble_eq_true rfl) rfl rfl rfl rfl rfl rfl (fun f2 e2 => ?_)
  have hO := x_o.s e2 hO.1
  have a0 := a0.n e2 (by decide)
  have hF := hF.up e2 (Nat.not_lt.mpr (by decide))
  clear e2
  refine x_aload_n (pc' := 13) rfl rfl rfl ?_
  refine x_bipush (pc' := 15) rfl rfl bipush_9 ?_
  refine x_newarrayI (pc' := 17) (N := 9) rfl rfl (by decide) (by decide) (by decide) (Nat.le_of_ble_eq_true rfl) (Nat.le_of_ble_eq_true rfl) (fun f3 e3 => ?_)
  have hO := (hO.zz (Nat.le_succ _)).n e3 (by decide)
  have a0 := (a0.zz (Nat.le_succ _)).n e3 (by decide)
  have hF := hF.up e3 (Nat.not_lt.mpr (by decide))
  have a1 := x_a.s e3 (Nat.lt_succ_self _)
  clear e3
  refine x_putF (pc' := 20) rfl rfl rfl (hO) (Nat.le_of_ble_eq_true rfl) rfl rfl rfl rfl rfl rfl (fun f4 e4 => ?_)
  have hO := x_o.s e4 hO.1
  have a0 := a0.n e4 (by decide)
  have a1 := a1.n e4 (by decide)
  have hF := hF.up e4 (Nat.not_lt.mpr (by decide))
  clear e4
  refine x_aload_n (pc' := 21) rfl rfl rfl ?_
  refine x_iconst (pc' := 22) rfl rfl iconst_4 ?_
  refine x_put (pc' := 25) rfl rfl rfl (hO) (Nat.le_of_ble_eq_true rfl) rfl rfl rfl rfl (fun f5 e5 => ?_)
  have hO := x_o.s e5 hO.1
  have a0 := a0.n e5 (by decide)
  have a1 := a1.n e5 (by decide)
  have hF := hF.up e5 (Nat.not_lt.mpr (by decide))
  clear e5
  refine x_aload_n (pc' := 26) rfl rfl rfl ?_
  refine x_iconst (pc' := 27) rfl rfl iconst_2 ?_
  refine x_newarrayI (pc' := 29) (N := 2) rfl rfl (by decide) (by decide) (by decide) (Nat.le_of_ble_eq_true rfl) (Nat.le_of_ble_eq_true rfl) (fun f6 e6 => ?_)
  have hO := (hO.zz (Nat.le_succ _)).n e6 (by decide)
  have a0 := (a0.zz (Nat.le_succ _)).n e6 (by decide)
  have a1 := (a1.zz (Nat.le_succ _)).n e6 (by decide)
  have hF := hF.up e6 (Nat.not_lt.mpr (by decide))
  have a2 := x_a.s e6 (Nat.lt_succ_self _)
  clear e6
  refine x_putF (pc' := 32) rfl rfl rfl (hO) (Nat.le_of_ble_eq_true rfl) rfl rfl rfl rfl rfl rfl (fun f7 e7 => ?_)
  have hO := x_o.s e7 hO.1
  have a0 := a0.n e7 (by decide)
  have a1 := a1.n e7 (by decide)
  have a2 := a2.n e7 (by decide)
  have hF := hF.up e7 (Nat.not_lt.mpr (by decide))
  clear e7
  refine x_aload_n (pc' := 33) rfl rfl rfl ?_
  refine x_bipush (pc' := 35) rfl rfl bipush_6 ?_
  refine x_newarrayI (pc' := 37) (N := 6) rfl rfl (by decide) (by decide) (by decide) (Nat.le_of_ble_eq_true rfl) (Nat.le_of_ble_eq_true rfl) (fun f8 e8 => ?_)
  have hO := (hO.zz (Nat.le_succ _)).n e8 (by decide)
  have a0 := (a0.zz (Nat.le_succ _)).n e8 (by decide)
  have a1 := (a1.zz (Nat.le_succ _)).n e8 (by decide)
  have a2 := (a2.zz (Nat.le_succ _)).n e8 (by decide)
  have hF := hF.up e8 (Nat.not_lt.mpr (by decide))
  have a3 := x_a.s e8 (Nat.lt_succ_self _)
  clear e8
  refine x_putF (pc' := 40) rfl rfl rfl (hO) (Nat.le_of_ble_eq_true rfl) rfl rfl rfl rfl rfl rfl (fun f9 e9 => ?_)
  have hO := x_o.s e9 hO.1
  have a0 := a0.n e9 (by decide)
  have a1 := a1.n e9 (by decide)
  have a2 := a2.n e9 (by decide)
  have a3 := a3.n e9 (by decide)
  have hF := hF.up e9 (Nat.not_lt.mpr (by decide))
  clear e9
  refine x_aload_n (pc' := 41) rfl rfl rfl ?_
  refine x_bipush (pc' := 43) rfl rfl bipush_96 ?_
  refine x_newarrayI (pc' := 45) (N := 96) rfl rfl (by decide) (by decide) (by decide) (Nat.le_of_ble_eq_true rfl) (Nat.le_of_ble_eq_true rfl) (fun f10 e10 => ?_)
  have hO := (hO.zz (Nat.le_succ _)).n e10 (by decide)
  have a0 := (a0.zz (Nat.le_succ _)).n e10 (by decide)
  have a1 := (a1.zz (Nat.le_succ _)).n e10 (by decide)
  have a2 := (a2.zz (Nat.le_succ _)).n e10 (by decide)
  have a3 := (a3.zz (Nat.le_succ _)).n e10 (by decide)
  have hF := hF.up e10 (Nat.not_lt.mpr (by decide))
  have a4 := x_a.s e10 (Nat.lt_succ_self _)
  clear e10
  refine x_putF (pc' := 48) rfl rfl rfl (hO) (Nat.le_of_ble_eq_true rfl) rfl rfl rfl rfl rfl rfl (fun f11 e11 => ?_)
  have hO := x_o.s e11 hO.1
  have a0 := a0.n e11 (by decide)
  have a1 := a1.n e11 (by decide)
  have a2 := a2.n e11 (by decide)
  have a3 := a3.n e11 (by decide)
  have a4 := a4.n e11 (by decide)
  have hF := hF.up e11 (Nat.not_lt.mpr (by decide))
  clear e11
  refine x_aload_n (pc' := 49) rfl rfl rfl ?_
  refine x_bipush (pc' := 51) rfl rfl bipush_12 ?_
  refine x_newarrayI (pc' := 53) (N := 12) rfl rfl (by decide) (by decide) (by decide) (Nat.le_of_ble_eq_true rfl) (Nat.le_of_ble_eq_true rfl) (fun f12 e12 => ?_)
  have hO := (hO.zz (Nat.le_succ _)).n e12 (by decide)
  have a0 := (a0.zz (Nat.le_succ _)).n e12 (by decide)
  have a1 := (a1.zz (Nat.le_succ _)).n e12 (by decide)
  have a2 := (a2.zz (Nat.le_succ _)).n e12 (by decide)
  have a3 := (a3.zz (Nat.le_succ _)).n e12 (by decide)
  have a4 := (a4.zz (Nat.le_succ _)).n e12 (by decide)
  have hF := hF.up e12 (Nat.not_lt.mpr (by decide))
  have a5 := x_a.s e12 (Nat.lt_succ_self _)
  clear e12
  refine x_putF (pc' := 56) rfl rfl rfl (hO) (Nat.le_of_ble_eq_true rfl) rfl rfl rfl rfl rfl rfl (fun f13 e13 => ?_)
  have hO := x_o.s e13 hO.1
  have a0 := a0.n e13 (by decide)
  have a1 := a1.n e13 (by decide)
  have a2 := a2.n e13 (by decide)
  have a3 := a3.n e13 (by decide)
  have a4 := a4.n e13 (by decide)
  have a5 := a5.n e13 (by decide)
  have hF := hF.up e13 (Nat.not_lt.mpr (by decide))
  clear e13
  refine x_aload_n (pc' := 57) rfl rfl rfl ?_
  refine x_bipush (pc' := 59) rfl rfl bipush_96 ?_
  refine x_newarrayI (pc' := 61) (N := 96) rfl rfl (by decide) (by decide) (by decide) (Nat.le_of_ble_eq_true rfl) (Nat.le_of_ble_eq_true rfl) (fun f14 e14 => ?_)
  have hO := (hO.zz (Nat.le_succ _)).n e14 (by decide)
  have a0 := (a0.zz (Nat.le_succ _)).n e14 (by decide)
  have a1 := (a1.zz (Nat.le_succ _)).n e14 (by decide)
  have a2 := (a2.zz (Nat.le_succ _)).n e14 (by decide)
  have a3 := (a3.zz (Nat.le_succ _)).n e14 (by decide)
  have a4 := (a4.zz (Nat.le_succ _)).n e14 (by decide)
  have a5 := (a5.zz (Nat.le_succ _)).n e14 (by decide)
  have hF := hF.up e14 (Nat.not_lt.mpr (by decide))
  have a6 := x_a.s e14 (Nat.lt_succ_self _)
  clear e14
  refine x_putF (pc' := 64) rfl rfl rfl (hO) (Nat.le_of_ble_eq_true rfl) rfl rfl rfl rfl rfl rfl (fun f15 e15 => ?_)
  have hO := x_o.s e15 hO.1
  have a0 := a0.n e15 (by decide)
  have a1 := a1.n e15 (by decide)
  have a2 := a2.n e15 (by decide)
  have a3 := a3.n e15 (by decide)
  have a4 := a4.n e15 (by decide)
  have a5 := a5.n e15 (by decide)
  have a6 := a6.n e15 (by decide)
  have hF := hF.up e15 (Nat.not_lt.mpr (by decide))
  clear e15
  refine x_aload_n (pc' := 65) rfl rfl rfl ?_
  refine x_bipush (pc' := 67) rfl rfl bipush_9 ?_
  refine x_newarrayI (pc' := 69) (N := 9) rfl rfl (by decide) (by decide) (by decide) (Nat.le_of_ble_eq_true rfl) (Nat.le_of_ble_eq_true rfl) (fun f16 e16 => ?_)
  have hO := (hO.zz (Nat.le_succ _)).n e16 (by decide)
  have a0 := (a0.zz (Nat.le_succ _)).n e16 (by decide)
  have a1 := (a1.zz (Nat.le_succ _)).n e16 (by decide)
  have a2 := (a2.zz (Nat.le_succ _)).n e16 (by decide)
  have a3 := (a3.zz (Nat.le_succ _)).n e16 (by decide)
  have a4 := (a4.zz (Nat.le_succ _)).n e16 (by decide)
  have a5 := (a5.zz (Nat.le_succ _)).n e16 (by decide)
  have a6 := (a6.zz (Nat.le_succ _)).n e16 (by decide)
  have hF := hF.up e16 (Nat.not_lt.mpr (by decide))
  have a7 := x_a.s e16 (Nat.lt_succ_self _)
  clear e16
  refine x_putF (pc' := 72) rfl rfl rfl (hO) (Nat.le_of_ble_eq_true rfl) rfl rfl rfl rfl rfl rfl (fun f17 e17 => ?_)
  have hO := x_o.s e17 hO.1
  have a0 := a0.n e17 (by decide)
  have a1 := a1.n e17 (by decide)
  have a2 := a2.n e17 (by decide)
  have a3 := a3.n e17 (by decide)
  have a4 := a4.n e17 (by decide)
  have a5 := a5.n e17 (by decide)
  have a6 := a6.n e17 (by decide)
  have a7 := a7.n e17 (by decide)
  have hF := hF.up e17 (Nat.not_lt.mpr (by decide))
  clear e17
  refine x_aload_n (pc' := 73) rfl rfl rfl ?_
  refine x_sipush (pc' := 76) rfl rfl sipush_1809 ?_
  refine x_newarrayI (pc' := 78) (N := 1809) rfl rfl (by decide) (by decide) (by decide) (Nat.le_of_ble_eq_true rfl) (Nat.le_of_ble_eq_true rfl) (fun f18 e18 => ?_)
  have hO := (hO.zz (Nat.le_succ _)).n e18 (by decide)
  have a0 := (a0.zz (Nat.le_succ _)).n e18 (by decide)
  have a1 := (a1.zz (Nat.le_succ _)).n e18 (by decide)
  have a2 := (a2.zz (Nat.le_succ _)).n e18 (by decide)
  have a3 := (a3.zz (Nat.le_succ _)).n e18 (by decide)
  have a4 := (a4.zz (Nat.le_succ _)).n e18 (by decide)
  have a5 := (a5.zz (Nat.le_succ _)).n e18 (by decide)
  have a6 := (a6.zz (Nat.le_succ _)).n e18 (by decide)
  have a7 := (a7.zz (Nat.le_succ _)).n e18 (by decide)
  have hF := hF.up e18 (Nat.not_lt.mpr (by decide))
  have a8 := x_a.s e18 (Nat.lt_succ_self _)
  clear e18
  refine x_putF (pc' := 81) rfl rfl rfl (hO) (Nat.le_of_ble_eq_true rfl) rfl rfl rfl rfl rfl rfl (fun f19 e19 => ?_)
  have hO := x_o.s e19 hO.1
  have a0 := a0.n e19 (by decide)
  have a1 := a1.n e19 (by decide)
  have a2 := a2.n e19 (by decide)
  have a3 := a3.n e19 (by decide)
  have a4 := a4.n e19 (by decide)
  have a5 := a5.n e19 (by decide)
  have a6 := a6.n e19 (by decide)
  have a7 := a7.n e19 (by decide)
  have a8 := a8.n e19 (by decide)
  have hF := hF.up e19 (Nat.not_lt.mpr (by decide))
  clear e19
  refine x_aload_n (pc' := 82) rfl rfl rfl ?_
  refine x_bipush (pc' := 84) rfl rfl bipush_41 ?_
  refine x_newarrayL (pc' := 86) (N := 41) rfl rfl (by decide) (by decide) (by decide) (Nat.le_of_ble_eq_true rfl) (Nat.le_of_ble_eq_true rfl) (fun f20 e20 => ?_)
  have hO := (hO.zz (Nat.le_succ _)).n e20 (by decide)
  have a0 := (a0.zz (Nat.le_succ _)).n e20 (by decide)
  have a1 := (a1.zz (Nat.le_succ _)).n e20 (by decide)
  have a2 := (a2.zz (Nat.le_succ _)).n e20 (by decide)
  have a3 := (a3.zz (Nat.le_succ _)).n e20 (by decide)
  have a4 := (a4.zz (Nat.le_succ _)).n e20 (by decide)
  have a5 := (a5.zz (Nat.le_succ _)).n e20 (by decide)
  have a6 := (a6.zz (Nat.le_succ _)).n e20 (by decide)
  have a7 := (a7.zz (Nat.le_succ _)).n e20 (by decide)
  have a8 := (a8.zz (Nat.le_succ _)).n e20 (by decide)
  have hF := hF.up e20 (Nat.not_lt.mpr (by decide))
  have l0 := x_a.s e20 (Nat.lt_succ_self _)
  clear e20
  refine x_putF (pc' := 89) rfl rfl rfl (hO) (Nat.le_of_ble_eq_true rfl) rfl rfl rfl rfl rfl rfl (fun f21 e21 => ?_)
  have hO := x_o.s e21 hO.1
  have a0 := a0.n e21 (by decide)
  have a1 := a1.n e21 (by decide)
  have a2 := a2.n e21 (by decide)
  have a3 := a3.n e21 (by decide)
  have a4 := a4.n e21 (by decide)
  have a5 := a5.n e21 (by decide)
  have a6 := a6.n e21 (by decide)
  have a7 := a7.n e21 (by decide)
  have a8 := a8.n e21 (by decide)
  have l0 := l0.n e21 (by decide)
  have hF := hF.up e21 (Nat.not_lt.mpr (by decide))
  clear e21
  refine x_aload_n (pc' := 90) rfl rfl rfl ?_
  refine x_bipush (pc' := 92) rfl rfl bipush_41 ?_
  refine x_newarrayL (pc' := 94) (N := 41) rfl rfl (by decide) (by decide) (by decide) (Nat.le_of_ble_eq_true rfl) (Nat.le_of_ble_eq_true rfl) (fun f22 e22 => ?_)
  have hO := (hO.zz (Nat.le_succ _)).n e22 (by decide)
  have a0 := (a0.zz (Nat.le_succ _)).n e22 (by decide)
  have a1 := (a1.zz (Nat.le_succ _)).n e22 (by decide)
  have a2 := (a2.zz (Nat.le_succ _)).n e22 (by decide)
  have a3 := (a3.zz (Nat.le_succ _)).n e22 (by decide)
  have a4 := (a4.zz (Nat.le_succ _)).n e22 (by decide)
  have a5 := (a5.zz (Nat.le_succ _)).n e22 (by decide)
  have a6 := (a6.zz (Nat.le_succ _)).n e22 (by decide)
  have a7 := (a7.zz (Nat.le_succ _)).n e22 (by decide)
  have a8 := (a8.zz (Nat.le_succ _)).n e22 (by decide)
  have l0 := (l0.zz (Nat.le_succ _)).n e22 (by decide)
  have hF := hF.up e22 (Nat.not_lt.mpr (by decide))
  have l1 := x_a.s e22 (Nat.lt_succ_self _)
  clear e22
  refine x_putF (pc' := 97) rfl rfl rfl (hO) (Nat.le_of_ble_eq_true rfl) rfl rfl rfl rfl rfl rfl (fun f23 e23 => ?_)
  have hO := x_o.s e23 hO.1
  have a0 := a0.n e23 (by decide)
  have a1 := a1.n e23 (by decide)
  have a2 := a2.n e23 (by decide)
  have a3 := a3.n e23 (by decide)
  have a4 := a4.n e23 (by decide)
  have a5 := a5.n e23 (by decide)
  have a6 := a6.n e23 (by decide)
  have a7 := a7.n e23 (by decide)
  have a8 := a8.n e23 (by decide)
  have l0 := l0.n e23 (by decide)
  have l1 := l1.n e23 (by decide)
  have hF := hF.up e23 (Nat.not_lt.mpr (by decide))
  clear e23
  refine x_aload_n (pc' := 98) rfl rfl rfl ?_
  refine x_bipush (pc' := 100) rfl rfl bipush_12 ?_
  refine x_newarrayI (pc' := 102) (N := 12) rfl rfl (by decide) (by decide) (by decide) (Nat.le_of_ble_eq_true rfl) (Nat.le_of_ble_eq_true rfl) (fun f24 e24 => ?_)
  have hO := (hO.zz (Nat.le_succ _)).n e24 (by decide)
  have a0 := (a0.zz (Nat.le_succ _)).n e24 (by decide)
  have a1 := (a1.zz (Nat.le_succ _)).n e24 (by decide)
  have a2 := (a2.zz (Nat.le_succ _)).n e24 (by decide)
  have a3 := (a3.zz (Nat.le_succ _)).n e24 (by decide)
  have a4 := (a4.zz (Nat.le_succ _)).n e24 (by decide)
  have a5 := (a5.zz (Nat.le_succ _)).n e24 (by decide)
  have a6 := (a6.zz (Nat.le_succ _)).n e24 (by decide)
  have a7 := (a7.zz (Nat.le_succ _)).n e24 (by decide)
  have a8 := (a8.zz (Nat.le_succ _)).n e24 (by decide)
  have l0 := (l0.zz (Nat.le_succ _)).n e24 (by decide)
  have l1 := (l1.zz (Nat.le_succ _)).n e24 (by decide)
  have hF := hF.up e24 (Nat.not_lt.mpr (by decide))
  have a9 := x_a.s e24 (Nat.lt_succ_self _)
  clear e24
  refine x_putF (pc' := 105) rfl rfl rfl (hO) (Nat.le_of_ble_eq_true rfl) rfl rfl rfl rfl rfl rfl (fun f25 e25 => ?_)
  have hO := x_o.s e25 hO.1
  have a0 := a0.n e25 (by decide)
  have a1 := a1.n e25 (by decide)
  have a2 := a2.n e25 (by decide)
  have a3 := a3.n e25 (by decide)
  have a4 := a4.n e25 (by decide)
  have a5 := a5.n e25 (by decide)
  have a6 := a6.n e25 (by decide)
  have a7 := a7.n e25 (by decide)
  have a8 := a8.n e25 (by decide)
  have l0 := l0.n e25 (by decide)
  have l1 := l1.n e25 (by decide)
  have a9 := a9.n e25 (by decide)
  have hF := hF.up e25 (Nat.not_lt.mpr (by decide))
  clear e25
  refine x_aload_n (pc' := 106) rfl rfl rfl ?_
  refine x_bipush (pc' := 108) rfl rfl bipush_9 ?_
  refine x_newarrayI (pc' := 110) (N := 9) rfl rfl (by decide) (by decide) (by decide) (Nat.le_of_ble_eq_true rfl) (Nat.le_of_ble_eq_true rfl) (fun f26 e26 => ?_)
  have hO := (hO.zz (Nat.le_succ _)).n e26 (by decide)
  have a0 := (a0.zz (Nat.le_succ _)).n e26 (by decide)
  have a1 := (a1.zz (Nat.le_succ _)).n e26 (by decide)
  have a2 := (a2.zz (Nat.le_succ _)).n e26 (by decide)
  have a3 := (a3.zz (Nat.le_succ _)).n e26 (by decide)
  have a4 := (a4.zz (Nat.le_succ _)).n e26 (by decide)
  have a5 := (a5.zz (Nat.le_succ _)).n e26 (by decide)
  have a6 := (a6.zz (Nat.le_succ _)).n e26 (by decide)
  have a7 := (a7.zz (Nat.le_succ _)).n e26 (by decide)
  have a8 := (a8.zz (Nat.le_succ _)).n e26 (by decide)
  have l0 := (l0.zz (Nat.le_succ _)).n e26 (by decide)
  have l1 := (l1.zz (Nat.le_succ _)).n e26 (by decide)
  have a9 := (a9.zz (Nat.le_succ _)).n e26 (by decide)
  have hF := hF.up e26 (Nat.not_lt.mpr (by decide))
  have a10 := x_a.s e26 (Nat.lt_succ_self _)
  clear e26
  refine x_putF (pc' := 113) rfl rfl rfl (hO) (Nat.le_of_ble_eq_true rfl) rfl rfl rfl rfl rfl rfl (fun f27 e27 => ?_)
  have hO := x_o.s e27 hO.1
  have a0 := a0.n e27 (by decide)
  have a1 := a1.n e27 (by decide)
  have a2 := a2.n e27 (by decide)
  have a3 := a3.n e27 (by decide)
  have a4 := a4.n e27 (by decide)
  have a5 := a5.n e27 (by decide)
  have a6 := a6.n e27 (by decide)
  have a7 := a7.n e27 (by decide)
  have a8 := a8.n e27 (by decide)
  have l0 := l0.n e27 (by decide)
  have l1 := l1.n e27 (by decide)
  have a9 := a9.n e27 (by decide)
  have a10 := a10.n e27 (by decide)
  have hF := hF.up e27 (Nat.not_lt.mpr (by decide))
  clear e27
  refine x_aload_n (pc' := 114) rfl rfl rfl ?_
  refine x_iconst (pc' := 115) rfl rfl iconst_m1 ?_
  refine x_put (pc' := 118) rfl rfl rfl (hO) (Nat.le_of_ble_eq_true rfl) rfl rfl rfl rfl (fun f28 e28 => ?_)
  have hO := x_o.s e28 hO.1
  have a0 := a0.n e28 (by decide)
  have a1 := a1.n e28 (by decide)
  have a2 := a2.n e28 (by decide)
  have a3 := a3.n e28 (by decide)
  have a4 := a4.n e28 (by decide)
  have a5 := a5.n e28 (by decide)
  have a6 := a6.n e28 (by decide)
  have a7 := a7.n e28 (by decide)
  have a8 := a8.n e28 (by decide)
  have l0 := l0.n e28 (by decide)
  have l1 := l1.n e28 (by decide)
  have a9 := a9.n e28 (by decide)
  have a10 := a10.n e28 (by decide)
  have hF := hF.up e28 (Nat.not_lt.mpr (by decide))
  clear e28
  refine x_return rfl rfl (Nat.le_of_ble_eq_true rfl) (Nat.le_of_ble_eq_true rfl) (h _ ?_ hF)
  refine ⟨hO, ?_, ?_⟩
  · intro i hi
    match i, hi with
    | 0, _ => exact a0
    | 1, _ => exact a1
    | 2, _ => exact a2
    | 3, _ => exact a3
    | 4, _ => exact a4
    | 5, _ => exact a5
    | 6, _ => exact a6
    | 7, _ => exact a7
    | 8, _ => exact a8
    | 9, _ => exact a9
    | 10, _ => exact a10
    | n + 11, h => exact absurd h (by omega)
  · intro i hi
    match i, hi with
    | 0, _ => exact l0
    | 1, _ => exact l1
    | n + 2, h => exact absurd h (by omega)
end INIT
