/-! Small methods of both sides. -/
theorem lg_lt {x y : Int64} : lg_cmp x y < 0 ↔ x < y := by
  unfold lg_cmp
  by_cases h1 : x > y
  · rw [if_pos h1]
    have h2 : ¬ x < y := fun h => Int64.lt_irrefl (Int64.lt_trans h h1)
    exact ⟨fun h => absurd h (by decide), fun h => absurd h h2⟩
  · rw [if_neg h1]
    by_cases h2 : x = y
    · rw [if_pos h2]
      exact ⟨fun h => absurd h (by decide), fun h => absurd (h2 ▸ h) Int64.lt_irrefl⟩
    · rw [if_neg h2]
      exact ⟨fun _ => Int64.lt_of_le_of_ne (Int64.not_lt.mp h1) h2, fun _ => by decide⟩
theorem lg_gt {x y : Int64} : 0 < lg_cmp x y ↔ y < x := by
  unfold lg_cmp
  by_cases h1 : x > y
  · rw [if_pos h1]
    exact ⟨fun _ => h1, fun _ => by decide⟩
  · rw [if_neg h1]
    by_cases h2 : x = y
    · rw [if_pos h2]
      exact ⟨fun h => absurd h (by decide), fun h => absurd h h1⟩
    · rw [if_neg h2]
      exact ⟨fun h => absurd h (by decide), fun h => absurd h h1⟩
theorem i64_lt {x y : Int32} : x.toInt64 < y.toInt64 ↔ x < y := by
  rw [Int64.lt_iff_toInt_lt, Int32.lt_iff_toInt_lt, Int32.toInt_toInt64, Int32.toInt_toInt64]
theorem i64_0 : (0 : Int64) = (0 : Int32).toInt64 := by decide
/-- one more refused -/
def x_rf (g : Nat → Int32) (k : Nat) : Nat → Int32 := upd g k (g k + 1)
section LEAF
variable {E : x_E} {z : Nat} {f : x_H} {S : x_S} {M : x_N} {post : Option Value → x_H → Prop}
/-- the class refuses with one of its numbers -/
theorem w_refuse {n : Int32} {k : Nat} (hn : -n = nI k) (hk : k < 7) (hS : x_Sys z f S) (h : ∀ f' : x_H, x_Sys z f' (S.1, S.2.1, x_ua S.2.2.1 6 (x_rf (S.2.2.1 6) k), S.2.2.2) → x_fr (fun q => 59 ≤ q) f f' → post (some (.int n)) f') : Y E 1 mX5_refuse [.ref 0, .int n] z f 0 0 post := by
  refine Y.intro gX5_refuse (lv := [(0, .ref 0), (1, .int n)]) rfl (Nat.le_of_ble_eq_true rfl) ?_
  have hin : vp_in (nI k) 7 := vp_in_nI hk (by decide)
  have hcl : (nI k).toNatClampNeg = k := nI_clamp (by omega)
  refine x_iload_n (pc' := 1) rfl rfl rfl ?_
  refine x_ineg (pc' := 2) rfl rfl ?_
  refine x_eqi hn ?_
  refine x_istore_n (pc' := 3) (lv' := [(2, _), (0, _), (1, _)]) rfl rfl (Nat.le_of_ble_eq_true rfl) rfl ?_
  refine x_iload_n (pc' := 4) rfl rfl rfl ?_
  refine x_if_lt (tgt := 26) (pc' := 7) rfl rfl rfl (fun c4 => absurd c4 (nI_pos (by omega))) (fun _ => ?_)
  refine x_iload_n (pc' := 8) rfl rfl rfl ?_
  refine x_aload_n (pc' := 9) rfl rfl rfl ?_
  refine x_get (pc' := 12) rfl rfl rfl (hS.1) rfl ?_
  refine x_alen (pc' := 13) rfl rfl (hS.2.2.1 6 (by decide)) ?_
  refine x_icmp_ge (tgt := 26) (pc' := 16) rfl rfl rfl (fun c13 => absurd c13 (Int32.not_le.mpr (nI_lt (a := k) (b := 7) hk (by decide)))) (fun _ => ?_)
  refine x_aload_n (pc' := 17) rfl rfl rfl ?_
  refine x_get (pc' := 20) rfl rfl rfl (hS.1) rfl ?_
  refine x_iload_n (pc' := 21) rfl rfl rfl ?_
  refine x_dup2 (pc' := 22) rfl rfl rfl rfl ?_
  refine x_iaload (pc' := 23) rfl rfl (hS.2.2.1 6 (by decide)) (hin) ?_
  refine x_iconst (pc' := 24) rfl rfl iconst_1 ?_
  refine x_iadd (pc' := 25) rfl rfl ?_
  refine x_iastore (pc' := 26) rfl rfl (hS.2.2.1 6 (by decide)) (hin) (fun f1 e1 => ?_)
  have hS1 := hS.arr 6 (by decide) e1
  rw [hcl] at hS1
  refine x_iload_n (pc' := 27) rfl rfl rfl ?_
  exact x_ireturn rfl rfl rfl (Nat.le_of_ble_eq_true rfl) (Nat.le_of_ble_eq_true rfl) (h _ hS1 (x_fr.rf.up e1 (by decide)))
theorem w_refuseFar {n : Int32} {k : Nat} (hn : -n = nI k) (hk : k < 7) (hS : x_Sys z f S) (h : ∀ f' : x_H, x_Sys z f' (S.1, S.2.1, x_ua S.2.2.1 6 (x_rf (S.2.2.1 6) k), S.2.2.2) → x_fr (fun q => 59 ≤ q) f f' → post (some (.int (1000000000 - n))) f') : Y E 2 mX5_refuseFar [.ref 0, .int n] z f 0 0 post := by
  refine Y.intro gX5_refuseFar (lv := [(0, .ref 0), (1, .int n)]) rfl (Nat.le_of_ble_eq_true rfl) ?_
  refine x_ldc (pc' := 2) rfl rfl rfl ?_
  refine x_aload_n (pc' := 3) rfl rfl rfl ?_
  refine x_iload_n (pc' := 4) rfl rfl rfl ?_
  refine x_cV1i (d := 1) (pc' := 7) rfl rfl sX5_68 gX5_refuse (hS.1) ⟨Nat.le_of_ble_eq_true rfl, Nat.le_of_ble_eq_true rfl⟩ (Nat.le_of_ble_eq_true rfl) ⟨Nat.le_of_ble_eq_true rfl, Nat.le_of_ble_eq_true rfl⟩ ?_
  refine w_refuse hn hk hS (fun f1 hS1 hF1 => ⟨_, rfl, ?_⟩)
  refine x_isub (pc' := 8) rfl rfl ?_
  exact x_ireturn rfl rfl rfl (Nat.le_of_ble_eq_true rfl) (Nat.le_of_ble_eq_true rfl) (h _ hS1 hF1)
theorem w_in {v a b : Int64} (h1 : ¬ v < a ∧ ¬ b < v → post (some (.int 1)) f) (h0 : ¬ (¬ v < a ∧ ¬ b < v) → post (some (.int 0)) f) : Y E 1 mX6_in [.long v, .long a, .long b] z f 0 0 post := by
  refine Y.intro gX6_in (lv := [(0, .long v), (2, .long a), (4, .long b)]) rfl (Nat.le_of_ble_eq_true rfl) ?_
  refine x_lload_n (pc' := 1) rfl rfl rfl ?_
  refine x_lload_n (pc' := 2) rfl rfl rfl ?_
  refine x_lcmp (pc' := 3) rfl rfl ?_
  refine x_if_lt (tgt := 17) (pc' := 6) rfl rfl rfl (fun c3 => ?_) (fun c3 => ?_)
  · refine x_iconst (pc' := 18) rfl rfl iconst_0 ?_
    exact x_ireturn rfl rfl rfl (Nat.le_of_ble_eq_true rfl) (Nat.le_of_ble_eq_true rfl) (h0 (fun q => q.1 (lg_lt.mp c3)))
  · refine x_lload_n (pc' := 7) rfl rfl rfl ?_
    refine x_lload (pc' := 9) rfl rfl rfl ?_
    refine x_lcmp (pc' := 10) rfl rfl ?_
    refine x_if_gt (tgt := 17) (pc' := 13) rfl rfl rfl (fun c10 => ?_) (fun c10 => ?_)
    · refine x_iconst (pc' := 18) rfl rfl iconst_0 ?_
      exact x_ireturn rfl rfl rfl (Nat.le_of_ble_eq_true rfl) (Nat.le_of_ble_eq_true rfl) (h0 (fun q => q.2 (lg_gt.mp c10)))
    · refine x_iconst (pc' := 14) rfl rfl iconst_1 ?_
      refine x_goto (tgt := 18) rfl rfl ?_
      exact x_ireturn rfl rfl rfl (Nat.le_of_ble_eq_true rfl) (Nat.le_of_ble_eq_true rfl) (h1 ⟨fun q => c3 (lg_lt.mpr q), fun q => c10 (lg_gt.mpr q)⟩)
theorem w_isBowl {b : Int32} (hM : x_Mdl z f M) (h1 : ¬ b < 0 ∧ ¬ M.1 3 - 1 < b → post (some (.int 1)) f) (h0 : ¬ (¬ b < 0 ∧ ¬ M.1 3 - 1 < b) → post (some (.int 0)) f) : Y E 2 mX6_isBowl [.ref 59, .int b] z f 0 0 post := by
  refine Y.intro gX6_isBowl (lv := [(0, .ref 59), (1, .int b)]) rfl (Nat.le_of_ble_eq_true rfl) ?_
  refine x_iload_n (pc' := 1) rfl rfl rfl ?_
  refine x_i2l (pc' := 2) rfl rfl ?_
  refine x_lconst (pc' := 3) rfl rfl lconst_0 ?_
  refine x_aload_n (pc' := 4) rfl rfl rfl ?_
  refine x_get (pc' := 7) rfl rfl rfl (hM.1) rfl ?_
  refine x_iconst (pc' := 8) rfl rfl iconst_1 ?_
  refine x_isub (pc' := 9) rfl rfl ?_
  refine x_i2l (pc' := 10) rfl rfl ?_
  refine x_cS3i (d := 1) (pc' := 13) rfl rfl sX6_63 gX6_in ⟨Nat.le_of_ble_eq_true rfl, Nat.le_of_ble_eq_true rfl⟩ (Nat.le_of_ble_eq_true rfl) ⟨Nat.le_of_ble_eq_true rfl, Nat.le_of_ble_eq_true rfl⟩ ?_
  refine w_in (fun g => ⟨_, rfl, ?_⟩) (fun g => ⟨_, rfl, ?_⟩)
  all_goals rw [i64_0, i64_lt, i64_lt] at g
  · exact x_ireturn rfl rfl rfl (Nat.le_of_ble_eq_true rfl) (Nat.le_of_ble_eq_true rfl) (h1 g)
  · exact x_ireturn rfl rfl rfl (Nat.le_of_ble_eq_true rfl) (Nat.le_of_ble_eq_true rfl) (h0 g)
theorem w_mRefuse {n : Int32} {k : Nat} (hn : -n - 1 = nI k) (hk : k < 6) (hM : x_Mdl z f M) (h : ∀ f' : x_H, x_Mdl z f' (M.1, x_ua M.2.1 3 (x_rf (M.2.1 3) k), M.2.2) → x_fr (fun q => q < 59) f f' → post (some (.int n)) f') : Y E 1 mX6_refuse [.ref 59, .int n] z f 0 0 post := by
  refine Y.intro gX6_refuse (lv := [(0, .ref 59), (1, .int n)]) rfl (Nat.le_of_ble_eq_true rfl) ?_
  have hin : vp_in (nI k) 6 := vp_in_nI hk (by decide)
  have hcl : (nI k).toNatClampNeg = k := nI_clamp (by omega)
  refine x_aload_n (pc' := 1) rfl rfl rfl ?_
  refine x_get (pc' := 4) rfl rfl rfl (hM.1) rfl ?_
  refine x_iload_n (pc' := 5) rfl rfl rfl ?_
  refine x_ineg (pc' := 6) rfl rfl ?_
  refine x_iconst (pc' := 7) rfl rfl iconst_1 ?_
  refine x_isub (pc' := 8) rfl rfl ?_
  refine x_eqi hn ?_
  refine x_dup2 (pc' := 9) rfl rfl rfl rfl ?_
  refine x_iaload (pc' := 10) rfl rfl (hM.2.1 3 (by decide)) (hin) ?_
  refine x_iconst (pc' := 11) rfl rfl iconst_1 ?_
  refine x_iadd (pc' := 12) rfl rfl ?_
  refine x_iastore (pc' := 13) rfl rfl (hM.2.1 3 (by decide)) (hin) (fun f1 e1 => ?_)
  have hM1 := hM.arr 3 (by decide) e1
  rw [hcl] at hM1
  refine x_iload_n (pc' := 14) rfl rfl rfl ?_
  exact x_ireturn rfl rfl rfl (Nat.le_of_ble_eq_true rfl) (Nat.le_of_ble_eq_true rfl) (h _ hM1 (x_fr.rf.up e1 (by decide)))
theorem w_told {n : Int32} {k : Nat} (hn : -n - 1 = nI k) (hk : k < 6) (hM : x_Mdl z f M) (h : ∀ f' : x_H, x_Mdl z f' (M.1, x_ua M.2.1 3 (x_rf (M.2.1 3) k), M.2.2) → x_fr (fun q => q < 59) f f' → post (some (.int (1000000000 - n))) f') : Y E 2 mX6_told [.ref 59, .int n] z f 0 0 post := by
  refine Y.intro gX6_told (lv := [(0, .ref 59), (1, .int n)]) rfl (Nat.le_of_ble_eq_true rfl) ?_
  refine x_ldc (pc' := 2) rfl rfl rfl ?_
  refine x_aload_n (pc' := 3) rfl rfl rfl ?_
  refine x_iload_n (pc' := 4) rfl rfl rfl ?_
  refine x_cV1i (d := 1) (pc' := 7) rfl rfl sX6_110 gX6_refuse (hM.1) ⟨Nat.le_of_ble_eq_true rfl, Nat.le_of_ble_eq_true rfl⟩ (Nat.le_of_ble_eq_true rfl) ⟨Nat.le_of_ble_eq_true rfl, Nat.le_of_ble_eq_true rfl⟩ ?_
  refine w_mRefuse hn hk hM (fun f1 hM1 hF1 => ⟨_, rfl, ?_⟩)
  refine x_isub (pc' := 8) rfl rfl ?_
  exact x_ireturn rfl rfl rfl (Nat.le_of_ble_eq_true rfl) (Nat.le_of_ble_eq_true rfl) (h _ hM1 hF1)
end LEAF
