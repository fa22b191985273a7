/-! The class's larger helpers where no bowl is held. -/
section FRESH
variable {E : x_E} {z : Nat} {f : x_H} {S : x_S} {post : Option Value → x_H → Prop}
theorem w_mostM1 (h : post (some (.int 0)) f) : Y E 1 mX2_mostDigits [.int (-1)] z f 0 0 post := by
  refine Y.intro gX2_mostDigits (lv := [(0, .int (-1))]) rfl (Nat.le_of_ble_eq_true rfl) ?_
  refine x_iload_n (pc' := 1) rfl rfl rfl ?_
  refine x_tableOut (tgt := 99) rfl ((by decide)) rfl ?_
  refine x_iconst (pc' := 100) rfl rfl iconst_0 ?_
  exact x_ireturn rfl rfl rfl (Nat.le_of_ble_eq_true rfl) (Nat.le_of_ble_eq_true rfl) (h)
theorem w_stuckIn0 (hS : x_Sys z f S) (h2 : S.1 2 = 0) (h : post (some (.int 0)) f) : Y E 2 mX2_stuckIn [.ref 17, .int 0] z f 0 0 post := by
  refine Y.intro gX2_stuckIn (lv := [(0, .ref 17), (1, .int 0)]) rfl (Nat.le_of_ble_eq_true rfl) ?_
  refine x_aload_n (pc' := 1) rfl rfl rfl ?_
  refine x_iload_n (pc' := 2) rfl rfl rfl ?_
  refine x_cV1i (d := 1) (pc' := 5) rfl rfl sX2_34 gX2_letterAt (hS.lt) ⟨Nat.le_of_ble_eq_true rfl, Nat.le_of_ble_eq_true rfl⟩ (Nat.le_of_ble_eq_true rfl) ⟨Nat.le_of_ble_eq_true rfl, Nat.le_of_ble_eq_true rfl⟩ ?_
  refine w_letterAt hS (fun q => absurd q.2.1 (by rw [h2]; decide)) (fun q => ⟨_, rfl, ?_⟩)
  refine x_istore_n (pc' := 6) (lv' := [(2, _), (0, _), (1, _)]) rfl rfl (Nat.le_of_ble_eq_true rfl) rfl ?_
  refine x_iload_n (pc' := 7) rfl rfl rfl ?_
  refine x_cS1i (d := 1) (pc' := 10) rfl rfl sX2_37 gX2_mostDigits ⟨Nat.le_of_ble_eq_true rfl, Nat.le_of_ble_eq_true rfl⟩ (Nat.le_of_ble_eq_true rfl) ⟨Nat.le_of_ble_eq_true rfl, Nat.le_of_ble_eq_true rfl⟩ ?_
  refine w_mostM1 ⟨_, rfl, ?_⟩
  refine x_if_ne (tgt := 15) (pc' := 13) rfl rfl rfl (fun c10 => absurd ((by decide)) c10) (fun _ => ?_)
  refine x_iload_n (pc' := 14) rfl rfl rfl ?_
  exact x_ireturn rfl rfl rfl (Nat.le_of_ble_eq_true rfl) (Nat.le_of_ble_eq_true rfl) (h)
theorem w_stuckAt0 (hS : x_Sys z f S) (h2 : S.1 2 = 0) (h : post (some (.int 0)) f) : Y E 3 mX2_stuckAt [.ref 17] z f 0 0 post := by
  refine Y.intro gX2_stuckAt (lv := [(0, .ref 17)]) rfl (Nat.le_of_ble_eq_true rfl) ?_
  refine x_iconst (pc' := 1) rfl rfl iconst_0 ?_
  refine x_istore_n (pc' := 2) (lv' := [(1, _), (0, _)]) rfl rfl (Nat.le_of_ble_eq_true rfl) rfl ?_
  refine x_iconst (pc' := 3) rfl rfl iconst_0 ?_
  refine x_istore_n (pc' := 4) (lv' := [(2, _), (1, _), (0, _)]) rfl rfl (Nat.le_of_ble_eq_true rfl) rfl ?_
  refine x_iload_n (pc' := 5) rfl rfl rfl ?_
  refine x_if_eq (tgt := 22) (pc' := 8) rfl rfl rfl (fun _ => ?_) (fun c5 => absurd ((by decide)) c5)
  refine x_aload_n (pc' := 23) rfl rfl rfl ?_
  refine x_iload_n (pc' := 24) rfl rfl rfl ?_
  refine x_cV1i (d := 2) (pc' := 27) rfl rfl sX2_31 gX2_stuckIn (hS.lt) ⟨Nat.le_of_ble_eq_true rfl, Nat.le_of_ble_eq_true rfl⟩ (Nat.le_of_ble_eq_true rfl) ⟨Nat.le_of_ble_eq_true rfl, Nat.le_of_ble_eq_true rfl⟩ ?_
  refine w_stuckIn0 hS h2 ⟨_, rfl, ?_⟩
  refine x_istore_n (pc' := 28) (lv' := [(3, _), (2, _), (1, _), (0, _)]) rfl rfl (Nat.le_of_ble_eq_true rfl) rfl ?_
  refine x_iload_n (pc' := 29) rfl rfl rfl ?_
  refine x_bipush (pc' := 31) rfl rfl bipush_m9 ?_
  refine x_icmp_eq (tgt := 36) (pc' := 34) rfl rfl rfl (fun c31 => absurd c31 ((by decide))) (fun _ => ?_)
  refine x_iload_n (pc' := 35) rfl rfl rfl ?_
  exact x_ireturn rfl rfl rfl (Nat.le_of_ble_eq_true rfl) (Nat.le_of_ble_eq_true rfl) (h)
theorem w_playOn0 {t : Nat} (hS : x_Sys z f S) (h2 : S.1 2 = 0) (h : post (some (.int (-1000))) f) : Y E 4 mX2_playOn [.ref 17, .ref t] z f 0 0 post := by
  refine Y.intro gX2_playOn (lv := [(0, .ref 17), (1, .ref t)]) rfl (Nat.le_of_ble_eq_true rfl) ?_
  refine x_aload_n (pc' := 1) rfl rfl rfl ?_
  refine x_cV0i (d := 3) (pc' := 4) rfl rfl sX2_19 gX2_stuckAt (hS.lt) ⟨Nat.le_of_ble_eq_true rfl, Nat.le_of_ble_eq_true rfl⟩ (Nat.le_of_ble_eq_true rfl) ⟨Nat.le_of_ble_eq_true rfl, Nat.le_of_ble_eq_true rfl⟩ ?_
  refine w_stuckAt0 hS h2 ⟨_, rfl, ?_⟩
  refine x_istore_n (pc' := 5) (lv' := [(2, _), (0, _), (1, _)]) rfl rfl (Nat.le_of_ble_eq_true rfl) rfl ?_
  refine x_iload_n (pc' := 6) rfl rfl rfl ?_
  refine x_bipush (pc' := 8) rfl rfl bipush_m9 ?_
  refine x_icmp_eq (tgt := 17) (pc' := 11) rfl rfl rfl (fun c8 => absurd c8 ((by decide))) (fun _ => ?_)
  refine x_sipush (pc' := 14) rfl rfl sipush_m1000 ?_
  refine x_iload_n (pc' := 15) rfl rfl rfl ?_
  refine x_isub (pc' := 16) rfl rfl ?_
  exact x_ireturn rfl rfl rfl (Nat.le_of_ble_eq_true rfl) (Nat.le_of_ble_eq_true rfl) (h)
theorem w_gain0 {n lo hi : Int32} (hS : x_Sys z f S) (hn : 0 < n) (h0 : (S.2.1 6).2.2.2 0 ≤ 0) (h : ∀ f' : x_H, x_Sys z f' (S.1, S.2.1, x_ua S.2.2.1 1 (upd (S.2.2.1 1) 0 (-9)), S.2.2.2) → x_fr (fun q => 59 ≤ q) f f' → post (some (.int 0)) f') : Y E 2 mX0_gainOf [.ref 20, .ref 21, .int 0, .int n, .int lo, .int hi] z f 0 0 post := by
  refine Y.intro gX0_gainOf (lv := [(0, .ref 20), (1, .ref 21), (2, .int 0), (3, .int n), (4, .int lo), (5, .int hi)]) rfl (Nat.le_of_ble_eq_true rfl) ?_
  refine x_iload_n (pc' := 1) rfl rfl rfl ?_
  refine x_if_le (tgt := 22) (pc' := 4) rfl rfl rfl (fun c1 => absurd c1 (Int32.not_le.mpr hn)) (fun _ => ?_)
  refine x_iload_n (pc' := 5) rfl rfl rfl ?_
  refine x_if_lt (tgt := 22) (pc' := 8) rfl rfl rfl (fun c5 => absurd c5 ((by decide))) (fun _ => ?_)
  refine x_iload_n (pc' := 9) rfl rfl rfl ?_
  refine x_iconst (pc' := 10) rfl rfl iconst_1 ?_
  refine x_iadd (pc' := 11) rfl rfl ?_
  refine x_aload_n (pc' := 12) rfl rfl rfl ?_
  refine x_alen (pc' := 13) rfl rfl (hS.li) ?_
  refine x_icmp_ge (tgt := 22) (pc' := 16) rfl rfl rfl (fun c13 => absurd c13 ((by decide))) (fun _ => ?_)
  refine x_iload_n (pc' := 17) rfl rfl rfl ?_
  refine x_aload_n (pc' := 18) rfl rfl rfl ?_
  refine x_alen (pc' := 19) rfl rfl (hS.2.2.1 1 (by decide)) ?_
  refine x_icmp_lt (tgt := 24) (pc' := 22) rfl rfl rfl (fun _ => ?_) (fun c19 => absurd ((show (0 : Int32) < Int32.ofNat 5 from by decide)) c19)
  refine x_aload_n (pc' := 25) rfl rfl rfl ?_
  refine x_iload_n (pc' := 26) rfl rfl rfl ?_
  refine x_aaload (pc' := 27) rfl rfl (hS.li) (vp_in_nI (n := 0) (N := 5) (by decide) (by decide)) ((rfl : x_line (Int32.toNatClampNeg 0) = some 22)) ?_
  refine x_astore (pc' := 29) (lv' := [(6, _), (0, _), (1, _), (2, _), (3, _), (4, _), (5, _)]) rfl rfl (Nat.le_of_ble_eq_true rfl) rfl ?_
  refine x_aload_n (pc' := 30) rfl rfl rfl ?_
  refine x_iload_n (pc' := 31) rfl rfl rfl ?_
  refine x_iconst (pc' := 32) rfl rfl iconst_1 ?_
  refine x_iadd (pc' := 33) rfl rfl ?_
  refine x_aaload (pc' := 34) rfl rfl (hS.li) ((vp_in_nI (n := 1) (N := 5) (by decide) (by decide))) ((rfl : x_line (Int32.toNatClampNeg (0 + 1)) = some 26)) ?_
  refine x_astore (pc' := 36) (lv' := [(7, _), (6, _), (0, _), (1, _), (2, _), (3, _), (4, _), (5, _)]) rfl rfl (Nat.le_of_ble_eq_true rfl) rfl ?_
  refine x_iload (pc' := 38) rfl rfl rfl ?_
  refine x_iload_n (pc' := 39) rfl rfl rfl ?_
  refine x_iconst (pc' := 40) rfl rfl iconst_1 ?_
  refine x_iadd (pc' := 41) rfl rfl ?_
  refine x_iconst (pc' := 42) rfl rfl iconst_2 ?_
  refine x_idiv (pc' := 43) rfl rfl (by decide) ?_
  refine x_mmin (pc' := 46) rfl rfl sX0_34 ⟨Nat.le_of_ble_eq_true rfl, Nat.le_of_ble_eq_true rfl⟩ (Nat.le_of_ble_eq_true rfl) (Nat.le_of_ble_eq_true rfl) (Nat.le_of_ble_eq_true rfl) ?_
  refine x_istore (pc' := 48) (lv' := [(8, _), (7, _), (6, _), (0, _), (1, _), (2, _), (3, _), (4, _), (5, _)]) rfl rfl (Nat.le_of_ble_eq_true rfl) rfl ?_
  refine x_iload (pc' := 50) rfl rfl rfl ?_
  refine x_iconst (pc' := 51) rfl rfl iconst_1 ?_
  refine x_isub (pc' := 52) rfl rfl ?_
  refine x_istore (pc' := 54) (lv' := [(9, _), (8, _), (7, _), (6, _), (0, _), (1, _), (2, _), (3, _), (4, _), (5, _)]) rfl rfl (Nat.le_of_ble_eq_true rfl) rfl ?_
  refine x_aload_n (pc' := 55) rfl rfl rfl ?_
  refine x_iload_n (pc' := 56) rfl rfl rfl ?_
  refine x_bipush (pc' := 58) rfl rfl bipush_m9 ?_
  refine x_iastore (pc' := 59) rfl rfl (hS.2.2.1 1 (by decide)) (vp_in_nI (n := 0) (N := 5) (by decide) (by decide)) (fun f1 e1 => ?_)
  have hS1 := hS.arr 1 (by decide) e1
  have hF1 := (x_fr.rf (P := fun q => 59 ≤ q)).up e1 (by decide)
  refine x_iconst (pc' := 60) rfl rfl iconst_0 ?_
  refine x_istore (pc' := 62) (lv' := [(10, _), (9, _), (8, _), (7, _), (6, _), (0, _), (1, _), (2, _), (3, _), (4, _), (5, _)]) rfl rfl (Nat.le_of_ble_eq_true rfl) rfl ?_
  refine x_iload (pc' := 64) rfl rfl rfl ?_
  refine x_aload (pc' := 66) rfl rfl rfl ?_
  refine x_get (pc' := 69) rfl rfl rfl ((hS1.2.1 6 (by decide)).1) rfl ?_
  refine x_icmp_ge (tgt := 174) (pc' := 72) rfl rfl rfl (fun _ => ?_) (fun c69 => absurd (h0) c69)
  refine x_aload_n (pc' := 175) rfl rfl rfl ?_
  refine x_iload_n (pc' := 176) rfl rfl rfl ?_
  refine x_iaload (pc' := 177) rfl rfl (hS1.2.2.1 1 (by decide)) (vp_in_nI (n := 0) (N := 5) (by decide) (by decide)) ?_
  refine x_bipush (pc' := 179) rfl rfl bipush_m9 ?_
  refine x_icmp_ne (tgt := 186) (pc' := 182) rfl rfl rfl (fun c179 => absurd (rfl) c179) (fun _ => ?_)
  refine x_iconst (pc' := 183) rfl rfl iconst_0 ?_
  refine x_goto (tgt := 188) rfl rfl ?_
  exact x_ireturn rfl rfl rfl (Nat.le_of_ble_eq_true rfl) (Nat.le_of_ble_eq_true rfl) (h _ hS1 hF1)
theorem w_gainFor0 {n : Int32} (j : Nat) (hj : j < 11) (hj6 : j ≠ 6) (hS : x_Sys z f S) (hn : 0 < n) (h0 : (S.2.1 j).2.2.2 0 ≤ 0) (h : ∀ (f' : x_H) (S' : x_S), x_Sys z f' S' → S'.1 = S.1 → (∀ i, i ≠ 6 → S'.2.1 i = S.2.1 i) → S'.2.2.1 1 0 = -9 → (∀ i, i ≠ 1 → S'.2.2.1 i = S.2.2.1 i) → x_fr (fun q => 59 ≤ q) f f' → post (some (.int 0)) f') : Y E 3 mX0_gainFor [.ref 19, .ref (x_tp j), .int n] z f 0 0 post := by
  refine Y.intro gX0_gainFor (lv := [(0, .ref 19), (1, .ref (x_tp j)), (2, .int n)]) rfl (Nat.le_of_ble_eq_true rfl) ?_
  refine x_aload_n (pc' := 1) rfl rfl rfl ?_
  refine x_get (pc' := 4) rfl rfl rfl (hS.ah) rfl ?_
  refine x_iconst (pc' := 5) rfl rfl iconst_0 ?_
  refine x_aaload (pc' := 6) rfl rfl (hS.li) (vp_in_nI (n := 0) (N := 5) (by decide) (by decide)) ((rfl : x_line (Int32.toNatClampNeg 0) = some 22)) ?_
  refine x_aload_n (pc' := 7) rfl rfl rfl ?_
  refine x_cV1v (d := 1) (pc' := 10) rfl rfl sX0_22 gX3_copyFrom ((hS.2.1 6 (by decide)).1) ⟨Nat.le_of_ble_eq_true rfl, Nat.le_of_ble_eq_true rfl⟩ (Nat.le_of_ble_eq_true rfl) ⟨Nat.le_of_ble_eq_true rfl, Nat.le_of_ble_eq_true rfl⟩ ?_
  refine w_copyFrom (hS.2.1 6 (by decide)) (hS.2.1 j hj) ((x_pos3 j hj).1 6 (by decide) (Ne.symm hj6)) (fun f1 hT1 hF1 => ⟨rfl, ?_⟩)
  have hS1 := hS.tab 6 (by decide) hT1 hF1
  refine x_aload_n (pc' := 11) rfl rfl rfl ?_
  refine x_get (pc' := 14) rfl rfl rfl (hS1.ah) rfl ?_
  refine x_aload_n (pc' := 15) rfl rfl rfl ?_
  refine x_get (pc' := 18) rfl rfl rfl (hS1.ah) rfl ?_
  refine x_iconst (pc' := 19) rfl rfl iconst_0 ?_
  refine x_iload_n (pc' := 20) rfl rfl rfl ?_
  refine x_iload_n (pc' := 21) rfl rfl rfl ?_
  refine x_ineg (pc' := 22) rfl rfl ?_
  refine x_iload_n (pc' := 23) rfl rfl rfl ?_
  refine x_cS6i (d := 2) (pc' := 26) rfl rfl sX0_26 gX0_gainOf ⟨Nat.le_of_ble_eq_true rfl, Nat.le_of_ble_eq_true rfl⟩ (Nat.le_of_ble_eq_true rfl) ⟨Nat.le_of_ble_eq_true rfl, Nat.le_of_ble_eq_true rfl⟩ ?_
  refine w_gain0 hS1 hn h0 (fun f2 hS2 hF2 => ⟨_, rfl, ?_⟩)
  exact x_ireturn rfl rfl rfl (Nat.le_of_ble_eq_true rfl) (Nat.le_of_ble_eq_true rfl) (h _ _ hS2 rfl (fun i hi => if_neg hi) rfl (fun i hi => if_neg hi) ((hF1.mono (fun q hq => x_tpq 6 (by decide) hq)).trans hF2))
theorem w_bowlFor0 {n : Int32} (j : Nat) (hj : j < 11) (hj6 : j ≠ 6) (hS : x_Sys z f S) (hn : 0 < n) (h0 : (S.2.1 j).2.2.2 0 ≤ 0) (h : ∀ f' : x_H, x_fr (fun q => 59 ≤ q) f f' → post (some (.int (-9))) f') : Y E 4 mX0_bowlFor [.ref 19, .ref (x_tp j), .int n] z f 0 0 post := by
  refine Y.intro gX0_bowlFor (lv := [(0, .ref 19), (1, .ref (x_tp j)), (2, .int n)]) rfl (Nat.le_of_ble_eq_true rfl) ?_
  refine x_aload_n (pc' := 1) rfl rfl rfl ?_
  refine x_aload_n (pc' := 2) rfl rfl rfl ?_
  refine x_iload_n (pc' := 3) rfl rfl rfl ?_
  refine x_cV2i (d := 3) (pc' := 6) rfl rfl sX0_30 gX0_gainFor (hS.ah) ⟨Nat.le_of_ble_eq_true rfl, Nat.le_of_ble_eq_true rfl⟩ (Nat.le_of_ble_eq_true rfl) ⟨Nat.le_of_ble_eq_true rfl, Nat.le_of_ble_eq_true rfl⟩ ?_
  refine w_gainFor0 j hj hj6 hS hn h0 (fun f1 S1 hS1 g1 g2 g3 g4 hF1 => ⟨_, rfl, ?_⟩)
  refine x_pop (pc' := 7) rfl rfl rfl ?_
  refine x_aload_n (pc' := 8) rfl rfl rfl ?_
  refine x_get (pc' := 11) rfl rfl rfl (hS1.ah) rfl ?_
  refine x_iconst (pc' := 12) rfl rfl iconst_0 ?_
  refine x_iaload (pc' := 13) rfl rfl (hS1.2.2.1 1 (by decide)) (vp_in_nI (n := 0) (N := 5) (by decide) (by decide)) ?_
  refine x_eqi (show S1.2.2.1 1 (Int32.toNatClampNeg 0) = -9 from g3) ?_
  exact x_ireturn rfl rfl rfl (Nat.le_of_ble_eq_true rfl) (Nat.le_of_ble_eq_true rfl) (h _ hF1)
theorem w_fillL {r n : Nat} {v : Int64} (hn : n < 2 ^ 31) (h : ∀ f' : x_H, x_a z f' r (n, .inr (.inl (fun _ => v))) → x_fr (fun q => q ≠ r) f f' → post none f') : ∀ (k i : Nat) (g : x_H) (a : Nat → Int64), i + k = n → x_a z g r (n, .inr (.inl a)) → (∀ j, j < i → a j = v) → x_fr (fun q => q ≠ r) f g → X E (x_rm 1 0 0) mJ7_fill_d0a16 (x_QM E z 0 0 post) 6 [(3, .int (nI i)), (4, .int (nI n)), (0, .ref r), (1, .long v)] [] z g 0 0 := by
  intro k
  induction k with
  | zero =>
    intro i g a hi ha hv hF
    have hi2 : i = n := by omega
    subst hi2
    refine x_iload_n (pc' := 7) rfl rfl rfl ?_
    refine x_iload (pc' := 9) rfl rfl rfl ?_
    refine x_icmp_ge (tgt := 22) (pc' := 12) rfl rfl rfl (fun _ => ?_) (fun c9 => absurd (Int32.le_refl _) c9)
    refine x_eqL ha (g' := fun _ => v) hv (fun f1 e1 => ?_)
    exact x_return rfl rfl (Nat.le_refl _) (Nat.le_refl _) (h _ (x_a.s e1 ha.1) (hF.up e1 (fun q => q rfl)))
  | succ k ih =>
    intro i g a hi ha hv hF
    refine x_iload_n (pc' := 7) rfl rfl rfl ?_
    refine x_iload (pc' := 9) rfl rfl rfl ?_
    refine x_icmp_ge (tgt := 22) (pc' := 12) rfl rfl rfl (fun c9 => absurd c9 (Int32.not_le.mpr (nI_lt (by omega) hn))) (fun _ => ?_)
    refine x_aload_n (pc' := 13) rfl rfl rfl ?_
    refine x_iload_n (pc' := 14) rfl rfl rfl ?_
    refine x_lload_n (pc' := 15) rfl rfl rfl ?_
    refine x_lastore (pc' := 16) rfl rfl (ha) (vp_in_nI (by omega) hn) (fun f1 e1 => ?_)
    refine x_iinc (pc' := 19) (lv' := [(3, _), (4, _), (0, _), (1, _)]) rfl rfl (Nat.le_of_ble_eq_true rfl) rfl (nI_1 i) rfl ?_
    refine x_goto (tgt := 6) rfl rfl ?_
    refine ih (i + 1) _ _ (by omega) (x_a.s e1 ha.1) ?_ (hF.up e1 (fun q => q rfl))
    intro j hj
    rw [nI_clamp (by omega)]
    unfold vp_updL
    by_cases hji : j = i
    · rw [if_pos hji]
    · rw [if_neg hji]
      exact hv j (by omega)
theorem w_fill {r n : Nat} {v : Int64} {a : Nat → Int64} (hn : n < 2 ^ 31) (ha : x_a z f r (n, .inr (.inl a))) (h : ∀ f' : x_H, x_a z f' r (n, .inr (.inl (fun _ => v))) → x_fr (fun q => q ≠ r) f f' → post none f') : Y E 1 mJ7_fill_d0a16 [.ref r, .long v] z f 0 0 post := by
  refine Y.intro gJ7_fill_d0a16 (lv := [(0, .ref r), (1, .long v)]) rfl (Nat.le_of_ble_eq_true rfl) ?_
  refine x_iconst (pc' := 1) rfl rfl iconst_0 ?_
  refine x_istore_n (pc' := 2) (lv' := [(3, _), (0, _), (1, _)]) rfl rfl (Nat.le_of_ble_eq_true rfl) rfl ?_
  refine x_aload_n (pc' := 3) rfl rfl rfl ?_
  refine x_alen (pc' := 4) rfl rfl (ha) ?_
  refine x_istore (pc' := 6) (lv' := [(4, _), (3, _), (0, _), (1, _)]) rfl rfl (Nat.le_of_ble_eq_true rfl) rfl ?_
  refine x_lvp [1, 0, 2, 3] rfl ?_
  exact w_fillL hn h n 0 _ a (by omega) ha (fun j hj => absurd hj (Nat.not_lt_zero j)) x_fr.rf
theorem w_toLay0 {n : Nat} {t : Nat} {T : x_T} {r : Nat} (hn : n ≤ 40) (hS : x_Sys z f S) (hT : x_t z f t T) (ht : t + 4 ≤ 55) (h0 : T.2.2.2 0 ≤ 0) (h : ∀ f' : x_H, x_fr (fun q => 59 ≤ q) f f' → post (some (.long (if n = 0 then 1 else 0))) f') : Y E 2 mX4_toLay [.ref 54, .ref t, .ref r, .int (nI n)] z f 0 0 post := by
  refine Y.intro gX4_toLay (lv := [(0, .ref 54), (1, .ref t), (2, .ref r), (3, .int (nI n))]) rfl (Nat.le_of_ble_eq_true rfl) ?_
  refine x_iload_n (pc' := 1) rfl rfl rfl ?_
  refine x_if_lt (tgt := 10) (pc' := 4) rfl rfl rfl (fun c1 => absurd c1 (nI_pos (by omega))) (fun _ => ?_)
  refine x_iload_n (pc' := 5) rfl rfl rfl ?_
  refine x_bipush (pc' := 7) rfl rfl bipush_40 ?_
  refine x_icmp_le (tgt := 12) (pc' := 10) rfl rfl rfl (fun _ => ?_) (fun c7 => absurd ((nI_le (a := n) (b := 40) hn (by decide))) c7)
  refine x_aload_n (pc' := 13) rfl rfl rfl ?_
  refine x_get (pc' := 16) rfl rfl rfl (hS.wy) rfl ?_
  refine x_lconst (pc' := 17) rfl rfl lconst_0 ?_
  refine x_cS2v (d := 1) (pc' := 20) rfl rfl sX4_19 gJ7_fill_d0a16 ⟨Nat.le_of_ble_eq_true rfl, Nat.le_of_ble_eq_true rfl⟩ (Nat.le_of_ble_eq_true rfl) ⟨Nat.le_of_ble_eq_true rfl, Nat.le_of_ble_eq_true rfl⟩ ?_
  refine w_fill (by decide) (hS.2.2.2.1 1 (by decide)) (fun f1 ha1 hF1 => ⟨rfl, ?_⟩)
  refine x_aload_n (pc' := 21) rfl rfl rfl ?_
  refine x_get (pc' := 24) rfl rfl rfl (hS.wy.fr hF1 (by decide)) rfl ?_
  refine x_iconst (pc' := 25) rfl rfl iconst_0 ?_
  refine x_lconst (pc' := 26) rfl rfl lconst_1 ?_
  refine x_lastore (pc' := 27) rfl rfl (ha1) (vp_in_nI (n := 0) (N := 41) (by decide) (by decide)) (fun f1 e1 => ?_)
  refine x_iconst (pc' := 28) rfl rfl iconst_0 ?_
  refine x_istore (pc' := 30) (lv' := [(4, _), (0, _), (1, _), (2, _), (3, _)]) rfl rfl (Nat.le_of_ble_eq_true rfl) rfl ?_
  refine x_iload (pc' := 32) rfl rfl rfl ?_
  refine x_aload_n (pc' := 33) rfl rfl rfl ?_
  refine x_get (pc' := 36) rfl rfl rfl (((hT.fr hF1 (fun i hi => by show t + i ≠ 55; omega)).n e1 (Or.inr (by show t + 4 ≤ 55; omega))).1) rfl ?_
  refine x_icmp_ge (tgt := 123) (pc' := 39) rfl rfl rfl (fun _ => ?_) (fun c36 => absurd (h0) c36)
  refine x_aload_n (pc' := 124) rfl rfl rfl ?_
  refine x_get (pc' := 127) rfl rfl rfl ((hS.wy.fr hF1 (by decide)).n e1 (by decide)) rfl ?_
  refine x_iload_n (pc' := 128) rfl rfl rfl ?_
  refine x_laload (pc' := 129) rfl rfl (x_a.s e1 ha1.1) (vp_in_nI (n := n) (N := 41) (by omega) (by decide)) ?_
  refine x_eql (show vp_updL (fun _ => (0 : Int64)) (Int32.toNatClampNeg 0) 1 (nI n).toNatClampNeg = (if n = 0 then 1 else 0) from by rw [nI_clamp (by omega)]; rfl) ?_
  exact x_lreturn rfl rfl (Nat.le_of_ble_eq_true rfl) (Nat.le_of_ble_eq_true rfl) (h _ ((hF1.mono (fun q hq => by have : 59 ≤ q := hq; show q ≠ 55; omega)).up e1 (by decide)))
theorem w_ask0 {n : Int32} (hS : x_Sys z f S) (h0 : (S.2.1 0).2.2.2 0 ≤ 0) (h : ∀ f' : x_H, x_fr (fun q => 59 ≤ q) f f' → post (some (.int (-9))) f') : Y E 3 mX4_bowlToAsk [.ref 54, .ref 1, .ref 57, .int n] z f 0 0 post := by
  refine Y.intro gX4_bowlToAsk (lv := [(0, .ref 54), (1, .ref 1), (2, .ref 57), (3, .int n)]) rfl (Nat.le_of_ble_eq_true rfl) ?_
  refine x_bipush (pc' := 2) rfl rfl bipush_m9 ?_
  refine x_istore (pc' := 4) (lv' := [(4, _), (0, _), (1, _), (2, _), (3, _)]) rfl rfl (Nat.le_of_ble_eq_true rfl) rfl ?_
  refine x_ldc2 (pc' := 7) rfl rfl rfl ?_
  refine x_lstore (pc' := 9) (lv' := [(5, _), (4, _), (0, _), (1, _), (2, _), (3, _)]) rfl rfl (Nat.le_of_ble_eq_true rfl) rfl ?_
  refine x_aload_n (pc' := 10) rfl rfl rfl ?_
  refine x_iconst (pc' := 11) rfl rfl iconst_0 ?_
  refine x_aload_n (pc' := 12) rfl rfl rfl ?_
  refine x_get (pc' := 15) rfl rfl rfl (hS.wy) rfl ?_
  refine x_iconst (pc' := 16) rfl rfl iconst_0 ?_
  refine x_aload_n (pc' := 17) rfl rfl rfl ?_
  refine x_alen (pc' := 18) rfl rfl (hS.2.2.1 5 (by decide)) ?_
  refine x_bipush (pc' := 20) rfl rfl bipush_12 ?_
  refine x_mmin (pc' := 23) rfl rfl sX4_35 ⟨Nat.le_of_ble_eq_true rfl, Nat.le_of_ble_eq_true rfl⟩ (Nat.le_of_ble_eq_true rfl) (Nat.le_of_ble_eq_true rfl) (Nat.le_of_ble_eq_true rfl) ?_
  refine x_eqi (show (if (12 : Int32) < Int32.ofNat 12 then (12 : Int32) else Int32.ofNat 12) = 12 from by decide) ?_
  refine x_copyW (pc' := 26) rfl rfl sX4_50 (hS.2.2.1 5 (by decide)) (hS.2.2.1 4 (by decide)) (by decide) (by decide) ⟨Nat.le_of_ble_eq_true rfl, Nat.le_of_ble_eq_true rfl⟩ (Nat.le_of_ble_eq_true rfl) (fun f1 e1 => ?_)
  have hS1 := hS.arr 4 (by decide) e1
  refine x_iconst (pc' := 27) rfl rfl iconst_0 ?_
  refine x_istore (pc' := 29) (lv' := [(7, _), (5, _), (4, _), (0, _), (1, _), (2, _), (3, _)]) rfl rfl (Nat.le_of_ble_eq_true rfl) rfl ?_
  refine x_iload (pc' := 31) rfl rfl rfl ?_
  refine x_aload_n (pc' := 32) rfl rfl rfl ?_
  refine x_get (pc' := 35) rfl rfl rfl ((hS1.2.1 0 (by decide)).1) rfl ?_
  refine x_icmp_ge (tgt := 131) (pc' := 38) rfl rfl rfl (fun _ => ?_) (fun c35 => absurd (h0) c35)
  refine x_iload (pc' := 133) rfl rfl rfl ?_
  exact x_ireturn rfl rfl rfl (Nat.le_of_ble_eq_true rfl) (Nat.le_of_ble_eq_true rfl) (h _ (x_fr.rf.up e1 (by decide)))
end FRESH
