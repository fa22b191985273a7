/-! The class: the row, lots, the picture, counts. -/
theorem q_zI (w : Int32) {n : Nat} (h0 : 0 < n) (hn : n ≤ 9) : (w &&& 2147483647) / 256 - (w &&& 2147483647) / 256 / nI n * nI n = nI (q_zb w n) := by
  rw [pk_and w (m := 2147483647) 31 (by decide)]
  have h1 : w.toBitVec.toNat % 2 ^ 31 < 2 ^ 31 := Nat.mod_lt _ (by decide)
  rw [show (256 : Int32) = nI 256 from rfl, pk_div h1 (by decide) (by decide)]
  exact pk_rem (by omega) h0 (by omega)
section CC
variable {E : x_E} {z : Nat} {f : x_H} {S : x_S} {A : q_A} {post : Option Value → x_H → Prop} {a b : Int32}
theorem c_lost (hS : x_Sys z f S) (hA : c_is S A) (ho : a_ok A) (h1 : post (some (.int 1)) f) (h0 : ∀ i, i < g_n (a_g A) → g_can (a_g A) i → post (some (.int 0)) f) : Y E 9 mX5_lost [.ref 0] z f 0 0 post := by
  refine Y.intro gX5_lost (lv := [(0, .ref 0)]) rfl (Nat.le_of_ble_eq_true rfl) ?_
  refine x_iconst (pc' := 1) rfl rfl iconst_0 ?_
  refine x_istore_n (pc' := 2) (lv' := [(1, _), (0, _)]) rfl rfl (Nat.le_of_ble_eq_true rfl) rfl ?_
  exact c_lostL hS hA ho h1 h0 (g_n (a_g A)) 0 (by omega)
abbrev a_plays (A : q_A) : Nat × q_G := q_plays (a_rf A) (a_rc A) 0 (a_g A)
theorem c_playL (ho : a_ok A) (f0 : x_H) (S0 : x_S) (hA : c_is S0 A) (h : ∀ (f' : x_H) (T' : x_T), x_Sys z f' (S0.1, x_ut S0.2.1 2 T', S0.2.2.1, S0.2.2.2) → t_is T' (a_plays A).2 → x_fr (fun q => 59 ≤ q) f0 f' → post (some (.int (nI (a_plays A).1))) f') : ∀ (k i : Nat) (g : q_G) (f : x_H) (T : x_T), i + k = a_rc A → g_ok 99 g → q_plays (a_rf A) k i g = a_plays A → x_Sys z f (S0.1, x_ut S0.2.1 2 T, S0.2.2.1, S0.2.2.2) → t_is T g → x_fr (fun q => 59 ≤ q) f0 f → X E (x_rm 5 0 0) mX5_playRow (x_QM E z 0 0 post) 13 [(1, .int (nI i)), (0, .ref 0)] [] z f 0 0 := by
  have hrc := ho.2.2.2.2.2.1
  have b6 : S0.1 1 = nI (a_rc A) := hA.2.2.2.2.2.1
  have b7 : S0.2.2.1 5 = fun i => nI (a_rf A i) := hA.2.2.2.2.2.2.1
  intro k
  induction k with
  | zero =>
    intro i g f T hi hg he hS hT hF
    have hi2 : i = a_rc A := by omega
    have he2 : (i, g) = a_plays A := he
    rw [← he2] at h
    refine x_iload_n (pc' := 14) rfl rfl rfl ?_
    refine x_aload_n (pc' := 15) rfl rfl rfl ?_
    refine x_get (pc' := 18) rfl rfl rfl (hS.1) rfl ?_
    refine x_eqi b6 ?_
    refine x_icmp_ge (tgt := 65) (pc' := 21) rfl rfl rfl (fun _ => ?_) (fun c18 => absurd ((by rw [hi2]; exact Int32.le_refl _)) c18)
    refine x_iload_n (pc' := 66) rfl rfl rfl ?_
    exact x_ireturn rfl rfl rfl (Nat.le_of_ble_eq_true rfl) (Nat.le_of_ble_eq_true rfl) (h _ T hS hT hF)
  | succ k ih =>
    intro i g f T hi hg he hS hT hF
    have hTt : x_t z f 9 T := hS.2.1 2 (by decide)
    have hrf := ho.2.2.2.2.2.2 i
    have hcl : (nI i).toNatClampNeg = i := nI_clamp (by omega)
    have hv : vp_in (nI i) 12 := vp_in_nI (by omega) (by decide)
    have e1 : S0.2.2.1 5 (nI i).toNatClampNeg = nI (a_rf A i) := by rw [hcl, b7]
    replace he : (if g_can g (a_rf A i) then q_plays (a_rf A) k (i + 1) (g_mv g (a_rf A i)) else (i, g)) = a_plays A := he
    refine x_iload_n (pc' := 14) rfl rfl rfl ?_
    refine x_aload_n (pc' := 15) rfl rfl rfl ?_
    refine x_get (pc' := 18) rfl rfl rfl (hS.1) rfl ?_
    refine x_eqi b6 ?_
    refine x_icmp_ge (tgt := 65) (pc' := 21) rfl rfl rfl (fun c18 => absurd c18 ((nI_ge (by omega) (by omega)))) (fun _ => ?_)
    refine x_iload_n (pc' := 22) rfl rfl rfl ?_
    refine x_aload_n (pc' := 23) rfl rfl rfl ?_
    refine x_get (pc' := 26) rfl rfl rfl (hS.1) rfl ?_
    refine x_alen (pc' := 27) rfl rfl (hS.2.2.1 5 (by decide)) ?_
    refine x_icmp_ge (tgt := 65) (pc' := 30) rfl rfl rfl (fun c27 => absurd c27 ((nI_ge (a := i) (b := 12) (by omega) (by decide)))) (fun _ => ?_)
    refine x_aload_n (pc' := 31) rfl rfl rfl ?_
    refine x_get (pc' := 34) rfl rfl rfl (hS.1) rfl ?_
    refine x_aload_n (pc' := 35) rfl rfl rfl ?_
    refine x_get (pc' := 38) rfl rfl rfl (hS.1) rfl ?_
    refine x_iload_n (pc' := 39) rfl rfl rfl ?_
    refine x_iaload (pc' := 40) rfl rfl (hS.2.2.1 5 (by decide)) (hv) ?_
    refine x_eqi e1 ?_
    refine x_cV1i (d := 2) (pc' := 43) rfl rfl sX5_118 gX3_canMove (hTt.1) ⟨Nat.le_of_ble_eq_true rfl, Nat.le_of_ble_eq_true rfl⟩ (Nat.le_of_ble_eq_true rfl) ⟨Nat.le_of_ble_eq_true rfl, Nat.le_of_ble_eq_true rfl⟩ ?_
    refine w_can hTt hT hg (by decide) (by omega) (fun d2 => ⟨_, rfl, ?_⟩) (fun d2 => ⟨_, rfl, ?_⟩)
    · rw [if_pos d2] at he
      refine x_if_eq (tgt := 65) (pc' := 46) rfl rfl rfl (fun c43 => absurd c43 ((by decide))) (fun _ => ?_)
      refine x_aload_n (pc' := 47) rfl rfl rfl ?_
      refine x_get (pc' := 50) rfl rfl rfl (hS.1) rfl ?_
      refine x_aload_n (pc' := 51) rfl rfl rfl ?_
      refine x_get (pc' := 54) rfl rfl rfl (hS.1) rfl ?_
      refine x_iload_n (pc' := 55) rfl rfl rfl ?_
      refine x_iaload (pc' := 56) rfl rfl (hS.2.2.1 5 (by decide)) (hv) ?_
      refine x_eqi e1 ?_
      refine x_cV1v (d := 4) (pc' := 59) rfl rfl sX5_124 gX3_makeMove (hTt.1) ⟨Nat.le_of_ble_eq_true rfl, Nat.le_of_ble_eq_true rfl⟩ (Nat.le_of_ble_eq_true rfl) ⟨Nat.le_of_ble_eq_true rfl, Nat.le_of_ble_eq_true rfl⟩ ?_
      refine w_move hTt hT hg (by decide) d2.2.1 (fun f1 T1 hT1 g1 g4 g5 g6 g7 g8 hF1 => ⟨rfl, ?_⟩)
      have hS1 := (hS.tab 2 (by decide) hT1 hF1)
      refine x_iinc (pc' := 62) (lv' := [(1, _), (0, _)]) rfl rfl (Nat.le_of_ble_eq_true rfl) rfl (nI_1 i) rfl ?_
      refine x_goto (tgt := 13) rfl rfl ?_
      refine ih (i + 1) _ _ T1 (by omega) (g_mv_ok hg (by decide) (by decide) d2.2.1) he ?_ g1 (hF.trans (c_fr0 (j := 2) (by decide) hF1))
      have e9 : x_ut (x_ut S0.2.1 2 T) 2 T1 = x_ut S0.2.1 2 T1 := by
        funext j
        unfold x_ut
        split <;> rfl
      rw [← e9]
      exact hS1
    · rw [if_neg d2] at he
      rw [← he] at h
      refine x_if_eq (tgt := 65) (pc' := 46) rfl rfl rfl (fun _ => ?_) (fun c43 => absurd ((by decide)) c43)
      refine x_iload_n (pc' := 66) rfl rfl rfl ?_
      exact x_ireturn rfl rfl rfl (Nat.le_of_ble_eq_true rfl) (Nat.le_of_ble_eq_true rfl) (h _ T hS hT hF)
theorem c_playRow (hS : x_Sys z f S) (hA : c_is S A) (ho : a_ok A) (h : ∀ (f' : x_H) (T' : x_T), x_Sys z f' (S.1, x_ut S.2.1 2 T', S.2.2.1, S.2.2.2) → t_is T' (a_plays A).2 → x_fr (fun q => 59 ≤ q) f f' → post (some (.int (nI (a_plays A).1))) f') : Y E 5 mX5_playRow [.ref 0] z f 0 0 post := by
  refine Y.intro gX5_playRow (lv := [(0, .ref 0)]) rfl (Nat.le_of_ble_eq_true rfl) ?_
  have hT := hS.2.1 0 (by decide)
  refine x_aload_n (pc' := 1) rfl rfl rfl ?_
  refine x_get (pc' := 4) rfl rfl rfl (hS.1) rfl ?_
  refine x_aload_n (pc' := 5) rfl rfl rfl ?_
  refine x_get (pc' := 8) rfl rfl rfl (hS.1) rfl ?_
  refine x_cV1v (d := 1) (pc' := 11) rfl rfl sX5_79 gX3_copyFrom ((hS.2.1 2 (by decide)).1) ⟨Nat.le_of_ble_eq_true rfl, Nat.le_of_ble_eq_true rfl⟩ (Nat.le_of_ble_eq_true rfl) ⟨Nat.le_of_ble_eq_true rfl, Nat.le_of_ble_eq_true rfl⟩ ?_
  refine w_copyFrom (hS.2.1 2 (by decide)) hT (by decide) (fun f1 hT1 hF1 => ⟨rfl, ?_⟩)
  have hS1 := hS.tab 2 (by decide) hT1 hF1
  refine x_iconst (pc' := 12) rfl rfl iconst_0 ?_
  refine x_istore_n (pc' := 13) (lv' := [(1, _), (0, _)]) rfl rfl (Nat.le_of_ble_eq_true rfl) rfl ?_
  exact c_playL ho f S hA h (a_rc A) 0 (a_g A) _ _ (by omega) ho.1 rfl hS1 (x_cp_is hA.1) (c_fr0 (j := 2) (by decide) hF1)
def s_judge (A : q_A) : q_A × Int32 := ((A.1, A.2.1, A.2.2.1, (0, a_rf A), A.2.2.2.2), if (a_plays A).1 < a_rc A then nI (a_plays A).1 else (-9))
theorem c_judge (hS : x_Sys z f S) (hA : c_is S A) (ho : a_ok A) (h : c_ends z f post (s_judge A)) : Y E 9 mX5_judge [.ref 0] z f 0 0 post := by
  refine Y.intro gX5_judge (lv := [(0, .ref 0)]) rfl (Nat.le_of_ble_eq_true rfl) ?_
  obtain ⟨b1, b2, b3, b4, b5, b6, b7, b8⟩ := id hA
  have hrc := ho.2.2.2.2.2.1
  have hp : (a_plays A).1 ≤ 0 + a_rc A := (q_plays_ok (rf := a_rf A) (by decide : 99 ≤ 99) (by decide) (a_rc A) 0 (a_g A) ho.1).2.2
  unfold s_judge at h
  refine x_aload_n (pc' := 1) rfl rfl rfl ?_
  refine x_cV0i (d := 5) (pc' := 4) rfl rfl sX5_202 gX5_playRow (hS.1) ⟨Nat.le_of_ble_eq_true rfl, Nat.le_of_ble_eq_true rfl⟩ (Nat.le_of_ble_eq_true rfl) ⟨Nat.le_of_ble_eq_true rfl, Nat.le_of_ble_eq_true rfl⟩ ?_
  refine c_playRow hS hA ho (fun f1 T1 hS1 g1 hF1 => ⟨_, rfl, ?_⟩)
  refine x_istore_n (pc' := 5) (lv' := [(1, _), (0, _)]) rfl rfl (Nat.le_of_ble_eq_true rfl) rfl ?_
  refine x_iload_n (pc' := 6) rfl rfl rfl ?_
  refine x_aload_n (pc' := 7) rfl rfl rfl ?_
  refine x_get (pc' := 10) rfl rfl rfl (hS1.1) rfl ?_
  refine x_eqi b6 ?_
  refine x_icmp_ge (tgt := 17) (pc' := 13) rfl rfl rfl (fun c10 => ?_) (fun c10 => ?_)
  · rw [if_neg (fun q => absurd c10 (nI_ge q (by omega)))] at h
    refine x_bipush (pc' := 19) rfl rfl bipush_m9 ?_
    refine x_istore_n (pc' := 20) (lv' := [(2, _), (1, _), (0, _)]) rfl rfl (Nat.le_of_ble_eq_true rfl) rfl ?_
    refine x_aload_n (pc' := 21) rfl rfl rfl ?_
    refine x_iconst (pc' := 22) rfl rfl iconst_0 ?_
    refine x_put (pc' := 25) rfl rfl rfl (hS1.1) (Nat.le_of_ble_eq_true rfl) rfl rfl rfl rfl (fun f1 e1 => ?_)
    have hS2 := hS1.num0 (upd S.1 1 0) (e1.trans (by rw [show (S.1, x_ut S.2.1 2 T1, S.2.2.1, S.2.2.2).1 = S.1 from rfl, x_oFs1])) (fun i hi => pk_un (by omega))
    have hF2 := hF1.up e1 (by decide)
    refine x_iload_n (pc' := 26) rfl rfl rfl ?_
    exact x_ireturn rfl rfl rfl (Nat.le_of_ble_eq_true rfl) (Nat.le_of_ble_eq_true rfl) (h _ _ hS2 ⟨b1, b2, b3, b4, b5, rfl, b7, b8⟩ hF2)
  · rw [if_pos (Nat.not_le.mp (fun q => c10 (nI_le q (by omega))))] at h
    refine x_iload_n (pc' := 14) rfl rfl rfl ?_
    refine x_goto (tgt := 19) rfl rfl ?_
    refine x_istore_n (pc' := 20) (lv' := [(2, _), (1, _), (0, _)]) rfl rfl (Nat.le_of_ble_eq_true rfl) rfl ?_
    refine x_aload_n (pc' := 21) rfl rfl rfl ?_
    refine x_iconst (pc' := 22) rfl rfl iconst_0 ?_
    refine x_put (pc' := 25) rfl rfl rfl (hS1.1) (Nat.le_of_ble_eq_true rfl) rfl rfl rfl rfl (fun f2 e2 => ?_)
    have hS2 := hS1.num0 (upd S.1 1 0) (e2.trans (by rw [show (S.1, x_ut S.2.1 2 T1, S.2.2.1, S.2.2.2).1 = S.1 from rfl, x_oFs1])) (fun i hi => pk_un (by omega))
    have hF2 := hF1.up e2 (by decide)
    refine x_iload_n (pc' := 26) rfl rfl rfl ?_
    exact x_ireturn rfl rfl rfl (Nat.le_of_ble_eq_true rfl) (Nat.le_of_ble_eq_true rfl) (h _ _ hS2 ⟨b1, b2, b3, b4, b5, rfl, b7, b8⟩ hF2)
def s_played (A : q_A) (a : Int32) : q_A × Int32 := if a < 0 ∨ 1 < a then (s_no A 2, -2) else (A, nI (g_π (a_plays A).2 a.toNatClampNeg))
theorem c_played (hS : x_Sys z f S) (hA : c_is S A) (ho : a_ok A) (h : c_ends z f post (s_played A a)) : Y E 9 mX5_played [.ref 0, .int a] z f 0 0 post := by
  refine Y.intro gX5_played (lv := [(0, .ref 0), (1, .int a)]) rfl (Nat.le_of_ble_eq_true rfl) ?_
  refine x_iload_n (pc' := 1) rfl rfl rfl ?_
  refine x_if_lt (tgt := 9) (pc' := 4) rfl rfl rfl (fun c1 => ?_) (fun c1 => ?_)
  · rw [show s_played A a = _ from if_pos (Or.inl c1)] at h
    refine x_aload_n (pc' := 10) rfl rfl rfl ?_
    refine x_bipush (pc' := 12) rfl rfl bipush_m2 ?_
    refine x_cV1i (d := 1) (pc' := 15) rfl rfl sX5_68 gX5_refuse (hS.1) ⟨Nat.le_of_ble_eq_true rfl, Nat.le_of_ble_eq_true rfl⟩ (Nat.le_of_ble_eq_true rfl) ⟨Nat.le_of_ble_eq_true rfl, Nat.le_of_ble_eq_true rfl⟩ ?_
    refine c_refuse (k := 2) (by decide) (by decide) hS hA (fun f1 S1 hS1 hA1 hF1 => ⟨_, rfl, ?_⟩)
    exact x_ireturn rfl rfl rfl (Nat.le_of_ble_eq_true rfl) (Nat.le_of_ble_eq_true rfl) (h _ _ hS1 hA1 hF1)
  · refine x_iload_n (pc' := 5) rfl rfl rfl ?_
    refine x_iconst (pc' := 6) rfl rfl iconst_1 ?_
    refine x_icmp_le (tgt := 16) (pc' := 9) rfl rfl rfl (fun c6 => ?_) (fun c6 => ?_)
    · have d1 : ¬ (a < 0 ∨ 1 < a) := fun q => q.elim c1 (Int32.not_lt.mpr c6)
      rw [show s_played A a = _ from if_neg d1] at h
      refine x_aload_n (pc' := 17) rfl rfl rfl ?_
      refine x_cV0i (d := 5) (pc' := 20) rfl rfl sX5_202 gX5_playRow (hS.1) ⟨Nat.le_of_ble_eq_true rfl, Nat.le_of_ble_eq_true rfl⟩ (Nat.le_of_ble_eq_true rfl) ⟨Nat.le_of_ble_eq_true rfl, Nat.le_of_ble_eq_true rfl⟩ ?_
      refine c_playRow hS hA ho (fun f1 T1 hS1 g1 hF1 => ⟨_, rfl, ?_⟩)
      have hT1 : x_t z f1 9 T1 := hS1.2.1 2 (by decide)
      refine x_pop (pc' := 21) rfl rfl rfl ?_
      refine x_aload_n (pc' := 22) rfl rfl rfl ?_
      refine x_get (pc' := 25) rfl rfl rfl (hS1.1) rfl ?_
      refine x_iload_n (pc' := 26) rfl rfl rfl ?_
      refine x_cV1i (d := 1) (pc' := 29) rfl rfl sX5_205 gX3_purseOf (hT1.1) ⟨Nat.le_of_ble_eq_true rfl, Nat.le_of_ble_eq_true rfl⟩ (Nat.le_of_ble_eq_true rfl) ⟨Nat.le_of_ble_eq_true rfl, Nat.le_of_ble_eq_true rfl⟩ ?_
      refine w_purseOf hT1 (fun q => ⟨_, rfl, ?_⟩) (fun q => absurd ⟨c1, Int32.lt_of_le_of_lt c6 (by decide)⟩ q)
      refine x_eqi (show T1.2.2.1 a.toNatClampNeg = nI (g_π (a_plays A).2 a.toNatClampNeg) from by rw [g1.2.2.1]) ?_
      exact x_ireturn rfl rfl rfl (Nat.le_of_ble_eq_true rfl) (Nat.le_of_ble_eq_true rfl) (h _ _ hS1 (c_tr hA) hF1)
    · rw [show s_played A a = _ from if_pos (Or.inr (Int32.not_le.mp c6))] at h
      refine x_aload_n (pc' := 10) rfl rfl rfl ?_
      refine x_bipush (pc' := 12) rfl rfl bipush_m2 ?_
      refine x_cV1i (d := 1) (pc' := 15) rfl rfl sX5_68 gX5_refuse (hS.1) ⟨Nat.le_of_ble_eq_true rfl, Nat.le_of_ble_eq_true rfl⟩ (Nat.le_of_ble_eq_true rfl) ⟨Nat.le_of_ble_eq_true rfl, Nat.le_of_ble_eq_true rfl⟩ ?_
      refine c_refuse (k := 2) (by decide) (by decide) hS hA (fun f1 S1 hS1 hA1 hF1 => ⟨_, rfl, ?_⟩)
      exact x_ireturn rfl rfl rfl (Nat.le_of_ble_eq_true rfl) (Nat.le_of_ble_eq_true rfl) (h _ _ hS1 hA1 hF1)
theorem c_image (hS : x_Sys z f S) (hA : c_is S A) (h : c_ends z f post (s_image A)) : Y E 9 mX5_image [.ref 0] z f 0 0 post := by
  refine Y.intro gX5_image (lv := [(0, .ref 0)]) rfl (Nat.le_of_ble_eq_true rfl) ?_
  obtain ⟨b1, b2, b3, b4, b5, b6, b7, b8⟩ := id hA
  have hT := hS.2.1 0 (by decide)
  refine x_aload_n (pc' := 1) rfl rfl rfl ?_
  refine x_get (pc' := 4) rfl rfl rfl (hS.1) rfl ?_
  refine x_aload_n (pc' := 5) rfl rfl rfl ?_
  refine x_get (pc' := 8) rfl rfl rfl (hS.1) rfl ?_
  refine x_cV1v (d := 1) (pc' := 11) rfl rfl sX5_79 gX3_copyFrom ((hS.2.1 1 (by decide)).1) ⟨Nat.le_of_ble_eq_true rfl, Nat.le_of_ble_eq_true rfl⟩ (Nat.le_of_ble_eq_true rfl) ⟨Nat.le_of_ble_eq_true rfl, Nat.le_of_ble_eq_true rfl⟩ ?_
  refine w_copyFrom (hS.2.1 1 (by decide)) hT (by decide) (fun f1 hT1 hF1 => ⟨rfl, ?_⟩)
  have hS1 := hS.tab 1 (by decide) hT1 hF1
  refine x_aload_n (pc' := 12) rfl rfl rfl ?_
  refine x_iconst (pc' := 13) rfl rfl iconst_1 ?_
  refine x_put (pc' := 16) rfl rfl rfl (hS1.1) (Nat.le_of_ble_eq_true rfl) rfl rfl rfl rfl (fun f1 e1 => ?_)
  have hS2 := hS1.num0 (upd S.1 0 1) (e1.trans (by rw [show (S.1, x_ut S.2.1 1 (x_cp (S.2.1 1) (S.2.1 0)), S.2.2.1, S.2.2.2).1 = S.1 from rfl, x_oFs0])) (fun i hi => pk_un (by omega))
  have hF2 := (c_fr0 (j := 1) (by decide) hF1).up e1 (by decide)
  refine x_aload_n (pc' := 17) rfl rfl rfl ?_
  refine x_get (pc' := 20) rfl rfl rfl (hS2.1) rfl ?_
  refine x_get (pc' := 23) rfl rfl rfl ((hS2.2.1 0 (by decide)).1) rfl ?_
  refine x_eqi (show (S.2.1 0).2.2.2 4 = nI (a_mv A) from b2) ?_
  exact x_ireturn rfl rfl rfl (Nat.le_of_ble_eq_true rfl) (Nat.le_of_ble_eq_true rfl) (h _ _ hS2 ⟨b1, b2, ⟨rfl, x_cp_is b1, b2⟩, b4, b5, b6, b7, b8⟩ hF2)
theorem c_on (hS : x_Sys z f S) (hA : c_is S A) (h : c_ends z f post (s_on A)) : Y E 9 mX5_on [.ref 0] z f 0 0 post := by
  refine Y.intro gX5_on (lv := [(0, .ref 0)]) rfl (Nat.le_of_ble_eq_true rfl) ?_
  obtain ⟨b1, b2, b3, b4, b5, b6, b7, b8⟩ := id hA
  rcases hp : a_pi A with _ | ⟨g, m⟩
  · rw [show s_on A = (s_no A 3, -3) from by unfold s_on; rw [hp]] at h
    rw [hp] at b3
    refine x_aload_n (pc' := 1) rfl rfl rfl ?_
    refine x_get (pc' := 4) rfl rfl rfl (hS.1) rfl ?_
    refine x_eqi (show S.1 0 = 0 from b3) ?_
    refine x_if_ne (tgt := 14) (pc' := 7) rfl rfl rfl (fun c4 => absurd (rfl) c4) (fun _ => ?_)
    refine x_aload_n (pc' := 8) rfl rfl rfl ?_
    refine x_bipush (pc' := 10) rfl rfl bipush_m3 ?_
    refine x_cV1i (d := 1) (pc' := 13) rfl rfl sX5_68 gX5_refuse (hS.1) ⟨Nat.le_of_ble_eq_true rfl, Nat.le_of_ble_eq_true rfl⟩ (Nat.le_of_ble_eq_true rfl) ⟨Nat.le_of_ble_eq_true rfl, Nat.le_of_ble_eq_true rfl⟩ ?_
    refine c_refuse (k := 3) (by decide) (by decide) hS hA (fun f1 S1 hS1 hA1 hF1 => ⟨_, rfl, ?_⟩)
    exact x_ireturn rfl rfl rfl (Nat.le_of_ble_eq_true rfl) (Nat.le_of_ble_eq_true rfl) (h _ _ hS1 hA1 hF1)
  · rw [show s_on A = (((g, m), A.2), nI m) from by unfold s_on; rw [hp]] at h
    rw [hp] at b3
    obtain ⟨p1, p2, p3⟩ := b3
    refine x_aload_n (pc' := 1) rfl rfl rfl ?_
    refine x_get (pc' := 4) rfl rfl rfl (hS.1) rfl ?_
    refine x_eqi (show S.1 0 = 1 from p1) ?_
    refine x_if_ne (tgt := 14) (pc' := 7) rfl rfl rfl (fun _ => ?_) (fun c4 => absurd c4 ((by decide)))
    refine x_aload_n (pc' := 15) rfl rfl rfl ?_
    refine x_get (pc' := 18) rfl rfl rfl (hS.1) rfl ?_
    refine x_aload_n (pc' := 19) rfl rfl rfl ?_
    refine x_get (pc' := 22) rfl rfl rfl (hS.1) rfl ?_
    refine x_cV1v (d := 1) (pc' := 25) rfl rfl sX5_79 gX3_copyFrom ((hS.2.1 0 (by decide)).1) ⟨Nat.le_of_ble_eq_true rfl, Nat.le_of_ble_eq_true rfl⟩ (Nat.le_of_ble_eq_true rfl) ⟨Nat.le_of_ble_eq_true rfl, Nat.le_of_ble_eq_true rfl⟩ ?_
    refine w_copyFrom (hS.2.1 0 (by decide)) (hS.2.1 1 (by decide)) (by decide) (fun f1 hT1 hF1 => ⟨rfl, ?_⟩)
    have hS1 := hS.tab 0 (by decide) hT1 hF1
    refine x_aload_n (pc' := 26) rfl rfl rfl ?_
    refine x_get (pc' := 29) rfl rfl rfl (hS1.1) rfl ?_
    refine x_get (pc' := 32) rfl rfl rfl (hT1.1) rfl ?_
    refine x_eqi (show (S.2.1 1).2.2.2 4 = nI m from p3) ?_
    exact x_ireturn rfl rfl rfl (Nat.le_of_ble_eq_true rfl) (Nat.le_of_ble_eq_true rfl) (h _ _ hS1 ⟨x_cp_is p2, p3, (by show c_pic (S.1 0) (S.2.1 1) (a_pi A); rw [hp]; exact ⟨p1, p2, p3⟩), b4, b5, b6, b7, b8⟩ (c_fr0 (j := 0) (by decide) hF1))
theorem c_count (hS : x_Sys z f S) (hA : c_is S A) (ho : a_ok A) (h : c_ends z f post (s_count A a)) : Y E 9 mX5_count [.ref 0, .int a] z f 0 0 post := by
  refine Y.intro gX5_count (lv := [(0, .ref 0), (1, .int a)]) rfl (Nat.le_of_ble_eq_true rfl) ?_
  obtain ⟨b1, b2, b3, b4, b5, b6, b7, b8⟩ := id hA
  obtain ⟨t1, t2, t3, t4, t5, t6, t7⟩ := id b1
  have hT := hS.2.1 0 (by decide)
  unfold s_count at h
  by_cases e0 : a = 0
  · rw [if_pos e0] at h
    subst e0
    refine x_iload_n (pc' := 1) rfl rfl rfl ?_
    refine x_tableIn (tgt := 56) rfl (by decide) (by decide) rfl rfl ?_
    refine x_aload_n (pc' := 57) rfl rfl rfl ?_
    refine x_get (pc' := 60) rfl rfl rfl (hS.1) rfl ?_
    refine x_get (pc' := 63) rfl rfl rfl (hT.1) rfl ?_
    refine x_eqi t4 ?_
    exact x_ireturn rfl rfl rfl (Nat.le_of_ble_eq_true rfl) (Nat.le_of_ble_eq_true rfl) (h _ _ hS hA x_fr.rf)
  rw [if_neg e0] at h
  by_cases e1 : a = 1
  · rw [if_pos e1] at h
    subst e1
    refine x_iload_n (pc' := 1) rfl rfl rfl ?_
    refine x_tableIn (tgt := 64) rfl (by decide) (by decide) rfl rfl ?_
    refine x_aload_n (pc' := 65) rfl rfl rfl ?_
    refine x_get (pc' := 68) rfl rfl rfl (hS.1) rfl ?_
    refine x_cV0i (d := 3) (pc' := 71) rfl rfl sX5_143 gX3_allBeans (hT.1) ⟨Nat.le_of_ble_eq_true rfl, Nat.le_of_ble_eq_true rfl⟩ (Nat.le_of_ble_eq_true rfl) ⟨Nat.le_of_ble_eq_true rfl, Nat.le_of_ble_eq_true rfl⟩ ?_
    refine w_allBeans hT t4 ho.1.1 ⟨_, rfl, ?_⟩
    refine x_eqi (show x_sum (S.2.1 0).2.1 (g_n (a_g A)) = nI (q_sum (g_β (a_g A)) (g_n (a_g A))) from by rw [t2, q_sum_I]) ?_
    exact x_ireturn rfl rfl rfl (Nat.le_of_ble_eq_true rfl) (Nat.le_of_ble_eq_true rfl) (h _ _ hS hA x_fr.rf)
  rw [if_neg e1] at h
  by_cases e2 : a = 2
  · rw [if_pos e2] at h
    subst e2
    refine x_iload_n (pc' := 1) rfl rfl rfl ?_
    refine x_tableIn (tgt := 72) rfl (by decide) (by decide) rfl rfl ?_
    refine x_aload_n (pc' := 73) rfl rfl rfl ?_
    refine x_get (pc' := 76) rfl rfl rfl (hS.1) rfl ?_
    refine x_iconst (pc' := 77) rfl rfl iconst_0 ?_
    refine x_cV1i (d := 1) (pc' := 80) rfl rfl sX5_205 gX3_purseOf (hT.1) ⟨Nat.le_of_ble_eq_true rfl, Nat.le_of_ble_eq_true rfl⟩ (Nat.le_of_ble_eq_true rfl) ⟨Nat.le_of_ble_eq_true rfl, Nat.le_of_ble_eq_true rfl⟩ ?_
    refine w_purseOf hT (fun q => ⟨_, rfl, ?_⟩) (fun q => absurd (by decide) q)
    refine x_eqi (show (S.2.1 0).2.2.1 (Int32.toNatClampNeg 0) = nI (g_π (a_g A) 0) from by rw [t3]; rfl) ?_
    exact x_ireturn rfl rfl rfl (Nat.le_of_ble_eq_true rfl) (Nat.le_of_ble_eq_true rfl) (h _ _ hS hA x_fr.rf)
  rw [if_neg e2] at h
  by_cases e3 : a = 3
  · rw [if_pos e3] at h
    subst e3
    refine x_iload_n (pc' := 1) rfl rfl rfl ?_
    refine x_tableIn (tgt := 81) rfl (by decide) (by decide) rfl rfl ?_
    refine x_aload_n (pc' := 82) rfl rfl rfl ?_
    refine x_get (pc' := 85) rfl rfl rfl (hS.1) rfl ?_
    refine x_iconst (pc' := 86) rfl rfl iconst_1 ?_
    refine x_cV1i (d := 1) (pc' := 89) rfl rfl sX5_205 gX3_purseOf (hT.1) ⟨Nat.le_of_ble_eq_true rfl, Nat.le_of_ble_eq_true rfl⟩ (Nat.le_of_ble_eq_true rfl) ⟨Nat.le_of_ble_eq_true rfl, Nat.le_of_ble_eq_true rfl⟩ ?_
    refine w_purseOf hT (fun q => ⟨_, rfl, ?_⟩) (fun q => absurd (by decide) q)
    refine x_eqi (show (S.2.1 0).2.2.1 (Int32.toNatClampNeg 1) = nI (g_π (a_g A) 1) from by rw [t3]; rfl) ?_
    exact x_ireturn rfl rfl rfl (Nat.le_of_ble_eq_true rfl) (Nat.le_of_ble_eq_true rfl) (h _ _ hS hA x_fr.rf)
  rw [if_neg e3] at h
  by_cases e4 : a = 4
  · rw [if_pos e4] at h
    subst e4
    refine x_iload_n (pc' := 1) rfl rfl rfl ?_
    refine x_tableIn (tgt := 90) rfl (by decide) (by decide) rfl rfl ?_
    refine x_aload_n (pc' := 91) rfl rfl rfl ?_
    refine x_get (pc' := 94) rfl rfl rfl (hS.1) rfl ?_
    refine x_get (pc' := 97) rfl rfl rfl (hT.1) rfl ?_
    refine x_eqi t7 ?_
    exact x_ireturn rfl rfl rfl (Nat.le_of_ble_eq_true rfl) (Nat.le_of_ble_eq_true rfl) (h _ _ hS hA x_fr.rf)
  rw [if_neg e4] at h
  by_cases e5 : a = 5
  · rw [if_pos e5] at h
    subst e5
    refine x_iload_n (pc' := 1) rfl rfl rfl ?_
    refine x_tableIn (tgt := 98) rfl (by decide) (by decide) rfl rfl ?_
    refine x_aload_n (pc' := 99) rfl rfl rfl ?_
    refine x_get (pc' := 102) rfl rfl rfl (hS.1) rfl ?_
    refine x_get (pc' := 105) rfl rfl rfl (hT.1) rfl ?_
    refine x_eqi b2 ?_
    exact x_ireturn rfl rfl rfl (Nat.le_of_ble_eq_true rfl) (Nat.le_of_ble_eq_true rfl) (h _ _ hS hA x_fr.rf)
  rw [if_neg e5] at h
  by_cases e6 : a = 6
  · rw [if_pos e6] at h
    subst e6
    refine x_iload_n (pc' := 1) rfl rfl rfl ?_
    refine x_tableIn (tgt := 106) rfl (by decide) (by decide) rfl rfl ?_
    refine x_aload_n (pc' := 107) rfl rfl rfl ?_
    refine x_get (pc' := 110) rfl rfl rfl (hS.1) rfl ?_
    refine x_get (pc' := 113) rfl rfl rfl (hT.1) rfl ?_
    refine x_eqi t5 ?_
    exact x_ireturn rfl rfl rfl (Nat.le_of_ble_eq_true rfl) (Nat.le_of_ble_eq_true rfl) (h _ _ hS hA x_fr.rf)
  rw [if_neg e6] at h
  by_cases e7 : a = 7
  · rw [if_pos e7] at h
    subst e7
    refine x_iload_n (pc' := 1) rfl rfl rfl ?_
    refine x_tableIn (tgt := 114) rfl (by decide) (by decide) rfl rfl ?_
    refine x_aload_n (pc' := 115) rfl rfl rfl ?_
    refine x_get (pc' := 118) rfl rfl rfl (hS.1) rfl ?_
    refine x_get (pc' := 121) rfl rfl rfl (hT.1) rfl ?_
    refine x_eqi t6 ?_
    exact x_ireturn rfl rfl rfl (Nat.le_of_ble_eq_true rfl) (Nat.le_of_ble_eq_true rfl) (h _ _ hS hA x_fr.rf)
  rw [if_neg e7] at h
  by_cases e8 : a = 8
  · rw [if_pos e8] at h
    subst e8
    refine x_iload_n (pc' := 1) rfl rfl rfl ?_
    refine x_tableIn (tgt := 122) rfl (by decide) (by decide) rfl rfl ?_
    refine x_aload_n (pc' := 123) rfl rfl rfl ?_
    refine x_get (pc' := 126) rfl rfl rfl (hS.1) rfl ?_
    refine x_eqi b6 ?_
    exact x_ireturn rfl rfl rfl (Nat.le_of_ble_eq_true rfl) (Nat.le_of_ble_eq_true rfl) (h _ _ hS hA x_fr.rf)
  rw [if_neg e8] at h
  by_cases e9 : a = 9
  · rw [if_pos e9] at h
    subst e9
    refine x_iload_n (pc' := 1) rfl rfl rfl ?_
    refine x_tableIn (tgt := 127) rfl (by decide) (by decide) rfl rfl ?_
    refine x_aload_n (pc' := 128) rfl rfl rfl ?_
    refine x_get (pc' := 131) rfl rfl rfl (hS.1) rfl ?_
    refine x_get (pc' := 134) rfl rfl rfl (hS.lt) rfl ?_
    refine x_eqi b4 ?_
    exact x_ireturn rfl rfl rfl (Nat.le_of_ble_eq_true rfl) (Nat.le_of_ble_eq_true rfl) (h _ _ hS hA x_fr.rf)
  rw [if_neg e9] at h
  have hout : a.toInt < 0 ∨ (9 : Int) < a.toInt := x_tab_out (fun q h1 h2 => by
    have h3 : q = 0 ∨ q = 1 ∨ q = 2 ∨ q = 3 ∨ q = 4 ∨ q = 5 ∨ q = 6 ∨ q = 7 ∨ q = 8 ∨ q = 9 := by omega
    rcases h3 with rfl | rfl | rfl | rfl | rfl | rfl | rfl | rfl | rfl | rfl <;> assumption)
  refine x_iload_n (pc' := 1) rfl rfl rfl ?_
  refine x_tableOut (tgt := 135) rfl (hout) rfl ?_
  refine x_iload_n (pc' := 136) rfl rfl rfl ?_
  refine x_bipush (pc' := 138) rfl rfl bipush_11 ?_
  refine x_icmp_lt (tgt := 159) (pc' := 141) rfl rfl rfl (fun c138 => ?_) (fun c138 => ?_)
  · rw [if_neg (fun q => q.1 c138)] at h
    refine x_bipush (pc' := 161) rfl rfl bipush_m9 ?_
    exact x_ireturn rfl rfl rfl (Nat.le_of_ble_eq_true rfl) (Nat.le_of_ble_eq_true rfl) (h _ _ hS hA x_fr.rf)
  · refine x_iload_n (pc' := 142) rfl rfl rfl ?_
    refine x_bipush (pc' := 144) rfl rfl bipush_16 ?_
    refine x_icmp_gt (tgt := 159) (pc' := 147) rfl rfl rfl (fun c144 => ?_) (fun c144 => ?_)
    · rw [if_neg (fun q => q.2 c144)] at h
      refine x_bipush (pc' := 161) rfl rfl bipush_m9 ?_
      exact x_ireturn rfl rfl rfl (Nat.le_of_ble_eq_true rfl) (Nat.le_of_ble_eq_true rfl) (h _ _ hS hA x_fr.rf)
    · have d1 : ¬ a < 11 ∧ ¬ 16 < a := ⟨c138, c144⟩
      rw [if_pos d1] at h
      obtain ⟨ka, hka, rfl⟩ := nI_of2 (n := 16) (M := 16) rfl (fun q => c138 (Int32.lt_trans q (by decide))) (Int32.not_lt.mp c144)
      have hk11 : 11 ≤ ka := Nat.not_lt.mp (fun q => c138 (nI_lt (a := ka) (b := 11) q (by decide)))
      refine x_aload_n (pc' := 148) rfl rfl rfl ?_
      refine x_get (pc' := 151) rfl rfl rfl (hS.1) rfl ?_
      refine x_iload_n (pc' := 152) rfl rfl rfl ?_
      refine x_bipush (pc' := 154) rfl rfl bipush_10 ?_
      refine x_isub (pc' := 155) rfl rfl ?_
      refine x_eqi (show nI ka - 10 = nI (ka - 10) from pk_sub (a := ka) (b := 10) (by omega)) ?_
      refine x_iaload (pc' := 156) rfl rfl (hS.2.2.1 6 (by decide)) (vp_in_nI (N := 7) (by omega) (by decide)) ?_
      refine x_eqi (show S.2.2.1 6 (nI (ka - 10)).toNatClampNeg = a_no A ((nI ka).toNatClampNeg - 10) from by rw [nI_clamp (by omega), nI_clamp (by omega), b8]) ?_
      refine x_goto (tgt := 161) rfl rfl ?_
      exact x_ireturn rfl rfl rfl (Nat.le_of_ble_eq_true rfl) (Nat.le_of_ble_eq_true rfl) (h _ _ hS hA x_fr.rf)
end CC
